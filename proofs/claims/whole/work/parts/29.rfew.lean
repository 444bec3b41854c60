/-! the fewest payments, by the reference -/
def rBit (s c : Nat) : Bool := decide ((nI s >>> (nI c &&& 31)) &&& nI 1 = nI 1)
def rF0 (S : Mem) : Nat → Mem
  | 0 => S
  | k + 1 => setI (setJ (rF0 S k) 42 k 0) 43 k (nI 0)
def rFa (T : Mem) (c : Nat) (v : Int64) : Nat → Mem
  | 0 => T
  | k + 1 => if rBit k c then setJ (rFa T c v k) 42 k ((rFa T c v k).2 42 k + v) else rFa T c v k
def rFb (S : Mem) (A N : Nat) : Nat → Mem × Int32
  | 0 => (rF0 S A, nI 0)
  | c + 1 => (rFa (rFb S A N c).1 c (sumL (gPos S (nI c)) N) A, if sumL (gPos S (nI c)) N = 0 then (rFb S A N c).2 else (rFb S A N c).2 ||| nI (2 ^ c))
def rFi (T : Mem) (s : Nat) : Nat → Int32
  | 0 => nI 0
  | j + 1 => if rBit s j then (if T.1 43 (s - 2 ^ j) ≤ rFi T s j then rFi T s j else T.1 43 (s - 2 ^ j)) else rFi T s j
def rFo (T : Mem) (w : Int32) (n : Nat) : Nat → Mem
  | 0 => T
  | k + 1 => if nI (k + 1) &&& (w ^^^ (-1)) = 0 then setI (rFo T w n k) 43 (k + 1) (rFi (rFo T w n k) (k + 1) n + (if (rFo T w n k).2 42 (k + 1) = 0 then nI 1 else nI 0)) else rFo T w n k
def rFm (w : Int32) (c : Nat) : Int32 := (w >>> (nI c &&& 31)) &&& nI 1
theorem rF0_1 (S : Mem) {z : Nat} (h : z ≠ 43) : ∀ k, (rF0 S k).1 z = S.1 z
  | 0 => rfl
  | k + 1 => by rw [rF0, sI_1 h, sJ_1]; exact rF0_1 S h k
theorem rF0_2 (S : Mem) {z : Nat} (h : z ≠ 42) : ∀ k, (rF0 S k).2 z = S.2 z
  | 0 => rfl
  | k + 1 => by rw [rF0, sI_2, sJ_2 h]; exact rF0_2 S h k
theorem rFa_1 (T : Mem) (c : Nat) (v : Int64) : ∀ k, (rFa T c v k).1 = T.1
  | 0 => rfl
  | k + 1 => by
    rw [rFa]
    split
    · rw [sJ_1]; exact rFa_1 T c v k
    · exact rFa_1 T c v k
theorem rFa_2 (T : Mem) (c : Nat) (v : Int64) {z : Nat} (h : z ≠ 42) : ∀ k, (rFa T c v k).2 z = T.2 z
  | 0 => rfl
  | k + 1 => by
    rw [rFa]
    split
    · rw [sJ_2 h]; exact rFa_2 T c v h k
    · exact rFa_2 T c v h k
theorem rFb_1 (S : Mem) (A N : Nat) {z : Nat} (h : z ≠ 43) : ∀ c, (rFb S A N c).1.1 z = S.1 z
  | 0 => rF0_1 S h A
  | c + 1 => by rw [rFb, rFa_1]; exact rFb_1 S A N h c
theorem rFb_2 (S : Mem) (A N : Nat) {z : Nat} (h : z ≠ 42) : ∀ c, (rFb S A N c).1.2 z = S.2 z
  | 0 => rF0_2 S h A
  | c + 1 => by rw [rFb, rFa_2 _ _ _ h]; exact rFb_2 S A N h c
theorem rFo_1 (T : Mem) (w : Int32) (n : Nat) {z : Nat} (h : z ≠ 43) : ∀ k, (rFo T w n k).1 z = T.1 z
  | 0 => rfl
  | k + 1 => by
    rw [rFo]
    split
    · rw [sI_1 h]; exact rFo_1 T w n h k
    · exact rFo_1 T w n h k
theorem gPos_f {S T : Mem} (e1 : T.1 34 = S.1 34) (e2 : T.1 33 = S.1 33) (e3 : T.2 35 = S.2 35) : gPos T = gPos S := by
  funext x j
  unfold gPos rIs rVal rRate
  rw [e1, e2, e3]

set_option maxRecDepth 100000 in
set_option maxHeartbeats 1000000 in
theorem ct_X11_fewestPayments (l : Launch) (D : va_G) (cA : Nat → ClassId) (α : Nat → Nat) (n sz : Nat) (hn : 191 ≤ n) (S : Mem) (Cn : Nat) (hC : S.1 33 1 = nI Cn) (hC2 : Cn ≤ 6) (N : Nat) (hN : S.1 34 0 = nI N) (hN2 : N ≤ 100) (ho : ∀ j, j < N → okR S j) : CtI l yX11_fewestPayments wsX11_fewestPayments ({ frames := 4, cells := 0, slots := 0, locals := 88 }) D cA α n sz [.ref (α 30)] S (sumI (rFm (rFb (setI S 30 0 (nI 0)) (2 ^ Cn) N Cn).2) Cn - (rFo (rFb (setI S 30 0 (nI 0)) (2 ^ Cn) N Cn).1 (rFb (setI S 30 0 (nI 0)) (2 ^ Cn) N Cn).2 Cn (2 ^ Cn - 1)).1 43 (gN (rFb (setI S 30 0 (nI 0)) (2 ^ Cn) N Cn).2)) (rFo (rFb (setI S 30 0 (nI 0)) (2 ^ Cn) N Cn).1 (rFb (setI S 30 0 (nI 0)) (2 ^ Cn) N Cn).2 Cn (2 ^ Cn - 1)) := by
  refine ct_enter cX11_fewestPayments 7 (some .int) (by decide) rfl (Nat.le_of_ble_eq_true rfl) ?_
  intro p e s m below meth c hx hb hr hml hlocks hown hts hK hsz hw ls hl
  have hown : s.vm.findClass RX11 = some m.cls := hown
  have hAw : ∀ z, Aw α n s.heap.size z → Aw α n sz z := by rw [hsz]; exact fun _ h => h
  have hl : lv_has ls 7 [(0, .ref (α 30))] := hl
  have hp6 := bt_p6 Cn (by omega)
  have hp1 := bt_p1 Cn (by omega)
  have hC0 : (setI S 30 0 (nI 0)).1 33 1 = nI Cn := hC
  refine lv_aload_n hx hb dX11_fewestPayments_0 rfl (lv_at hl 0 rfl) ?_
  refine lv_iconst (v := nI 0) hx hb dX11_fewestPayments_1 (by decide) ?_
  refine x_putI (x := nI 0) (ty := .int) (C := RX11) (T := TX11) (N := 24) hx hb hts (fun _ h => List.mem_cons_of_mem _ (List.mem_append_right _ h)) tyX11 tyX11_ok nmX11 hown hK hw 30 (Nat.lt_of_lt_of_le (Nat.le_of_ble_eq_true rfl : 30 < 191) hn) (mk_30 cA α) rfl 0 (by decide) (hts _ (List.mem_of_getElem? (i := 1) rfl)) (fun _ h9 => h9) rfl rfl rfl rfl (Nat.le_of_ble_eq_true rfl) rfl dX11_fewestPayments_2 (fun S1 eS1 H locs hw => ?_)
  refine lv_iconst (v := nI 1) hx hb dX11_fewestPayments_5 (by decide) ?_
  refine lv_aload_n hx hb dX11_fewestPayments_6 rfl (lv_at hl 0 rfl) ?_
  refine x_get (v := .ref (α 33)) (C := RX11) (T := TX11) (N := 24) hx hb hts (fun _ h => List.mem_cons_of_mem _ (List.mem_append_right _ h)) hown hK hw 30 (Nat.lt_of_lt_of_le (Nat.le_of_ble_eq_true rfl : 30 < 191) hn) (mk_30 cA α) rfl 11 (by decide) (hts _ (List.mem_of_getElem? (i := 2) rfl)) (fun _ h9 => h9) rfl dX11_fewestPayments_7 ?_
  refine lv_iconst (v := nI 1) hx hb dX11_fewestPayments_10 (by decide) ?_
  refine x_iald hx hb hK hw 33 40 (Nat.lt_of_lt_of_le (Nat.le_of_ble_eq_true rfl : 33 < 191) hn) (mk_33 cA α) 1 rfl (by decide) (by decide) dX11_fewestPayments_11 ?_
  refine x_topN (k := Cn) (by subst eS1; exact hC) ?_
  refine lv_ishl hx hb dX11_fewestPayments_12 ?_
  refine x_topN (k := 2 ^ Cn) (bt_pow Cn (by omega)) ?_
  refine lv_iconst (v := nI 1) hx hb dX11_fewestPayments_13 (by decide) ?_
  refine xn_isub hx hb hp1 dX11_fewestPayments_14 ?_
  refine lv_istore_n (lv' := [(1, .int (nI ((2 ^ Cn) - 1))), (0, .ref (α 30))]) hx hb dX11_fewestPayments_15 rfl hl (by decide) rfl (fun ls hl => ?_)
  refine lv_iconst (v := nI 0) hx hb dX11_fewestPayments_16 (by decide) ?_
  refine lv_istore_n (lv' := [(2, .int (nI 0)), (1, .int (nI ((2 ^ Cn) - 1))), (0, .ref (α 30))]) hx hb dX11_fewestPayments_17 rfl hl (by decide) rfl (fun ls hl => ?_)
  refine lv_iconst (v := nI 0) hx hb dX11_fewestPayments_18 (by decide) ?_
  refine lv_istore_n (lv' := [(3, .int (nI 0)), (2, .int (nI 0)), (1, .int (nI ((2 ^ Cn) - 1))), (0, .ref (α 30))]) hx hb dX11_fewestPayments_19 rfl hl (by decide) rfl (fun ls hl => ?_)
  have lp20 : ∀ (t : Nat) (k : Nat) (T : Mem) (H : Heap) (locs : List Loc) (ls : Array Slot), 2 ^ Cn - k < t → k ≤ 2 ^ Cn → T = rF0 (setI S 30 0 (nI 0)) k → Ws D cA α n (Aw α n sz) s.heap T H locs → lv_has ls 7 [(0, .ref (α 30)), (1, .int (nI ((2 ^ Cn) - 1))), (2, .int (nI 0)), (3, .int (nI k))] → W p l e ({ frames := 4, cells := 0, slots := 0, locals := 88 } : Room) s m (List.toArray ([.ref (α 30)] : List Value)) below meth c H locs 0 0 (MQ below (va_Qi (fun r u => r = (sumI (rFm (rFb (setI S 30 0 (nI 0)) (2 ^ Cn) N Cn).2) Cn - (rFo (rFb (setI S 30 0 (nI 0)) (2 ^ Cn) N Cn).1 (rFb (setI S 30 0 (nI 0)) (2 ^ Cn) N Cn).2 Cn (2 ^ Cn - 1)).1 43 (gN (rFb (setI S 30 0 (nI 0)) (2 ^ Cn) N Cn).2)) ∧ u = (rFo (rFb (setI S 30 0 (nI 0)) (2 ^ Cn) N Cn).1 (rFb (setI S 30 0 (nI 0)) (2 ^ Cn) N Cn).2 Cn (2 ^ Cn - 1))) (Pw D cA α n) (Aw α n sz)) (List.toArray ([.ref (α 30)] : List Value)) s 0 0 (Aw α n sz)) (F0 m 20 ls []) := by
    intro t
    induction t with
    | zero => intro k T H locs ls ht; exact absurd ht (Nat.not_lt_zero _)
    | succ t ih20 =>
      intro k T H locs ls ht hk hT hw hl
      refine lv_iload_n hx hb dX11_fewestPayments_20 rfl (lv_at hl 3 rfl) ?_
      refine lv_iload_n hx hb dX11_fewestPayments_21 rfl (lv_at hl 1 rfl) ?_
      refine xn_icmp_gt (tgt := 45) hx hb (by omega) (by omega) dX11_fewestPayments_22 (by decide) (fun c1 => ?_) (fun c1 => ?_)
      · skip
        refine lv_iconst (v := nI 0) hx hb dX11_fewestPayments_45 (by decide) ?_
        refine lv_istore_n (lv' := [(3, .int (nI 0)), (0, .ref (α 30)), (1, .int (nI ((2 ^ Cn) - 1))), (2, .int (nI 0))]) hx hb dX11_fewestPayments_46 rfl hl (by decide) rfl (fun ls hl => ?_)
        have lp47 : ∀ (t : Nat) (c9 : Nat) (w : Int32) (T : Mem) (H : Heap) (locs : List Loc) (ls : Array Slot), Cn - c9 < t → c9 ≤ Cn → T = (rFb (setI S 30 0 (nI 0)) (2 ^ Cn) N c9).1 → w = (rFb (setI S 30 0 (nI 0)) (2 ^ Cn) N c9).2 → okI w 64 → Ws D cA α n (Aw α n sz) s.heap T H locs → lv_has ls 7 [(0, .ref (α 30)), (1, .int (nI ((2 ^ Cn) - 1))), (3, .int (nI c9)), (2, .int w)] → W p l e ({ frames := 4, cells := 0, slots := 0, locals := 88 } : Room) s m (List.toArray ([.ref (α 30)] : List Value)) below meth c H locs 0 0 (MQ below (va_Qi (fun r u => r = (sumI (rFm (rFb (setI S 30 0 (nI 0)) (2 ^ Cn) N Cn).2) Cn - (rFo (rFb (setI S 30 0 (nI 0)) (2 ^ Cn) N Cn).1 (rFb (setI S 30 0 (nI 0)) (2 ^ Cn) N Cn).2 Cn (2 ^ Cn - 1)).1 43 (gN (rFb (setI S 30 0 (nI 0)) (2 ^ Cn) N Cn).2)) ∧ u = (rFo (rFb (setI S 30 0 (nI 0)) (2 ^ Cn) N Cn).1 (rFb (setI S 30 0 (nI 0)) (2 ^ Cn) N Cn).2 Cn (2 ^ Cn - 1))) (Pw D cA α n) (Aw α n sz)) (List.toArray ([.ref (α 30)] : List Value)) s 0 0 (Aw α n sz)) (F0 m 47 ls []) := by
          intro t
          induction t with
          | zero => intro c9 w T H locs ls ht; exact absurd ht (Nat.not_lt_zero _)
          | succ t ih47 =>
            intro c9 w T H locs ls ht hc hT hw9 okw hw hl
            refine lv_iload_n hx hb dX11_fewestPayments_47 rfl (lv_at hl 2 rfl) ?_
            refine lv_aload_n hx hb dX11_fewestPayments_48 rfl (lv_at hl 0 rfl) ?_
            refine x_get (v := .ref (α 33)) (C := RX11) (T := TX11) (N := 24) hx hb hts (fun _ h => List.mem_cons_of_mem _ (List.mem_append_right _ h)) hown hK hw 30 (Nat.lt_of_lt_of_le (Nat.le_of_ble_eq_true rfl : 30 < 191) hn) (mk_30 cA α) rfl 11 (by decide) (hts _ (List.mem_of_getElem? (i := 2) rfl)) (fun _ h9 => h9) rfl dX11_fewestPayments_49 ?_
            refine lv_iconst (v := nI 1) hx hb dX11_fewestPayments_52 (by decide) ?_
            refine x_iald hx hb hK hw 33 40 (Nat.lt_of_lt_of_le (Nat.le_of_ble_eq_true rfl : 33 < 191) hn) (mk_33 cA α) 1 rfl (by decide) (by decide) dX11_fewestPayments_53 ?_
            refine x_topN (k := Cn) (by rw [hT, rFb_1 _ _ _ (by decide)]; exact hC0) ?_
            refine xn_icmp_ge (tgt := 120) hx hb (by omega) (by omega) dX11_fewestPayments_54 (by decide) (fun c2 => ?_) (fun c2 => ?_)
            · skip
              refine lv_iconst (v := nI 0) hx hb dX11_fewestPayments_120 (by decide) ?_
              refine lv_istore_n (lv' := [(3, .int (nI 0)), (0, .ref (α 30)), (1, .int (nI ((2 ^ Cn) - 1))), (2, .int w)]) hx hb dX11_fewestPayments_121 rfl hl (by decide) rfl (fun ls hl => ?_)
              refine lv_iconst (v := nI 0) hx hb dX11_fewestPayments_122 (by decide) ?_
              refine lv_istore (lv' := [(4, .int (nI 0)), (3, .int (nI 0)), (0, .ref (α 30)), (1, .int (nI ((2 ^ Cn) - 1))), (2, .int w)]) hx hb dX11_fewestPayments_123 hl (by decide) rfl (fun ls hl => ?_)
              have lp125 : ∀ (t : Nat) (d9 : Nat) (acc : Int32) (H : Heap) (locs : List Loc) (ls : Array Slot), Cn - d9 < t → d9 ≤ Cn → acc = sumI (rFm w) d9 → Ws D cA α n (Aw α n sz) s.heap T H locs → lv_has ls 7 [(0, .ref (α 30)), (1, .int (nI ((2 ^ Cn) - 1))), (2, .int w), (4, .int (nI d9)), (3, .int acc)] → W p l e ({ frames := 4, cells := 0, slots := 0, locals := 88 } : Room) s m (List.toArray ([.ref (α 30)] : List Value)) below meth c H locs 0 0 (MQ below (va_Qi (fun r u => r = (sumI (rFm (rFb (setI S 30 0 (nI 0)) (2 ^ Cn) N Cn).2) Cn - (rFo (rFb (setI S 30 0 (nI 0)) (2 ^ Cn) N Cn).1 (rFb (setI S 30 0 (nI 0)) (2 ^ Cn) N Cn).2 Cn (2 ^ Cn - 1)).1 43 (gN (rFb (setI S 30 0 (nI 0)) (2 ^ Cn) N Cn).2)) ∧ u = (rFo (rFb (setI S 30 0 (nI 0)) (2 ^ Cn) N Cn).1 (rFb (setI S 30 0 (nI 0)) (2 ^ Cn) N Cn).2 Cn (2 ^ Cn - 1))) (Pw D cA α n) (Aw α n sz)) (List.toArray ([.ref (α 30)] : List Value)) s 0 0 (Aw α n sz)) (F0 m 125 ls []) := by
                intro t
                induction t with
                | zero => intro d9 acc H locs ls ht; exact absurd ht (Nat.not_lt_zero _)
                | succ t ih125 =>
                  intro d9 acc H locs ls ht hd hk hw hl
                  refine lv_iload hx hb dX11_fewestPayments_125 (lv_at hl 3 rfl) ?_
                  refine lv_aload_n hx hb dX11_fewestPayments_127 rfl (lv_at hl 0 rfl) ?_
                  refine x_get (v := .ref (α 33)) (C := RX11) (T := TX11) (N := 24) hx hb hts (fun _ h => List.mem_cons_of_mem _ (List.mem_append_right _ h)) hown hK hw 30 (Nat.lt_of_lt_of_le (Nat.le_of_ble_eq_true rfl : 30 < 191) hn) (mk_30 cA α) rfl 11 (by decide) (hts _ (List.mem_of_getElem? (i := 2) rfl)) (fun _ h9 => h9) rfl dX11_fewestPayments_128 ?_
                  refine lv_iconst (v := nI 1) hx hb dX11_fewestPayments_131 (by decide) ?_
                  refine x_iald hx hb hK hw 33 40 (Nat.lt_of_lt_of_le (Nat.le_of_ble_eq_true rfl : 33 < 191) hn) (mk_33 cA α) 1 rfl (by decide) (by decide) dX11_fewestPayments_132 ?_
                  refine x_topN (k := Cn) (by rw [hT, rFb_1 _ _ _ (by decide)]; exact hC0) ?_
                  refine xn_icmp_ge (tgt := 151) hx hb (by omega) (by omega) dX11_fewestPayments_133 (by decide) (fun c3 => ?_) (fun c3 => ?_)
                  · skip
                    refine lv_iconst (v := nI 1) hx hb dX11_fewestPayments_151 (by decide) ?_
                    refine lv_istore (lv' := [(4, .int (nI 1)), (0, .ref (α 30)), (1, .int (nI ((2 ^ Cn) - 1))), (2, .int w), (3, .int acc)]) hx hb dX11_fewestPayments_152 hl (by decide) rfl (fun ls hl => ?_)
                    have lp154 : ∀ (t : Nat) (s9 : Nat) (T3 : Mem) (H : Heap) (locs : List Loc) (ls : Array Slot), 2 ^ Cn - s9 < t → 1 ≤ s9 → s9 ≤ 2 ^ Cn → T3 = rFo T w Cn (s9 - 1) → Ws D cA α n (Aw α n sz) s.heap T3 H locs → lv_has ls 7 [(0, .ref (α 30)), (1, .int (nI ((2 ^ Cn) - 1))), (2, .int w), (3, .int acc), (4, .int (nI s9))] → W p l e ({ frames := 4, cells := 0, slots := 0, locals := 88 } : Room) s m (List.toArray ([.ref (α 30)] : List Value)) below meth c H locs 0 0 (MQ below (va_Qi (fun r u => r = (sumI (rFm (rFb (setI S 30 0 (nI 0)) (2 ^ Cn) N Cn).2) Cn - (rFo (rFb (setI S 30 0 (nI 0)) (2 ^ Cn) N Cn).1 (rFb (setI S 30 0 (nI 0)) (2 ^ Cn) N Cn).2 Cn (2 ^ Cn - 1)).1 43 (gN (rFb (setI S 30 0 (nI 0)) (2 ^ Cn) N Cn).2)) ∧ u = (rFo (rFb (setI S 30 0 (nI 0)) (2 ^ Cn) N Cn).1 (rFb (setI S 30 0 (nI 0)) (2 ^ Cn) N Cn).2 Cn (2 ^ Cn - 1))) (Pw D cA α n) (Aw α n sz)) (List.toArray ([.ref (α 30)] : List Value)) s 0 0 (Aw α n sz)) (F0 m 154 ls []) := by
                      intro t
                      induction t with
                      | zero => intro s9 T3 H locs ls ht; exact absurd ht (Nat.not_lt_zero _)
                      | succ t ih154 =>
                        intro s9 T3 H locs ls ht hs1 hs2 hT3 hw hl
                        refine lv_iload hx hb dX11_fewestPayments_154 (lv_at hl 4 rfl) ?_
                        refine lv_iload_n hx hb dX11_fewestPayments_156 rfl (lv_at hl 1 rfl) ?_
                        refine xn_icmp_gt (tgt := 274) hx hb (by omega) (by omega) dX11_fewestPayments_157 (by decide) (fun c4 => ?_) (fun c4 => ?_)
                        · skip
                          refine lv_iload_n hx hb dX11_fewestPayments_274 rfl (lv_at hl 3 rfl) ?_
                          refine lv_aload_n hx hb dX11_fewestPayments_275 rfl (lv_at hl 0 rfl) ?_
                          refine x_get (v := .ref (α 43)) (C := RX11) (T := TX11) (N := 24) hx hb hts (fun _ h => List.mem_cons_of_mem _ (List.mem_append_right _ h)) hown hK hw 30 (Nat.lt_of_lt_of_le (Nat.le_of_ble_eq_true rfl : 30 < 191) hn) (mk_30 cA α) rfl 23 (by decide) (hts _ (List.mem_of_getElem? (i := 4) rfl)) (fun _ h9 => h9) rfl dX11_fewestPayments_276 ?_
                          refine lv_iload_n hx hb dX11_fewestPayments_279 rfl (lv_at hl 2 rfl) ?_
                          refine x_iald hx hb hK hw 43 64 (Nat.lt_of_lt_of_le (Nat.le_of_ble_eq_true rfl : 43 < 191) hn) (mk_43 cA α) (gN w) okw.1 okw.2 (by decide) dX11_fewestPayments_280 ?_
                          refine lv_isub hx hb dX11_fewestPayments_281 ?_
                          exact ret_i hx hb hr hlocks hK hw dX11_fewestPayments_282 (by rw [hk, hT3, show s9 = 2 ^ Cn by omega, hT, hw9, show c9 = Cn by omega, show d9 = Cn by omega]) (by rw [hT3, show s9 = 2 ^ Cn by omega, hT, hw9, show c9 = Cn by omega])
                        · skip
                          refine lv_iload hx hb dX11_fewestPayments_160 (lv_at hl 4 rfl) ?_
                          refine lv_iload_n hx hb dX11_fewestPayments_162 rfl (lv_at hl 2 rfl) ?_
                          refine lv_iconst (v := (-1)) hx hb dX11_fewestPayments_163 (by decide) ?_
                          refine lv_ixor hx hb dX11_fewestPayments_164 ?_
                          refine lv_iand hx hb dX11_fewestPayments_165 ?_
                          refine lv_if_eq (tgt := 172) hx hb dX11_fewestPayments_166 (by decide) (fun c5 => ?_) (fun c5 => ?_)
                          · skip
                            refine lv_iconst (v := nI 0) hx hb dX11_fewestPayments_172 (by decide) ?_
                            refine lv_istore (lv' := [(5, .int (nI 0)), (0, .ref (α 30)), (1, .int (nI ((2 ^ Cn) - 1))), (2, .int w), (3, .int acc), (4, .int (nI s9))]) hx hb dX11_fewestPayments_173 hl (by decide) rfl (fun ls hl => ?_)
                            refine lv_iconst (v := nI 0) hx hb dX11_fewestPayments_175 (by decide) ?_
                            refine lv_istore (lv' := [(6, .int (nI 0)), (5, .int (nI 0)), (0, .ref (α 30)), (1, .int (nI ((2 ^ Cn) - 1))), (2, .int w), (3, .int acc), (4, .int (nI s9))]) hx hb dX11_fewestPayments_176 hl (by decide) rfl (fun ls hl => ?_)
                            have lp178 : ∀ (t : Nat) (j : Nat) (b9 : Int32) (H : Heap) (locs : List Loc) (ls : Array Slot), Cn - j < t → j ≤ Cn → b9 = rFi T3 s9 j → Ws D cA α n (Aw α n sz) s.heap T3 H locs → lv_has ls 7 [(0, .ref (α 30)), (1, .int (nI ((2 ^ Cn) - 1))), (2, .int w), (3, .int acc), (4, .int (nI s9)), (6, .int (nI j)), (5, .int b9)] → W p l e ({ frames := 4, cells := 0, slots := 0, locals := 88 } : Room) s m (List.toArray ([.ref (α 30)] : List Value)) below meth c H locs 0 0 (MQ below (va_Qi (fun r u => r = (sumI (rFm (rFb (setI S 30 0 (nI 0)) (2 ^ Cn) N Cn).2) Cn - (rFo (rFb (setI S 30 0 (nI 0)) (2 ^ Cn) N Cn).1 (rFb (setI S 30 0 (nI 0)) (2 ^ Cn) N Cn).2 Cn (2 ^ Cn - 1)).1 43 (gN (rFb (setI S 30 0 (nI 0)) (2 ^ Cn) N Cn).2)) ∧ u = (rFo (rFb (setI S 30 0 (nI 0)) (2 ^ Cn) N Cn).1 (rFb (setI S 30 0 (nI 0)) (2 ^ Cn) N Cn).2 Cn (2 ^ Cn - 1))) (Pw D cA α n) (Aw α n sz)) (List.toArray ([.ref (α 30)] : List Value)) s 0 0 (Aw α n sz)) (F0 m 178 ls []) := by
                              intro t
                              induction t with
                              | zero => intro j b9 H locs ls ht; exact absurd ht (Nat.not_lt_zero _)
                              | succ t ih178 =>
                                intro j b9 H locs ls ht hj hb9 hw hl
                                refine lv_iload hx hb dX11_fewestPayments_178 (lv_at hl 5 rfl) ?_
                                refine lv_aload_n hx hb dX11_fewestPayments_180 rfl (lv_at hl 0 rfl) ?_
                                refine x_get (v := .ref (α 33)) (C := RX11) (T := TX11) (N := 24) hx hb hts (fun _ h => List.mem_cons_of_mem _ (List.mem_append_right _ h)) hown hK hw 30 (Nat.lt_of_lt_of_le (Nat.le_of_ble_eq_true rfl : 30 < 191) hn) (mk_30 cA α) rfl 11 (by decide) (hts _ (List.mem_of_getElem? (i := 2) rfl)) (fun _ h9 => h9) rfl dX11_fewestPayments_181 ?_
                                refine lv_iconst (v := nI 1) hx hb dX11_fewestPayments_184 (by decide) ?_
                                refine x_iald hx hb hK hw 33 40 (Nat.lt_of_lt_of_le (Nat.le_of_ble_eq_true rfl : 33 < 191) hn) (mk_33 cA α) 1 rfl (by decide) (by decide) dX11_fewestPayments_185 ?_
                                refine x_topN (k := Cn) (by rw [hT3, rFo_1 _ _ _ (by decide), hT, rFb_1 _ _ _ (by decide)]; exact hC0) ?_
                                refine xn_icmp_ge (tgt := 241) hx hb (by omega) (by omega) dX11_fewestPayments_186 (by decide) (fun c6 => ?_) (fun c6 => ?_)
                                · skip
                                  refine lv_aload_n hx hb dX11_fewestPayments_241 rfl (lv_at hl 0 rfl) ?_
                                  refine x_get (v := .ref (α 43)) (C := RX11) (T := TX11) (N := 24) hx hb hts (fun _ h => List.mem_cons_of_mem _ (List.mem_append_right _ h)) hown hK hw 30 (Nat.lt_of_lt_of_le (Nat.le_of_ble_eq_true rfl : 30 < 191) hn) (mk_30 cA α) rfl 23 (by decide) (hts _ (List.mem_of_getElem? (i := 4) rfl)) (fun _ h9 => h9) rfl dX11_fewestPayments_242 ?_
                                  refine lv_iload hx hb dX11_fewestPayments_245 (lv_at hl 4 rfl) ?_
                                  refine lv_iload hx hb dX11_fewestPayments_247 (lv_at hl 6 rfl) ?_
                                  refine lv_aload_n hx hb dX11_fewestPayments_249 rfl (lv_at hl 0 rfl) ?_
                                  refine x_get (v := .ref (α 42)) (C := RX11) (T := TX11) (N := 24) hx hb hts (fun _ h => List.mem_cons_of_mem _ (List.mem_append_right _ h)) hown hK hw 30 (Nat.lt_of_lt_of_le (Nat.le_of_ble_eq_true rfl : 30 < 191) hn) (mk_30 cA α) rfl 22 (by decide) (hts _ (List.mem_of_getElem? (i := 3) rfl)) (fun _ h9 => h9) rfl dX11_fewestPayments_250 ?_
                                  refine lv_iload hx hb dX11_fewestPayments_253 (lv_at hl 4 rfl) ?_
                                  refine x_lald hx hb hK hw 42 64 (Nat.lt_of_lt_of_le (Nat.le_of_ble_eq_true rfl : 42 < 191) hn) (mk_42 cA α) s9 rfl (by omega) (by decide) dX11_fewestPayments_255 ?_
                                  refine lv_lconst (v := 0) hx hb dX11_fewestPayments_256 (by decide) ?_
                                  refine x_lcmp_ne (tgt := 265) hx hb dX11_fewestPayments_257 dX11_fewestPayments_258 (by decide) (fun c7 => ?_) (fun c7 => ?_)
                                  · skip
                                    refine lv_iconst (v := nI 0) hx hb dX11_fewestPayments_265 (by decide) ?_
                                    refine lv_iadd hx hb dX11_fewestPayments_266 ?_
                                    refine x_iast (x := b9 + (nI 0)) hx hb hK hw 43 64 (Nat.lt_of_lt_of_le (Nat.le_of_ble_eq_true rfl : 43 < 191) hn) (mk_43 cA α) s9 rfl (by omega) (by decide) dX11_fewestPayments_267 (fun S2 eS2 H locs hw => ?_)
                                    refine lv_iinc (v := nI (s9 + 1)) (lv' := [(4, .int (nI (s9 + 1))), (0, .ref (α 30)), (1, .int (nI ((2 ^ Cn) - 1))), (2, .int w), (3, .int acc), (6, .int (nI j)), (5, .int b9)]) hx hb dX11_fewestPayments_268 hl (k := 4) rfl (nI_1 _) (by decide) rfl (fun ls hl => ?_)
                                    refine lv_goto (tgt := 154) hx hb dX11_fewestPayments_271 (by decide) ?_
                                    exact ih154 (s9 + 1) S2 _ _ _ (by omega) (by omega) (by omega) (by rw [show s9 + 1 - 1 = (s9 - 1) + 1 by omega, rFo, show s9 - 1 + 1 = s9 by omega, ← hT3]; subst eS2; simp only [if_pos c1, if_neg (not_not_intro c1), decide_eq_true c1, if_pos c2, if_neg (not_not_intro c2), decide_eq_true c2, if_pos c3, if_neg (not_not_intro c3), decide_eq_true c3, if_pos c4, if_neg (not_not_intro c4), decide_eq_true c4, if_pos c5, if_neg (not_not_intro c5), decide_eq_true c5, if_pos c6, if_neg (not_not_intro c6), decide_eq_true c6, if_neg c7, if_pos c7, decide_eq_false c7, reduceIte]; rw [hb9, show j = Cn by omega]) hw (lv_sub hl [1, 2, 3, 4, 0] rfl)
                                  · skip
                                    refine lv_iconst (v := nI 1) hx hb dX11_fewestPayments_261 (by decide) ?_
                                    refine lv_goto (tgt := 266) hx hb dX11_fewestPayments_262 (by decide) ?_
                                    refine lv_iadd hx hb dX11_fewestPayments_266 ?_
                                    refine x_iast (x := b9 + (nI 1)) hx hb hK hw 43 64 (Nat.lt_of_lt_of_le (Nat.le_of_ble_eq_true rfl : 43 < 191) hn) (mk_43 cA α) s9 rfl (by omega) (by decide) dX11_fewestPayments_267 (fun S3 eS3 H locs hw => ?_)
                                    refine lv_iinc (v := nI (s9 + 1)) (lv' := [(4, .int (nI (s9 + 1))), (0, .ref (α 30)), (1, .int (nI ((2 ^ Cn) - 1))), (2, .int w), (3, .int acc), (6, .int (nI j)), (5, .int b9)]) hx hb dX11_fewestPayments_268 hl (k := 4) rfl (nI_1 _) (by decide) rfl (fun ls hl => ?_)
                                    refine lv_goto (tgt := 154) hx hb dX11_fewestPayments_271 (by decide) ?_
                                    exact ih154 (s9 + 1) S3 _ _ _ (by omega) (by omega) (by omega) (by rw [show s9 + 1 - 1 = (s9 - 1) + 1 by omega, rFo, show s9 - 1 + 1 = s9 by omega, ← hT3]; subst eS3; simp only [if_pos c1, if_neg (not_not_intro c1), decide_eq_true c1, if_pos c2, if_neg (not_not_intro c2), decide_eq_true c2, if_pos c3, if_neg (not_not_intro c3), decide_eq_true c3, if_pos c4, if_neg (not_not_intro c4), decide_eq_true c4, if_pos c5, if_neg (not_not_intro c5), decide_eq_true c5, if_pos c6, if_neg (not_not_intro c6), decide_eq_true c6, if_pos c7, if_neg (not_not_intro c7), decide_eq_true c7, reduceIte]; rw [hb9, show j = Cn by omega]) hw (lv_sub hl [1, 2, 3, 4, 0] rfl)
                                · skip
                                  refine lv_iload hx hb dX11_fewestPayments_189 (lv_at hl 4 rfl) ?_
                                  refine lv_iload hx hb dX11_fewestPayments_191 (lv_at hl 5 rfl) ?_
                                  refine lv_ishr hx hb dX11_fewestPayments_193 ?_
                                  refine lv_iconst (v := nI 1) hx hb dX11_fewestPayments_194 (by decide) ?_
                                  refine lv_iand hx hb dX11_fewestPayments_195 ?_
                                  refine lv_iconst (v := nI 1) hx hb dX11_fewestPayments_196 (by decide) ?_
                                  refine lv_icmp_ne (tgt := 235) hx hb dX11_fewestPayments_197 (by decide) (fun c8 => ?_) (fun c8 => ?_)
                                  · skip
                                    refine lv_iinc (v := nI (j + 1)) (lv' := [(6, .int (nI (j + 1))), (0, .ref (α 30)), (1, .int (nI ((2 ^ Cn) - 1))), (2, .int w), (3, .int acc), (4, .int (nI s9)), (5, .int b9)]) hx hb dX11_fewestPayments_235 hl (k := 5) rfl (nI_1 _) (by decide) rfl (fun ls hl => ?_)
                                    refine lv_goto (tgt := 178) hx hb dX11_fewestPayments_238 (by decide) ?_
                                    exact ih178 (j + 1) b9 _ _ _ (by omega) (by omega) (by rw [rFi]; unfold rBit; simp only [if_pos c1, if_neg (not_not_intro c1), decide_eq_true c1, if_pos c2, if_neg (not_not_intro c2), decide_eq_true c2, if_pos c3, if_neg (not_not_intro c3), decide_eq_true c3, if_pos c4, if_neg (not_not_intro c4), decide_eq_true c4, if_pos c5, if_neg (not_not_intro c5), decide_eq_true c5, if_pos c6, if_neg (not_not_intro c6), decide_eq_true c6, if_neg c8, if_pos c8, decide_eq_false c8, if_true, if_false, eq_self, Bool.false_eq_true, not_true_eq_false, not_false_eq_true, decide_true, decide_false, Bool.and_true, Bool.true_and, Bool.and_false, Bool.false_and, Bool.not_true, Bool.not_false, Bool.or_true, Bool.true_or, Bool.or_false, Bool.false_or, reduceIte, b2i_t, b2i_f, ← hb9]) hw (lv_sub hl [1, 2, 3, 4, 5, 0, 6] rfl)
                                  · skip
                                    have hs64 : s9 < 64 := by omega
                                    have hbit := c8
                                    refine lv_aload_n hx hb dX11_fewestPayments_200 rfl (lv_at hl 0 rfl) ?_
                                    refine x_get (v := .ref (α 43)) (C := RX11) (T := TX11) (N := 24) hx hb hts (fun _ h => List.mem_cons_of_mem _ (List.mem_append_right _ h)) hown hK hw 30 (Nat.lt_of_lt_of_le (Nat.le_of_ble_eq_true rfl : 30 < 191) hn) (mk_30 cA α) rfl 23 (by decide) (hts _ (List.mem_of_getElem? (i := 4) rfl)) (fun _ h9 => h9) rfl dX11_fewestPayments_201 ?_
                                    refine lv_iload hx hb dX11_fewestPayments_204 (lv_at hl 4 rfl) ?_
                                    refine lv_iconst (v := nI 1) hx hb dX11_fewestPayments_206 (by decide) ?_
                                    refine lv_iload hx hb dX11_fewestPayments_207 (lv_at hl 5 rfl) ?_
                                    refine lv_ishl hx hb dX11_fewestPayments_209 ?_
                                    refine x_topN (k := 2 ^ j) (bt_pow j (by omega)) ?_
                                    refine lv_iconst (v := (-1)) hx hb dX11_fewestPayments_210 (by decide) ?_
                                    refine lv_ixor hx hb dX11_fewestPayments_211 ?_
                                    refine lv_iand hx hb dX11_fewestPayments_212 ?_
                                    refine x_iald hx hb hK hw 43 64 (Nat.lt_of_lt_of_le (Nat.le_of_ble_eq_true rfl : 43 < 191) hn) (mk_43 cA α) (s9 - 2 ^ j) (bt_inv s9 hs64 j (by omega) hbit) (Nat.lt_of_le_of_lt (Nat.sub_le _ _) hs64) (by decide) dX11_fewestPayments_213 ?_
                                    refine lv_iload hx hb dX11_fewestPayments_214 (lv_at hl 6 rfl) ?_
                                    refine lv_icmp_le (tgt := 235) hx hb dX11_fewestPayments_216 (by decide) (fun c9 => ?_) (fun c9 => ?_)
                                    · skip
                                      refine lv_iinc (v := nI (j + 1)) (lv' := [(6, .int (nI (j + 1))), (0, .ref (α 30)), (1, .int (nI ((2 ^ Cn) - 1))), (2, .int w), (3, .int acc), (4, .int (nI s9)), (5, .int b9)]) hx hb dX11_fewestPayments_235 hl (k := 5) rfl (nI_1 _) (by decide) rfl (fun ls hl => ?_)
                                      refine lv_goto (tgt := 178) hx hb dX11_fewestPayments_238 (by decide) ?_
                                      exact ih178 (j + 1) b9 _ _ _ (by omega) (by omega) (by rw [rFi]; unfold rBit; simp only [if_pos c1, if_neg (not_not_intro c1), decide_eq_true c1, if_pos c2, if_neg (not_not_intro c2), decide_eq_true c2, if_pos c3, if_neg (not_not_intro c3), decide_eq_true c3, if_pos c4, if_neg (not_not_intro c4), decide_eq_true c4, if_pos c5, if_neg (not_not_intro c5), decide_eq_true c5, if_pos c6, if_neg (not_not_intro c6), decide_eq_true c6, if_pos c8, if_neg (not_not_intro c8), decide_eq_true c8, if_pos c9, if_neg (not_not_intro c9), decide_eq_true c9, if_true, if_false, eq_self, Bool.false_eq_true, not_true_eq_false, not_false_eq_true, decide_true, decide_false, Bool.and_true, Bool.true_and, Bool.and_false, Bool.false_and, Bool.not_true, Bool.not_false, Bool.or_true, Bool.true_or, Bool.or_false, Bool.false_or, reduceIte, b2i_t, b2i_f, ← hb9]) hw (lv_sub hl [1, 2, 3, 4, 5, 0, 6] rfl)
                                    · skip
                                      refine lv_aload_n hx hb dX11_fewestPayments_219 rfl (lv_at hl 0 rfl) ?_
                                      refine x_get (v := .ref (α 43)) (C := RX11) (T := TX11) (N := 24) hx hb hts (fun _ h => List.mem_cons_of_mem _ (List.mem_append_right _ h)) hown hK hw 30 (Nat.lt_of_lt_of_le (Nat.le_of_ble_eq_true rfl : 30 < 191) hn) (mk_30 cA α) rfl 23 (by decide) (hts _ (List.mem_of_getElem? (i := 4) rfl)) (fun _ h9 => h9) rfl dX11_fewestPayments_220 ?_
                                      refine lv_iload hx hb dX11_fewestPayments_223 (lv_at hl 4 rfl) ?_
                                      refine lv_iconst (v := nI 1) hx hb dX11_fewestPayments_225 (by decide) ?_
                                      refine lv_iload hx hb dX11_fewestPayments_226 (lv_at hl 5 rfl) ?_
                                      refine lv_ishl hx hb dX11_fewestPayments_228 ?_
                                      refine x_topN (k := 2 ^ j) (bt_pow j (by omega)) ?_
                                      refine lv_iconst (v := (-1)) hx hb dX11_fewestPayments_229 (by decide) ?_
                                      refine lv_ixor hx hb dX11_fewestPayments_230 ?_
                                      refine lv_iand hx hb dX11_fewestPayments_231 ?_
                                      refine x_iald hx hb hK hw 43 64 (Nat.lt_of_lt_of_le (Nat.le_of_ble_eq_true rfl : 43 < 191) hn) (mk_43 cA α) (s9 - 2 ^ j) (bt_inv s9 hs64 j (by omega) hbit) (Nat.lt_of_le_of_lt (Nat.sub_le _ _) hs64) (by decide) dX11_fewestPayments_232 ?_
                                      refine lv_istore (lv' := [(5, .int (T3.1 43 (s9 - 2 ^ j))), (0, .ref (α 30)), (1, .int (nI ((2 ^ Cn) - 1))), (2, .int w), (3, .int acc), (4, .int (nI s9)), (6, .int (nI j))]) hx hb dX11_fewestPayments_233 hl (by decide) rfl (fun ls hl => ?_)
                                      refine lv_iinc (v := nI (j + 1)) (lv' := [(6, .int (nI (j + 1))), (5, .int (T3.1 43 (s9 - 2 ^ j))), (0, .ref (α 30)), (1, .int (nI ((2 ^ Cn) - 1))), (2, .int w), (3, .int acc), (4, .int (nI s9))]) hx hb dX11_fewestPayments_235 hl (k := 6) rfl (nI_1 _) (by decide) rfl (fun ls hl => ?_)
                                      refine lv_goto (tgt := 178) hx hb dX11_fewestPayments_238 (by decide) ?_
                                      exact ih178 (j + 1) (T3.1 43 (s9 - 2 ^ j)) _ _ _ (by omega) (by omega) (by rw [rFi]; unfold rBit; simp only [if_pos c1, if_neg (not_not_intro c1), decide_eq_true c1, if_pos c2, if_neg (not_not_intro c2), decide_eq_true c2, if_pos c3, if_neg (not_not_intro c3), decide_eq_true c3, if_pos c4, if_neg (not_not_intro c4), decide_eq_true c4, if_pos c5, if_neg (not_not_intro c5), decide_eq_true c5, if_pos c6, if_neg (not_not_intro c6), decide_eq_true c6, if_pos c8, if_neg (not_not_intro c8), decide_eq_true c8, if_neg c9, if_pos c9, decide_eq_false c9, if_true, if_false, eq_self, Bool.false_eq_true, not_true_eq_false, not_false_eq_true, decide_true, decide_false, Bool.and_true, Bool.true_and, Bool.and_false, Bool.false_and, Bool.not_true, Bool.not_false, Bool.or_true, Bool.true_or, Bool.or_false, Bool.false_or, reduceIte, b2i_t, b2i_f, ← hb9]) hw (lv_sub hl [2, 3, 4, 5, 6, 0, 1] rfl)
                            exact lp178 _ 0 (nI 0) _ _ _ (Nat.lt_succ_self _) (Nat.zero_le _) rfl hw (lv_sub hl [2, 3, 4, 5, 6, 0, 1] rfl)
                          · skip
                            refine lv_goto (tgt := 268) hx hb dX11_fewestPayments_169 (by decide) ?_
                            refine lv_iinc (v := nI (s9 + 1)) (lv' := [(4, .int (nI (s9 + 1))), (0, .ref (α 30)), (1, .int (nI ((2 ^ Cn) - 1))), (2, .int w), (3, .int acc)]) hx hb dX11_fewestPayments_268 hl (k := 4) rfl (nI_1 _) (by decide) rfl (fun ls hl => ?_)
                            refine lv_goto (tgt := 154) hx hb dX11_fewestPayments_271 (by decide) ?_
                            exact ih154 (s9 + 1) T3 _ _ _ (by omega) (by omega) (by omega) (by rw [show s9 + 1 - 1 = (s9 - 1) + 1 by omega, rFo, show s9 - 1 + 1 = s9 by omega, ← hT3]; skip; simp only [if_pos c1, if_neg (not_not_intro c1), decide_eq_true c1, if_pos c2, if_neg (not_not_intro c2), decide_eq_true c2, if_pos c3, if_neg (not_not_intro c3), decide_eq_true c3, if_pos c4, if_neg (not_not_intro c4), decide_eq_true c4, if_neg c5, if_pos c5, decide_eq_false c5, reduceIte]) hw (lv_sub hl [1, 2, 3, 4, 0] rfl)
                    exact lp154 _ 1 T _ _ _ (Nat.lt_succ_self _) (Nat.le_refl _) hp1 rfl hw (lv_sub hl [1, 2, 3, 4, 0] rfl)
                  · skip
                    refine lv_iload_n hx hb dX11_fewestPayments_136 rfl (lv_at hl 4 rfl) ?_
                    refine lv_iload_n hx hb dX11_fewestPayments_137 rfl (lv_at hl 2 rfl) ?_
                    refine lv_iload hx hb dX11_fewestPayments_138 (lv_at hl 3 rfl) ?_
                    refine lv_ishr hx hb dX11_fewestPayments_140 ?_
                    refine lv_iconst (v := nI 1) hx hb dX11_fewestPayments_141 (by decide) ?_
                    refine lv_iand hx hb dX11_fewestPayments_142 ?_
                    refine lv_iadd hx hb dX11_fewestPayments_143 ?_
                    refine lv_istore_n (lv' := [(3, .int (acc + ((w >>> ((nI d9) &&& 31)) &&& (nI 1)))), (0, .ref (α 30)), (1, .int (nI ((2 ^ Cn) - 1))), (2, .int w), (4, .int (nI d9))]) hx hb dX11_fewestPayments_144 rfl hl (by decide) rfl (fun ls hl => ?_)
                    refine lv_iinc (v := nI (d9 + 1)) (lv' := [(4, .int (nI (d9 + 1))), (3, .int (acc + ((w >>> ((nI d9) &&& 31)) &&& (nI 1)))), (0, .ref (α 30)), (1, .int (nI ((2 ^ Cn) - 1))), (2, .int w)]) hx hb dX11_fewestPayments_145 hl (k := 4) rfl (nI_1 _) (by decide) rfl (fun ls hl => ?_)
                    refine lv_goto (tgt := 125) hx hb dX11_fewestPayments_148 (by decide) ?_
                    exact ih125 (d9 + 1) (acc + ((w >>> ((nI d9) &&& 31)) &&& (nI 1))) _ _ _ (by omega) (by omega) (by rw [sumI, ← hk]; rfl) hw (lv_sub hl [2, 3, 4, 0, 1] rfl)
              exact lp125 _ 0 (nI 0) _ _ _ (Nat.lt_succ_self _) (Nat.zero_le _) rfl hw (lv_sub hl [2, 3, 4, 0, 1] rfl)
            · skip
              refine lv_aload_n hx hb dX11_fewestPayments_57 rfl (lv_at hl 0 rfl) ?_
              refine lv_iload_n hx hb dX11_fewestPayments_58 rfl (lv_at hl 2 rfl) ?_
              refine x_callVLr (q := 30) (C := RX11) (As := [.int (nI c9)]) (rest := []) ⟨hx, hb, hml, hown, hts⟩ (ct_X11_positionOf l D cA α n _ hn T (nI c9) N (by rw [hT, rFb_1 _ _ _ (by decide)]; exact hN) hN2 (fun j hj => okR_of (ho j hj) (by rw [hT, rFb_1 _ _ _ (by decide)]; rfl) (by rw [hT, rFb_1 _ _ _ (by decide)]; rfl))) (cwV 1 hts gX11_fewestPayments_X11_positionOf rfl rfl rfl (by decide +kernel) ⟨Nat.le_of_ble_eq_true rfl, Nat.le_of_ble_eq_true rfl⟩) hK hw hAw (ws_recv hK hw (q := 30) (Nat.lt_of_lt_of_le (Nat.le_of_ble_eq_true rfl : 30 < 191) hn) (mk_30 cA α) rfl) rfl hl.1 rfl (Nat.le_of_ble_eq_true rfl) dX11_fewestPayments_59 ⟨Nat.zero_le _, Nat.zero_le _⟩ (fun H locs hw => ?_)
              refine x_topEL (y := sumL (gPos (setI S 30 0 (nI 0)) (nI c9)) N) (by rw [gPos_f (S := setI S 30 0 (nI 0)) (T := T) (by rw [hT, rFb_1 _ _ _ (by decide)]) (by rw [hT, rFb_1 _ _ _ (by decide)]) (by rw [hT, rFb_2 _ _ _ (by decide)])]) ?_
              refine lv_lstore (lv' := [(4, .long (sumL (gPos (setI S 30 0 (nI 0)) (nI c9)) N)), (0, .ref (α 30)), (1, .int (nI ((2 ^ Cn) - 1))), (3, .int (nI c9)), (2, .int w)]) hx hb dX11_fewestPayments_62 hl (by decide) rfl (fun ls hl => ?_)
              refine lv_lload hx hb dX11_fewestPayments_64 (lv_at hl 0 rfl) ?_
              refine lv_lconst (v := 0) hx hb dX11_fewestPayments_66 (by decide) ?_
              refine x_lcmp_eq (tgt := 77) hx hb dX11_fewestPayments_67 dX11_fewestPayments_68 (by decide) (fun c10 => ?_) (fun c10 => ?_)
              · skip
                refine lv_iconst (v := nI 0) hx hb dX11_fewestPayments_77 (by decide) ?_
                refine lv_istore (lv' := [(6, .int (nI 0)), (4, .long (sumL (gPos (setI S 30 0 (nI 0)) (nI c9)) N)), (0, .ref (α 30)), (1, .int (nI ((2 ^ Cn) - 1))), (3, .int (nI c9)), (2, .int w)]) hx hb dX11_fewestPayments_78 hl (by decide) rfl (fun ls hl => ?_)
                have lp80 : ∀ (t : Nat) (k : Nat) (T2 : Mem) (H : Heap) (locs : List Loc) (ls : Array Slot), 2 ^ Cn - k < t → k ≤ 2 ^ Cn → T2 = rFa T c9 (sumL (gPos (setI S 30 0 (nI 0)) (nI c9)) N) k → Ws D cA α n (Aw α n sz) s.heap T2 H locs → lv_has ls 7 [(0, .ref (α 30)), (1, .int (nI ((2 ^ Cn) - 1))), (2, .int w), (3, .int (nI c9)), (4, .long (sumL (gPos (setI S 30 0 (nI 0)) (nI c9)) N)), (6, .int (nI k))] → W p l e ({ frames := 4, cells := 0, slots := 0, locals := 88 } : Room) s m (List.toArray ([.ref (α 30)] : List Value)) below meth c H locs 0 0 (MQ below (va_Qi (fun r u => r = (sumI (rFm (rFb (setI S 30 0 (nI 0)) (2 ^ Cn) N Cn).2) Cn - (rFo (rFb (setI S 30 0 (nI 0)) (2 ^ Cn) N Cn).1 (rFb (setI S 30 0 (nI 0)) (2 ^ Cn) N Cn).2 Cn (2 ^ Cn - 1)).1 43 (gN (rFb (setI S 30 0 (nI 0)) (2 ^ Cn) N Cn).2)) ∧ u = (rFo (rFb (setI S 30 0 (nI 0)) (2 ^ Cn) N Cn).1 (rFb (setI S 30 0 (nI 0)) (2 ^ Cn) N Cn).2 Cn (2 ^ Cn - 1))) (Pw D cA α n) (Aw α n sz)) (List.toArray ([.ref (α 30)] : List Value)) s 0 0 (Aw α n sz)) (F0 m 80 ls []) := by
                  intro t
                  induction t with
                  | zero => intro k T2 H locs ls ht; exact absurd ht (Nat.not_lt_zero _)
                  | succ t ih80 =>
                    intro k T2 H locs ls ht hk hT2 hw hl
                    refine lv_iload hx hb dX11_fewestPayments_80 (lv_at hl 5 rfl) ?_
                    refine lv_iload_n hx hb dX11_fewestPayments_82 rfl (lv_at hl 1 rfl) ?_
                    refine xn_icmp_gt (tgt := 114) hx hb (by omega) (by omega) dX11_fewestPayments_83 (by decide) (fun c11 => ?_) (fun c11 => ?_)
                    · skip
                      refine lv_iinc (v := nI (c9 + 1)) (lv' := [(3, .int (nI (c9 + 1))), (0, .ref (α 30)), (1, .int (nI ((2 ^ Cn) - 1))), (2, .int w), (4, .long (sumL (gPos (setI S 30 0 (nI 0)) (nI c9)) N)), (6, .int (nI k))]) hx hb dX11_fewestPayments_114 hl (k := 3) rfl (nI_1 _) (by decide) rfl (fun ls hl => ?_)
                      refine lv_goto (tgt := 47) hx hb dX11_fewestPayments_117 (by decide) ?_
                      exact ih47 (c9 + 1) w T2 _ _ _ (by omega) (by omega) (by rw [hT2, show k = 2 ^ Cn by omega, rFb, hT]) (by rw [rFb]; simp only [if_pos c1, if_neg (not_not_intro c1), decide_eq_true c1, if_pos c2, if_neg (not_not_intro c2), decide_eq_true c2, if_pos c10, if_neg (not_not_intro c10), decide_eq_true c10, if_pos c11, if_neg (not_not_intro c11), decide_eq_true c11, reduceIte, ← hw9]) okw hw (lv_sub hl [1, 2, 0, 3] rfl)
                    · skip
                      refine lv_iload hx hb dX11_fewestPayments_86 (lv_at hl 5 rfl) ?_
                      refine lv_iload_n hx hb dX11_fewestPayments_88 rfl (lv_at hl 3 rfl) ?_
                      refine lv_ishr hx hb dX11_fewestPayments_89 ?_
                      refine lv_iconst (v := nI 1) hx hb dX11_fewestPayments_90 (by decide) ?_
                      refine lv_iand hx hb dX11_fewestPayments_91 ?_
                      refine lv_iconst (v := nI 1) hx hb dX11_fewestPayments_92 (by decide) ?_
                      refine lv_icmp_ne (tgt := 108) hx hb dX11_fewestPayments_93 (by decide) (fun c12 => ?_) (fun c12 => ?_)
                      · skip
                        refine lv_iinc (v := nI (k + 1)) (lv' := [(6, .int (nI (k + 1))), (0, .ref (α 30)), (1, .int (nI ((2 ^ Cn) - 1))), (2, .int w), (3, .int (nI c9)), (4, .long (sumL (gPos (setI S 30 0 (nI 0)) (nI c9)) N))]) hx hb dX11_fewestPayments_108 hl (k := 5) rfl (nI_1 _) (by decide) rfl (fun ls hl => ?_)
                        refine lv_goto (tgt := 80) hx hb dX11_fewestPayments_111 (by decide) ?_
                        exact ih80 (k + 1) T2 _ _ _ (by omega) (by omega) (by skip; rw [rFa]; unfold rBit; simp only [if_pos c1, if_neg (not_not_intro c1), decide_eq_true c1, if_pos c2, if_neg (not_not_intro c2), decide_eq_true c2, if_pos c10, if_neg (not_not_intro c10), decide_eq_true c10, if_pos c11, if_neg (not_not_intro c11), decide_eq_true c11, if_neg c12, if_pos c12, decide_eq_false c12, if_true, if_false, eq_self, Bool.false_eq_true, not_true_eq_false, not_false_eq_true, decide_true, decide_false, Bool.and_true, Bool.true_and, Bool.and_false, Bool.false_and, Bool.not_true, Bool.not_false, Bool.or_true, Bool.true_or, Bool.or_false, Bool.false_or, reduceIte, b2i_t, b2i_f, ← hT2]) hw (lv_sub hl [1, 2, 3, 4, 5, 0] rfl)
                      · skip
                        refine lv_aload_n hx hb dX11_fewestPayments_96 rfl (lv_at hl 0 rfl) ?_
                        refine x_get (v := .ref (α 42)) (C := RX11) (T := TX11) (N := 24) hx hb hts (fun _ h => List.mem_cons_of_mem _ (List.mem_append_right _ h)) hown hK hw 30 (Nat.lt_of_lt_of_le (Nat.le_of_ble_eq_true rfl : 30 < 191) hn) (mk_30 cA α) rfl 22 (by decide) (hts _ (List.mem_of_getElem? (i := 3) rfl)) (fun _ h9 => h9) rfl dX11_fewestPayments_97 ?_
                        refine lv_iload hx hb dX11_fewestPayments_100 (lv_at hl 5 rfl) ?_
                        refine lv_dup2_11 hx hb dX11_fewestPayments_102 rfl rfl ?_
                        refine x_lald hx hb hK hw 42 64 (Nat.lt_of_lt_of_le (Nat.le_of_ble_eq_true rfl : 42 < 191) hn) (mk_42 cA α) k rfl (by omega) (by decide) dX11_fewestPayments_103 ?_
                        refine lv_lload hx hb dX11_fewestPayments_104 (lv_at hl 4 rfl) ?_
                        refine lv_ladd hx hb dX11_fewestPayments_106 ?_
                        refine x_last (x := (T2.2 42 k) + (sumL (gPos (setI S 30 0 (nI 0)) (nI c9)) N)) hx hb hK hw 42 64 (Nat.lt_of_lt_of_le (Nat.le_of_ble_eq_true rfl : 42 < 191) hn) (mk_42 cA α) k rfl (by omega) (by decide) dX11_fewestPayments_107 (fun S4 eS4 H locs hw => ?_)
                        refine lv_iinc (v := nI (k + 1)) (lv' := [(6, .int (nI (k + 1))), (0, .ref (α 30)), (1, .int (nI ((2 ^ Cn) - 1))), (2, .int w), (3, .int (nI c9)), (4, .long (sumL (gPos (setI S 30 0 (nI 0)) (nI c9)) N))]) hx hb dX11_fewestPayments_108 hl (k := 5) rfl (nI_1 _) (by decide) rfl (fun ls hl => ?_)
                        refine lv_goto (tgt := 80) hx hb dX11_fewestPayments_111 (by decide) ?_
                        exact ih80 (k + 1) S4 _ _ _ (by omega) (by omega) (by subst eS4; rw [rFa]; unfold rBit; simp only [if_pos c1, if_neg (not_not_intro c1), decide_eq_true c1, if_pos c2, if_neg (not_not_intro c2), decide_eq_true c2, if_pos c10, if_neg (not_not_intro c10), decide_eq_true c10, if_pos c11, if_neg (not_not_intro c11), decide_eq_true c11, if_pos c12, if_neg (not_not_intro c12), decide_eq_true c12, if_true, if_false, eq_self, Bool.false_eq_true, not_true_eq_false, not_false_eq_true, decide_true, decide_false, Bool.and_true, Bool.true_and, Bool.and_false, Bool.false_and, Bool.not_true, Bool.not_false, Bool.or_true, Bool.true_or, Bool.or_false, Bool.false_or, reduceIte, b2i_t, b2i_f, ← hT2]) hw (lv_sub hl [1, 2, 3, 4, 5, 0] rfl)
                exact lp80 _ 0 T _ _ _ (Nat.lt_succ_self _) (Nat.zero_le _) rfl hw (lv_sub hl [2, 3, 5, 4, 1, 0] rfl)
              · skip
                refine lv_iload_n hx hb dX11_fewestPayments_71 rfl (lv_at hl 4 rfl) ?_
                refine lv_iconst (v := nI 1) hx hb dX11_fewestPayments_72 (by decide) ?_
                refine lv_iload_n hx hb dX11_fewestPayments_73 rfl (lv_at hl 3 rfl) ?_
                refine lv_ishl hx hb dX11_fewestPayments_74 ?_
                refine x_topN (k := 2 ^ c9) (bt_pow c9 (by omega)) ?_
                refine lv_ior hx hb dX11_fewestPayments_75 ?_
                refine lv_istore_n (lv' := [(2, .int (w ||| (nI (2 ^ c9)))), (4, .long (sumL (gPos (setI S 30 0 (nI 0)) (nI c9)) N)), (0, .ref (α 30)), (1, .int (nI ((2 ^ Cn) - 1))), (3, .int (nI c9))]) hx hb dX11_fewestPayments_76 rfl hl (by decide) rfl (fun ls hl => ?_)
                refine lv_iconst (v := nI 0) hx hb dX11_fewestPayments_77 (by decide) ?_
                refine lv_istore (lv' := [(6, .int (nI 0)), (2, .int (w ||| (nI (2 ^ c9)))), (4, .long (sumL (gPos (setI S 30 0 (nI 0)) (nI c9)) N)), (0, .ref (α 30)), (1, .int (nI ((2 ^ Cn) - 1))), (3, .int (nI c9))]) hx hb dX11_fewestPayments_78 hl (by decide) rfl (fun ls hl => ?_)
                have lp80 : ∀ (t : Nat) (k : Nat) (T2 : Mem) (H : Heap) (locs : List Loc) (ls : Array Slot), 2 ^ Cn - k < t → k ≤ 2 ^ Cn → T2 = rFa T c9 (sumL (gPos (setI S 30 0 (nI 0)) (nI c9)) N) k → Ws D cA α n (Aw α n sz) s.heap T2 H locs → lv_has ls 7 [(0, .ref (α 30)), (1, .int (nI ((2 ^ Cn) - 1))), (2, .int (w ||| (nI (2 ^ c9)))), (3, .int (nI c9)), (4, .long (sumL (gPos (setI S 30 0 (nI 0)) (nI c9)) N)), (6, .int (nI k))] → W p l e ({ frames := 4, cells := 0, slots := 0, locals := 88 } : Room) s m (List.toArray ([.ref (α 30)] : List Value)) below meth c H locs 0 0 (MQ below (va_Qi (fun r u => r = (sumI (rFm (rFb (setI S 30 0 (nI 0)) (2 ^ Cn) N Cn).2) Cn - (rFo (rFb (setI S 30 0 (nI 0)) (2 ^ Cn) N Cn).1 (rFb (setI S 30 0 (nI 0)) (2 ^ Cn) N Cn).2 Cn (2 ^ Cn - 1)).1 43 (gN (rFb (setI S 30 0 (nI 0)) (2 ^ Cn) N Cn).2)) ∧ u = (rFo (rFb (setI S 30 0 (nI 0)) (2 ^ Cn) N Cn).1 (rFb (setI S 30 0 (nI 0)) (2 ^ Cn) N Cn).2 Cn (2 ^ Cn - 1))) (Pw D cA α n) (Aw α n sz)) (List.toArray ([.ref (α 30)] : List Value)) s 0 0 (Aw α n sz)) (F0 m 80 ls []) := by
                  intro t
                  induction t with
                  | zero => intro k T2 H locs ls ht; exact absurd ht (Nat.not_lt_zero _)
                  | succ t ih80 =>
                    intro k T2 H locs ls ht hk hT2 hw hl
                    refine lv_iload hx hb dX11_fewestPayments_80 (lv_at hl 5 rfl) ?_
                    refine lv_iload_n hx hb dX11_fewestPayments_82 rfl (lv_at hl 1 rfl) ?_
                    refine xn_icmp_gt (tgt := 114) hx hb (by omega) (by omega) dX11_fewestPayments_83 (by decide) (fun c13 => ?_) (fun c13 => ?_)
                    · skip
                      refine lv_iinc (v := nI (c9 + 1)) (lv' := [(3, .int (nI (c9 + 1))), (0, .ref (α 30)), (1, .int (nI ((2 ^ Cn) - 1))), (2, .int (w ||| (nI (2 ^ c9)))), (4, .long (sumL (gPos (setI S 30 0 (nI 0)) (nI c9)) N)), (6, .int (nI k))]) hx hb dX11_fewestPayments_114 hl (k := 3) rfl (nI_1 _) (by decide) rfl (fun ls hl => ?_)
                      refine lv_goto (tgt := 47) hx hb dX11_fewestPayments_117 (by decide) ?_
                      exact ih47 (c9 + 1) (w ||| (nI (2 ^ c9))) T2 _ _ _ (by omega) (by omega) (by rw [hT2, show k = 2 ^ Cn by omega, rFb, hT]) (by rw [rFb]; simp only [if_pos c1, if_neg (not_not_intro c1), decide_eq_true c1, if_pos c2, if_neg (not_not_intro c2), decide_eq_true c2, if_neg c10, if_pos c10, decide_eq_false c10, if_pos c13, if_neg (not_not_intro c13), decide_eq_true c13, reduceIte, ← hw9]) (by rw [okw.1]; exact bt_or _ okw.2 c9 (by omega)) hw (lv_sub hl [1, 2, 0, 3] rfl)
                    · skip
                      refine lv_iload hx hb dX11_fewestPayments_86 (lv_at hl 5 rfl) ?_
                      refine lv_iload_n hx hb dX11_fewestPayments_88 rfl (lv_at hl 3 rfl) ?_
                      refine lv_ishr hx hb dX11_fewestPayments_89 ?_
                      refine lv_iconst (v := nI 1) hx hb dX11_fewestPayments_90 (by decide) ?_
                      refine lv_iand hx hb dX11_fewestPayments_91 ?_
                      refine lv_iconst (v := nI 1) hx hb dX11_fewestPayments_92 (by decide) ?_
                      refine lv_icmp_ne (tgt := 108) hx hb dX11_fewestPayments_93 (by decide) (fun c14 => ?_) (fun c14 => ?_)
                      · skip
                        refine lv_iinc (v := nI (k + 1)) (lv' := [(6, .int (nI (k + 1))), (0, .ref (α 30)), (1, .int (nI ((2 ^ Cn) - 1))), (2, .int (w ||| (nI (2 ^ c9)))), (3, .int (nI c9)), (4, .long (sumL (gPos (setI S 30 0 (nI 0)) (nI c9)) N))]) hx hb dX11_fewestPayments_108 hl (k := 5) rfl (nI_1 _) (by decide) rfl (fun ls hl => ?_)
                        refine lv_goto (tgt := 80) hx hb dX11_fewestPayments_111 (by decide) ?_
                        exact ih80 (k + 1) T2 _ _ _ (by omega) (by omega) (by skip; rw [rFa]; unfold rBit; simp only [if_pos c1, if_neg (not_not_intro c1), decide_eq_true c1, if_pos c2, if_neg (not_not_intro c2), decide_eq_true c2, if_neg c10, if_pos c10, decide_eq_false c10, if_pos c13, if_neg (not_not_intro c13), decide_eq_true c13, if_neg c14, if_pos c14, decide_eq_false c14, if_true, if_false, eq_self, Bool.false_eq_true, not_true_eq_false, not_false_eq_true, decide_true, decide_false, Bool.and_true, Bool.true_and, Bool.and_false, Bool.false_and, Bool.not_true, Bool.not_false, Bool.or_true, Bool.true_or, Bool.or_false, Bool.false_or, reduceIte, b2i_t, b2i_f, ← hT2]) hw (lv_sub hl [1, 2, 3, 4, 5, 0] rfl)
                      · skip
                        refine lv_aload_n hx hb dX11_fewestPayments_96 rfl (lv_at hl 0 rfl) ?_
                        refine x_get (v := .ref (α 42)) (C := RX11) (T := TX11) (N := 24) hx hb hts (fun _ h => List.mem_cons_of_mem _ (List.mem_append_right _ h)) hown hK hw 30 (Nat.lt_of_lt_of_le (Nat.le_of_ble_eq_true rfl : 30 < 191) hn) (mk_30 cA α) rfl 22 (by decide) (hts _ (List.mem_of_getElem? (i := 3) rfl)) (fun _ h9 => h9) rfl dX11_fewestPayments_97 ?_
                        refine lv_iload hx hb dX11_fewestPayments_100 (lv_at hl 5 rfl) ?_
                        refine lv_dup2_11 hx hb dX11_fewestPayments_102 rfl rfl ?_
                        refine x_lald hx hb hK hw 42 64 (Nat.lt_of_lt_of_le (Nat.le_of_ble_eq_true rfl : 42 < 191) hn) (mk_42 cA α) k rfl (by omega) (by decide) dX11_fewestPayments_103 ?_
                        refine lv_lload hx hb dX11_fewestPayments_104 (lv_at hl 4 rfl) ?_
                        refine lv_ladd hx hb dX11_fewestPayments_106 ?_
                        refine x_last (x := (T2.2 42 k) + (sumL (gPos (setI S 30 0 (nI 0)) (nI c9)) N)) hx hb hK hw 42 64 (Nat.lt_of_lt_of_le (Nat.le_of_ble_eq_true rfl : 42 < 191) hn) (mk_42 cA α) k rfl (by omega) (by decide) dX11_fewestPayments_107 (fun S5 eS5 H locs hw => ?_)
                        refine lv_iinc (v := nI (k + 1)) (lv' := [(6, .int (nI (k + 1))), (0, .ref (α 30)), (1, .int (nI ((2 ^ Cn) - 1))), (2, .int (w ||| (nI (2 ^ c9)))), (3, .int (nI c9)), (4, .long (sumL (gPos (setI S 30 0 (nI 0)) (nI c9)) N))]) hx hb dX11_fewestPayments_108 hl (k := 5) rfl (nI_1 _) (by decide) rfl (fun ls hl => ?_)
                        refine lv_goto (tgt := 80) hx hb dX11_fewestPayments_111 (by decide) ?_
                        exact ih80 (k + 1) S5 _ _ _ (by omega) (by omega) (by subst eS5; rw [rFa]; unfold rBit; simp only [if_pos c1, if_neg (not_not_intro c1), decide_eq_true c1, if_pos c2, if_neg (not_not_intro c2), decide_eq_true c2, if_neg c10, if_pos c10, decide_eq_false c10, if_pos c13, if_neg (not_not_intro c13), decide_eq_true c13, if_pos c14, if_neg (not_not_intro c14), decide_eq_true c14, if_true, if_false, eq_self, Bool.false_eq_true, not_true_eq_false, not_false_eq_true, decide_true, decide_false, Bool.and_true, Bool.true_and, Bool.and_false, Bool.false_and, Bool.not_true, Bool.not_false, Bool.or_true, Bool.true_or, Bool.or_false, Bool.false_or, reduceIte, b2i_t, b2i_f, ← hT2]) hw (lv_sub hl [1, 2, 3, 4, 5, 0] rfl)
                exact lp80 _ 0 T _ _ _ (Nat.lt_succ_self _) (Nat.zero_le _) rfl hw (lv_sub hl [3, 4, 1, 5, 2, 0] rfl)
        exact lp47 _ 0 (nI 0) T _ _ _ (Nat.lt_succ_self _) (Nat.zero_le _) (by rw [hT, show k = 2 ^ Cn by omega]; rfl) rfl (okI_nI (by decide) (by decide)) hw (lv_sub hl [1, 2, 0, 3] rfl)
      · skip
        refine lv_aload_n hx hb dX11_fewestPayments_25 rfl (lv_at hl 0 rfl) ?_
        refine x_get (v := .ref (α 42)) (C := RX11) (T := TX11) (N := 24) hx hb hts (fun _ h => List.mem_cons_of_mem _ (List.mem_append_right _ h)) hown hK hw 30 (Nat.lt_of_lt_of_le (Nat.le_of_ble_eq_true rfl : 30 < 191) hn) (mk_30 cA α) rfl 22 (by decide) (hts _ (List.mem_of_getElem? (i := 3) rfl)) (fun _ h9 => h9) rfl dX11_fewestPayments_26 ?_
        refine lv_iload_n hx hb dX11_fewestPayments_29 rfl (lv_at hl 3 rfl) ?_
        refine lv_lconst (v := 0) hx hb dX11_fewestPayments_30 (by decide) ?_
        refine x_last (x := 0) hx hb hK hw 42 64 (Nat.lt_of_lt_of_le (Nat.le_of_ble_eq_true rfl : 42 < 191) hn) (mk_42 cA α) k rfl (by omega) (by decide) dX11_fewestPayments_31 (fun S6 eS6 H locs hw => ?_)
        refine lv_aload_n hx hb dX11_fewestPayments_32 rfl (lv_at hl 0 rfl) ?_
        refine x_get (v := .ref (α 43)) (C := RX11) (T := TX11) (N := 24) hx hb hts (fun _ h => List.mem_cons_of_mem _ (List.mem_append_right _ h)) hown hK hw 30 (Nat.lt_of_lt_of_le (Nat.le_of_ble_eq_true rfl : 30 < 191) hn) (mk_30 cA α) rfl 23 (by decide) (hts _ (List.mem_of_getElem? (i := 4) rfl)) (fun _ h9 => h9) rfl dX11_fewestPayments_33 ?_
        refine lv_iload_n hx hb dX11_fewestPayments_36 rfl (lv_at hl 3 rfl) ?_
        refine lv_iconst (v := nI 0) hx hb dX11_fewestPayments_37 (by decide) ?_
        refine x_iast (x := nI 0) hx hb hK hw 43 64 (Nat.lt_of_lt_of_le (Nat.le_of_ble_eq_true rfl : 43 < 191) hn) (mk_43 cA α) k rfl (by omega) (by decide) dX11_fewestPayments_38 (fun S7 eS7 H locs hw => ?_)
        refine lv_iinc (v := nI (k + 1)) (lv' := [(3, .int (nI (k + 1))), (0, .ref (α 30)), (1, .int (nI ((2 ^ Cn) - 1))), (2, .int (nI 0))]) hx hb dX11_fewestPayments_39 hl (k := 3) rfl (nI_1 _) (by decide) rfl (fun ls hl => ?_)
        refine lv_goto (tgt := 20) hx hb dX11_fewestPayments_42 (by decide) ?_
        exact ih20 (k + 1) S7 _ _ _ (by omega) (by omega) (by subst eS7; subst eS6; rw [rF0, ← hT]) hw (lv_sub hl [1, 2, 3, 0] rfl)
  exact lp20 _ 0 S1 _ _ _ (Nat.lt_succ_self _) (Nat.zero_le _) (by subst eS1; rfl) hw (lv_sub hl [3, 2, 1, 0] rfl)
