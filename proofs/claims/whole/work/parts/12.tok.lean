/-! the reader of the class: tokens -/
def inR (lo hi x : Int32) : Bool := !decide (x < lo) && !decide (hi < x)
def isWh (x : Int32) : Bool := decide (x = nI 32) || decide (x = nI 10)
/-- how far from p on all are so, below n -/
def farF (q : Int32 → Bool) (f : Nat → Int32) (n : Nat) : Nat → Nat → Nat
  | 0, p => p
  | k + 1, p => if q (f p) then farF q f n k (p + 1) else p
def far (q : Int32 → Bool) (f : Nat → Int32) (n p : Nat) : Nat := farF q f n (n - p) p
theorem far_go {q : Int32 → Bool} {f : Nat → Int32} {n p : Nat} (h : p < n) (hq : q (f p) = true) : far q f n p = far q f n (p + 1) := by
  unfold far
  rw [show n - p = (n - (p + 1)) + 1 by omega, farF, if_pos hq]
theorem far_no {q : Int32 → Bool} {f : Nat → Int32} {n p : Nat} (hq : q (f p) = false) : far q f n p = p := by
  unfold far
  cases n - p with
  | zero => rfl
  | succ k => rw [farF, if_neg (by rw [hq]; decide)]
theorem far_end {q : Int32 → Bool} {f : Nat → Int32} {n p : Nat} (h : n ≤ p) : far q f n p = p := by
  unfold far
  rw [show n - p = 0 by omega]; rfl
theorem far_le {q : Int32 → Bool} {f : Nat → Int32} {n : Nat} : ∀ (k p : Nat), n - p = k → p ≤ n → p ≤ far q f n p ∧ far q f n p ≤ n
  | 0, p, h, h2 => by rw [far_end (by omega)]; omega
  | k + 1, p, h, h2 => by
    cases hq : q (f p) with
    | true =>
      rw [far_go (by omega) hq]
      have := far_le (q := q) (f := f) k (p + 1) (by omega) (by omega)
      omega
    | false => rw [far_no hq]; omega
theorem setI_same (S : Mem) {q j : Nat} {x : Int32} (h : S.1 q j = x) : setI S q j x = S := by
  unfold setI
  have : upd (S.1 q) j x = S.1 q := by
    funext z
    unfold upd
    split
    · rename_i e; rw [e, h]
    · rfl
  rw [this, setR_same]
theorem setI_twice (S : Mem) (q j : Nat) (x y : Int32) : setI (setI S q j x) q j y = setI S q j y := by
  rw [show setI S q j x = setR S q (upd (S.1 q) j x) from rfl, setI_setR]
  unfold setI
  congr 1
  funext z
  unfold upd
  split <;> rfl
theorem setI_R (S : Mem) (q j : Nat) (x : Int32) : setI S q j x = setR S q (upd (S.1 q) j x) := rfl
theorem setR_x {S : Mem} {q : Nat} {f g : Nat → Int32} (h : ∀ k, f k = g k) : setR S q f = setR S q g := by rw [funext h]
def tkF (g : Nat → Int32) (s e k : Int32) : Nat → Int32 := fun j => if j = 4 then k else if j = 5 then s else if j = 6 then e else g j
abbrev tS (f : Nat → Int32) (n p : Nat) : Nat := far isWh f n p
def tE (f : Nat → Int32) (n p : Nat) : Nat := if n ≤ tS f n p then tS f n p else if inR (nI 97) (nI 122) (f (tS f n p)) then far (inR (nI 97) (nI 122)) f n (tS f n p + 1) else if inR (nI 48) (nI 57) (f (tS f n p)) then far (inR (nI 48) (nI 57)) f n (tS f n p + 1) else tS f n p + 1
def tK (f : Nat → Int32) (n p : Nat) : Nat := if n ≤ tS f n p then 0 else if inR (nI 97) (nI 122) (f (tS f n p)) then (if 9 < tE f n p - tS f n p then 4 else 1) else if inR (nI 48) (nI 57) (f (tS f n p)) then (if 4 < tE f n p - tS f n p then 4 else 2) else if f (tS f n p) = nI 59 then 3 else 4
def tkC (S : Mem) (n p : Nat) : Mem := setR S 1 (tkF (S.1 1) (nI (tS (S.1 2) n p)) (nI (tE (S.1 2) n p)) (nI (tK (S.1 2) n p)))

set_option maxRecDepth 100000 in
set_option maxHeartbeats 4000000 in
theorem ct_X3_refuse (l : Launch) (D : va_G) (cA : Nat → ClassId) (α : Nat → Nat) (n sz : Nat) (hn : 191 ≤ n) (S : Mem) (x : Int32) : CtV l yX3_refuse wsX3_refuse ({ frames := 0, cells := 0, slots := 0, locals := 0 }) D cA α n sz [.ref (α 1), .int x] S (setI S 1 7 ((-2) - (nI 8 * S.1 1 5 + x))) := by
  refine ct_enter cX3_refuse 2 none (by decide) rfl (Nat.le_of_ble_eq_true rfl) ?_
  intro p e s m below meth c hx hb hr hml hlocks hown hts hK hsz hw ls hl
  have hown : s.vm.findClass RX3 = some m.cls := hown
  have hAw : ∀ z, Aw α n s.heap.size z → Aw α n sz z := by rw [hsz]; exact fun _ h => h
  have hl : lv_has ls 2 [(0, .ref (α 1)), (1, .int x)] := hl
  refine lv_aload_n hx hb dX3_refuse_0 rfl (lv_at hl 0 rfl) ?_
  refine lv_bipush (v := (-2)) hx hb dX3_refuse_1 (by decide) ?_
  refine lv_bipush (v := nI 8) hx hb dX3_refuse_3 (by decide) ?_
  refine lv_aload_n hx hb dX3_refuse_5 rfl (lv_at hl 0 rfl) ?_
  refine x_get (v := .int (S.1 1 5)) (C := RX3) (T := TX3) (N := 11) hx hb hts (fun _ h => List.mem_cons_of_mem _ (List.mem_append_right _ h)) hown hK hw 1 (Nat.lt_of_lt_of_le (Nat.le_of_ble_eq_true rfl : 1 < 191) hn) (mk_1 cA α) rfl 5 (by decide) (hts _ (List.mem_of_getElem? (i := 1) rfl)) (fun _ h9 => h9) rfl dX3_refuse_6 ?_
  refine lv_imul hx hb dX3_refuse_9 ?_
  refine lv_iload_n hx hb dX3_refuse_10 rfl (lv_at hl 1 rfl) ?_
  refine lv_iadd hx hb dX3_refuse_11 ?_
  refine lv_isub hx hb dX3_refuse_12 ?_
  refine x_putI (x := (-2) - (((nI 8) * (S.1 1 5)) + x)) (ty := .int) (C := RX3) (T := TX3) (N := 11) hx hb hts (fun _ h => List.mem_cons_of_mem _ (List.mem_append_right _ h)) tyX3 tyX3_ok nmX3 hown hK hw 1 (Nat.lt_of_lt_of_le (Nat.le_of_ble_eq_true rfl : 1 < 191) hn) (mk_1 cA α) rfl 7 (by decide) (hts _ (List.mem_of_getElem? (i := 2) rfl)) (fun _ h9 => h9) rfl rfl rfl rfl (Nat.le_of_ble_eq_true rfl) rfl dX3_refuse_13 (fun S1 eS1 H locs hw => ?_)
  exact ret_v hx hb hr hlocks hK hw dX3_refuse_16 (by subst_vars; rfl)

set_option maxRecDepth 100000 in
set_option maxHeartbeats 4000000 in
theorem ct_X3_passRun (l : Launch) (D : va_G) (cA : Nat → ClassId) (α : Nat → Nat) (n sz : Nat) (hn : 191 ≤ n) (S : Mem) (lo hi : Int32) (n9 p9 : Nat) (he : S.1 1 3 = nI n9) (he2 : n9 ≤ 600) (hp : S.1 1 6 = nI p9) (hp2 : p9 ≤ n9) : CtV l yX3_passRun wsX3_passRun ({ frames := 0, cells := 0, slots := 0, locals := 0 }) D cA α n sz [.ref (α 1), .int lo, .int hi] S (setI S 1 6 (nI (far (inR lo hi) (S.1 2) n9 p9))) := by
  refine ct_enter cX3_passRun 3 none (by decide) rfl (Nat.le_of_ble_eq_true rfl) ?_
  intro p e s m below meth c hx hb hr hml hlocks hown hts hK hsz hw ls hl
  have hown : s.vm.findClass RX3 = some m.cls := hown
  have hAw : ∀ z, Aw α n s.heap.size z → Aw α n sz z := by rw [hsz]; exact fun _ h => h
  have hl : lv_has ls 3 [(0, .ref (α 1)), (1, .int lo), (2, .int hi)] := hl
  have lp0 : ∀ (t : Nat) (q : Nat) (T : Mem) (H : Heap) (locs : List Loc) (ls : Array Slot), n9 - q < t → q ≤ n9 → far (inR lo hi) (S.1 2) n9 p9 = far (inR lo hi) (S.1 2) n9 q → T = setI S 1 6 (nI q) → Ws D cA α n (Aw α n sz) s.heap T H locs → lv_has ls 3 [(0, .ref (α 1)), (1, .int lo), (2, .int hi)] → W p l e ({ frames := 0, cells := 0, slots := 0, locals := 0 } : Room) s m (List.toArray ([.ref (α 1), .int lo, .int hi] : List Value)) below meth c H locs 0 0 (MQ below (va_Qv (fun u => u = (setI S 1 6 (nI (far (inR lo hi) (S.1 2) n9 p9)))) (Pw D cA α n) (Aw α n sz)) (List.toArray ([.ref (α 1), .int lo, .int hi] : List Value)) s 0 0 (Aw α n sz)) (F0 m 0 ls []) := by
    intro t
    induction t with
    | zero => intro q T H locs ls ht; exact absurd ht (Nat.not_lt_zero _)
    | succ t ih0 =>
      intro q T H locs ls ht hq hf9 hT hw hl
      refine lv_aload_n hx hb dX3_passRun_0 rfl (lv_at hl 0 rfl) ?_
      refine x_get (v := .int (T.1 1 6)) (C := RX3) (T := TX3) (N := 11) hx hb hts (fun _ h => List.mem_cons_of_mem _ (List.mem_append_right _ h)) hown hK hw 1 (Nat.lt_of_lt_of_le (Nat.le_of_ble_eq_true rfl : 1 < 191) hn) (mk_1 cA α) rfl 6 (by decide) (hts _ (List.mem_of_getElem? (i := 1) rfl)) (fun _ h9 => h9) rfl dX3_passRun_1 ?_
      refine x_topN (k := q) (by rw [hT, sI_e]; exact pk_us) ?_
      refine lv_aload_n hx hb dX3_passRun_4 rfl (lv_at hl 0 rfl) ?_
      refine x_get (v := .int (T.1 1 3)) (C := RX3) (T := TX3) (N := 11) hx hb hts (fun _ h => List.mem_cons_of_mem _ (List.mem_append_right _ h)) hown hK hw 1 (Nat.lt_of_lt_of_le (Nat.le_of_ble_eq_true rfl : 1 < 191) hn) (mk_1 cA α) rfl 3 (by decide) (hts _ (List.mem_of_getElem? (i := 2) rfl)) (fun _ h9 => h9) rfl dX3_passRun_5 ?_
      refine x_topN (k := n9) (by rw [hT, sI_e, pk_un (by decide)]; exact he) ?_
      refine xn_icmp_ge (tgt := 50) hx hb (by omega) (by omega) dX3_passRun_8 (by decide) (fun c1 => ?_) (fun c1 => ?_)
      · skip
        exact ret_v hx hb hr hlocks hK hw dX3_passRun_50 (by rw [hf9, hT]; first | rw [far_end (by omega)] | rw [far_no (by simp only [inR, if_pos c1, if_neg (not_not_intro c1), decide_eq_true c1, if_true, if_false, eq_self, Bool.false_eq_true, not_true_eq_false, not_false_eq_true, decide_true, decide_false, Bool.and_true, Bool.true_and, Bool.and_false, Bool.false_and, Bool.not_true, Bool.not_false, Bool.or_true, Bool.true_or, Bool.or_false, Bool.false_or, reduceIte, b2i_t, b2i_f])])
      · skip
        refine lv_aload_n hx hb dX3_passRun_11 rfl (lv_at hl 0 rfl) ?_
        refine x_get (v := .ref (α 2)) (C := RX3) (T := TX3) (N := 11) hx hb hts (fun _ h => List.mem_cons_of_mem _ (List.mem_append_right _ h)) hown hK hw 1 (Nat.lt_of_lt_of_le (Nat.le_of_ble_eq_true rfl : 1 < 191) hn) (mk_1 cA α) rfl 2 (by decide) (hts _ (List.mem_of_getElem? (i := 3) rfl)) (fun _ h9 => h9) rfl dX3_passRun_12 ?_
        refine lv_aload_n hx hb dX3_passRun_15 rfl (lv_at hl 0 rfl) ?_
        refine x_get (v := .int (T.1 1 6)) (C := RX3) (T := TX3) (N := 11) hx hb hts (fun _ h => List.mem_cons_of_mem _ (List.mem_append_right _ h)) hown hK hw 1 (Nat.lt_of_lt_of_le (Nat.le_of_ble_eq_true rfl : 1 < 191) hn) (mk_1 cA α) rfl 6 (by decide) (hts _ (List.mem_of_getElem? (i := 1) rfl)) (fun _ h9 => h9) rfl dX3_passRun_16 ?_
        refine x_topN (k := q) (by rw [hT, sI_e]; exact pk_us) ?_
        refine x_bald hx hb hK hw 2 600 (Nat.lt_of_lt_of_le (Nat.le_of_ble_eq_true rfl : 2 < 191) hn) (mk_2 cA α) q rfl (by omega) (by decide) dX3_passRun_19 ?_
        refine x_topE (y := S.1 2 q) (by rw [hT, sI_1 (by decide)]) ?_
        refine lv_iload_n hx hb dX3_passRun_20 rfl (lv_at hl 1 rfl) ?_
        refine lv_icmp_lt (tgt := 50) hx hb dX3_passRun_21 (by decide) (fun c2 => ?_) (fun c2 => ?_)
        · skip
          exact ret_v hx hb hr hlocks hK hw dX3_passRun_50 (by rw [hf9, hT]; first | rw [far_end (by omega)] | rw [far_no (by simp only [inR, if_pos c1, if_neg (not_not_intro c1), decide_eq_true c1, if_pos c2, if_neg (not_not_intro c2), decide_eq_true c2, if_true, if_false, eq_self, Bool.false_eq_true, not_true_eq_false, not_false_eq_true, decide_true, decide_false, Bool.and_true, Bool.true_and, Bool.and_false, Bool.false_and, Bool.not_true, Bool.not_false, Bool.or_true, Bool.true_or, Bool.or_false, Bool.false_or, reduceIte, b2i_t, b2i_f])])
        · skip
          refine lv_aload_n hx hb dX3_passRun_24 rfl (lv_at hl 0 rfl) ?_
          refine x_get (v := .ref (α 2)) (C := RX3) (T := TX3) (N := 11) hx hb hts (fun _ h => List.mem_cons_of_mem _ (List.mem_append_right _ h)) hown hK hw 1 (Nat.lt_of_lt_of_le (Nat.le_of_ble_eq_true rfl : 1 < 191) hn) (mk_1 cA α) rfl 2 (by decide) (hts _ (List.mem_of_getElem? (i := 3) rfl)) (fun _ h9 => h9) rfl dX3_passRun_25 ?_
          refine lv_aload_n hx hb dX3_passRun_28 rfl (lv_at hl 0 rfl) ?_
          refine x_get (v := .int (T.1 1 6)) (C := RX3) (T := TX3) (N := 11) hx hb hts (fun _ h => List.mem_cons_of_mem _ (List.mem_append_right _ h)) hown hK hw 1 (Nat.lt_of_lt_of_le (Nat.le_of_ble_eq_true rfl : 1 < 191) hn) (mk_1 cA α) rfl 6 (by decide) (hts _ (List.mem_of_getElem? (i := 1) rfl)) (fun _ h9 => h9) rfl dX3_passRun_29 ?_
          refine x_topN (k := q) (by rw [hT, sI_e]; exact pk_us) ?_
          refine x_bald hx hb hK hw 2 600 (Nat.lt_of_lt_of_le (Nat.le_of_ble_eq_true rfl : 2 < 191) hn) (mk_2 cA α) q rfl (by omega) (by decide) dX3_passRun_32 ?_
          refine x_topE (y := S.1 2 q) (by rw [hT, sI_1 (by decide)]) ?_
          refine lv_iload_n hx hb dX3_passRun_33 rfl (lv_at hl 2 rfl) ?_
          refine lv_icmp_gt (tgt := 50) hx hb dX3_passRun_34 (by decide) (fun c3 => ?_) (fun c3 => ?_)
          · skip
            exact ret_v hx hb hr hlocks hK hw dX3_passRun_50 (by rw [hf9, hT]; first | rw [far_end (by omega)] | rw [far_no (by simp only [inR, if_pos c1, if_neg (not_not_intro c1), decide_eq_true c1, if_neg c2, if_pos c2, decide_eq_false c2, if_pos c3, if_neg (not_not_intro c3), decide_eq_true c3, if_true, if_false, eq_self, Bool.false_eq_true, not_true_eq_false, not_false_eq_true, decide_true, decide_false, Bool.and_true, Bool.true_and, Bool.and_false, Bool.false_and, Bool.not_true, Bool.not_false, Bool.or_true, Bool.true_or, Bool.or_false, Bool.false_or, reduceIte, b2i_t, b2i_f])])
          · skip
            refine lv_aload_n hx hb dX3_passRun_37 rfl (lv_at hl 0 rfl) ?_
            refine lv_dup hx hb dX3_passRun_38 rfl ?_
            refine x_get (v := .int (T.1 1 6)) (C := RX3) (T := TX3) (N := 11) hx hb hts (fun _ h => List.mem_cons_of_mem _ (List.mem_append_right _ h)) hown hK hw 1 (Nat.lt_of_lt_of_le (Nat.le_of_ble_eq_true rfl : 1 < 191) hn) (mk_1 cA α) rfl 6 (by decide) (hts _ (List.mem_of_getElem? (i := 1) rfl)) (fun _ h9 => h9) rfl dX3_passRun_39 ?_
            refine x_topN (k := q) (by rw [hT, sI_e]; exact pk_us) ?_
            refine lv_iconst (v := nI 1) hx hb dX3_passRun_42 (by decide) ?_
            refine xn_iadd hx hb dX3_passRun_43 ?_
            refine x_putI (x := nI (q + 1)) (ty := .int) (C := RX3) (T := TX3) (N := 11) hx hb hts (fun _ h => List.mem_cons_of_mem _ (List.mem_append_right _ h)) tyX3 tyX3_ok nmX3 hown hK hw 1 (Nat.lt_of_lt_of_le (Nat.le_of_ble_eq_true rfl : 1 < 191) hn) (mk_1 cA α) rfl 6 (by decide) (hts _ (List.mem_of_getElem? (i := 1) rfl)) (fun _ h9 => h9) rfl rfl rfl rfl (Nat.le_of_ble_eq_true rfl) rfl dX3_passRun_44 (fun S1 eS1 H locs hw => ?_)
            refine lv_goto (tgt := 0) hx hb dX3_passRun_47 (by decide) ?_
            exact ih0 (q + 1) S1 _ _ _ (by omega) (by omega) (by rw [hf9]; exact far_go (by omega) (by simp only [inR, if_pos c1, if_neg (not_not_intro c1), decide_eq_true c1, if_neg c2, if_pos c2, decide_eq_false c2, if_neg c3, if_pos c3, decide_eq_false c3, if_true, if_false, eq_self, Bool.false_eq_true, not_true_eq_false, not_false_eq_true, decide_true, decide_false, Bool.and_true, Bool.true_and, Bool.and_false, Bool.false_and, Bool.not_true, Bool.not_false, Bool.or_true, Bool.true_or, Bool.or_false, Bool.false_or, reduceIte, b2i_t, b2i_f])) (by subst_vars; rw [setI_twice]) hw (lv_sub hl [0, 1, 2] rfl)
  exact lp0 _ p9 S _ _ _ (Nat.lt_succ_self _) hp2 rfl (setI_same S hp).symm hw (lv_sub hl [0, 1, 2] rfl)
