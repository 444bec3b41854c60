/-! the reference's tokens -/
def byt (x : Int32) : Prop := ∃ i, i < 256 ∧ x = nI i - nI 128
def okB (S : Mem) : Prop := ∀ k, k < 600 → byt (S.1 31 k)
def rBy (f : Nat → Int32) (n k : Nat) : Int32 := if n ≤ k then -1 else f k &&& nI 255
theorem by_32 : ∀ i, i < 256 → ((nI i - nI 128) &&& nI 255 = nI 32 → nI i - nI 128 = nI 32) := by decide +kernel
theorem by_10 : ∀ i, i < 256 → ((nI i - nI 128) &&& nI 255 = nI 10 → nI i - nI 128 = nI 10) := by decide +kernel
theorem by_32' : nI 32 &&& nI 255 = nI 32 := by decide +kernel
theorem by_10' : nI 10 &&& nI 255 = nI 10 := by decide +kernel
theorem by_m1 : ∀ i, i < 256 → ¬ ((nI i - nI 128) &&& nI 255 = -1) := by decide +kernel
theorem by_59 : ∀ i, i < 256 → (((nI i - nI 128) &&& nI 255 = nI 59) ↔ (nI i - nI 128 = nI 59)) := by decide +kernel
theorem by_az : ∀ i, i < 256 → wiL ((nI i - nI 128) &&& nI 255).toInt64 97 122 = inR (nI 97) (nI 122) (nI i - nI 128) := by decide +kernel
theorem by_09 : ∀ i, i < 256 → wiL ((nI i - nI 128) &&& nI 255).toInt64 48 57 = inR (nI 48) (nI 57) (nI i - nI 128) := by decide +kernel
theorem by_n1 : wiL (-1 : Int32).toInt64 97 122 = false ∧ wiL (-1 : Int32).toInt64 48 57 = false := by decide +kernel
theorem rBy_go {f : Nat → Int32} {n q : Nat} (hb : ∀ k, k < 600 → byt (f k)) (hn : n ≤ 600) (h : rBy f n q = nI 32 ∨ rBy f n q = nI 10) : q < n ∧ isWh (f q) = true := by
  unfold rBy at h
  by_cases e : n ≤ q
  · rw [if_pos e] at h
    rcases h with h | h <;> exact absurd h (by decide)
  · rw [if_neg e] at h
    obtain ⟨i, hi, hx⟩ := hb q (by omega)
    refine ⟨by omega, ?_⟩
    unfold isWh
    rw [hx] at h ⊢
    rcases h with h | h
    · rw [by_32 i hi h]; decide
    · rw [by_10 i hi h]; decide
theorem rBy_far {f : Nat → Int32} {n q : Nat} (h1 : ¬ rBy f n q = nI 32) (h2 : ¬ rBy f n q = nI 10) : far isWh f n q = q := by
  by_cases e : n ≤ q
  · exact far_end e
  · unfold rBy at h1 h2
    rw [if_neg e] at h1 h2
    refine far_no ?_
    unfold isWh
    rw [decide_eq_false (fun z => h1 (by rw [z]; exact by_32')), decide_eq_false (fun z => h2 (by rw [z]; exact by_10'))]
    rfl
theorem rBy_m1 {f : Nat → Int32} {n q : Nat} (hb : ∀ k, k < 600 → byt (f k)) (hn : n ≤ 600) (h : rBy f n q = -1) : n ≤ q := by
  unfold rBy at h
  by_cases e : n ≤ q
  · exact e
  · rw [if_neg e] at h
    obtain ⟨i, hi, hx⟩ := hb q (by omega)
    rw [hx] at h
    exact absurd h (by_m1 i hi)
theorem rBy_lt {f : Nat → Int32} {n q : Nat} (h : ¬ rBy f n q = -1) : q < n := by
  refine Nat.lt_of_not_le (fun e => h ?_)
  unfold rBy; rw [if_pos e]
theorem rBy_az {f : Nat → Int32} {n q : Nat} (hb : ∀ k, k < 600 → byt (f k)) (hn : n ≤ 600) : wiL (rBy f n q).toInt64 97 122 = (decide (q < n) && inR (nI 97) (nI 122) (f q)) := by
  unfold rBy
  by_cases e : n ≤ q
  · rw [if_pos e, by_n1.1, decide_eq_false (by omega)]; rfl
  · rw [if_neg e, decide_eq_true (by omega)]
    obtain ⟨i, hi, hx⟩ := hb q (by omega)
    rw [hx, by_az i hi, Bool.true_and]
theorem rBy_09 {f : Nat → Int32} {n q : Nat} (hb : ∀ k, k < 600 → byt (f k)) (hn : n ≤ 600) : wiL (rBy f n q).toInt64 48 57 = (decide (q < n) && inR (nI 48) (nI 57) (f q)) := by
  unfold rBy
  by_cases e : n ≤ q
  · rw [if_pos e, by_n1.2, decide_eq_false (by omega)]; rfl
  · rw [if_neg e, decide_eq_true (by omega)]
    obtain ⟨i, hi, hx⟩ := hb q (by omega)
    rw [hx, by_09 i hi, Bool.true_and]
theorem rBy_59 {f : Nat → Int32} {n q : Nat} (hb : ∀ k, k < 600 → byt (f k)) (hn : n ≤ 600) (h : q < n) : (rBy f n q = nI 59) ↔ f q = nI 59 := by
  unfold rBy
  rw [if_neg (by omega)]
  obtain ⟨i, hi, hx⟩ := hb q (by omega)
  rw [hx]; exact by_59 i hi
theorem far_x {q : Int32 → Bool} {f : Nat → Int32} {n e : Nat} (h : (decide (e < n) && q (f e)) = false) : far q f n e = e := by
  by_cases h2 : e < n
  · rw [decide_eq_true h2, Bool.true_and] at h; exact far_no h
  · exact far_end (by omega)
def nmb (f : Nat → Int32) (s : Nat) : Nat → Int32
  | 0 => nI 0
  | k + 1 => if k < 4 then nI 10 * nmb f s k + (f (s + k) &&& nI 255) - nI 48 else nmb f s k
def rkF (g : Nat → Int32) (s e k m : Int32) : Nat → Int32 := fun j => if j = 4 then s else if j = 5 then e else if j = 6 then k else if j = 7 then m else g j
def tN (f : Nat → Int32) (n p : Nat) (old : Int32) : Int32 := if n ≤ tS f n p then old else if inR (nI 97) (nI 122) (f (tS f n p)) then old else if inR (nI 48) (nI 57) (f (tS f n p)) then nmb f (tS f n p) (tE f n p - tS f n p) else old
def rtC (S : Mem) (n p : Nat) : Mem := setR S 30 (rkF (S.1 30) (nI (tS (S.1 31) n p)) (nI (tE (S.1 31) n p)) (nI (tK (S.1 31) n p)) (tN (S.1 31) n p (S.1 30 7)))
theorem rk_0 (S : Mem) (x : Int32) : setI S 30 4 x = setR S 30 (rkF (S.1 30) x (S.1 30 5) (S.1 30 6) (S.1 30 7)) := by
  rw [setI_R]
  refine setR_x fun k => ?_
  unfold upd rkF
  by_cases h4 : k = 4
  · simp [h4]
  · by_cases h5 : k = 5
    · simp [h5]
    · by_cases h6 : k = 6
      · simp [h6]
      · by_cases h7 : k = 7
        · simp [h7]
        · simp [h4, h5, h6, h7]
theorem rk4 (S : Mem) (g : Nat → Int32) (s e k m x : Int32) : setI (setR S 30 (rkF g s e k m)) 30 4 x = setR S 30 (rkF g x e k m) := by
  rw [setI_setR]
  refine setR_x fun j => ?_
  unfold upd rkF
  by_cases h4 : j = 4 <;> simp [h4]
theorem rk5 (S : Mem) (g : Nat → Int32) (s e k m x : Int32) : setI (setR S 30 (rkF g s e k m)) 30 5 x = setR S 30 (rkF g s x k m) := by
  rw [setI_setR]
  refine setR_x fun j => ?_
  unfold upd rkF
  by_cases h5 : j = 5 <;> simp [h5]
theorem rk6 (S : Mem) (g : Nat → Int32) (s e k m x : Int32) : setI (setR S 30 (rkF g s e k m)) 30 6 x = setR S 30 (rkF g s e x m) := by
  rw [setI_setR]
  refine setR_x fun j => ?_
  unfold upd rkF
  by_cases h6 : j = 6 <;> simp [h6]
theorem rk7 (S : Mem) (g : Nat → Int32) (s e k m x : Int32) : setI (setR S 30 (rkF g s e k m)) 30 7 x = setR S 30 (rkF g s e k x) := by
  rw [setI_setR]
  refine setR_x fun j => ?_
  unfold upd rkF
  by_cases h7 : j = 7 <;> simp [h7]
theorem rt_end {S : Mem} {n p q : Nat} (hs : tS (S.1 31) n p = q) (h : n ≤ q) : setR S 30 (rkF (S.1 30) (nI q) (nI q) (nI 0) (S.1 30 7)) = rtC S n p := by
  subst hs
  unfold rtC
  rw [tE_end h, tK_end h]
  unfold tN
  rw [if_pos h]
theorem rt_w {S : Mem} {n p q e : Nat} {k : Int32} (hs : tS (S.1 31) n p = q) (h : q < n) (w : inR (nI 97) (nI 122) (S.1 31 q) = true) (he : far (inR (nI 97) (nI 122)) (S.1 31) n q = e) (hk : k = nI (if 9 < e - q then 4 else 1)) : setR S 30 (rkF (S.1 30) (nI q) (nI e) k (S.1 30 7)) = rtC S n p := by
  subst hs
  unfold rtC
  unfold tN
  rw [if_neg (Nat.not_le.mpr h), if_pos w, tK_w (by omega) w, tE_w (by omega) w, ← far_go h w, he, hk]
theorem rt_d {S : Mem} {n p q e : Nat} {k m : Int32} (hs : tS (S.1 31) n p = q) (h : q < n) (w0 : inR (nI 97) (nI 122) (S.1 31 q) = false) (w : inR (nI 48) (nI 57) (S.1 31 q) = true) (he : far (inR (nI 48) (nI 57)) (S.1 31) n q = e) (hk : k = nI (if 4 < e - q then 4 else 2)) (hm : m = nmb (S.1 31) q (e - q)) : setR S 30 (rkF (S.1 30) (nI q) (nI e) k m) = rtC S n p := by
  subst hs
  unfold rtC
  unfold tN
  rw [if_neg (by omega), if_neg (by rw [w0]; decide), if_pos w, tK_d (by omega) w0 w, tE_d (by omega) w0 w, ← far_go h w, he, hk, hm]
theorem rt_o {S : Mem} {n p q : Nat} {k : Int32} (hs : tS (S.1 31) n p = q) (h : q < n) (w0 : inR (nI 97) (nI 122) (S.1 31 q) = false) (w : inR (nI 48) (nI 57) (S.1 31 q) = false) (hk : k = nI (if S.1 31 q = nI 59 then 3 else 4)) : setR S 30 (rkF (S.1 30) (nI q) (nI (q + 1)) k (S.1 30 7)) = rtC S n p := by
  subst hs
  unfold rtC
  unfold tN
  rw [if_neg (by omega), if_neg (by rw [w0]; decide), if_neg (by rw [w]; decide), tK_o (by omega) w0 w, tE_o (by omega) w0 w, hk]

set_option maxRecDepth 100000 in
set_option maxHeartbeats 1000000 in
theorem ct_X11_byteAt (l : Launch) (D : va_G) (cA : Nat → ClassId) (α : Nat → Nat) (n sz : Nat) (hn : 191 ≤ n) (S : Mem) (k n9 : Nat) (hn9 : S.1 30 3 = nI n9) (h6 : n9 ≤ 600) (hk : k ≤ 600) : CtI l yX11_byteAt wsX11_byteAt ({ frames := 0, cells := 0, slots := 0, locals := 0 }) D cA α n sz [.ref (α 30), .int (nI k)] S (rBy (S.1 31) n9 k) S := by
  refine ct_enter cX11_byteAt 2 (some .int) (by decide) rfl (Nat.le_of_ble_eq_true rfl) ?_
  intro p e s m below meth c hx hb hr hml hlocks hown hts hK hsz hw ls hl
  have hown : s.vm.findClass RX11 = some m.cls := hown
  have hAw : ∀ z, Aw α n s.heap.size z → Aw α n sz z := by rw [hsz]; exact fun _ h => h
  have hl : lv_has ls 2 [(0, .ref (α 30)), (1, .int (nI k))] := hl
  refine lv_iload_n hx hb dX11_byteAt_0 rfl (lv_at hl 1 rfl) ?_
  refine lv_aload_n hx hb dX11_byteAt_1 rfl (lv_at hl 0 rfl) ?_
  refine x_get (v := .int (S.1 30 3)) (C := RX11) (T := TX11) (N := 24) hx hb hts (fun _ h => List.mem_cons_of_mem _ (List.mem_append_right _ h)) hown hK hw 30 (Nat.lt_of_lt_of_le (Nat.le_of_ble_eq_true rfl : 30 < 191) hn) (mk_30 cA α) rfl 3 (by decide) (hts _ (List.mem_of_getElem? (i := 1) rfl)) (fun _ h9 => h9) rfl dX11_byteAt_2 ?_
  refine x_topN (k := n9) hn9 ?_
  refine xn_icmp_ge (tgt := 21) hx hb (by omega) (by omega) dX11_byteAt_5 (by decide) (fun c1 => ?_) (fun c1 => ?_)
  · skip
    refine lv_iconst (v := (-1)) hx hb dX11_byteAt_21 (by decide) ?_
    exact ret_i hx hb hr hlocks hK hw dX11_byteAt_22 (by unfold rBy; first | rw [if_pos c1] | rw [if_neg (by omega)]) rfl
  · skip
    refine lv_aload_n hx hb dX11_byteAt_8 rfl (lv_at hl 0 rfl) ?_
    refine x_get (v := .ref (α 31)) (C := RX11) (T := TX11) (N := 24) hx hb hts (fun _ h => List.mem_cons_of_mem _ (List.mem_append_right _ h)) hown hK hw 30 (Nat.lt_of_lt_of_le (Nat.le_of_ble_eq_true rfl : 30 < 191) hn) (mk_30 cA α) rfl 1 (by decide) (hts _ (List.mem_of_getElem? (i := 2) rfl)) (fun _ h9 => h9) rfl dX11_byteAt_9 ?_
    refine lv_iload_n hx hb dX11_byteAt_12 rfl (lv_at hl 1 rfl) ?_
    refine x_bald hx hb hK hw 31 600 (Nat.lt_of_lt_of_le (Nat.le_of_ble_eq_true rfl : 31 < 191) hn) (mk_31 cA α) k rfl (by omega) (by decide) dX11_byteAt_13 ?_
    refine lv_sipush (v := nI 255) hx hb dX11_byteAt_14 (by decide) ?_
    refine lv_iand hx hb dX11_byteAt_17 ?_
    refine lv_goto (tgt := 22) hx hb dX11_byteAt_18 (by decide) ?_
    exact ret_i hx hb hr hlocks hK hw dX11_byteAt_22 (by unfold rBy; first | rw [if_pos c1] | rw [if_neg (by omega)]) rfl

set_option maxRecDepth 100000 in
set_option maxHeartbeats 1000000 in
theorem ct_X11_nextToken (l : Launch) (D : va_G) (cA : Nat → ClassId) (α : Nat → Nat) (n sz : Nat) (hn : 191 ≤ n) (S : Mem) (n9 p9 : Nat) (he : S.1 30 3 = nI n9) (he2 : n9 ≤ 600) (hp : S.1 30 5 = nI p9) (hp2 : p9 ≤ n9) (hby : okB S) : CtV l yX11_nextToken wsX11_nextToken ({ frames := 1, cells := 0, slots := 0, locals := 25 }) D cA α n sz [.ref (α 30)] S (rtC S n9 p9) := by
  refine ct_enter cX11_nextToken 2 none (by decide) rfl (Nat.le_of_ble_eq_true rfl) ?_
  intro p e s m below meth c hx hb hr hml hlocks hown hts hK hsz hw ls hl
  have hown : s.vm.findClass RX11 = some m.cls := hown
  have hAw : ∀ z, Aw α n s.heap.size z → Aw α n sz z := by rw [hsz]; exact fun _ h => h
  have hl : lv_has ls 2 [(0, .ref (α 30))] := hl
  refine lv_aload_n hx hb dX11_nextToken_0 rfl (lv_at hl 0 rfl) ?_
  refine lv_aload_n hx hb dX11_nextToken_1 rfl (lv_at hl 0 rfl) ?_
  refine x_get (v := .int (S.1 30 5)) (C := RX11) (T := TX11) (N := 24) hx hb hts (fun _ h => List.mem_cons_of_mem _ (List.mem_append_right _ h)) hown hK hw 30 (Nat.lt_of_lt_of_le (Nat.le_of_ble_eq_true rfl : 30 < 191) hn) (mk_30 cA α) rfl 5 (by decide) (hts _ (List.mem_of_getElem? (i := 1) rfl)) (fun _ h9 => h9) rfl dX11_nextToken_2 ?_
  refine x_topN (k := p9) hp ?_
  refine x_putI (x := nI p9) (ty := .int) (C := RX11) (T := TX11) (N := 24) hx hb hts (fun _ h => List.mem_cons_of_mem _ (List.mem_append_right _ h)) tyX11 tyX11_ok nmX11 hown hK hw 30 (Nat.lt_of_lt_of_le (Nat.le_of_ble_eq_true rfl : 30 < 191) hn) (mk_30 cA α) rfl 4 (by decide) (hts _ (List.mem_of_getElem? (i := 2) rfl)) (fun _ h9 => h9) rfl rfl rfl rfl (Nat.le_of_ble_eq_true rfl) rfl dX11_nextToken_5 (fun S1 eS1 H locs hw => ?_)
  have eS1 : S1 = setR S 30 (rkF (S.1 30) (nI p9) (nI p9) (S.1 30 6) (S.1 30 7)) := by rw [eS1, rk_0, hp]
  have lp8 : ∀ (t : Nat) (q : Nat) (T : Mem) (H : Heap) (locs : List Loc) (ls : Array Slot), n9 - q < t → q ≤ n9 → far isWh (S.1 31) n9 p9 = far isWh (S.1 31) n9 q → T = setR S 30 (rkF (S.1 30) (nI q) (nI p9) (S.1 30 6) (S.1 30 7)) → Ws D cA α n (Aw α n sz) s.heap T H locs → lv_has ls 2 [(0, .ref (α 30))] → W p l e ({ frames := 1, cells := 0, slots := 0, locals := 25 } : Room) s m (List.toArray ([.ref (α 30)] : List Value)) below meth c H locs 0 0 (MQ below (va_Qv (fun u => u = (rtC S n9 p9)) (Pw D cA α n) (Aw α n sz)) (List.toArray ([.ref (α 30)] : List Value)) s 0 0 (Aw α n sz)) (F0 m 8 ls []) := by
    intro t
    induction t with
    | zero => intro q T H locs ls ht; exact absurd ht (Nat.not_lt_zero _)
    | succ t ih8 =>
      intro q T H locs ls ht hq hf9 hT hw hl
      refine lv_aload_n hx hb dX11_nextToken_8 rfl (lv_at hl 0 rfl) ?_
      refine lv_aload_n hx hb dX11_nextToken_9 rfl (lv_at hl 0 rfl) ?_
      refine x_get (v := .int (T.1 30 4)) (C := RX11) (T := TX11) (N := 24) hx hb hts (fun _ h => List.mem_cons_of_mem _ (List.mem_append_right _ h)) hown hK hw 30 (Nat.lt_of_lt_of_le (Nat.le_of_ble_eq_true rfl : 30 < 191) hn) (mk_30 cA α) rfl 4 (by decide) (hts _ (List.mem_of_getElem? (i := 2) rfl)) (fun _ h9 => h9) rfl dX11_nextToken_10 ?_
      refine x_topN (k := q) (by rw [hT, sR_e]; rfl) ?_
      refine x_callVIr (q := 30) (C := RX11) (As := [.int (nI q)]) (rest := []) ⟨hx, hb, hml, hown, hts⟩ (ct_X11_byteAt l D cA α n _ hn T q n9 (by rw [hT, sR_e]; exact he) he2 (by omega)) (cwV 1 hts gX11_nextToken_X11_byteAt rfl rfl rfl (by decide +kernel) ⟨Nat.le_of_ble_eq_true rfl, Nat.le_of_ble_eq_true rfl⟩) hK hw hAw (ws_recv hK hw (q := 30) (Nat.lt_of_lt_of_le (Nat.le_of_ble_eq_true rfl : 30 < 191) hn) (mk_30 cA α) rfl) rfl hl.1 rfl (Nat.le_of_ble_eq_true rfl) dX11_nextToken_13 ⟨Nat.zero_le _, Nat.zero_le _⟩ (fun H locs hw => ?_)
      refine x_topE (y := rBy (S.1 31) n9 q) (by rw [hT]; rfl) ?_
      refine lv_bipush (v := nI 32) hx hb dX11_nextToken_16 (by decide) ?_
      refine lv_icmp_eq (tgt := 34) hx hb dX11_nextToken_18 (by decide) (fun c1 => ?_) (fun c1 => ?_)
      · skip
        have hgo := rBy_go hby he2 (by first | exact Or.inl c1 | exact Or.inr c1)
        refine lv_aload_n hx hb dX11_nextToken_34 rfl (lv_at hl 0 rfl) ?_
        refine lv_dup hx hb dX11_nextToken_35 rfl ?_
        refine x_get (v := .int (T.1 30 4)) (C := RX11) (T := TX11) (N := 24) hx hb hts (fun _ h => List.mem_cons_of_mem _ (List.mem_append_right _ h)) hown hK hw 30 (Nat.lt_of_lt_of_le (Nat.le_of_ble_eq_true rfl : 30 < 191) hn) (mk_30 cA α) rfl 4 (by decide) (hts _ (List.mem_of_getElem? (i := 2) rfl)) (fun _ h9 => h9) rfl dX11_nextToken_36 ?_
        refine x_topN (k := q) (by rw [hT, sR_e]; rfl) ?_
        refine lv_iconst (v := nI 1) hx hb dX11_nextToken_39 (by decide) ?_
        refine xn_iadd hx hb dX11_nextToken_40 ?_
        refine x_putI (x := nI (q + 1)) (ty := .int) (C := RX11) (T := TX11) (N := 24) hx hb hts (fun _ h => List.mem_cons_of_mem _ (List.mem_append_right _ h)) tyX11 tyX11_ok nmX11 hown hK hw 30 (Nat.lt_of_lt_of_le (Nat.le_of_ble_eq_true rfl : 30 < 191) hn) (mk_30 cA α) rfl 4 (by decide) (hts _ (List.mem_of_getElem? (i := 2) rfl)) (fun _ h9 => h9) rfl rfl rfl rfl (Nat.le_of_ble_eq_true rfl) rfl dX11_nextToken_41 (fun S2 eS2 H locs hw => ?_)
        refine lv_goto (tgt := 8) hx hb dX11_nextToken_44 (by decide) ?_
        exact ih8 (q + 1) S2 _ _ _ (by have := hgo.1; omega) (by have := hgo.1; omega) (by rw [hf9]; exact far_go hgo.1 hgo.2) (by rw [eS2, hT, rk4]) hw (lv_sub hl [0] rfl)
      · skip
        refine lv_aload_n hx hb dX11_nextToken_21 rfl (lv_at hl 0 rfl) ?_
        refine lv_aload_n hx hb dX11_nextToken_22 rfl (lv_at hl 0 rfl) ?_
        refine x_get (v := .int (T.1 30 4)) (C := RX11) (T := TX11) (N := 24) hx hb hts (fun _ h => List.mem_cons_of_mem _ (List.mem_append_right _ h)) hown hK hw 30 (Nat.lt_of_lt_of_le (Nat.le_of_ble_eq_true rfl : 30 < 191) hn) (mk_30 cA α) rfl 4 (by decide) (hts _ (List.mem_of_getElem? (i := 2) rfl)) (fun _ h9 => h9) rfl dX11_nextToken_23 ?_
        refine x_topN (k := q) (by rw [hT, sR_e]; rfl) ?_
        refine x_callVIr (q := 30) (C := RX11) (As := [.int (nI q)]) (rest := []) ⟨hx, hb, hml, hown, hts⟩ (ct_X11_byteAt l D cA α n _ hn T q n9 (by rw [hT, sR_e]; exact he) he2 (by omega)) (cwV 1 hts gX11_nextToken_X11_byteAt rfl rfl rfl (by decide +kernel) ⟨Nat.le_of_ble_eq_true rfl, Nat.le_of_ble_eq_true rfl⟩) hK hw hAw (ws_recv hK hw (q := 30) (Nat.lt_of_lt_of_le (Nat.le_of_ble_eq_true rfl : 30 < 191) hn) (mk_30 cA α) rfl) rfl hl.1 rfl (Nat.le_of_ble_eq_true rfl) dX11_nextToken_26 ⟨Nat.zero_le _, Nat.zero_le _⟩ (fun H locs hw => ?_)
        refine x_topE (y := rBy (S.1 31) n9 q) (by rw [hT]; rfl) ?_
        refine lv_bipush (v := nI 10) hx hb dX11_nextToken_29 (by decide) ?_
        refine lv_icmp_ne (tgt := 47) hx hb dX11_nextToken_31 (by decide) (fun c2 => ?_) (fun c2 => ?_)
        · skip
          have hs9 : tS (S.1 31) n9 p9 = q := by rw [show tS (S.1 31) n9 p9 = far isWh (S.1 31) n9 p9 from rfl, hf9]; exact rBy_far c1 c2
          refine lv_aload_n hx hb dX11_nextToken_47 rfl (lv_at hl 0 rfl) ?_
          refine lv_aload_n hx hb dX11_nextToken_48 rfl (lv_at hl 0 rfl) ?_
          refine x_get (v := .int (T.1 30 4)) (C := RX11) (T := TX11) (N := 24) hx hb hts (fun _ h => List.mem_cons_of_mem _ (List.mem_append_right _ h)) hown hK hw 30 (Nat.lt_of_lt_of_le (Nat.le_of_ble_eq_true rfl : 30 < 191) hn) (mk_30 cA α) rfl 4 (by decide) (hts _ (List.mem_of_getElem? (i := 2) rfl)) (fun _ h9 => h9) rfl dX11_nextToken_49 ?_
          refine x_topN (k := q) (by rw [hT, sR_e]; rfl) ?_
          refine x_callVIr (q := 30) (C := RX11) (As := [.int (nI q)]) (rest := []) ⟨hx, hb, hml, hown, hts⟩ (ct_X11_byteAt l D cA α n _ hn T q n9 (by rw [hT, sR_e]; exact he) he2 (by omega)) (cwV 1 hts gX11_nextToken_X11_byteAt rfl rfl rfl (by decide +kernel) ⟨Nat.le_of_ble_eq_true rfl, Nat.le_of_ble_eq_true rfl⟩) hK hw hAw (ws_recv hK hw (q := 30) (Nat.lt_of_lt_of_le (Nat.le_of_ble_eq_true rfl : 30 < 191) hn) (mk_30 cA α) rfl) rfl hl.1 rfl (Nat.le_of_ble_eq_true rfl) dX11_nextToken_52 ⟨Nat.zero_le _, Nat.zero_le _⟩ (fun H locs hw => ?_)
          refine x_topE (y := rBy (S.1 31) n9 q) (by rw [hT]; rfl) ?_
          refine lv_istore_n (lv' := [(1, .int (rBy (S.1 31) n9 q)), (0, .ref (α 30))]) hx hb dX11_nextToken_55 rfl hl (by decide) rfl (fun ls hl => ?_)
          refine lv_aload_n hx hb dX11_nextToken_56 rfl (lv_at hl 1 rfl) ?_
          refine lv_aload_n hx hb dX11_nextToken_57 rfl (lv_at hl 1 rfl) ?_
          refine x_get (v := .int (T.1 30 4)) (C := RX11) (T := TX11) (N := 24) hx hb hts (fun _ h => List.mem_cons_of_mem _ (List.mem_append_right _ h)) hown hK hw 30 (Nat.lt_of_lt_of_le (Nat.le_of_ble_eq_true rfl : 30 < 191) hn) (mk_30 cA α) rfl 4 (by decide) (hts _ (List.mem_of_getElem? (i := 2) rfl)) (fun _ h9 => h9) rfl dX11_nextToken_58 ?_
          refine x_topN (k := q) (by rw [hT, sR_e]; rfl) ?_
          refine x_putI (x := nI q) (ty := .int) (C := RX11) (T := TX11) (N := 24) hx hb hts (fun _ h => List.mem_cons_of_mem _ (List.mem_append_right _ h)) tyX11 tyX11_ok nmX11 hown hK hw 30 (Nat.lt_of_lt_of_le (Nat.le_of_ble_eq_true rfl : 30 < 191) hn) (mk_30 cA α) rfl 5 (by decide) (hts _ (List.mem_of_getElem? (i := 1) rfl)) (fun _ h9 => h9) rfl rfl rfl rfl (Nat.le_of_ble_eq_true rfl) rfl dX11_nextToken_61 (fun S3 eS3 H locs hw => ?_)
          have eS3 : S3 = setR S 30 (rkF (S.1 30) (nI q) (nI q) (S.1 30 6) (S.1 30 7)) := by rw [eS3, hT, rk5]
          refine lv_aload_n hx hb dX11_nextToken_64 rfl (lv_at hl 1 rfl) ?_
          refine lv_iconst (v := nI 4) hx hb dX11_nextToken_65 (by decide) ?_
          refine x_putI (x := nI 4) (ty := .int) (C := RX11) (T := TX11) (N := 24) hx hb hts (fun _ h => List.mem_cons_of_mem _ (List.mem_append_right _ h)) tyX11 tyX11_ok nmX11 hown hK hw 30 (Nat.lt_of_lt_of_le (Nat.le_of_ble_eq_true rfl : 30 < 191) hn) (mk_30 cA α) rfl 6 (by decide) (hts _ (List.mem_of_getElem? (i := 3) rfl)) (fun _ h9 => h9) rfl rfl rfl rfl (Nat.le_of_ble_eq_true rfl) rfl dX11_nextToken_66 (fun S4 eS4 H locs hw => ?_)
          have eS4 : S4 = setR S 30 (rkF (S.1 30) (nI q) (nI q) (nI 4) (S.1 30 7)) := by rw [eS4, eS3, rk6]
          refine lv_iload_n hx hb dX11_nextToken_69 rfl (lv_at hl 0 rfl) ?_
          refine lv_iconst (v := (-1)) hx hb dX11_nextToken_70 (by decide) ?_
          refine lv_icmp_ne (tgt := 82) hx hb dX11_nextToken_71 (by decide) (fun c3 => ?_) (fun c3 => ?_)
          · skip
            have hlt : q < n9 := rBy_lt c3
            refine lv_iload_n hx hb dX11_nextToken_82 rfl (lv_at hl 0 rfl) ?_
            refine lv_i2l hx hb dX11_nextToken_83 rfl ?_
            refine lv_ldc2 (v := 97) hx hb hown (hts _ (List.mem_of_getElem? (i := 4) rfl)) dX11_nextToken_84 ?_
            refine lv_ldc2 (v := 122) hx hb hown (hts _ (List.mem_of_getElem? (i := 5) rfl)) dX11_nextToken_87 ?_
            refine x_callSIr (q := 0) (C := RX0) (As := [.long ((rBy (S.1 31) n9 q).toInt64), .long (97), .long (122)]) (rest := []) ⟨hx, hb, hml, hown, hts⟩ (ct_X11_within l D cA α n _ hn S4 ((rBy (S.1 31) n9 q).toInt64) (97) (122)) (va_cwS 3 hts gX11_nextToken_X11_within rfl rfl rfl (by decide +kernel) ⟨Nat.le_of_ble_eq_true rfl, Nat.le_of_ble_eq_true rfl⟩) hK hw hAw rfl hl.1 rfl (Nat.le_of_ble_eq_true rfl) dX11_nextToken_90 ⟨Nat.zero_le _, Nat.zero_le _⟩ (fun H locs hw => ?_)
            refine x_topE (y := b2i (inR (nI 97) (nI 122) (S.1 31 q))) (by rw [rBy_az hby he2, decide_eq_true hlt, Bool.true_and]) ?_
            refine xb_eq (b := (inR (nI 97) (nI 122) (S.1 31 q))) (tgt := 156) hx hb dX11_nextToken_93 (by decide) (fun c4 => ?_) (fun c4 => ?_)
            · skip
              have w0 := c4
              refine lv_iload_n hx hb dX11_nextToken_156 rfl (lv_at hl 0 rfl) ?_
              refine lv_i2l hx hb dX11_nextToken_157 rfl ?_
              refine lv_ldc2 (v := 48) hx hb hown (hts _ (List.mem_of_getElem? (i := 6) rfl)) dX11_nextToken_158 ?_
              refine lv_ldc2 (v := 57) hx hb hown (hts _ (List.mem_of_getElem? (i := 7) rfl)) dX11_nextToken_161 ?_
              refine x_callSIr (q := 0) (C := RX0) (As := [.long ((rBy (S.1 31) n9 q).toInt64), .long (48), .long (57)]) (rest := []) ⟨hx, hb, hml, hown, hts⟩ (ct_X11_within l D cA α n _ hn S4 ((rBy (S.1 31) n9 q).toInt64) (48) (57)) (va_cwS 3 hts gX11_nextToken_X11_within rfl rfl rfl (by decide +kernel) ⟨Nat.le_of_ble_eq_true rfl, Nat.le_of_ble_eq_true rfl⟩) hK hw hAw rfl hl.1 rfl (Nat.le_of_ble_eq_true rfl) dX11_nextToken_164 ⟨Nat.zero_le _, Nat.zero_le _⟩ (fun H locs hw => ?_)
              refine x_topE (y := b2i (inR (nI 48) (nI 57) (S.1 31 q))) (by rw [rBy_09 hby he2, decide_eq_true hlt, Bool.true_and]) ?_
              refine xb_eq (b := (inR (nI 48) (nI 57) (S.1 31 q))) (tgt := 277) hx hb dX11_nextToken_167 (by decide) (fun c5 => ?_) (fun c5 => ?_)
              · skip
                have w2 := c5
                refine lv_aload_n hx hb dX11_nextToken_277 rfl (lv_at hl 1 rfl) ?_
                refine lv_dup hx hb dX11_nextToken_278 rfl ?_
                refine x_get (v := .int (S4.1 30 5)) (C := RX11) (T := TX11) (N := 24) hx hb hts (fun _ h => List.mem_cons_of_mem _ (List.mem_append_right _ h)) hown hK hw 30 (Nat.lt_of_lt_of_le (Nat.le_of_ble_eq_true rfl : 30 < 191) hn) (mk_30 cA α) rfl 5 (by decide) (hts _ (List.mem_of_getElem? (i := 1) rfl)) (fun _ h9 => h9) rfl dX11_nextToken_279 ?_
                refine x_topN (k := q) (by rw [eS4, sR_e]; rfl) ?_
                refine lv_iconst (v := nI 1) hx hb dX11_nextToken_282 (by decide) ?_
                refine xn_iadd hx hb dX11_nextToken_283 ?_
                refine x_putI (x := nI (q + 1)) (ty := .int) (C := RX11) (T := TX11) (N := 24) hx hb hts (fun _ h => List.mem_cons_of_mem _ (List.mem_append_right _ h)) tyX11 tyX11_ok nmX11 hown hK hw 30 (Nat.lt_of_lt_of_le (Nat.le_of_ble_eq_true rfl : 30 < 191) hn) (mk_30 cA α) rfl 5 (by decide) (hts _ (List.mem_of_getElem? (i := 1) rfl)) (fun _ h9 => h9) rfl rfl rfl rfl (Nat.le_of_ble_eq_true rfl) rfl dX11_nextToken_284 (fun S5 eS5 H locs hw => ?_)
                have eS5 : S5 = setR S 30 (rkF (S.1 30) (nI q) (nI (q + 1)) (nI 4) (S.1 30 7)) := by rw [eS5, eS4, rk5]
                refine lv_aload_n hx hb dX11_nextToken_287 rfl (lv_at hl 1 rfl) ?_
                refine lv_iload_n hx hb dX11_nextToken_288 rfl (lv_at hl 0 rfl) ?_
                refine lv_bipush (v := nI 59) hx hb dX11_nextToken_289 (by decide) ?_
                refine lv_icmp_ne (tgt := 298) hx hb dX11_nextToken_291 (by decide) (fun c6 => ?_) (fun c6 => ?_)
                · skip
                  refine lv_iconst (v := nI 4) hx hb dX11_nextToken_298 (by decide) ?_
                  refine x_putI (x := nI 4) (ty := .int) (C := RX11) (T := TX11) (N := 24) hx hb hts (fun _ h => List.mem_cons_of_mem _ (List.mem_append_right _ h)) tyX11 tyX11_ok nmX11 hown hK hw 30 (Nat.lt_of_lt_of_le (Nat.le_of_ble_eq_true rfl : 30 < 191) hn) (mk_30 cA α) rfl 6 (by decide) (hts _ (List.mem_of_getElem? (i := 3) rfl)) (fun _ h9 => h9) rfl rfl rfl rfl (Nat.le_of_ble_eq_true rfl) rfl dX11_nextToken_299 (fun S6 eS6 H locs hw => ?_)
                  have eS6 : S6 = rtC S n9 p9 := by rw [eS6, eS5, rk6]; exact rt_o hs9 hlt w0 w2 (by first | (rw [if_pos ((rBy_59 hby he2 hlt).mp c6)]; done) | (rw [if_neg (fun z => c6 ((rBy_59 hby he2 hlt).mpr z))]; done))
                  exact ret_v hx hb hr hlocks hK hw dX11_nextToken_302 eS6
                · skip
                  refine lv_iconst (v := nI 3) hx hb dX11_nextToken_294 (by decide) ?_
                  refine lv_goto (tgt := 299) hx hb dX11_nextToken_295 (by decide) ?_
                  refine x_putI (x := nI 3) (ty := .int) (C := RX11) (T := TX11) (N := 24) hx hb hts (fun _ h => List.mem_cons_of_mem _ (List.mem_append_right _ h)) tyX11 tyX11_ok nmX11 hown hK hw 30 (Nat.lt_of_lt_of_le (Nat.le_of_ble_eq_true rfl : 30 < 191) hn) (mk_30 cA α) rfl 6 (by decide) (hts _ (List.mem_of_getElem? (i := 3) rfl)) (fun _ h9 => h9) rfl rfl rfl rfl (Nat.le_of_ble_eq_true rfl) rfl dX11_nextToken_299 (fun S7 eS7 H locs hw => ?_)
                  have eS7 : S7 = rtC S n9 p9 := by rw [eS7, eS5, rk6]; exact rt_o hs9 hlt w0 w2 (by first | (rw [if_pos ((rBy_59 hby he2 hlt).mp c6)]; done) | (rw [if_neg (fun z => c6 ((rBy_59 hby he2 hlt).mpr z))]; done))
                  exact ret_v hx hb hr hlocks hK hw dX11_nextToken_302 eS7
              · skip
                have w2 := c5
                refine lv_aload_n hx hb dX11_nextToken_170 rfl (lv_at hl 1 rfl) ?_
                refine lv_iconst (v := nI 0) hx hb dX11_nextToken_171 (by decide) ?_
                refine x_putI (x := nI 0) (ty := .int) (C := RX11) (T := TX11) (N := 24) hx hb hts (fun _ h => List.mem_cons_of_mem _ (List.mem_append_right _ h)) tyX11 tyX11_ok nmX11 hown hK hw 30 (Nat.lt_of_lt_of_le (Nat.le_of_ble_eq_true rfl : 30 < 191) hn) (mk_30 cA α) rfl 7 (by decide) (hts _ (List.mem_of_getElem? (i := 8) rfl)) (fun _ h9 => h9) rfl rfl rfl rfl (Nat.le_of_ble_eq_true rfl) rfl dX11_nextToken_172 (fun S8 eS8 H locs hw => ?_)
                have eS8 : S8 = setR S 30 (rkF (S.1 30) (nI q) (nI q) (nI 4) (nI 0)) := by rw [eS8, eS4, rk7]
                have lp175 : ∀ (t : Nat) (e9 : Nat) (T2 : Mem) (H : Heap) (locs : List Loc) (ls : Array Slot), n9 - e9 < t → q ≤ e9 → e9 ≤ n9 → far (inR (nI 48) (nI 57)) (S.1 31) n9 q = far (inR (nI 48) (nI 57)) (S.1 31) n9 e9 → T2 = setR S 30 (rkF (S.1 30) (nI q) (nI e9) (nI 4) (nmb (S.1 31) q (e9 - q))) → Ws D cA α n (Aw α n sz) s.heap T2 H locs → lv_has ls 2 [(0, .ref (α 30)), (1, .int (rBy (S.1 31) n9 q))] → W p l e ({ frames := 1, cells := 0, slots := 0, locals := 25 } : Room) s m (List.toArray ([.ref (α 30)] : List Value)) below meth c H locs 0 0 (MQ below (va_Qv (fun u => u = (rtC S n9 p9)) (Pw D cA α n) (Aw α n sz)) (List.toArray ([.ref (α 30)] : List Value)) s 0 0 (Aw α n sz)) (F0 m 175 ls []) := by
                  intro t
                  induction t with
                  | zero => intro e9 T2 H locs ls ht; exact absurd ht (Nat.not_lt_zero _)
                  | succ t ih175 =>
                    intro e9 T2 H locs ls ht he9 he8 hfe hT2 hw hl
                    refine lv_aload_n hx hb dX11_nextToken_175 rfl (lv_at hl 0 rfl) ?_
                    refine lv_aload_n hx hb dX11_nextToken_176 rfl (lv_at hl 0 rfl) ?_
                    refine x_get (v := .int (T2.1 30 5)) (C := RX11) (T := TX11) (N := 24) hx hb hts (fun _ h => List.mem_cons_of_mem _ (List.mem_append_right _ h)) hown hK hw 30 (Nat.lt_of_lt_of_le (Nat.le_of_ble_eq_true rfl : 30 < 191) hn) (mk_30 cA α) rfl 5 (by decide) (hts _ (List.mem_of_getElem? (i := 1) rfl)) (fun _ h9 => h9) rfl dX11_nextToken_177 ?_
                    refine x_topN (k := e9) (by rw [hT2, sR_e]; rfl) ?_
                    refine x_callVIr (q := 30) (C := RX11) (As := [.int (nI e9)]) (rest := []) ⟨hx, hb, hml, hown, hts⟩ (ct_X11_byteAt l D cA α n _ hn T2 e9 n9 (by rw [hT2, sR_e]; exact he) he2 (by omega)) (cwV 1 hts gX11_nextToken_X11_byteAt rfl rfl rfl (by decide +kernel) ⟨Nat.le_of_ble_eq_true rfl, Nat.le_of_ble_eq_true rfl⟩) hK hw hAw (ws_recv hK hw (q := 30) (Nat.lt_of_lt_of_le (Nat.le_of_ble_eq_true rfl : 30 < 191) hn) (mk_30 cA α) rfl) rfl hl.1 rfl (Nat.le_of_ble_eq_true rfl) dX11_nextToken_180 ⟨Nat.zero_le _, Nat.zero_le _⟩ (fun H locs hw => ?_)
                    refine x_topE (y := rBy (S.1 31) n9 e9) (by rw [hT2]; rfl) ?_
                    refine lv_i2l hx hb dX11_nextToken_183 rfl ?_
                    refine lv_ldc2 (v := 48) hx hb hown (hts _ (List.mem_of_getElem? (i := 6) rfl)) dX11_nextToken_184 ?_
                    refine lv_ldc2 (v := 57) hx hb hown (hts _ (List.mem_of_getElem? (i := 7) rfl)) dX11_nextToken_187 ?_
                    refine x_callSIr (q := 0) (C := RX0) (As := [.long ((rBy (S.1 31) n9 e9).toInt64), .long (48), .long (57)]) (rest := []) ⟨hx, hb, hml, hown, hts⟩ (ct_X11_within l D cA α n _ hn T2 ((rBy (S.1 31) n9 e9).toInt64) (48) (57)) (va_cwS 3 hts gX11_nextToken_X11_within rfl rfl rfl (by decide +kernel) ⟨Nat.le_of_ble_eq_true rfl, Nat.le_of_ble_eq_true rfl⟩) hK hw hAw rfl hl.1 rfl (Nat.le_of_ble_eq_true rfl) dX11_nextToken_190 ⟨Nat.zero_le _, Nat.zero_le _⟩ (fun H locs hw => ?_)
                    refine x_topE (y := b2i (decide (e9 < n9) && inR (nI 48) (nI 57) (S.1 31 e9))) (by rw [rBy_09 hby he2]) ?_
                    refine xb_eq (b := (decide (e9 < n9) && inR (nI 48) (nI 57) (S.1 31 e9))) (tgt := 252) hx hb dX11_nextToken_193 (by decide) (fun c7 => ?_) (fun c7 => ?_)
                    · skip
                      have hfx : far (inR (nI 48) (nI 57)) (S.1 31) n9 q = e9 := by rw [hfe]; exact far_x c7
                      refine lv_aload_n hx hb dX11_nextToken_252 rfl (lv_at hl 0 rfl) ?_
                      refine lv_aload_n hx hb dX11_nextToken_253 rfl (lv_at hl 0 rfl) ?_
                      refine x_get (v := .int (T2.1 30 5)) (C := RX11) (T := TX11) (N := 24) hx hb hts (fun _ h => List.mem_cons_of_mem _ (List.mem_append_right _ h)) hown hK hw 30 (Nat.lt_of_lt_of_le (Nat.le_of_ble_eq_true rfl : 30 < 191) hn) (mk_30 cA α) rfl 5 (by decide) (hts _ (List.mem_of_getElem? (i := 1) rfl)) (fun _ h9 => h9) rfl dX11_nextToken_254 ?_
                      refine x_topN (k := e9) (by rw [hT2, sR_e]; rfl) ?_
                      refine lv_aload_n hx hb dX11_nextToken_257 rfl (lv_at hl 0 rfl) ?_
                      refine x_get (v := .int (T2.1 30 4)) (C := RX11) (T := TX11) (N := 24) hx hb hts (fun _ h => List.mem_cons_of_mem _ (List.mem_append_right _ h)) hown hK hw 30 (Nat.lt_of_lt_of_le (Nat.le_of_ble_eq_true rfl : 30 < 191) hn) (mk_30 cA α) rfl 4 (by decide) (hts _ (List.mem_of_getElem? (i := 2) rfl)) (fun _ h9 => h9) rfl dX11_nextToken_258 ?_
                      refine x_topN (k := q) (by rw [hT2, sR_e]; rfl) ?_
                      refine xn_isub hx hb he9 dX11_nextToken_261 ?_
                      refine lv_iconst (v := nI 4) hx hb dX11_nextToken_262 (by decide) ?_
                      refine xn_icmp_le (tgt := 270) hx hb (by omega) (by decide) dX11_nextToken_263 (by decide) (fun c8 => ?_) (fun c8 => ?_)
                      · skip
                        refine lv_iconst (v := nI 2) hx hb dX11_nextToken_270 (by decide) ?_
                        refine x_putI (x := nI 2) (ty := .int) (C := RX11) (T := TX11) (N := 24) hx hb hts (fun _ h => List.mem_cons_of_mem _ (List.mem_append_right _ h)) tyX11 tyX11_ok nmX11 hown hK hw 30 (Nat.lt_of_lt_of_le (Nat.le_of_ble_eq_true rfl : 30 < 191) hn) (mk_30 cA α) rfl 6 (by decide) (hts _ (List.mem_of_getElem? (i := 3) rfl)) (fun _ h9 => h9) rfl rfl rfl rfl (Nat.le_of_ble_eq_true rfl) rfl dX11_nextToken_271 (fun S9 eS9 H locs hw => ?_)
                        have eS9 : S9 = rtC S n9 p9 := by rw [eS9, hT2, rk6]; exact rt_d hs9 hlt w0 w2 hfx (by first | (rw [if_pos (by omega)]; done) | (rw [if_neg (by omega)]; done)) rfl
                        refine lv_goto (tgt := 302) hx hb dX11_nextToken_274 (by decide) ?_
                        exact ret_v hx hb hr hlocks hK hw dX11_nextToken_302 eS9
                      · skip
                        refine lv_iconst (v := nI 4) hx hb dX11_nextToken_266 (by decide) ?_
                        refine lv_goto (tgt := 271) hx hb dX11_nextToken_267 (by decide) ?_
                        refine x_putI (x := nI 4) (ty := .int) (C := RX11) (T := TX11) (N := 24) hx hb hts (fun _ h => List.mem_cons_of_mem _ (List.mem_append_right _ h)) tyX11 tyX11_ok nmX11 hown hK hw 30 (Nat.lt_of_lt_of_le (Nat.le_of_ble_eq_true rfl : 30 < 191) hn) (mk_30 cA α) rfl 6 (by decide) (hts _ (List.mem_of_getElem? (i := 3) rfl)) (fun _ h9 => h9) rfl rfl rfl rfl (Nat.le_of_ble_eq_true rfl) rfl dX11_nextToken_271 (fun S10 eS10 H locs hw => ?_)
                        have eS10 : S10 = rtC S n9 p9 := by rw [eS10, hT2, rk6]; exact rt_d hs9 hlt w0 w2 hfx (by first | (rw [if_pos (by omega)]; done) | (rw [if_neg (by omega)]; done)) rfl
                        refine lv_goto (tgt := 302) hx hb dX11_nextToken_274 (by decide) ?_
                        exact ret_v hx hb hr hlocks hK hw dX11_nextToken_302 eS10
                    · skip
                      have hin := Bool.and_eq_true_iff.mp c7
                      have hie := of_decide_eq_true hin.1
                      refine lv_aload_n hx hb dX11_nextToken_196 rfl (lv_at hl 0 rfl) ?_
                      refine lv_aload_n hx hb dX11_nextToken_197 rfl (lv_at hl 0 rfl) ?_
                      refine x_get (v := .int (T2.1 30 5)) (C := RX11) (T := TX11) (N := 24) hx hb hts (fun _ h => List.mem_cons_of_mem _ (List.mem_append_right _ h)) hown hK hw 30 (Nat.lt_of_lt_of_le (Nat.le_of_ble_eq_true rfl : 30 < 191) hn) (mk_30 cA α) rfl 5 (by decide) (hts _ (List.mem_of_getElem? (i := 1) rfl)) (fun _ h9 => h9) rfl dX11_nextToken_198 ?_
                      refine x_topN (k := e9) (by rw [hT2, sR_e]; rfl) ?_
                      refine lv_aload_n hx hb dX11_nextToken_201 rfl (lv_at hl 0 rfl) ?_
                      refine x_get (v := .int (T2.1 30 4)) (C := RX11) (T := TX11) (N := 24) hx hb hts (fun _ h => List.mem_cons_of_mem _ (List.mem_append_right _ h)) hown hK hw 30 (Nat.lt_of_lt_of_le (Nat.le_of_ble_eq_true rfl : 30 < 191) hn) (mk_30 cA α) rfl 4 (by decide) (hts _ (List.mem_of_getElem? (i := 2) rfl)) (fun _ h9 => h9) rfl dX11_nextToken_202 ?_
                      refine x_topN (k := q) (by rw [hT2, sR_e]; rfl) ?_
                      refine xn_isub hx hb he9 dX11_nextToken_205 ?_
                      refine lv_iconst (v := nI 4) hx hb dX11_nextToken_206 (by decide) ?_
                      refine xn_icmp_ge (tgt := 232) hx hb (by omega) (by decide) dX11_nextToken_207 (by decide) (fun c9 => ?_) (fun c9 => ?_)
                      · skip
                        refine lv_aload_n hx hb dX11_nextToken_232 rfl (lv_at hl 0 rfl) ?_
                        refine x_get (v := .int (T2.1 30 7)) (C := RX11) (T := TX11) (N := 24) hx hb hts (fun _ h => List.mem_cons_of_mem _ (List.mem_append_right _ h)) hown hK hw 30 (Nat.lt_of_lt_of_le (Nat.le_of_ble_eq_true rfl : 30 < 191) hn) (mk_30 cA α) rfl 7 (by decide) (hts _ (List.mem_of_getElem? (i := 8) rfl)) (fun _ h9 => h9) rfl dX11_nextToken_233 ?_
                        refine x_topE (y := nmb (S.1 31) q (e9 - q)) (by rw [hT2, sR_e]; rfl) ?_
                        refine x_putI (x := nmb (S.1 31) q (e9 - q)) (ty := .int) (C := RX11) (T := TX11) (N := 24) hx hb hts (fun _ h => List.mem_cons_of_mem _ (List.mem_append_right _ h)) tyX11 tyX11_ok nmX11 hown hK hw 30 (Nat.lt_of_lt_of_le (Nat.le_of_ble_eq_true rfl : 30 < 191) hn) (mk_30 cA α) rfl 7 (by decide) (hts _ (List.mem_of_getElem? (i := 8) rfl)) (fun _ h9 => h9) rfl rfl rfl rfl (Nat.le_of_ble_eq_true rfl) rfl dX11_nextToken_236 (fun S11 eS11 H locs hw => ?_)
                        have eS11 : S11 = setR S 30 (rkF (S.1 30) (nI q) (nI e9) (nI 4) (nmb (S.1 31) q ((e9 - q) + 1))) := by rw [eS11, hT2, rk7, nmb]; first | (rw [if_pos (by omega), show q + (e9 - q) = e9 by omega]; done) | (rw [if_neg (by omega)]; done)
                        refine lv_aload_n hx hb dX11_nextToken_239 rfl (lv_at hl 0 rfl) ?_
                        refine lv_dup hx hb dX11_nextToken_240 rfl ?_
                        refine x_get (v := .int (S11.1 30 5)) (C := RX11) (T := TX11) (N := 24) hx hb hts (fun _ h => List.mem_cons_of_mem _ (List.mem_append_right _ h)) hown hK hw 30 (Nat.lt_of_lt_of_le (Nat.le_of_ble_eq_true rfl : 30 < 191) hn) (mk_30 cA α) rfl 5 (by decide) (hts _ (List.mem_of_getElem? (i := 1) rfl)) (fun _ h9 => h9) rfl dX11_nextToken_241 ?_
                        refine x_topN (k := e9) (by rw [eS11, sR_e]; rfl) ?_
                        refine lv_iconst (v := nI 1) hx hb dX11_nextToken_244 (by decide) ?_
                        refine xn_iadd hx hb dX11_nextToken_245 ?_
                        refine x_putI (x := nI (e9 + 1)) (ty := .int) (C := RX11) (T := TX11) (N := 24) hx hb hts (fun _ h => List.mem_cons_of_mem _ (List.mem_append_right _ h)) tyX11 tyX11_ok nmX11 hown hK hw 30 (Nat.lt_of_lt_of_le (Nat.le_of_ble_eq_true rfl : 30 < 191) hn) (mk_30 cA α) rfl 5 (by decide) (hts _ (List.mem_of_getElem? (i := 1) rfl)) (fun _ h9 => h9) rfl rfl rfl rfl (Nat.le_of_ble_eq_true rfl) rfl dX11_nextToken_246 (fun S12 eS12 H locs hw => ?_)
                        refine lv_goto (tgt := 175) hx hb dX11_nextToken_249 (by decide) ?_
                        exact ih175 (e9 + 1) S12 _ _ _ (by omega) (by omega) (by omega) (by rw [hfe]; exact far_go hie hin.2) (by rw [eS12, eS11, rk5, show e9 + 1 - q = e9 - q + 1 by omega]) hw (lv_sub hl [0, 1] rfl)
                      · skip
                        refine lv_bipush (v := nI 10) hx hb dX11_nextToken_210 (by decide) ?_
                        refine lv_aload_n hx hb dX11_nextToken_212 rfl (lv_at hl 0 rfl) ?_
                        refine x_get (v := .int (T2.1 30 7)) (C := RX11) (T := TX11) (N := 24) hx hb hts (fun _ h => List.mem_cons_of_mem _ (List.mem_append_right _ h)) hown hK hw 30 (Nat.lt_of_lt_of_le (Nat.le_of_ble_eq_true rfl : 30 < 191) hn) (mk_30 cA α) rfl 7 (by decide) (hts _ (List.mem_of_getElem? (i := 8) rfl)) (fun _ h9 => h9) rfl dX11_nextToken_213 ?_
                        refine x_topE (y := nmb (S.1 31) q (e9 - q)) (by rw [hT2, sR_e]; rfl) ?_
                        refine lv_imul hx hb dX11_nextToken_216 ?_
                        refine lv_aload_n hx hb dX11_nextToken_217 rfl (lv_at hl 0 rfl) ?_
                        refine lv_aload_n hx hb dX11_nextToken_218 rfl (lv_at hl 0 rfl) ?_
                        refine x_get (v := .int (T2.1 30 5)) (C := RX11) (T := TX11) (N := 24) hx hb hts (fun _ h => List.mem_cons_of_mem _ (List.mem_append_right _ h)) hown hK hw 30 (Nat.lt_of_lt_of_le (Nat.le_of_ble_eq_true rfl : 30 < 191) hn) (mk_30 cA α) rfl 5 (by decide) (hts _ (List.mem_of_getElem? (i := 1) rfl)) (fun _ h9 => h9) rfl dX11_nextToken_219 ?_
                        refine x_topN (k := e9) (by rw [hT2, sR_e]; rfl) ?_
                        refine x_callVIr (q := 30) (C := RX11) (As := [.int (nI e9)]) (rest := [.int ((nI 10) * (nmb (S.1 31) q (e9 - q))), .ref (α 30)]) ⟨hx, hb, hml, hown, hts⟩ (ct_X11_byteAt l D cA α n _ hn T2 e9 n9 (by rw [hT2, sR_e]; exact he) he2 (by omega)) (cwV 1 hts gX11_nextToken_X11_byteAt rfl rfl rfl (by decide +kernel) ⟨Nat.le_of_ble_eq_true rfl, Nat.le_of_ble_eq_true rfl⟩) hK hw hAw (ws_recv hK hw (q := 30) (Nat.lt_of_lt_of_le (Nat.le_of_ble_eq_true rfl : 30 < 191) hn) (mk_30 cA α) rfl) rfl hl.1 rfl (Nat.le_of_ble_eq_true rfl) dX11_nextToken_222 ⟨Nat.zero_le _, Nat.zero_le _⟩ (fun H locs hw => ?_)
                        refine x_topE (y := S.1 31 e9 &&& nI 255) (by rw [hT2]; show rBy (S.1 31) n9 e9 = _; unfold rBy; rw [if_neg (by omega)]) ?_
                        refine lv_iadd hx hb dX11_nextToken_225 ?_
                        refine lv_bipush (v := nI 48) hx hb dX11_nextToken_226 (by decide) ?_
                        refine lv_isub hx hb dX11_nextToken_228 ?_
                        refine lv_goto (tgt := 236) hx hb dX11_nextToken_229 (by decide) ?_
                        refine x_putI (x := (((nI 10) * (nmb (S.1 31) q (e9 - q))) + (S.1 31 e9 &&& nI 255)) - (nI 48)) (ty := .int) (C := RX11) (T := TX11) (N := 24) hx hb hts (fun _ h => List.mem_cons_of_mem _ (List.mem_append_right _ h)) tyX11 tyX11_ok nmX11 hown hK hw 30 (Nat.lt_of_lt_of_le (Nat.le_of_ble_eq_true rfl : 30 < 191) hn) (mk_30 cA α) rfl 7 (by decide) (hts _ (List.mem_of_getElem? (i := 8) rfl)) (fun _ h9 => h9) rfl rfl rfl rfl (Nat.le_of_ble_eq_true rfl) rfl dX11_nextToken_236 (fun S13 eS13 H locs hw => ?_)
                        have eS13 : S13 = setR S 30 (rkF (S.1 30) (nI q) (nI e9) (nI 4) (nmb (S.1 31) q ((e9 - q) + 1))) := by rw [eS13, hT2, rk7, nmb]; first | (rw [if_pos (by omega), show q + (e9 - q) = e9 by omega]; done) | (rw [if_neg (by omega)]; done)
                        refine lv_aload_n hx hb dX11_nextToken_239 rfl (lv_at hl 0 rfl) ?_
                        refine lv_dup hx hb dX11_nextToken_240 rfl ?_
                        refine x_get (v := .int (S13.1 30 5)) (C := RX11) (T := TX11) (N := 24) hx hb hts (fun _ h => List.mem_cons_of_mem _ (List.mem_append_right _ h)) hown hK hw 30 (Nat.lt_of_lt_of_le (Nat.le_of_ble_eq_true rfl : 30 < 191) hn) (mk_30 cA α) rfl 5 (by decide) (hts _ (List.mem_of_getElem? (i := 1) rfl)) (fun _ h9 => h9) rfl dX11_nextToken_241 ?_
                        refine x_topN (k := e9) (by rw [eS13, sR_e]; rfl) ?_
                        refine lv_iconst (v := nI 1) hx hb dX11_nextToken_244 (by decide) ?_
                        refine xn_iadd hx hb dX11_nextToken_245 ?_
                        refine x_putI (x := nI (e9 + 1)) (ty := .int) (C := RX11) (T := TX11) (N := 24) hx hb hts (fun _ h => List.mem_cons_of_mem _ (List.mem_append_right _ h)) tyX11 tyX11_ok nmX11 hown hK hw 30 (Nat.lt_of_lt_of_le (Nat.le_of_ble_eq_true rfl : 30 < 191) hn) (mk_30 cA α) rfl 5 (by decide) (hts _ (List.mem_of_getElem? (i := 1) rfl)) (fun _ h9 => h9) rfl rfl rfl rfl (Nat.le_of_ble_eq_true rfl) rfl dX11_nextToken_246 (fun S14 eS14 H locs hw => ?_)
                        refine lv_goto (tgt := 175) hx hb dX11_nextToken_249 (by decide) ?_
                        exact ih175 (e9 + 1) S14 _ _ _ (by omega) (by omega) (by omega) (by rw [hfe]; exact far_go hie hin.2) (by rw [eS14, eS13, rk5, show e9 + 1 - q = e9 - q + 1 by omega]) hw (lv_sub hl [0, 1] rfl)
                exact lp175 _ q S8 _ _ _ (Nat.lt_succ_self _) (Nat.le_refl _) (by omega) rfl (by subst eS8; subst eS4; subst eS3; rw [Nat.sub_self]; rfl) hw (lv_sub hl [1, 0] rfl)
            · skip
              have lp96 : ∀ (t : Nat) (e9 : Nat) (T2 : Mem) (H : Heap) (locs : List Loc) (ls : Array Slot), n9 - e9 < t → q ≤ e9 → e9 ≤ n9 → far (inR (nI 97) (nI 122)) (S.1 31) n9 q = far (inR (nI 97) (nI 122)) (S.1 31) n9 e9 → T2 = setR S 30 (rkF (S.1 30) (nI q) (nI e9) (nI 4) (S.1 30 7)) → Ws D cA α n (Aw α n sz) s.heap T2 H locs → lv_has ls 2 [(0, .ref (α 30)), (1, .int (rBy (S.1 31) n9 q))] → W p l e ({ frames := 1, cells := 0, slots := 0, locals := 25 } : Room) s m (List.toArray ([.ref (α 30)] : List Value)) below meth c H locs 0 0 (MQ below (va_Qv (fun u => u = (rtC S n9 p9)) (Pw D cA α n) (Aw α n sz)) (List.toArray ([.ref (α 30)] : List Value)) s 0 0 (Aw α n sz)) (F0 m 96 ls []) := by
                intro t
                induction t with
                | zero => intro e9 T2 H locs ls ht; exact absurd ht (Nat.not_lt_zero _)
                | succ t ih96 =>
                  intro e9 T2 H locs ls ht he9 he8 hfe hT2 hw hl
                  have w1 := c4
                  refine lv_aload_n hx hb dX11_nextToken_96 rfl (lv_at hl 0 rfl) ?_
                  refine lv_aload_n hx hb dX11_nextToken_97 rfl (lv_at hl 0 rfl) ?_
                  refine x_get (v := .int (T2.1 30 5)) (C := RX11) (T := TX11) (N := 24) hx hb hts (fun _ h => List.mem_cons_of_mem _ (List.mem_append_right _ h)) hown hK hw 30 (Nat.lt_of_lt_of_le (Nat.le_of_ble_eq_true rfl : 30 < 191) hn) (mk_30 cA α) rfl 5 (by decide) (hts _ (List.mem_of_getElem? (i := 1) rfl)) (fun _ h9 => h9) rfl dX11_nextToken_98 ?_
                  refine x_topN (k := e9) (by rw [hT2, sR_e]; rfl) ?_
                  refine x_callVIr (q := 30) (C := RX11) (As := [.int (nI e9)]) (rest := []) ⟨hx, hb, hml, hown, hts⟩ (ct_X11_byteAt l D cA α n _ hn T2 e9 n9 (by rw [hT2, sR_e]; exact he) he2 (by omega)) (cwV 1 hts gX11_nextToken_X11_byteAt rfl rfl rfl (by decide +kernel) ⟨Nat.le_of_ble_eq_true rfl, Nat.le_of_ble_eq_true rfl⟩) hK hw hAw (ws_recv hK hw (q := 30) (Nat.lt_of_lt_of_le (Nat.le_of_ble_eq_true rfl : 30 < 191) hn) (mk_30 cA α) rfl) rfl hl.1 rfl (Nat.le_of_ble_eq_true rfl) dX11_nextToken_101 ⟨Nat.zero_le _, Nat.zero_le _⟩ (fun H locs hw => ?_)
                  refine x_topE (y := rBy (S.1 31) n9 e9) (by rw [hT2]; rfl) ?_
                  refine lv_i2l hx hb dX11_nextToken_104 rfl ?_
                  refine lv_ldc2 (v := 97) hx hb hown (hts _ (List.mem_of_getElem? (i := 4) rfl)) dX11_nextToken_105 ?_
                  refine lv_ldc2 (v := 122) hx hb hown (hts _ (List.mem_of_getElem? (i := 5) rfl)) dX11_nextToken_108 ?_
                  refine x_callSIr (q := 0) (C := RX0) (As := [.long ((rBy (S.1 31) n9 e9).toInt64), .long (97), .long (122)]) (rest := []) ⟨hx, hb, hml, hown, hts⟩ (ct_X11_within l D cA α n _ hn T2 ((rBy (S.1 31) n9 e9).toInt64) (97) (122)) (va_cwS 3 hts gX11_nextToken_X11_within rfl rfl rfl (by decide +kernel) ⟨Nat.le_of_ble_eq_true rfl, Nat.le_of_ble_eq_true rfl⟩) hK hw hAw rfl hl.1 rfl (Nat.le_of_ble_eq_true rfl) dX11_nextToken_111 ⟨Nat.zero_le _, Nat.zero_le _⟩ (fun H locs hw => ?_)
                  refine x_topE (y := b2i (decide (e9 < n9) && inR (nI 97) (nI 122) (S.1 31 e9))) (by rw [rBy_az hby he2]) ?_
                  refine xb_eq (b := (decide (e9 < n9) && inR (nI 97) (nI 122) (S.1 31 e9))) (tgt := 130) hx hb dX11_nextToken_114 (by decide) (fun c10 => ?_) (fun c10 => ?_)
                  · skip
                    have hfx : far (inR (nI 97) (nI 122)) (S.1 31) n9 q = e9 := by rw [hfe]; exact far_x c10
                    refine lv_aload_n hx hb dX11_nextToken_130 rfl (lv_at hl 0 rfl) ?_
                    refine lv_aload_n hx hb dX11_nextToken_131 rfl (lv_at hl 0 rfl) ?_
                    refine x_get (v := .int (T2.1 30 5)) (C := RX11) (T := TX11) (N := 24) hx hb hts (fun _ h => List.mem_cons_of_mem _ (List.mem_append_right _ h)) hown hK hw 30 (Nat.lt_of_lt_of_le (Nat.le_of_ble_eq_true rfl : 30 < 191) hn) (mk_30 cA α) rfl 5 (by decide) (hts _ (List.mem_of_getElem? (i := 1) rfl)) (fun _ h9 => h9) rfl dX11_nextToken_132 ?_
                    refine x_topN (k := e9) (by rw [hT2, sR_e]; rfl) ?_
                    refine lv_aload_n hx hb dX11_nextToken_135 rfl (lv_at hl 0 rfl) ?_
                    refine x_get (v := .int (T2.1 30 4)) (C := RX11) (T := TX11) (N := 24) hx hb hts (fun _ h => List.mem_cons_of_mem _ (List.mem_append_right _ h)) hown hK hw 30 (Nat.lt_of_lt_of_le (Nat.le_of_ble_eq_true rfl : 30 < 191) hn) (mk_30 cA α) rfl 4 (by decide) (hts _ (List.mem_of_getElem? (i := 2) rfl)) (fun _ h9 => h9) rfl dX11_nextToken_136 ?_
                    refine x_topN (k := q) (by rw [hT2, sR_e]; rfl) ?_
                    refine xn_isub hx hb he9 dX11_nextToken_139 ?_
                    refine lv_bipush (v := nI 9) hx hb dX11_nextToken_140 (by decide) ?_
                    refine xn_icmp_le (tgt := 149) hx hb (by omega) (by decide) dX11_nextToken_142 (by decide) (fun c11 => ?_) (fun c11 => ?_)
                    · skip
                      refine lv_iconst (v := nI 1) hx hb dX11_nextToken_149 (by decide) ?_
                      refine x_putI (x := nI 1) (ty := .int) (C := RX11) (T := TX11) (N := 24) hx hb hts (fun _ h => List.mem_cons_of_mem _ (List.mem_append_right _ h)) tyX11 tyX11_ok nmX11 hown hK hw 30 (Nat.lt_of_lt_of_le (Nat.le_of_ble_eq_true rfl : 30 < 191) hn) (mk_30 cA α) rfl 6 (by decide) (hts _ (List.mem_of_getElem? (i := 3) rfl)) (fun _ h9 => h9) rfl rfl rfl rfl (Nat.le_of_ble_eq_true rfl) rfl dX11_nextToken_150 (fun S15 eS15 H locs hw => ?_)
                      have eS15 : S15 = rtC S n9 p9 := by rw [eS15, hT2, rk6]; exact rt_w hs9 hlt w1 hfx (by first | (rw [if_pos (by omega)]; done) | (rw [if_neg (by omega)]; done))
                      refine lv_goto (tgt := 302) hx hb dX11_nextToken_153 (by decide) ?_
                      exact ret_v hx hb hr hlocks hK hw dX11_nextToken_302 eS15
                    · skip
                      refine lv_iconst (v := nI 4) hx hb dX11_nextToken_145 (by decide) ?_
                      refine lv_goto (tgt := 150) hx hb dX11_nextToken_146 (by decide) ?_
                      refine x_putI (x := nI 4) (ty := .int) (C := RX11) (T := TX11) (N := 24) hx hb hts (fun _ h => List.mem_cons_of_mem _ (List.mem_append_right _ h)) tyX11 tyX11_ok nmX11 hown hK hw 30 (Nat.lt_of_lt_of_le (Nat.le_of_ble_eq_true rfl : 30 < 191) hn) (mk_30 cA α) rfl 6 (by decide) (hts _ (List.mem_of_getElem? (i := 3) rfl)) (fun _ h9 => h9) rfl rfl rfl rfl (Nat.le_of_ble_eq_true rfl) rfl dX11_nextToken_150 (fun S16 eS16 H locs hw => ?_)
                      have eS16 : S16 = rtC S n9 p9 := by rw [eS16, hT2, rk6]; exact rt_w hs9 hlt w1 hfx (by first | (rw [if_pos (by omega)]; done) | (rw [if_neg (by omega)]; done))
                      refine lv_goto (tgt := 302) hx hb dX11_nextToken_153 (by decide) ?_
                      exact ret_v hx hb hr hlocks hK hw dX11_nextToken_302 eS16
                  · skip
                    have hin := Bool.and_eq_true_iff.mp c10
                    have hie := of_decide_eq_true hin.1
                    refine lv_aload_n hx hb dX11_nextToken_117 rfl (lv_at hl 0 rfl) ?_
                    refine lv_dup hx hb dX11_nextToken_118 rfl ?_
                    refine x_get (v := .int (T2.1 30 5)) (C := RX11) (T := TX11) (N := 24) hx hb hts (fun _ h => List.mem_cons_of_mem _ (List.mem_append_right _ h)) hown hK hw 30 (Nat.lt_of_lt_of_le (Nat.le_of_ble_eq_true rfl : 30 < 191) hn) (mk_30 cA α) rfl 5 (by decide) (hts _ (List.mem_of_getElem? (i := 1) rfl)) (fun _ h9 => h9) rfl dX11_nextToken_119 ?_
                    refine x_topN (k := e9) (by rw [hT2, sR_e]; rfl) ?_
                    refine lv_iconst (v := nI 1) hx hb dX11_nextToken_122 (by decide) ?_
                    refine xn_iadd hx hb dX11_nextToken_123 ?_
                    refine x_putI (x := nI (e9 + 1)) (ty := .int) (C := RX11) (T := TX11) (N := 24) hx hb hts (fun _ h => List.mem_cons_of_mem _ (List.mem_append_right _ h)) tyX11 tyX11_ok nmX11 hown hK hw 30 (Nat.lt_of_lt_of_le (Nat.le_of_ble_eq_true rfl : 30 < 191) hn) (mk_30 cA α) rfl 5 (by decide) (hts _ (List.mem_of_getElem? (i := 1) rfl)) (fun _ h9 => h9) rfl rfl rfl rfl (Nat.le_of_ble_eq_true rfl) rfl dX11_nextToken_124 (fun S17 eS17 H locs hw => ?_)
                    refine lv_goto (tgt := 96) hx hb dX11_nextToken_127 (by decide) ?_
                    exact ih96 (e9 + 1) S17 _ _ _ (by omega) (by omega) (by omega) (by rw [hfe]; exact far_go hie hin.2) (by rw [eS17, hT2, rk5]) hw (lv_sub hl [0, 1] rfl)
              exact lp96 _ q S4 _ _ _ (Nat.lt_succ_self _) (Nat.le_refl _) (by omega) rfl (by subst eS4; subst eS3; rfl) hw (lv_sub hl [1, 0] rfl)
          · skip
            refine lv_aload_n hx hb dX11_nextToken_74 rfl (lv_at hl 1 rfl) ?_
            refine lv_iconst (v := nI 0) hx hb dX11_nextToken_75 (by decide) ?_
            refine x_putI (x := nI 0) (ty := .int) (C := RX11) (T := TX11) (N := 24) hx hb hts (fun _ h => List.mem_cons_of_mem _ (List.mem_append_right _ h)) tyX11 tyX11_ok nmX11 hown hK hw 30 (Nat.lt_of_lt_of_le (Nat.le_of_ble_eq_true rfl : 30 < 191) hn) (mk_30 cA α) rfl 6 (by decide) (hts _ (List.mem_of_getElem? (i := 3) rfl)) (fun _ h9 => h9) rfl rfl rfl rfl (Nat.le_of_ble_eq_true rfl) rfl dX11_nextToken_76 (fun S18 eS18 H locs hw => ?_)
            have eS18 : S18 = rtC S n9 p9 := by rw [eS18, eS4, rk6]; exact rt_end hs9 (rBy_m1 hby he2 c3)
            refine lv_goto (tgt := 302) hx hb dX11_nextToken_79 (by decide) ?_
            exact ret_v hx hb hr hlocks hK hw dX11_nextToken_302 eS18
        · skip
          have hgo := rBy_go hby he2 (by first | exact Or.inl c2 | exact Or.inr c2)
          refine lv_aload_n hx hb dX11_nextToken_34 rfl (lv_at hl 0 rfl) ?_
          refine lv_dup hx hb dX11_nextToken_35 rfl ?_
          refine x_get (v := .int (T.1 30 4)) (C := RX11) (T := TX11) (N := 24) hx hb hts (fun _ h => List.mem_cons_of_mem _ (List.mem_append_right _ h)) hown hK hw 30 (Nat.lt_of_lt_of_le (Nat.le_of_ble_eq_true rfl : 30 < 191) hn) (mk_30 cA α) rfl 4 (by decide) (hts _ (List.mem_of_getElem? (i := 2) rfl)) (fun _ h9 => h9) rfl dX11_nextToken_36 ?_
          refine x_topN (k := q) (by rw [hT, sR_e]; rfl) ?_
          refine lv_iconst (v := nI 1) hx hb dX11_nextToken_39 (by decide) ?_
          refine xn_iadd hx hb dX11_nextToken_40 ?_
          refine x_putI (x := nI (q + 1)) (ty := .int) (C := RX11) (T := TX11) (N := 24) hx hb hts (fun _ h => List.mem_cons_of_mem _ (List.mem_append_right _ h)) tyX11 tyX11_ok nmX11 hown hK hw 30 (Nat.lt_of_lt_of_le (Nat.le_of_ble_eq_true rfl : 30 < 191) hn) (mk_30 cA α) rfl 4 (by decide) (hts _ (List.mem_of_getElem? (i := 2) rfl)) (fun _ h9 => h9) rfl rfl rfl rfl (Nat.le_of_ble_eq_true rfl) rfl dX11_nextToken_41 (fun S19 eS19 H locs hw => ?_)
          refine lv_goto (tgt := 8) hx hb dX11_nextToken_44 (by decide) ?_
          exact ih8 (q + 1) S19 _ _ _ (by have := hgo.1; omega) (by have := hgo.1; omega) (by rw [hf9]; exact far_go hgo.1 hgo.2) (by rw [eS19, hT, rk4]) hw (lv_sub hl [0] rfl)
  exact lp8 _ p9 S1 _ _ _ (Nat.lt_succ_self _) hp2 rfl (by subst eS1; rfl) hw (lv_sub hl [0] rfl)
