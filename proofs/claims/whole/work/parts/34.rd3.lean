/-! the reader of the class: a text -/
def flB (x : Int32) : Bool := !decide (x = 0)
def okN (x : Int32) (n : Nat) : Prop := x = nI (gN x) ∧ gN x ≤ n
def okDr (S : Mem) : Prop := okN (S.1 16 0) 4 ∧ okN (S.1 16 1) 6 ∧ okN (S.1 16 2) 6 ∧ S.1 1 8 = b2i (flB (S.1 1 8)) ∧ S.1 1 9 = b2i (flB (S.1 1 9)) ∧ S.1 1 10 = b2i (flB (S.1 1 10))
theorem okN_nI {k n : Nat} (h : k ≤ n) (hn : n < 1000) : okN (nI k) n := by unfold okN; rw [gN_nI (by omega)]; exact ⟨rfl, h⟩
theorem tk_o (S : Mem) {j : Nat} (h : 7 ≤ j) : (tk S).1 1 j = S.1 1 j := by
  rw [tk_f]; unfold tkF
  rw [if_neg (by omega), if_neg (by omega), if_neg (by omega)]
theorem cNum_o (S : Mem) (lo hi : Int32) {j : Nat} (h : 8 ≤ j) : (cNum S lo hi).1.1 1 j = S.1 1 j := by
  unfold cNum; repeat' split
  all_goals first | rfl | exact tk_o S (by omega) | exact cRef_o S _ (by omega)
theorem cSc_o (S : Mem) {j : Nat} (h : 8 ≤ j) : (cSc S).1 1 j = S.1 1 j := by
  unfold cSc; repeat' split
  all_goals first | rfl | exact tk_o S (by omega) | exact cRef_o S _ (by omega)
theorem okDr_of {S T : Mem} (h : okDr S) (e : T.1 16 = S.1 16) (e8 : ∀ j, 8 ≤ j → T.1 1 j = S.1 1 j) : okDr T := by
  unfold okDr; rw [e, e8 8 (by decide), e8 9 (by decide), e8 10 (by decide)]; exact h
theorem okDr_ref {S : Mem} (h : okDr S) (x : Int32) : okDr (cRef S x) := okDr_of h (cRef_k S x (by decide)) (fun j hj => cRef_o S x (by omega))
theorem okDr_sc {S : Mem} (h : okDr S) : okDr (cSc S) := okDr_of h (cSc_k S (by decide)) (fun j hj => cSc_o S hj)
theorem okDr_num {S : Mem} (h : okDr S) (lo hi : Int32) : okDr (cNum S lo hi).1 := okDr_of h (cNum_k S lo hi (by decide)) (fun j hj => cNum_o S lo hi hj)
theorem okDr_tk {S : Mem} (h : okDr S) : okDr (tk S) := okDr_of h (tk_k S (by decide)) (fun j hj => tk_o S (by omega))
theorem okDr_c {S : Mem} (h : okDr S) {q k : Nat} {x : Int32} (h1 : q ≠ 1) (h2 : q ≠ 16) : okDr (setI S q k x) := okDr_of h (by rw [sI_1 (Ne.symm h2)]) (fun j _ => by rw [sI_1 (Ne.symm h1)])
theorem okDr_0 {S : Mem} (h : okDr S) {k : Nat} (hk : k ≤ 4) : okDr (setI S 16 0 (nI k)) := by
  obtain ⟨h0, h1, h2, h3⟩ := h
  unfold okDr
  rw [sI_e, pk_us, pk_un (by decide), pk_un (by decide), sI_1 (by decide)]
  exact ⟨okN_nI hk (by omega), h1, h2, h3⟩
theorem okDr_1 {S : Mem} (h : okDr S) {k : Nat} (hk : k ≤ 6) : okDr (setI S 16 1 (nI k)) := by
  obtain ⟨h0, h1, h2, h3⟩ := h
  unfold okDr
  rw [sI_e, pk_us, pk_un (by decide), pk_un (by decide), sI_1 (by decide)]
  exact ⟨h0, okN_nI hk (by omega), h2, h3⟩
theorem okDr_2 {S : Mem} (h : okDr S) {k : Nat} (hk : k ≤ 6) : okDr (setI S 16 2 (nI k)) := by
  obtain ⟨h0, h1, h2, h3⟩ := h
  unfold okDr
  rw [sI_e, pk_us, pk_un (by decide), pk_un (by decide), sI_1 (by decide)]
  exact ⟨h0, h1, okN_nI hk (by omega), h3⟩
theorem okDr_g {S : Mem} (h : okDr S) {g : Nat} {x : Int32} (hg : 3 ≤ g) : okDr (setI S 16 g x) := by
  obtain ⟨h0, h1, h2, h3⟩ := h
  unfold okDr
  rw [sI_e, pk_un (by omega), pk_un (by omega), pk_un (by omega), sI_1 (by decide)]
  exact ⟨h0, h1, h2, h3⟩
theorem flB_1 : nI 1 = b2i (flB (nI 1)) := by decide
theorem okDr_f {S : Mem} (h : okDr S) (f : Nat) : okDr (setI S 1 f (nI 1)) := by
  obtain ⟨h0, h1, h2, h3, h4, h5⟩ := h
  unfold okDr
  rw [sI_1 (by decide), sI_e]
  refine ⟨h0, h1, h2, ?_, ?_, ?_⟩
  · unfold upd; split
    · exact flB_1
    · exact h3
  · unfold upd; split
    · exact flB_1
    · exact h4
  · unfold upd; split
    · exact flB_1
    · exact h5
def cStm (S : Mem) : Mem := if cWd S 0 then (if gN (S.1 16 0) < 4 then cCur S (gN (S.1 16 0)) else cRef S (nI 4)) else if cWd S 1 then (if gN (S.1 16 1) < 6 then cCom S (gN (S.1 16 1)) else cRef S (nI 4)) else if cWd S 2 then (if gN (S.1 16 2) < 6 then cPro S (gN (S.1 16 2)) else cRef S (nI 4)) else if cWd S 3 then (if flB (S.1 1 8) then cOcB S 8 3 else cOc S 8 3 (nI 9999)) else if cWd S 4 then (if flB (S.1 1 9) then cOcB S 9 4 else cOc S 9 4 (S.1 16 1 - nI 1)) else if cWd S 5 then (if flB (S.1 1 10) then cOcB S 10 5 else cOc S 10 5 (nI 9999)) else cRef S (nI 1)
theorem ok_stm {S : Mem} (h : okP S) (hd : okDr S) : okP (cStm S) ∧ okDr (cStm S) := by
  have hB : ∀ f g, 7 ≤ f → 3 ≤ g → okP (cOcB S f g) ∧ okDr (cOcB S f g) := fun f g hf hg => ⟨okP_o (okP_fl (okP_ref h _) hf) (by decide), okDr_g (okDr_f (okDr_ref hd _) f) hg⟩
  have hA : ∀ f g hi, 7 ≤ f → 3 ≤ g → okP (cOc S f g hi) ∧ okDr (cOc S f g hi) := fun f g hi hf hg => ⟨okP_sc (okP_o (okP_num (okP_fl (okP_tk h) hf) _ _) (by decide)), okDr_sc (okDr_g (okDr_num (okDr_f (okDr_tk hd) f) _ _) hg)⟩
  have hR : ∀ x, okP (cRef S x) ∧ okDr (cRef S x) := fun x => ⟨okP_ref h x, okDr_ref hd x⟩
  unfold cStm
  split
  · split
    · rename_i hk
      unfold cCur cFin
      have a1 : okP (cSc (cN1 S (nI 1) (nI 9999)).1) := okP_sc (okP_num (okP_tk h) _ _)
      have a2 : okDr (cSc (cN1 S (nI 1) (nI 9999)).1) := okDr_sc (okDr_num (okDr_tk hd) _ _)
      split
      · exact ⟨okP_o (okP_o a1 (by decide)) (by decide), okDr_0 (okDr_c a2 (by decide) (by decide)) (by omega)⟩
      · exact ⟨a1, a2⟩
    · exact hR _
  · split
    · split
      · rename_i hk
        unfold cCom cFin
        have a1 : okP (cSc (cN1 S (nI 0) (S.1 16 0 - nI 1)).1) := okP_sc (okP_num (okP_tk h) _ _)
        have a2 : okDr (cSc (cN1 S (nI 0) (S.1 16 0 - nI 1)).1) := okDr_sc (okDr_num (okDr_tk hd) _ _)
        split
        · exact ⟨okP_o (okP_o a1 (by decide)) (by decide), okDr_1 (okDr_c a2 (by decide) (by decide)) (by omega)⟩
        · exact ⟨a1, a2⟩
      · exact hR _
    · split
      · split
        · rename_i hk
          unfold cPro cFin
          have a1 : okP (cSc (cP4 S).1) := okP_sc (okP_num (okP_num (okP_num (okP_num (okP_tk h) _ _) _ _) _ _) _ _)
          have a2 : okDr (cSc (cP4 S).1) := okDr_sc (okDr_num (okDr_num (okDr_num (okDr_num (okDr_tk hd) _ _) _ _) _ _) _ _)
          split
          · unfold cAdd
            exact ⟨okP_o (okP_o (okP_o (okP_o (okP_o a1 (by decide)) (by decide)) (by decide)) (by decide)) (by decide), okDr_2 (okDr_c (okDr_c (okDr_c (okDr_c a2 (by decide) (by decide)) (by decide) (by decide)) (by decide) (by decide)) (by decide) (by decide)) (by omega)⟩
          · exact ⟨a1, a2⟩
        · exact hR _
      · split
        · split
          · exact hB 8 3 (by decide) (by decide)
          · exact hA 8 3 _ (by decide) (by decide)
        · split
          · split
            · exact hB 9 4 (by decide) (by decide)
            · exact hA 9 4 _ (by decide) (by decide)
          · split
            · split
              · exact hB 10 5 (by decide) (by decide)
              · exact hA 10 5 _ (by decide) (by decide)
            · exact hR _
def cRun (S : Mem) : Nat → Mem
  | 0 => S
  | f + 1 => if S.1 1 7 = 0 then (if S.1 1 4 = 0 then S else cRun (cStm S) f) else S
theorem cRun_stop {S : Mem} (h : ¬ S.1 1 7 = 0 ∨ S.1 1 4 = 0) : ∀ f, cRun S f = S
  | 0 => rfl
  | f + 1 => by
    rw [cRun]
    split
    · rename_i h1
      rcases h with h | h
      · exact absurd h1 h
      · rw [if_pos h]
    · rfl
def cClr (S : Mem) : Mem := setI (setI (setI (setI (setI (setI S 16 0 (nI 0)) 16 1 (nI 0)) 16 2 (nI 0)) 16 3 (nI 0)) 16 4 (nI 0)) 16 5 (nI 0)
def cIni (S : Mem) (n : Nat) : Mem := setI (setI (setI (setI (setI (setI (cClr S) 1 3 (nI n)) 1 6 (nI 0)) 1 7 (nI 0)) 1 8 (nI 0)) 1 9 (nI 0)) 1 10 (nI 0)
def cIn0 (S : Mem) (n : Nat) : Mem := tkC (cIni S n) n 0
theorem cIni_1 (S : Mem) (n : Nat) (j : Nat) : (cIni S n).1 1 j = if j = 10 then nI 0 else if j = 9 then nI 0 else if j = 8 then nI 0 else if j = 7 then nI 0 else if j = 6 then nI 0 else if j = 3 then nI n else (cClr S).1 1 j := by
  unfold cIni
  rw [sI_e, sI_e, sI_e, sI_e, sI_e, sI_e]
  unfold upd
  rfl
theorem cIni_k (S : Mem) (n : Nat) {z : Nat} (h : z ≠ 1) : (cIni S n).1 z = (cClr S).1 z := by
  unfold cIni; rw [sI_1 h, sI_1 h, sI_1 h, sI_1 h, sI_1 h, sI_1 h]
theorem cIn0_f (S : Mem) (n : Nat) : (cIn0 S n).1 1 = tkF ((cIni S n).1 1) (nI (tS ((cIni S n).1 2) n 0)) (nI (tE ((cIni S n).1 2) n 0)) (nI (tK ((cIni S n).1 2) n 0)) := by
  unfold cIn0 tkC; rw [sR_e]
theorem cIn0_ok (S : Mem) {n : Nat} (h : n ≤ 600) : okP (cIn0 S n) ∧ okDr (cIn0 S n) := by
  have hs := tS_le (f := (cIni S n).1 2) (Nat.zero_le n)
  have he := tE_le (f := (cIni S n).1 2) (Nat.zero_le n)
  constructor
  · unfold okP
    rw [cIn0_f]
    simp only [tkF, cIni_1]
    simp only [reduceIte, Nat.reduceEqDiff, if_true, if_false]
    rw [gN_nI (by omega), gN_nI (by omega), gN_nI (by omega)]
    exact ⟨rfl, h, rfl, he.2, rfl, he.1⟩
  · unfold okDr
    rw [cIn0_f]
    simp only [tkF, cIni_1]
    simp only [reduceIte, Nat.reduceEqDiff, if_true, if_false]
    have e : (cIn0 S n).1 16 = (cClr S).1 16 := by unfold cIn0 tkC; rw [sR_1 (by decide), cIni_k S n (by decide)]
    have e2 : ∀ j, j < 6 → (cClr S).1 16 j = nI 0 := by
      intro j hj
      unfold cClr
      rw [sI_e, sI_e, sI_e, sI_e, sI_e, sI_e]
      unfold upd
      rcases (show j = 0 ∨ j = 1 ∨ j = 2 ∨ j = 3 ∨ j = 4 ∨ j = 5 by omega) with rfl | rfl | rfl | rfl | rfl | rfl <;> rfl
    rw [e, e2 0 (by decide), e2 1 (by decide), e2 2 (by decide)]
    exact ⟨okN_nI (Nat.zero_le _) (by decide), okN_nI (Nat.zero_le _) (by decide), okN_nI (Nat.zero_le _) (by decide), by decide, by decide, by decide⟩

set_option maxRecDepth 100000 in
set_option maxHeartbeats 1000000 in
theorem ct_X3_readStatement (l : Launch) (ka va : Nat → Nat) (D : va_G) (cA : Nat → ClassId) (α : Nat → Nat) (n sz : Nat) (hn : 191 ≤ n) (S : Mem) (h9 : okP S) (hd : okDr S) : CtVe ka va l yX3_readStatement wsX3_readStatement ({ frames := 7, cells := 0, slots := 0, locals := 148 }) D cA α n sz [.ref (α 1)] S (cStm S) := by
  refine cte_enter cX3_readStatement 1 none (by decide) rfl (Nat.le_of_ble_eq_true rfl) ?_
  intro p e s m below meth c hx hb hr hml hlocks hown hts hK hsz hw hE ls hl
  have hown : s.vm.findClass RX3 = some m.cls := hown
  have hAw : ∀ z, Aw α n s.heap.size z → Aw α n sz z := by rw [hsz]; exact fun _ h => h
  have hl : lv_has ls 1 [(0, .ref (α 1))] := hl
  have hi6 : 0 < 6 := by decide
  refine lv_aload_n hx hb dX3_readStatement_0 rfl (lv_at hl 0 rfl) ?_
  refine va_ldcS (q := ka 0) hx hb hown (hE.2 ("IntercompanyLedger$GroupReader", 61, "currency", 0) (List.mem_of_getElem? (i := 0) rfl)) dX3_readStatement_1 ?_
  refine x_callVIe (b := (α 1)) (C := RX3) (As := [.ref (ka 0)]) (rest := []) ⟨hx, hb, hml, hown, hts⟩ (ct_X3_isWord l ka va D cA α n _ hn S 0 (by decide) h9) (cwV 1 hts gX3_readStatement_X3_isWord rfl rfl rfl (by decide +kernel) ⟨Nat.le_of_ble_eq_true rfl, Nat.le_of_ble_eq_true rfl⟩) hK hw hsz hE (ws_recv hK hw (q := 1) (Nat.lt_of_lt_of_le (Nat.le_of_ble_eq_true rfl : 1 < 191) hn) (mk_1 cA α) rfl) rfl hl.1 rfl (Nat.le_of_ble_eq_true rfl) dX3_readStatement_3 ⟨Nat.zero_le _, Nat.zero_le _⟩ (fun S9 eS9 H locs hw => ?_)
  rw [eS9] at hw
  refine xb_eq (b := (cWd S 0)) (tgt := 16) hx hb dX3_readStatement_6 (by decide) (fun c1 => ?_) (fun c1 => ?_)
  · skip
    refine lv_aload_n hx hb dX3_readStatement_16 rfl (lv_at hl 0 rfl) ?_
    refine va_ldcS (q := ka 1) hx hb hown (hE.2 ("IntercompanyLedger$GroupReader", 70, "company", 1) (List.mem_of_getElem? (i := 1) rfl)) dX3_readStatement_17 ?_
    refine x_callVIe (b := (α 1)) (C := RX3) (As := [.ref (ka 1)]) (rest := []) ⟨hx, hb, hml, hown, hts⟩ (ct_X3_isWord l ka va D cA α n _ hn S 1 (by decide) h9) (cwV 1 hts gX3_readStatement_X3_isWord rfl rfl rfl (by decide +kernel) ⟨Nat.le_of_ble_eq_true rfl, Nat.le_of_ble_eq_true rfl⟩) hK hw hsz hE (ws_recv hK hw (q := 1) (Nat.lt_of_lt_of_le (Nat.le_of_ble_eq_true rfl : 1 < 191) hn) (mk_1 cA α) rfl) rfl hl.1 rfl (Nat.le_of_ble_eq_true rfl) dX3_readStatement_19 ⟨Nat.zero_le _, Nat.zero_le _⟩ (fun S9 eS9 H locs hw => ?_)
    rw [eS9] at hw
    refine xb_eq (b := (cWd S 1)) (tgt := 32) hx hb dX3_readStatement_22 (by decide) (fun c2 => ?_) (fun c2 => ?_)
    · skip
      refine lv_aload_n hx hb dX3_readStatement_32 rfl (lv_at hl 0 rfl) ?_
      refine va_ldcS (q := ka 2) hx hb hown (hE.2 ("IntercompanyLedger$GroupReader", 75, "product", 2) (List.mem_of_getElem? (i := 2) rfl)) dX3_readStatement_33 ?_
      refine x_callVIe (b := (α 1)) (C := RX3) (As := [.ref (ka 2)]) (rest := []) ⟨hx, hb, hml, hown, hts⟩ (ct_X3_isWord l ka va D cA α n _ hn S 2 (by decide) h9) (cwV 1 hts gX3_readStatement_X3_isWord rfl rfl rfl (by decide +kernel) ⟨Nat.le_of_ble_eq_true rfl, Nat.le_of_ble_eq_true rfl⟩) hK hw hsz hE (ws_recv hK hw (q := 1) (Nat.lt_of_lt_of_le (Nat.le_of_ble_eq_true rfl : 1 < 191) hn) (mk_1 cA α) rfl) rfl hl.1 rfl (Nat.le_of_ble_eq_true rfl) dX3_readStatement_35 ⟨Nat.zero_le _, Nat.zero_le _⟩ (fun S9 eS9 H locs hw => ?_)
      rw [eS9] at hw
      refine xb_eq (b := (cWd S 2)) (tgt := 48) hx hb dX3_readStatement_38 (by decide) (fun c3 => ?_) (fun c3 => ?_)
      · skip
        refine lv_aload_n hx hb dX3_readStatement_48 rfl (lv_at hl 0 rfl) ?_
        refine va_ldcS (q := ka 3) hx hb hown (hE.2 ("IntercompanyLedger$GroupReader", 80, "tolerance", 3) (List.mem_of_getElem? (i := 3) rfl)) dX3_readStatement_49 ?_
        refine x_callVIe (b := (α 1)) (C := RX3) (As := [.ref (ka 3)]) (rest := []) ⟨hx, hb, hml, hown, hts⟩ (ct_X3_isWord l ka va D cA α n _ hn S 3 (by decide) h9) (cwV 1 hts gX3_readStatement_X3_isWord rfl rfl rfl (by decide +kernel) ⟨Nat.le_of_ble_eq_true rfl, Nat.le_of_ble_eq_true rfl⟩) hK hw hsz hE (ws_recv hK hw (q := 1) (Nat.lt_of_lt_of_le (Nat.le_of_ble_eq_true rfl : 1 < 191) hn) (mk_1 cA α) rfl) rfl hl.1 rfl (Nat.le_of_ble_eq_true rfl) dX3_readStatement_51 ⟨Nat.zero_le _, Nat.zero_le _⟩ (fun S9 eS9 H locs hw => ?_)
        rw [eS9] at hw
        refine xb_eq (b := (cWd S 3)) (tgt := 64) hx hb dX3_readStatement_54 (by decide) (fun c4 => ?_) (fun c4 => ?_)
        · skip
          refine lv_aload_n hx hb dX3_readStatement_64 rfl (lv_at hl 0 rfl) ?_
          refine va_ldcS (q := ka 4) hx hb hown (hE.2 ("IntercompanyLedger$GroupReader", 85, "center", 4) (List.mem_of_getElem? (i := 4) rfl)) dX3_readStatement_65 ?_
          refine x_callVIe (b := (α 1)) (C := RX3) (As := [.ref (ka 4)]) (rest := []) ⟨hx, hb, hml, hown, hts⟩ (ct_X3_isWord l ka va D cA α n _ hn S 4 (by decide) h9) (cwV 1 hts gX3_readStatement_X3_isWord rfl rfl rfl (by decide +kernel) ⟨Nat.le_of_ble_eq_true rfl, Nat.le_of_ble_eq_true rfl⟩) hK hw hsz hE (ws_recv hK hw (q := 1) (Nat.lt_of_lt_of_le (Nat.le_of_ble_eq_true rfl : 1 < 191) hn) (mk_1 cA α) rfl) rfl hl.1 rfl (Nat.le_of_ble_eq_true rfl) dX3_readStatement_67 ⟨Nat.zero_le _, Nat.zero_le _⟩ (fun S9 eS9 H locs hw => ?_)
          rw [eS9] at hw
          refine xb_eq (b := (cWd S 4)) (tgt := 80) hx hb dX3_readStatement_70 (by decide) (fun c5 => ?_) (fun c5 => ?_)
          · skip
            refine lv_aload_n hx hb dX3_readStatement_80 rfl (lv_at hl 0 rfl) ?_
            refine va_ldcS (q := ka 5) hx hb hown (hE.2 ("IntercompanyLedger$GroupReader", 90, "fee", 5) (List.mem_of_getElem? (i := 5) rfl)) dX3_readStatement_81 ?_
            refine x_callVIe (b := (α 1)) (C := RX3) (As := [.ref (ka 5)]) (rest := []) ⟨hx, hb, hml, hown, hts⟩ (ct_X3_isWord l ka va D cA α n _ hn S 5 (by decide) h9) (cwV 1 hts gX3_readStatement_X3_isWord rfl rfl rfl (by decide +kernel) ⟨Nat.le_of_ble_eq_true rfl, Nat.le_of_ble_eq_true rfl⟩) hK hw hsz hE (ws_recv hK hw (q := 1) (Nat.lt_of_lt_of_le (Nat.le_of_ble_eq_true rfl : 1 < 191) hn) (mk_1 cA α) rfl) rfl hl.1 rfl (Nat.le_of_ble_eq_true rfl) dX3_readStatement_83 ⟨Nat.zero_le _, Nat.zero_le _⟩ (fun S9 eS9 H locs hw => ?_)
            rw [eS9] at hw
            refine xb_eq (b := (cWd S 5)) (tgt := 96) hx hb dX3_readStatement_86 (by decide) (fun c6 => ?_) (fun c6 => ?_)
            · skip
              refine lv_aload_n hx hb dX3_readStatement_96 rfl (lv_at hl 0 rfl) ?_
              refine lv_iconst (v := nI 1) hx hb dX3_readStatement_97 (by decide) ?_
              refine x_callVV (q := 1) (C := RX3) (As := [.int (nI 1)]) (rest := []) ⟨hx, hb, hml, hown, hts⟩ (ct_X3_refuse l D cA α n _ hn S (nI 1)) (cwV 1 hts gX3_readStatement_X3_refuse rfl rfl rfl (by decide +kernel) ⟨Nat.le_of_ble_eq_true rfl, Nat.le_of_ble_eq_true rfl⟩) hK hw hAw (ws_recv hK hw (q := 1) (Nat.lt_of_lt_of_le (Nat.le_of_ble_eq_true rfl : 1 < 191) hn) (mk_1 cA α) rfl) rfl hl.1 rfl (Nat.le_of_ble_eq_true rfl) dX3_readStatement_98 ⟨Nat.zero_le _, Nat.zero_le _⟩ (fun S1 eS1 H locs hw => ?_)
              exact ret_v hx hb hr hlocks hK hw dX3_readStatement_101 (by subst eS1; unfold cStm; simp only [c1, c2, c3, c4, c5, c6, if_true, if_false, eq_self, Bool.false_eq_true, not_true_eq_false, not_false_eq_true, decide_true, decide_false, Bool.and_true, Bool.true_and, Bool.and_false, Bool.false_and, Bool.not_true, Bool.not_false, Bool.or_true, Bool.true_or, Bool.or_false, Bool.false_or, reduceIte, b2i_t, b2i_f]; try rfl)
            · skip
              refine lv_aload_n hx hb dX3_readStatement_89 rfl (lv_at hl 0 rfl) ?_
              refine x_callVV (q := 1) (C := RX3) (As := []) (rest := []) ⟨hx, hb, hml, hown, hts⟩ (ct_X3_readFeeU l D cA α n _ hn S h9 (flB (S.1 1 10)) hd.2.2.2.2.2) (cwV 0 hts gX3_readStatement_X3_readFee rfl rfl rfl (by decide +kernel) ⟨Nat.le_of_ble_eq_true rfl, Nat.le_of_ble_eq_true rfl⟩) hK hw hAw (ws_recv hK hw (q := 1) (Nat.lt_of_lt_of_le (Nat.le_of_ble_eq_true rfl : 1 < 191) hn) (mk_1 cA α) rfl) rfl hl.1 rfl (Nat.le_of_ble_eq_true rfl) dX3_readStatement_90 ⟨Nat.zero_le _, Nat.zero_le _⟩ (fun S2 eS2 H locs hw => ?_)
              refine lv_goto (tgt := 101) hx hb dX3_readStatement_93 (by decide) ?_
              exact ret_v hx hb hr hlocks hK hw dX3_readStatement_101 (by subst eS2; unfold cStm; simp only [c1, c2, c3, c4, c5, c6, if_true, if_false, eq_self, Bool.false_eq_true, not_true_eq_false, not_false_eq_true, decide_true, decide_false, Bool.and_true, Bool.true_and, Bool.and_false, Bool.false_and, Bool.not_true, Bool.not_false, Bool.or_true, Bool.true_or, Bool.or_false, Bool.false_or, reduceIte, b2i_t, b2i_f]; try rfl)
          · skip
            refine lv_aload_n hx hb dX3_readStatement_73 rfl (lv_at hl 0 rfl) ?_
            refine x_callVV (q := 1) (C := RX3) (As := []) (rest := []) ⟨hx, hb, hml, hown, hts⟩ (ct_X3_readCenterU l D cA α n _ hn S h9 (flB (S.1 1 9)) hd.2.2.2.2.1) (cwV 0 hts gX3_readStatement_X3_readCenter rfl rfl rfl (by decide +kernel) ⟨Nat.le_of_ble_eq_true rfl, Nat.le_of_ble_eq_true rfl⟩) hK hw hAw (ws_recv hK hw (q := 1) (Nat.lt_of_lt_of_le (Nat.le_of_ble_eq_true rfl : 1 < 191) hn) (mk_1 cA α) rfl) rfl hl.1 rfl (Nat.le_of_ble_eq_true rfl) dX3_readStatement_74 ⟨Nat.zero_le _, Nat.zero_le _⟩ (fun S3 eS3 H locs hw => ?_)
            refine lv_goto (tgt := 101) hx hb dX3_readStatement_77 (by decide) ?_
            exact ret_v hx hb hr hlocks hK hw dX3_readStatement_101 (by subst eS3; unfold cStm; simp only [c1, c2, c3, c4, c5, if_true, if_false, eq_self, Bool.false_eq_true, not_true_eq_false, not_false_eq_true, decide_true, decide_false, Bool.and_true, Bool.true_and, Bool.and_false, Bool.false_and, Bool.not_true, Bool.not_false, Bool.or_true, Bool.true_or, Bool.or_false, Bool.false_or, reduceIte, b2i_t, b2i_f]; try rfl)
        · skip
          refine lv_aload_n hx hb dX3_readStatement_57 rfl (lv_at hl 0 rfl) ?_
          refine x_callVV (q := 1) (C := RX3) (As := []) (rest := []) ⟨hx, hb, hml, hown, hts⟩ (ct_X3_readToleranceU l D cA α n _ hn S h9 (flB (S.1 1 8)) hd.2.2.2.1) (cwV 0 hts gX3_readStatement_X3_readTolerance rfl rfl rfl (by decide +kernel) ⟨Nat.le_of_ble_eq_true rfl, Nat.le_of_ble_eq_true rfl⟩) hK hw hAw (ws_recv hK hw (q := 1) (Nat.lt_of_lt_of_le (Nat.le_of_ble_eq_true rfl : 1 < 191) hn) (mk_1 cA α) rfl) rfl hl.1 rfl (Nat.le_of_ble_eq_true rfl) dX3_readStatement_58 ⟨Nat.zero_le _, Nat.zero_le _⟩ (fun S4 eS4 H locs hw => ?_)
          refine lv_goto (tgt := 101) hx hb dX3_readStatement_61 (by decide) ?_
          exact ret_v hx hb hr hlocks hK hw dX3_readStatement_101 (by subst eS4; unfold cStm; simp only [c1, c2, c3, c4, if_true, if_false, eq_self, Bool.false_eq_true, not_true_eq_false, not_false_eq_true, decide_true, decide_false, Bool.and_true, Bool.true_and, Bool.and_false, Bool.false_and, Bool.not_true, Bool.not_false, Bool.or_true, Bool.true_or, Bool.or_false, Bool.false_or, reduceIte, b2i_t, b2i_f]; try rfl)
      · skip
        refine lv_aload_n hx hb dX3_readStatement_41 rfl (lv_at hl 0 rfl) ?_
        refine x_callVV (q := 1) (C := RX3) (As := []) (rest := []) ⟨hx, hb, hml, hown, hts⟩ (ct_X3_readProductU l D cA α n _ hn S h9 (gN (S.1 16 2)) hd.2.2.1.1 hd.2.2.1.2) (cwV 0 hts gX3_readStatement_X3_readProduct rfl rfl rfl (by decide +kernel) ⟨Nat.le_of_ble_eq_true rfl, Nat.le_of_ble_eq_true rfl⟩) hK hw hAw (ws_recv hK hw (q := 1) (Nat.lt_of_lt_of_le (Nat.le_of_ble_eq_true rfl : 1 < 191) hn) (mk_1 cA α) rfl) rfl hl.1 rfl (Nat.le_of_ble_eq_true rfl) dX3_readStatement_42 ⟨Nat.zero_le _, Nat.zero_le _⟩ (fun S5 eS5 H locs hw => ?_)
        refine lv_goto (tgt := 101) hx hb dX3_readStatement_45 (by decide) ?_
        exact ret_v hx hb hr hlocks hK hw dX3_readStatement_101 (by subst eS5; unfold cStm; simp only [c1, c2, c3, if_true, if_false, eq_self, Bool.false_eq_true, not_true_eq_false, not_false_eq_true, decide_true, decide_false, Bool.and_true, Bool.true_and, Bool.and_false, Bool.false_and, Bool.not_true, Bool.not_false, Bool.or_true, Bool.true_or, Bool.or_false, Bool.false_or, reduceIte, b2i_t, b2i_f]; try rfl)
    · skip
      refine lv_aload_n hx hb dX3_readStatement_25 rfl (lv_at hl 0 rfl) ?_
      refine x_callVV (q := 1) (C := RX3) (As := []) (rest := []) ⟨hx, hb, hml, hown, hts⟩ (ct_X3_readCompanyU l D cA α n _ hn S h9 (gN (S.1 16 1)) hd.2.1.1 hd.2.1.2) (cwV 0 hts gX3_readStatement_X3_readCompany rfl rfl rfl (by decide +kernel) ⟨Nat.le_of_ble_eq_true rfl, Nat.le_of_ble_eq_true rfl⟩) hK hw hAw (ws_recv hK hw (q := 1) (Nat.lt_of_lt_of_le (Nat.le_of_ble_eq_true rfl : 1 < 191) hn) (mk_1 cA α) rfl) rfl hl.1 rfl (Nat.le_of_ble_eq_true rfl) dX3_readStatement_26 ⟨Nat.zero_le _, Nat.zero_le _⟩ (fun S6 eS6 H locs hw => ?_)
      refine lv_goto (tgt := 101) hx hb dX3_readStatement_29 (by decide) ?_
      exact ret_v hx hb hr hlocks hK hw dX3_readStatement_101 (by subst eS6; unfold cStm; simp only [c1, c2, if_true, if_false, eq_self, Bool.false_eq_true, not_true_eq_false, not_false_eq_true, decide_true, decide_false, Bool.and_true, Bool.true_and, Bool.and_false, Bool.false_and, Bool.not_true, Bool.not_false, Bool.or_true, Bool.true_or, Bool.or_false, Bool.false_or, reduceIte, b2i_t, b2i_f]; try rfl)
  · skip
    refine lv_aload_n hx hb dX3_readStatement_9 rfl (lv_at hl 0 rfl) ?_
    refine x_callVV (q := 1) (C := RX3) (As := []) (rest := []) ⟨hx, hb, hml, hown, hts⟩ (ct_X3_readCurrencyU l D cA α n _ hn S h9 (gN (S.1 16 0)) hd.1.1 hd.1.2) (cwV 0 hts gX3_readStatement_X3_readCurrency rfl rfl rfl (by decide +kernel) ⟨Nat.le_of_ble_eq_true rfl, Nat.le_of_ble_eq_true rfl⟩) hK hw hAw (ws_recv hK hw (q := 1) (Nat.lt_of_lt_of_le (Nat.le_of_ble_eq_true rfl : 1 < 191) hn) (mk_1 cA α) rfl) rfl hl.1 rfl (Nat.le_of_ble_eq_true rfl) dX3_readStatement_10 ⟨Nat.zero_le _, Nat.zero_le _⟩ (fun S7 eS7 H locs hw => ?_)
    refine lv_goto (tgt := 101) hx hb dX3_readStatement_13 (by decide) ?_
    exact ret_v hx hb hr hlocks hK hw dX3_readStatement_101 (by subst eS7; unfold cStm; simp only [c1, if_true, if_false, eq_self, Bool.false_eq_true, not_true_eq_false, not_false_eq_true, decide_true, decide_false, Bool.and_true, Bool.true_and, Bool.and_false, Bool.false_and, Bool.not_true, Bool.not_false, Bool.or_true, Bool.true_or, Bool.or_false, Bool.false_or, reduceIte, b2i_t, b2i_f]; try rfl)

set_option maxRecDepth 100000 in
set_option maxHeartbeats 1000000 in
theorem ct_X3_readGroup (l : Launch) (ka va : Nat → Nat) (D : va_G) (cA : Nat → ClassId) (α : Nat → Nat) (n sz : Nat) (hn : 191 ≤ n) (S : Mem) (n9 : Nat) (h600 : n9 ≤ 600) : CtIe ka va l yX3_readGroup wsX3_readGroup ({ frames := 8, cells := 0, slots := 0, locals := 168 }) D cA α n sz [.ref (α 1), .int (nI n9)] S ((cRun (cIn0 S n9) 600).1 1 7) (cRun (cIn0 S n9) 600) := by
  refine cte_enter cX3_readGroup 3 (some .int) (by decide) rfl (Nat.le_of_ble_eq_true rfl) ?_
  intro p e s m below meth c hx hb hr hml hlocks hown hts hK hsz hw hE ls hl
  have hown : s.vm.findClass RX3 = some m.cls := hown
  have hAw : ∀ z, Aw α n s.heap.size z → Aw α n sz z := by rw [hsz]; exact fun _ h => h
  have hl : lv_has ls 3 [(0, .ref (α 1)), (1, .int (nI n9))] := hl
  refine lv_aload_n hx hb dX3_readGroup_0 rfl (lv_at hl 0 rfl) ?_
  refine x_get (v := .ref (α 16)) (C := RX3) (T := TX3) (N := 11) hx hb hts (fun _ h => List.mem_cons_of_mem _ (List.mem_append_left _ (List.mem_append_right _ h))) hown hK hw 1 (Nat.lt_of_lt_of_le (Nat.le_of_ble_eq_true rfl : 1 < 191) hn) (mk_1 cA α) rfl 0 (by decide) (hts _ (List.mem_of_getElem? (i := 1) rfl)) (fun _ h9 => h9) rfl dX3_readGroup_1 ?_
  refine x_callVV (q := 16) (C := RX2) (As := []) (rest := []) ⟨hx, hb, hml, hown, hts⟩ (ct_X2_clear l D cA α n _ hn S ) (cwV 0 hts gX3_readGroup_X2_clear rfl rfl rfl (by decide +kernel) ⟨Nat.le_of_ble_eq_true rfl, Nat.le_of_ble_eq_true rfl⟩) hK hw hAw (ws_recv hK hw (q := 16) (Nat.lt_of_lt_of_le (Nat.le_of_ble_eq_true rfl : 16 < 191) hn) (mk_16 cA α) rfl) rfl hl.1 rfl (Nat.le_of_ble_eq_true rfl) dX3_readGroup_4 ⟨Nat.zero_le _, Nat.zero_le _⟩ (fun S1 eS1 H locs hw => ?_)
  refine lv_aload_n hx hb dX3_readGroup_7 rfl (lv_at hl 0 rfl) ?_
  refine lv_iload_n hx hb dX3_readGroup_8 rfl (lv_at hl 1 rfl) ?_
  refine x_putI (x := nI n9) (ty := .int) (C := RX3) (T := TX3) (N := 11) hx hb hts (fun _ h => List.mem_cons_of_mem _ (List.mem_append_left _ (List.mem_append_right _ h))) tyX3 tyX3_ok nmX3 hown hK hw 1 (Nat.lt_of_lt_of_le (Nat.le_of_ble_eq_true rfl : 1 < 191) hn) (mk_1 cA α) rfl 3 (by decide) (hts _ (List.mem_of_getElem? (i := 2) rfl)) (fun _ h9 => h9) rfl rfl rfl rfl (Nat.le_of_ble_eq_true rfl) rfl dX3_readGroup_9 (fun S2 eS2 H locs hw => ?_)
  refine lv_aload_n hx hb dX3_readGroup_12 rfl (lv_at hl 0 rfl) ?_
  refine lv_iconst (v := nI 0) hx hb dX3_readGroup_13 (by decide) ?_
  refine x_putI (x := nI 0) (ty := .int) (C := RX3) (T := TX3) (N := 11) hx hb hts (fun _ h => List.mem_cons_of_mem _ (List.mem_append_left _ (List.mem_append_right _ h))) tyX3 tyX3_ok nmX3 hown hK hw 1 (Nat.lt_of_lt_of_le (Nat.le_of_ble_eq_true rfl : 1 < 191) hn) (mk_1 cA α) rfl 6 (by decide) (hts _ (List.mem_of_getElem? (i := 3) rfl)) (fun _ h9 => h9) rfl rfl rfl rfl (Nat.le_of_ble_eq_true rfl) rfl dX3_readGroup_14 (fun S3 eS3 H locs hw => ?_)
  refine lv_aload_n hx hb dX3_readGroup_17 rfl (lv_at hl 0 rfl) ?_
  refine lv_iconst (v := nI 0) hx hb dX3_readGroup_18 (by decide) ?_
  refine x_putI (x := nI 0) (ty := .int) (C := RX3) (T := TX3) (N := 11) hx hb hts (fun _ h => List.mem_cons_of_mem _ (List.mem_append_left _ (List.mem_append_right _ h))) tyX3 tyX3_ok nmX3 hown hK hw 1 (Nat.lt_of_lt_of_le (Nat.le_of_ble_eq_true rfl : 1 < 191) hn) (mk_1 cA α) rfl 7 (by decide) (hts _ (List.mem_of_getElem? (i := 4) rfl)) (fun _ h9 => h9) rfl rfl rfl rfl (Nat.le_of_ble_eq_true rfl) rfl dX3_readGroup_19 (fun S4 eS4 H locs hw => ?_)
  refine lv_aload_n hx hb dX3_readGroup_22 rfl (lv_at hl 0 rfl) ?_
  refine lv_iconst (v := nI 0) hx hb dX3_readGroup_23 (by decide) ?_
  refine x_putI (x := nI 0) (ty := .boolean) (C := RX3) (T := TX3) (N := 11) hx hb hts (fun _ h => List.mem_cons_of_mem _ (List.mem_append_left _ (List.mem_append_right _ h))) tyX3 tyX3_ok nmX3 hown hK hw 1 (Nat.lt_of_lt_of_le (Nat.le_of_ble_eq_true rfl : 1 < 191) hn) (mk_1 cA α) rfl 8 (by decide) (hts _ (List.mem_of_getElem? (i := 5) rfl)) (fun _ h9 => h9) rfl rfl (by decide) (by decide) (Nat.le_of_ble_eq_true rfl) rfl dX3_readGroup_24 (fun S5 eS5 H locs hw => ?_)
  refine lv_aload_n hx hb dX3_readGroup_27 rfl (lv_at hl 0 rfl) ?_
  refine lv_iconst (v := nI 0) hx hb dX3_readGroup_28 (by decide) ?_
  refine x_putI (x := nI 0) (ty := .boolean) (C := RX3) (T := TX3) (N := 11) hx hb hts (fun _ h => List.mem_cons_of_mem _ (List.mem_append_left _ (List.mem_append_right _ h))) tyX3 tyX3_ok nmX3 hown hK hw 1 (Nat.lt_of_lt_of_le (Nat.le_of_ble_eq_true rfl : 1 < 191) hn) (mk_1 cA α) rfl 9 (by decide) (hts _ (List.mem_of_getElem? (i := 6) rfl)) (fun _ h9 => h9) rfl rfl (by decide) (by decide) (Nat.le_of_ble_eq_true rfl) rfl dX3_readGroup_29 (fun S6 eS6 H locs hw => ?_)
  refine lv_aload_n hx hb dX3_readGroup_32 rfl (lv_at hl 0 rfl) ?_
  refine lv_iconst (v := nI 0) hx hb dX3_readGroup_33 (by decide) ?_
  refine x_putI (x := nI 0) (ty := .boolean) (C := RX3) (T := TX3) (N := 11) hx hb hts (fun _ h => List.mem_cons_of_mem _ (List.mem_append_left _ (List.mem_append_right _ h))) tyX3 tyX3_ok nmX3 hown hK hw 1 (Nat.lt_of_lt_of_le (Nat.le_of_ble_eq_true rfl : 1 < 191) hn) (mk_1 cA α) rfl 10 (by decide) (hts _ (List.mem_of_getElem? (i := 7) rfl)) (fun _ h9 => h9) rfl rfl (by decide) (by decide) (Nat.le_of_ble_eq_true rfl) rfl dX3_readGroup_34 (fun S7 eS7 H locs hw => ?_)
  refine lv_aload_n hx hb dX3_readGroup_37 rfl (lv_at hl 0 rfl) ?_
  refine x_callVV (q := 1) (C := RX3) (As := []) (rest := []) ⟨hx, hb, hml, hown, hts⟩ (ct_X3_readToken l D cA α n _ hn S7 n9 0 (by subst eS7; subst eS6; subst eS5; subst eS4; subst eS3; subst eS2; subst eS1; exact (cIni_1 S n9 3)) h600 (by subst eS7; subst eS6; subst eS5; subst eS4; subst eS3; subst eS2; subst eS1; exact (cIni_1 S n9 6)) (Nat.zero_le _)) (cwV 0 hts gX3_readGroup_X3_readToken rfl rfl rfl (by decide +kernel) ⟨Nat.le_of_ble_eq_true rfl, Nat.le_of_ble_eq_true rfl⟩) hK hw hAw (ws_recv hK hw (q := 1) (Nat.lt_of_lt_of_le (Nat.le_of_ble_eq_true rfl : 1 < 191) hn) (mk_1 cA α) rfl) rfl hl.1 rfl (Nat.le_of_ble_eq_true rfl) dX3_readGroup_38 ⟨Nat.zero_le _, Nat.zero_le _⟩ (fun S8 eS8 H locs hw => ?_)
  refine lv_iconst (v := nI 0) hx hb dX3_readGroup_41 (by decide) ?_
  refine lv_istore_n (lv' := [(2, .int (nI 0)), (0, .ref (α 1)), (1, .int (nI n9))]) hx hb dX3_readGroup_42 rfl hl (by decide) rfl (fun ls hl => ?_)
  have lp43 : ∀ (t : Nat) (k : Nat) (T : Mem) (H : Heap) (locs : List Loc) (ls : Array Slot), 600 - k < t → k ≤ 600 → okP T → okDr T → cRun (cIn0 S n9) 600 = cRun T (600 - k) → Ws D cA α n (Aw α n sz) s.heap T H locs → lv_has ls 3 [(0, .ref (α 1)), (1, .int (nI n9)), (2, .int (nI k))] → W p l e ({ frames := 8, cells := 0, slots := 0, locals := 168 } : Room) s m (List.toArray ([.ref (α 1), .int (nI n9)] : List Value)) below meth c H locs 0 0 (MQ below (va_Qi (fun r u => r = ((cRun (cIn0 S n9) 600).1 1 7) ∧ u = (cRun (cIn0 S n9) 600)) (Pw D cA α n) (Aw α n sz)) (List.toArray ([.ref (α 1), .int (nI n9)] : List Value)) s 0 0 (Aw α n sz)) (F0 m 43 ls []) := by
    intro t
    induction t with
    | zero => intro k T H locs ls ht; exact absurd ht (Nat.not_lt_zero _)
    | succ t ih43 =>
      intro k T H locs ls ht hk hP hD hR hw hl
      refine lv_iload_n hx hb dX3_readGroup_43 rfl (lv_at hl 2 rfl) ?_
      refine lv_sipush (v := nI 600) hx hb dX3_readGroup_44 (by decide) ?_
      refine xn_icmp_ge (tgt := 77) hx hb (by omega) (by decide) dX3_readGroup_47 (by decide) (fun c1 => ?_) (fun c1 => ?_)
      · skip
        refine lv_aload_n hx hb dX3_readGroup_77 rfl (lv_at hl 0 rfl) ?_
        refine x_get (v := .int (T.1 1 7)) (C := RX3) (T := TX3) (N := 11) hx hb hts (fun _ h => List.mem_cons_of_mem _ (List.mem_append_left _ (List.mem_append_right _ h))) hown hK hw 1 (Nat.lt_of_lt_of_le (Nat.le_of_ble_eq_true rfl : 1 < 191) hn) (mk_1 cA α) rfl 7 (by decide) (hts _ (List.mem_of_getElem? (i := 4) rfl)) (fun _ h9 => h9) rfl dX3_readGroup_78 ?_
        exact ret_i hx hb hr hlocks hK hw dX3_readGroup_81 (by rw [hR]; first | (rw [cRun_stop (Or.inl c1)]; done) | (rw [cRun_stop (Or.inr c1)]; done) | (rw [show 600 - k = 0 by omega]; rfl)) (by rw [hR]; first | (rw [cRun_stop (Or.inl c1)]; done) | (rw [cRun_stop (Or.inr c1)]; done) | (rw [show 600 - k = 0 by omega]; rfl))
      · skip
        refine lv_aload_n hx hb dX3_readGroup_50 rfl (lv_at hl 0 rfl) ?_
        refine x_get (v := .int (T.1 1 7)) (C := RX3) (T := TX3) (N := 11) hx hb hts (fun _ h => List.mem_cons_of_mem _ (List.mem_append_left _ (List.mem_append_right _ h))) hown hK hw 1 (Nat.lt_of_lt_of_le (Nat.le_of_ble_eq_true rfl : 1 < 191) hn) (mk_1 cA α) rfl 7 (by decide) (hts _ (List.mem_of_getElem? (i := 4) rfl)) (fun _ h9 => h9) rfl dX3_readGroup_51 ?_
        refine lv_if_ne (tgt := 77) hx hb dX3_readGroup_54 (by decide) (fun c2 => ?_) (fun c2 => ?_)
        · skip
          refine lv_aload_n hx hb dX3_readGroup_77 rfl (lv_at hl 0 rfl) ?_
          refine x_get (v := .int (T.1 1 7)) (C := RX3) (T := TX3) (N := 11) hx hb hts (fun _ h => List.mem_cons_of_mem _ (List.mem_append_left _ (List.mem_append_right _ h))) hown hK hw 1 (Nat.lt_of_lt_of_le (Nat.le_of_ble_eq_true rfl : 1 < 191) hn) (mk_1 cA α) rfl 7 (by decide) (hts _ (List.mem_of_getElem? (i := 4) rfl)) (fun _ h9 => h9) rfl dX3_readGroup_78 ?_
          exact ret_i hx hb hr hlocks hK hw dX3_readGroup_81 (by rw [hR]; first | (rw [cRun_stop (Or.inl c2)]; done) | (rw [cRun_stop (Or.inr c2)]; done) | (rw [show 600 - k = 0 by omega]; rfl)) (by rw [hR]; first | (rw [cRun_stop (Or.inl c2)]; done) | (rw [cRun_stop (Or.inr c2)]; done) | (rw [show 600 - k = 0 by omega]; rfl))
        · skip
          refine lv_aload_n hx hb dX3_readGroup_57 rfl (lv_at hl 0 rfl) ?_
          refine x_get (v := .int (T.1 1 4)) (C := RX3) (T := TX3) (N := 11) hx hb hts (fun _ h => List.mem_cons_of_mem _ (List.mem_append_left _ (List.mem_append_right _ h))) hown hK hw 1 (Nat.lt_of_lt_of_le (Nat.le_of_ble_eq_true rfl : 1 < 191) hn) (mk_1 cA α) rfl 4 (by decide) (hts _ (List.mem_of_getElem? (i := 8) rfl)) (fun _ h9 => h9) rfl dX3_readGroup_58 ?_
          refine lv_if_ne (tgt := 67) hx hb dX3_readGroup_61 (by decide) (fun c3 => ?_) (fun c3 => ?_)
          · skip
            refine lv_aload_n hx hb dX3_readGroup_67 rfl (lv_at hl 0 rfl) ?_
            refine x_callVVe (b := (α 1)) (C := RX3) (As := []) (rest := []) ⟨hx, hb, hml, hown, hts⟩ (ct_X3_readStatement l ka va D cA α n _ hn T hP hD) (cwV 0 hts gX3_readGroup_X3_readStatement rfl rfl rfl (by decide +kernel) ⟨Nat.le_of_ble_eq_true rfl, Nat.le_of_ble_eq_true rfl⟩) hK hw hsz hE (ws_recv hK hw (q := 1) (Nat.lt_of_lt_of_le (Nat.le_of_ble_eq_true rfl : 1 < 191) hn) (mk_1 cA α) rfl) rfl hl.1 rfl (Nat.le_of_ble_eq_true rfl) dX3_readGroup_68 ⟨Nat.zero_le _, Nat.zero_le _⟩ (fun S9 eS9 H locs hw => ?_)
            refine lv_iinc (v := nI (k + 1)) (lv' := [(2, .int (nI (k + 1))), (0, .ref (α 1)), (1, .int (nI n9))]) hx hb dX3_readGroup_71 hl (k := 2) rfl (nI_1 _) (by decide) rfl (fun ls hl => ?_)
            refine lv_goto (tgt := 43) hx hb dX3_readGroup_74 (by decide) ?_
            exact ih43 (k + 1) S9 _ _ _ (by omega) (by omega) (by subst eS9; exact (ok_stm hP hD).1) (by subst eS9; exact (ok_stm hP hD).2) (by subst eS9; rw [hR, show 600 - k = (600 - (k + 1)) + 1 by omega, cRun, if_pos c2, if_neg c3]) hw (lv_sub hl [1, 2, 0] rfl)
          · skip
            refine lv_goto (tgt := 77) hx hb dX3_readGroup_64 (by decide) ?_
            refine lv_aload_n hx hb dX3_readGroup_77 rfl (lv_at hl 0 rfl) ?_
            refine x_get (v := .int (T.1 1 7)) (C := RX3) (T := TX3) (N := 11) hx hb hts (fun _ h => List.mem_cons_of_mem _ (List.mem_append_left _ (List.mem_append_right _ h))) hown hK hw 1 (Nat.lt_of_lt_of_le (Nat.le_of_ble_eq_true rfl : 1 < 191) hn) (mk_1 cA α) rfl 7 (by decide) (hts _ (List.mem_of_getElem? (i := 4) rfl)) (fun _ h9 => h9) rfl dX3_readGroup_78 ?_
            exact ret_i hx hb hr hlocks hK hw dX3_readGroup_81 (by rw [hR]; first | (rw [cRun_stop (Or.inl c3)]; done) | (rw [cRun_stop (Or.inr c3)]; done) | (rw [show 600 - k = 0 by omega]; rfl)) (by rw [hR]; first | (rw [cRun_stop (Or.inl c3)]; done) | (rw [cRun_stop (Or.inr c3)]; done) | (rw [show 600 - k = 0 by omega]; rfl))
  exact lp43 _ 0 S8 _ _ _ (Nat.lt_succ_self _) (Nat.zero_le _) (by subst eS8; subst eS7; subst eS6; subst eS5; subst eS4; subst eS3; subst eS2; subst eS1; exact (cIn0_ok S h600).1) (by subst eS8; subst eS7; subst eS6; subst eS5; subst eS4; subst eS3; subst eS2; subst eS1; exact (cIn0_ok S h600).2) (by subst eS8; subst eS7; subst eS6; subst eS5; subst eS4; subst eS3; subst eS2; subst eS1; rfl) hw (lv_sub hl [1, 2, 0] rfl)

def cPa (S : Mem) (n : Nat) : Mem := setI (cRun (cIn0 S n) 600) 1 1 (nI 0)
def cPb (S : Mem) (n : Nat) : Mem := setI (setI (setI (cBeg (cpGr (cPa S n))) 11 0 (nI 0)) 14 0 (nI 0)) 15 0 (nI 0)
theorem cRun7 (S : Mem) (x : Int32) : (setI S 1 1 x).1 1 7 = S.1 1 7 := by rw [sI_e, pk_un (by decide)]

set_option maxRecDepth 100000 in
set_option maxHeartbeats 1000000 in
theorem ct_X10_parseE (l : Launch) (ka va : Nat → Nat) (D : va_G) (cA : Nat → ClassId) (α : Nat → Nat) (n sz : Nat) (hn : 191 ≤ n) (S : Mem) (F : Nat) (hF : S.1 1 1 = nI F) (hF2 : F ≤ 600) (n9 : Nat) (h600 : n9 ≤ F) (hv : ¬ (cRun (cIn0 S n9) 600).1 1 7 = 0) : CtIe ka va l yX10_parse wsX10_parse ({ frames := 9, cells := 0, slots := 0, locals := 190 }) D cA α n sz [.ref (α 0), .int (nI n9)] S ((cRun (cIn0 S n9) 600).1 1 7) (cPa S n9) := by
  refine cte_enter cX10_parse 4 (some .int) (by decide) rfl (Nat.le_of_ble_eq_true rfl) ?_
  intro p e s m below meth c hx hb hr hml hlocks hown hts hK hsz hw hE ls hl
  have hown : s.vm.findClass RX10 = some m.cls := hown
  have hAw : ∀ z, Aw α n s.heap.size z → Aw α n sz z := by rw [hsz]; exact fun _ h => h
  have hl : lv_has ls 4 [(0, .ref (α 0)), (1, .int (nI n9))] := hl
  refine lv_iload_n hx hb dX10_parse_0 rfl (lv_at hl 1 rfl) ?_
  refine lv_if_lt (tgt := 15) hx hb dX10_parse_1 (by decide) (fun c1 => ?_) (fun c1 => ?_)
  · exact absurd c1 (cpo (by omega))
  · skip
    refine lv_iload_n hx hb dX10_parse_4 rfl (lv_at hl 1 rfl) ?_
    refine lv_aload_n hx hb dX10_parse_5 rfl (lv_at hl 0 rfl) ?_
    refine x_get (v := .ref (α 1)) (C := RX10) (T := TX10) (N := 7) hx hb hts (fun _ h => List.mem_cons_of_mem _ (List.mem_append_left _ (List.mem_append_left _ (List.mem_append_left _ (List.mem_append_left _ (List.mem_append_left _ (List.mem_append_left _ (List.mem_append_left _ (List.mem_append_right _ h))))))))) hown hK hw 0 (Nat.lt_of_lt_of_le (Nat.le_of_ble_eq_true rfl : 0 < 191) hn) (mk_0 cA α) rfl 0 (by decide) (hts _ (List.mem_of_getElem? (i := 3) rfl)) (fun _ h9 => h9) rfl dX10_parse_6 ?_
    refine x_get (v := .int (S.1 1 1)) (C := RX3) (T := TX3) (N := 11) hx hb hts (fun _ h => List.mem_cons_of_mem _ (List.mem_append_left _ (List.mem_append_left _ (List.mem_append_left _ (List.mem_append_left _ (List.mem_append_left _ (List.mem_append_left _ (List.mem_append_right _ h)))))))) hown hK hw 1 (Nat.lt_of_lt_of_le (Nat.le_of_ble_eq_true rfl : 1 < 191) hn) (mk_1 cA α) rfl 1 (by decide) (hts _ (List.mem_of_getElem? (i := 4) rfl)) (fun _ h9 => h9) rfl dX10_parse_9 ?_
    refine x_topN (k := F) hF ?_
    refine xn_icmp_le (tgt := 25) hx hb (by omega) (by omega) dX10_parse_12 (by decide) (fun c2 => ?_) (fun c2 => ?_)
    · skip
      refine lv_aload_n hx hb dX10_parse_25 rfl (lv_at hl 0 rfl) ?_
      refine x_get (v := .ref (α 1)) (C := RX10) (T := TX10) (N := 7) hx hb hts (fun _ h => List.mem_cons_of_mem _ (List.mem_append_left _ (List.mem_append_left _ (List.mem_append_left _ (List.mem_append_left _ (List.mem_append_left _ (List.mem_append_left _ (List.mem_append_left _ (List.mem_append_right _ h))))))))) hown hK hw 0 (Nat.lt_of_lt_of_le (Nat.le_of_ble_eq_true rfl : 0 < 191) hn) (mk_0 cA α) rfl 0 (by decide) (hts _ (List.mem_of_getElem? (i := 3) rfl)) (fun _ h9 => h9) rfl dX10_parse_26 ?_
      refine lv_iload_n hx hb dX10_parse_29 rfl (lv_at hl 1 rfl) ?_
      refine x_callVIe (b := (α 1)) (C := RX3) (As := [.int (nI n9)]) (rest := []) ⟨hx, hb, hml, hown, hts⟩ (ct_X3_readGroup l ka va D cA α n _ hn S n9 (by omega)) (cwV 1 hts gX10_parse_X3_readGroup rfl rfl rfl (by decide +kernel) ⟨Nat.le_of_ble_eq_true rfl, Nat.le_of_ble_eq_true rfl⟩) hK hw hsz hE (ws_recv hK hw (q := 1) (Nat.lt_of_lt_of_le (Nat.le_of_ble_eq_true rfl : 1 < 191) hn) (mk_1 cA α) rfl) rfl hl.1 rfl (Nat.le_of_ble_eq_true rfl) dX10_parse_30 ⟨Nat.zero_le _, Nat.zero_le _⟩ (fun S1 eS1 H locs hw => ?_)
      refine lv_istore_n (lv' := [(2, .int ((cRun (cIn0 S n9) 600).1 1 7)), (0, .ref (α 0)), (1, .int (nI n9))]) hx hb dX10_parse_33 rfl hl (by decide) rfl (fun ls hl => ?_)
      refine lv_aload_n hx hb dX10_parse_34 rfl (lv_at hl 1 rfl) ?_
      refine x_get (v := .ref (α 1)) (C := RX10) (T := TX10) (N := 7) hx hb hts (fun _ h => List.mem_cons_of_mem _ (List.mem_append_left _ (List.mem_append_left _ (List.mem_append_left _ (List.mem_append_left _ (List.mem_append_left _ (List.mem_append_left _ (List.mem_append_left _ (List.mem_append_right _ h))))))))) hown hK hw 0 (Nat.lt_of_lt_of_le (Nat.le_of_ble_eq_true rfl : 0 < 191) hn) (mk_0 cA α) rfl 0 (by decide) (hts _ (List.mem_of_getElem? (i := 3) rfl)) (fun _ h9 => h9) rfl dX10_parse_35 ?_
      refine lv_iconst (v := nI 0) hx hb dX10_parse_38 (by decide) ?_
      refine x_putI (x := nI 0) (ty := .int) (C := RX3) (T := TX3) (N := 11) hx hb hts (fun _ h => List.mem_cons_of_mem _ (List.mem_append_left _ (List.mem_append_left _ (List.mem_append_left _ (List.mem_append_left _ (List.mem_append_left _ (List.mem_append_left _ (List.mem_append_right _ h)))))))) tyX3 tyX3_ok nmX3 hown hK hw 1 (Nat.lt_of_lt_of_le (Nat.le_of_ble_eq_true rfl : 1 < 191) hn) (mk_1 cA α) rfl 1 (by decide) (hts _ (List.mem_of_getElem? (i := 4) rfl)) (fun _ h9 => h9) rfl rfl rfl rfl (Nat.le_of_ble_eq_true rfl) rfl dX10_parse_39 (fun S2 eS2 H locs hw => ?_)
      refine lv_iload_n hx hb dX10_parse_42 rfl (lv_at hl 0 rfl) ?_
      refine lv_if_eq (tgt := 48) hx hb dX10_parse_43 (by decide) (fun c3 => ?_) (fun c3 => ?_)
      · exact absurd c3 hv
      · skip
        refine lv_iload_n hx hb dX10_parse_46 rfl (lv_at hl 0 rfl) ?_
        exact ret_i hx hb hr hlocks hK hw dX10_parse_47 rfl (by subst eS2; subst eS1; rfl)
    · exact absurd h600 (by omega)

set_option maxRecDepth 100000 in
set_option maxHeartbeats 1000000 in
theorem ct_X10_parse (l : Launch) (ka va : Nat → Nat) (D : va_G) (cA : Nat → ClassId) (α : Nat → Nat) (n sz : Nat) (hn : 191 ≤ n) (S : Mem) (F : Nat) (hF : S.1 1 1 = nI F) (hF2 : F ≤ 600) (n9 : Nat) (h600 : n9 ≤ F) (hv : (cRun (cIn0 S n9) 600).1 1 7 = 0) : CtIe ka va l yX10_parse wsX10_parse ({ frames := 9, cells := 0, slots := 0, locals := 190 }) D cA α n sz [.ref (α 0), .int (nI n9)] S ((cPb S n9).1 23 1) (cPb S n9) := by
  refine cte_enter cX10_parse 4 (some .int) (by decide) rfl (Nat.le_of_ble_eq_true rfl) ?_
  intro p e s m below meth c hx hb hr hml hlocks hown hts hK hsz hw hE ls hl
  have hown : s.vm.findClass RX10 = some m.cls := hown
  have hAw : ∀ z, Aw α n s.heap.size z → Aw α n sz z := by rw [hsz]; exact fun _ h => h
  have hl : lv_has ls 4 [(0, .ref (α 0)), (1, .int (nI n9))] := hl
  refine lv_iload_n hx hb dX10_parse_0 rfl (lv_at hl 1 rfl) ?_
  refine lv_if_lt (tgt := 15) hx hb dX10_parse_1 (by decide) (fun c1 => ?_) (fun c1 => ?_)
  · exact absurd c1 (cpo (by omega))
  · skip
    refine lv_iload_n hx hb dX10_parse_4 rfl (lv_at hl 1 rfl) ?_
    refine lv_aload_n hx hb dX10_parse_5 rfl (lv_at hl 0 rfl) ?_
    refine x_get (v := .ref (α 1)) (C := RX10) (T := TX10) (N := 7) hx hb hts (fun _ h => List.mem_cons_of_mem _ (List.mem_append_left _ (List.mem_append_left _ (List.mem_append_left _ (List.mem_append_left _ (List.mem_append_left _ (List.mem_append_left _ (List.mem_append_left _ (List.mem_append_right _ h))))))))) hown hK hw 0 (Nat.lt_of_lt_of_le (Nat.le_of_ble_eq_true rfl : 0 < 191) hn) (mk_0 cA α) rfl 0 (by decide) (hts _ (List.mem_of_getElem? (i := 3) rfl)) (fun _ h9 => h9) rfl dX10_parse_6 ?_
    refine x_get (v := .int (S.1 1 1)) (C := RX3) (T := TX3) (N := 11) hx hb hts (fun _ h => List.mem_cons_of_mem _ (List.mem_append_left _ (List.mem_append_left _ (List.mem_append_left _ (List.mem_append_left _ (List.mem_append_left _ (List.mem_append_left _ (List.mem_append_right _ h)))))))) hown hK hw 1 (Nat.lt_of_lt_of_le (Nat.le_of_ble_eq_true rfl : 1 < 191) hn) (mk_1 cA α) rfl 1 (by decide) (hts _ (List.mem_of_getElem? (i := 4) rfl)) (fun _ h9 => h9) rfl dX10_parse_9 ?_
    refine x_topN (k := F) hF ?_
    refine xn_icmp_le (tgt := 25) hx hb (by omega) (by omega) dX10_parse_12 (by decide) (fun c2 => ?_) (fun c2 => ?_)
    · skip
      refine lv_aload_n hx hb dX10_parse_25 rfl (lv_at hl 0 rfl) ?_
      refine x_get (v := .ref (α 1)) (C := RX10) (T := TX10) (N := 7) hx hb hts (fun _ h => List.mem_cons_of_mem _ (List.mem_append_left _ (List.mem_append_left _ (List.mem_append_left _ (List.mem_append_left _ (List.mem_append_left _ (List.mem_append_left _ (List.mem_append_left _ (List.mem_append_right _ h))))))))) hown hK hw 0 (Nat.lt_of_lt_of_le (Nat.le_of_ble_eq_true rfl : 0 < 191) hn) (mk_0 cA α) rfl 0 (by decide) (hts _ (List.mem_of_getElem? (i := 3) rfl)) (fun _ h9 => h9) rfl dX10_parse_26 ?_
      refine lv_iload_n hx hb dX10_parse_29 rfl (lv_at hl 1 rfl) ?_
      refine x_callVIe (b := (α 1)) (C := RX3) (As := [.int (nI n9)]) (rest := []) ⟨hx, hb, hml, hown, hts⟩ (ct_X3_readGroup l ka va D cA α n _ hn S n9 (by omega)) (cwV 1 hts gX10_parse_X3_readGroup rfl rfl rfl (by decide +kernel) ⟨Nat.le_of_ble_eq_true rfl, Nat.le_of_ble_eq_true rfl⟩) hK hw hsz hE (ws_recv hK hw (q := 1) (Nat.lt_of_lt_of_le (Nat.le_of_ble_eq_true rfl : 1 < 191) hn) (mk_1 cA α) rfl) rfl hl.1 rfl (Nat.le_of_ble_eq_true rfl) dX10_parse_30 ⟨Nat.zero_le _, Nat.zero_le _⟩ (fun S1 eS1 H locs hw => ?_)
      refine lv_istore_n (lv' := [(2, .int ((cRun (cIn0 S n9) 600).1 1 7)), (0, .ref (α 0)), (1, .int (nI n9))]) hx hb dX10_parse_33 rfl hl (by decide) rfl (fun ls hl => ?_)
      refine lv_aload_n hx hb dX10_parse_34 rfl (lv_at hl 1 rfl) ?_
      refine x_get (v := .ref (α 1)) (C := RX10) (T := TX10) (N := 7) hx hb hts (fun _ h => List.mem_cons_of_mem _ (List.mem_append_left _ (List.mem_append_left _ (List.mem_append_left _ (List.mem_append_left _ (List.mem_append_left _ (List.mem_append_left _ (List.mem_append_left _ (List.mem_append_right _ h))))))))) hown hK hw 0 (Nat.lt_of_lt_of_le (Nat.le_of_ble_eq_true rfl : 0 < 191) hn) (mk_0 cA α) rfl 0 (by decide) (hts _ (List.mem_of_getElem? (i := 3) rfl)) (fun _ h9 => h9) rfl dX10_parse_35 ?_
      refine lv_iconst (v := nI 0) hx hb dX10_parse_38 (by decide) ?_
      refine x_putI (x := nI 0) (ty := .int) (C := RX3) (T := TX3) (N := 11) hx hb hts (fun _ h => List.mem_cons_of_mem _ (List.mem_append_left _ (List.mem_append_left _ (List.mem_append_left _ (List.mem_append_left _ (List.mem_append_left _ (List.mem_append_left _ (List.mem_append_right _ h)))))))) tyX3 tyX3_ok nmX3 hown hK hw 1 (Nat.lt_of_lt_of_le (Nat.le_of_ble_eq_true rfl : 1 < 191) hn) (mk_1 cA α) rfl 1 (by decide) (hts _ (List.mem_of_getElem? (i := 4) rfl)) (fun _ h9 => h9) rfl rfl rfl rfl (Nat.le_of_ble_eq_true rfl) rfl dX10_parse_39 (fun S2 eS2 H locs hw => ?_)
      refine lv_iload_n hx hb dX10_parse_42 rfl (lv_at hl 0 rfl) ?_
      refine lv_if_eq (tgt := 48) hx hb dX10_parse_43 (by decide) (fun c3 => ?_) (fun c3 => ?_)
      · skip
        refine lv_aload_n hx hb dX10_parse_48 rfl (lv_at hl 1 rfl) ?_
        refine x_get (v := .ref (α 3)) (C := RX10) (T := TX10) (N := 7) hx hb hts (fun _ h => List.mem_cons_of_mem _ (List.mem_append_left _ (List.mem_append_left _ (List.mem_append_left _ (List.mem_append_left _ (List.mem_append_left _ (List.mem_append_left _ (List.mem_append_left _ (List.mem_append_right _ h))))))))) hown hK hw 0 (Nat.lt_of_lt_of_le (Nat.le_of_ble_eq_true rfl : 0 < 191) hn) (mk_0 cA α) rfl 1 (by decide) (hts _ (List.mem_of_getElem? (i := 5) rfl)) (fun _ h9 => h9) rfl dX10_parse_49 ?_
        refine lv_aload_n hx hb dX10_parse_52 rfl (lv_at hl 1 rfl) ?_
        refine x_get (v := .ref (α 1)) (C := RX10) (T := TX10) (N := 7) hx hb hts (fun _ h => List.mem_cons_of_mem _ (List.mem_append_left _ (List.mem_append_left _ (List.mem_append_left _ (List.mem_append_left _ (List.mem_append_left _ (List.mem_append_left _ (List.mem_append_left _ (List.mem_append_right _ h))))))))) hown hK hw 0 (Nat.lt_of_lt_of_le (Nat.le_of_ble_eq_true rfl : 0 < 191) hn) (mk_0 cA α) rfl 0 (by decide) (hts _ (List.mem_of_getElem? (i := 3) rfl)) (fun _ h9 => h9) rfl dX10_parse_53 ?_
        refine x_get (v := .ref (α 16)) (C := RX3) (T := TX3) (N := 11) hx hb hts (fun _ h => List.mem_cons_of_mem _ (List.mem_append_left _ (List.mem_append_left _ (List.mem_append_left _ (List.mem_append_left _ (List.mem_append_left _ (List.mem_append_left _ (List.mem_append_right _ h)))))))) hown hK hw 1 (Nat.lt_of_lt_of_le (Nat.le_of_ble_eq_true rfl : 1 < 191) hn) (mk_1 cA α) rfl 0 (by decide) (hts _ (List.mem_of_getElem? (i := 6) rfl)) (fun _ h9 => h9) rfl dX10_parse_56 ?_
        refine x_callVV (q := 3) (C := RX0) (As := [.ref (α 16)]) (rest := []) ⟨hx, hb, hml, hown, hts⟩ (ct_X0_startWith l D cA α n _ hn S2 ) (cwV 1 hts gX10_parse_X0_startWith rfl rfl rfl (by decide +kernel) ⟨Nat.le_of_ble_eq_true rfl, Nat.le_of_ble_eq_true rfl⟩) hK hw hAw (ws_recv hK hw (q := 3) (Nat.lt_of_lt_of_le (Nat.le_of_ble_eq_true rfl : 3 < 191) hn) (mk_3 cA α) rfl) rfl hl.1 rfl (Nat.le_of_ble_eq_true rfl) dX10_parse_59 ⟨Nat.zero_le _, Nat.zero_le _⟩ (fun S3 eS3 H locs hw => ?_)
        refine lv_aload_n hx hb dX10_parse_62 rfl (lv_at hl 1 rfl) ?_
        refine x_get (v := .ref (α 11)) (C := RX10) (T := TX10) (N := 7) hx hb hts (fun _ h => List.mem_cons_of_mem _ (List.mem_append_left _ (List.mem_append_left _ (List.mem_append_left _ (List.mem_append_left _ (List.mem_append_left _ (List.mem_append_left _ (List.mem_append_left _ (List.mem_append_right _ h))))))))) hown hK hw 0 (Nat.lt_of_lt_of_le (Nat.le_of_ble_eq_true rfl : 0 < 191) hn) (mk_0 cA α) rfl 5 (by decide) (hts _ (List.mem_of_getElem? (i := 7) rfl)) (fun _ h9 => h9) rfl dX10_parse_63 ?_
        refine x_callVV (q := 11) (C := RX4) (As := []) (rest := []) ⟨hx, hb, hml, hown, hts⟩ (ct_X4_forget l D cA α n _ hn S3 ) (cwV 0 hts gX10_parse_X4_forget rfl rfl rfl (by decide +kernel) ⟨Nat.le_of_ble_eq_true rfl, Nat.le_of_ble_eq_true rfl⟩) hK hw hAw (ws_recv hK hw (q := 11) (Nat.lt_of_lt_of_le (Nat.le_of_ble_eq_true rfl : 11 < 191) hn) (mk_11 cA α) rfl) rfl hl.1 rfl (Nat.le_of_ble_eq_true rfl) dX10_parse_66 ⟨Nat.zero_le _, Nat.zero_le _⟩ (fun S4 eS4 H locs hw => ?_)
        refine lv_iconst (v := nI 0) hx hb dX10_parse_69 (by decide) ?_
        refine lv_istore_n (lv' := [(3, .int (nI 0)), (2, .int ((cRun (cIn0 S n9) 600).1 1 7)), (0, .ref (α 0)), (1, .int (nI n9))]) hx hb dX10_parse_70 rfl hl (by decide) rfl (fun ls hl => ?_)
        refine lv_iload_n hx hb dX10_parse_71 rfl (lv_at hl 0 rfl) ?_
        refine lv_iconst (v := nI 2) hx hb dX10_parse_72 (by decide) ?_
        refine xn_icmp_ge (tgt := 92) hx hb (by decide) (by decide) dX10_parse_73 (by decide) (fun c4 => ?_) (fun c4 => ?_)
        · exact absurd c4 (by decide)
        · skip
          refine lv_aload_n hx hb dX10_parse_76 rfl (lv_at hl 2 rfl) ?_
          refine x_get (v := .ref (α 13)) (C := RX10) (T := TX10) (N := 7) hx hb hts (fun _ h => List.mem_cons_of_mem _ (List.mem_append_left _ (List.mem_append_left _ (List.mem_append_left _ (List.mem_append_left _ (List.mem_append_left _ (List.mem_append_left _ (List.mem_append_left _ (List.mem_append_right _ h))))))))) hown hK hw 0 (Nat.lt_of_lt_of_le (Nat.le_of_ble_eq_true rfl : 0 < 191) hn) (mk_0 cA α) rfl 6 (by decide) (hts _ (List.mem_of_getElem? (i := 8) rfl)) (fun _ h9 => h9) rfl dX10_parse_77 ?_
          refine lv_iload_n hx hb dX10_parse_80 rfl (lv_at hl 0 rfl) ?_
          refine x_aald (C := "IntercompanyLedger$Snapshot") (h := (fun j => α (14 + j))) hx hb hK hw 13 2 6 (Nat.lt_of_lt_of_le (Nat.le_of_ble_eq_true rfl : 13 < 191) hn) (mk_13 cA α) rfl 0 rfl (by decide) (by decide) dX10_parse_81 ?_
          refine lv_iconst (v := nI 0) hx hb dX10_parse_82 (by decide) ?_
          refine x_putI (x := nI 0) (ty := .boolean) (C := RX8) (T := TX8) (N := 3) hx hb hts (fun _ h => List.mem_cons_of_mem _ (List.mem_append_left _ (List.mem_append_left _ (List.mem_append_left _ (List.mem_append_left _ (List.mem_append_left _ (List.mem_append_right _ h))))))) tyX8 tyX8_ok nmX8 hown hK hw 14 (Nat.lt_of_lt_of_le (Nat.le_of_ble_eq_true rfl : 14 < 191) hn) (mk_14 cA α) rfl 0 (by decide) (hts _ (List.mem_of_getElem? (i := 9) rfl)) (fun _ h9 => h9) rfl rfl (by decide) (by decide) (Nat.le_of_ble_eq_true rfl) rfl dX10_parse_83 (fun S5 eS5 H locs hw => ?_)
          refine lv_iinc (v := nI 1) (lv' := [(3, .int (nI 1)), (2, .int ((cRun (cIn0 S n9) 600).1 1 7)), (0, .ref (α 0)), (1, .int (nI n9))]) hx hb dX10_parse_86 hl (k := 0) rfl (nI_1 0) (by decide) rfl (fun ls hl => ?_)
          refine lv_goto (tgt := 71) hx hb dX10_parse_89 (by decide) ?_
          refine lv_iload_n hx hb dX10_parse_71 rfl (lv_at hl 0 rfl) ?_
          refine lv_iconst (v := nI 2) hx hb dX10_parse_72 (by decide) ?_
          refine xn_icmp_ge (tgt := 92) hx hb (by decide) (by decide) dX10_parse_73 (by decide) (fun c5 => ?_) (fun c5 => ?_)
          · exact absurd c5 (by decide)
          · skip
            refine lv_aload_n hx hb dX10_parse_76 rfl (lv_at hl 2 rfl) ?_
            refine x_get (v := .ref (α 13)) (C := RX10) (T := TX10) (N := 7) hx hb hts (fun _ h => List.mem_cons_of_mem _ (List.mem_append_left _ (List.mem_append_left _ (List.mem_append_left _ (List.mem_append_left _ (List.mem_append_left _ (List.mem_append_left _ (List.mem_append_left _ (List.mem_append_right _ h))))))))) hown hK hw 0 (Nat.lt_of_lt_of_le (Nat.le_of_ble_eq_true rfl : 0 < 191) hn) (mk_0 cA α) rfl 6 (by decide) (hts _ (List.mem_of_getElem? (i := 8) rfl)) (fun _ h9 => h9) rfl dX10_parse_77 ?_
            refine lv_iload_n hx hb dX10_parse_80 rfl (lv_at hl 0 rfl) ?_
            refine x_aald (C := "IntercompanyLedger$Snapshot") (h := (fun j => α (14 + j))) hx hb hK hw 13 2 6 (Nat.lt_of_lt_of_le (Nat.le_of_ble_eq_true rfl : 13 < 191) hn) (mk_13 cA α) rfl 1 rfl (by decide) (by decide) dX10_parse_81 ?_
            refine lv_iconst (v := nI 0) hx hb dX10_parse_82 (by decide) ?_
            refine x_putI (x := nI 0) (ty := .boolean) (C := RX8) (T := TX8) (N := 3) hx hb hts (fun _ h => List.mem_cons_of_mem _ (List.mem_append_left _ (List.mem_append_left _ (List.mem_append_left _ (List.mem_append_left _ (List.mem_append_left _ (List.mem_append_right _ h))))))) tyX8 tyX8_ok nmX8 hown hK hw 15 (Nat.lt_of_lt_of_le (Nat.le_of_ble_eq_true rfl : 15 < 191) hn) (mk_15 cA α) rfl 0 (by decide) (hts _ (List.mem_of_getElem? (i := 9) rfl)) (fun _ h9 => h9) rfl rfl (by decide) (by decide) (Nat.le_of_ble_eq_true rfl) rfl dX10_parse_83 (fun S6 eS6 H locs hw => ?_)
            refine lv_iinc (v := nI 2) (lv' := [(3, .int (nI 2)), (2, .int ((cRun (cIn0 S n9) 600).1 1 7)), (0, .ref (α 0)), (1, .int (nI n9))]) hx hb dX10_parse_86 hl (k := 0) rfl (nI_1 1) (by decide) rfl (fun ls hl => ?_)
            refine lv_goto (tgt := 71) hx hb dX10_parse_89 (by decide) ?_
            refine lv_iload_n hx hb dX10_parse_71 rfl (lv_at hl 0 rfl) ?_
            refine lv_iconst (v := nI 2) hx hb dX10_parse_72 (by decide) ?_
            refine xn_icmp_ge (tgt := 92) hx hb (by decide) (by decide) dX10_parse_73 (by decide) (fun c6 => ?_) (fun c6 => ?_)
            · skip
              refine lv_aload_n hx hb dX10_parse_92 rfl (lv_at hl 2 rfl) ?_
              refine x_get (v := .ref (α 3)) (C := RX10) (T := TX10) (N := 7) hx hb hts (fun _ h => List.mem_cons_of_mem _ (List.mem_append_left _ (List.mem_append_left _ (List.mem_append_left _ (List.mem_append_left _ (List.mem_append_left _ (List.mem_append_left _ (List.mem_append_left _ (List.mem_append_right _ h))))))))) hown hK hw 0 (Nat.lt_of_lt_of_le (Nat.le_of_ble_eq_true rfl : 0 < 191) hn) (mk_0 cA α) rfl 1 (by decide) (hts _ (List.mem_of_getElem? (i := 5) rfl)) (fun _ h9 => h9) rfl dX10_parse_93 ?_
              refine x_get (v := .ref (α 23)) (C := RX0) (T := TX0) (N := 3) hx hb hts (fun _ h => List.mem_cons_of_mem _ (List.mem_append_left _ (List.mem_append_left _ (List.mem_append_left _ (List.mem_append_left _ (List.mem_append_right _ h)))))) hown hK hw 3 (Nat.lt_of_lt_of_le (Nat.le_of_ble_eq_true rfl : 3 < 191) hn) (mk_3 cA α) rfl 0 (by decide) (hts _ (List.mem_of_getElem? (i := 10) rfl)) (fun _ h9 => h9) rfl dX10_parse_96 ?_
              refine x_get (v := .int (S6.1 23 1)) (C := RX2) (T := TX2) (N := 12) hx hb hts (fun _ h => List.mem_cons_of_mem _ (List.mem_append_left _ (List.mem_append_left _ (List.mem_append_left _ (List.mem_append_right _ h))))) hown hK hw 23 (Nat.lt_of_lt_of_le (Nat.le_of_ble_eq_true rfl : 23 < 191) hn) (mk_23 cA α) rfl 1 (by decide) (hts _ (List.mem_of_getElem? (i := 11) rfl)) (fun _ h9 => h9) rfl dX10_parse_99 ?_
              exact ret_i hx hb hr hlocks hK hw dX10_parse_102 (by subst eS6; subst eS5; subst eS4; subst eS3; subst eS2; subst eS1; rfl) (by subst eS6; subst eS5; subst eS4; subst eS3; subst eS2; subst eS1; rfl)
            · exact absurd c6 (by decide)
      · exact absurd hv c3
    · exact absurd h600 (by omega)

set_option maxRecDepth 100000 in
set_option maxHeartbeats 1000000 in
theorem ct_X10_parseX (l : Launch) (hst : l.stackTraces = false) (sa : Nat → Nat) (D : va_G) (cA : Nat → ClassId) (α : Nat → Nat) (n sz : Nat) (hn : 191 ≤ n) (S : Mem) (F : Nat) (hF : S.1 1 1 = nI F) (hF2 : F ≤ 600) (x : Int32) (hx9 : ¬ ∃ i, 0 ≤ i ∧ i ≤ F ∧ x = nI i) : CtX sa l yX10_parse wsX10_parse ({ frames := 9, cells := 1, slots := 6, locals := 190 }) D cA α n sz [.ref (α 0), .int x] S eIA := by
  refine ctx_enter cX10_parse 4 (some .int) (by decide) rfl (Nat.le_of_ble_eq_true rfl) ?_
  intro p e s m below meth c hx hb hr hml hlocks hown hts hK hsz hw hZ hSx hout ls hl
  have hown : s.vm.findClass RX10 = some m.cls := hown
  have hAw : ∀ z, Aw α n s.heap.size z → Aw α n sz z := by rw [hsz]; exact fun _ h => h
  have hl : lv_has ls 4 [(0, .ref (α 0)), (1, .int x)] := hl
  refine lv_iload_n hx hb dX10_parse_0 rfl (lv_at hl 1 rfl) ?_
  refine lv_if_lt (tgt := 15) hx hb dX10_parse_1 (by decide) (fun c1 => ?_) (fun c1 => ?_)
  · skip
    exact x_throwS (names := eUp) (rest := []) hx hb hst hown fit_IA fit_Up (hts _ (List.mem_of_getElem? (i := 1) rfl)) (hts _ (List.mem_of_getElem? (i := 2) rfl)) (hSx.1 _ (List.mem_of_getElem? (i := 0) rfl)) (at_IA hSx (fun w h => hts w ((fun _ h => List.mem_cons_of_mem _ (List.mem_append_right _ h)) w h))) ga_IA hZ hK hw (hl.1.trans hml.symm) dX10_parse_15 dX10_parse_18 dX10_parse_19 dX10_parse_21 dX10_parse_24 hout (Nat.le_of_ble_eq_true rfl) (Nat.le_of_ble_eq_true rfl) (Nat.le_of_ble_eq_true rfl) (Nat.le_of_ble_eq_true rfl) hlocks rfl
  · skip
    refine lv_iload_n hx hb dX10_parse_4 rfl (lv_at hl 1 rfl) ?_
    refine lv_aload_n hx hb dX10_parse_5 rfl (lv_at hl 0 rfl) ?_
    refine x_get (v := .ref (α 1)) (C := RX10) (T := TX10) (N := 7) hx hb hts (fun _ h => List.mem_cons_of_mem _ (List.mem_append_left _ (List.mem_append_left _ (List.mem_append_left _ (List.mem_append_left _ (List.mem_append_left _ (List.mem_append_left _ (List.mem_append_left _ (List.mem_append_right _ h))))))))) hown hK hw 0 (Nat.lt_of_lt_of_le (Nat.le_of_ble_eq_true rfl : 0 < 191) hn) (mk_0 cA α) rfl 0 (by decide) (hts _ (List.mem_of_getElem? (i := 3) rfl)) (fun _ h9 => h9) rfl dX10_parse_6 ?_
    refine x_get (v := .int (S.1 1 1)) (C := RX3) (T := TX3) (N := 11) hx hb hts (fun _ h => List.mem_cons_of_mem _ (List.mem_append_left _ (List.mem_append_left _ (List.mem_append_left _ (List.mem_append_left _ (List.mem_append_left _ (List.mem_append_left _ (List.mem_append_right _ h)))))))) hown hK hw 1 (Nat.lt_of_lt_of_le (Nat.le_of_ble_eq_true rfl : 1 < 191) hn) (mk_1 cA α) rfl 1 (by decide) (hts _ (List.mem_of_getElem? (i := 4) rfl)) (fun _ h9 => h9) rfl dX10_parse_9 ?_
    refine x_topN (k := F) hF ?_
    refine lv_icmp_le (tgt := 25) hx hb dX10_parse_12 (by decide) (fun c2 => ?_) (fun c2 => ?_)
    · exact absurd (in_ex2 (a := 0) c1 c2 (by omega) (by decide)) hx9
    · skip
      exact x_throwS (names := eUp) (rest := []) hx hb hst hown fit_IA fit_Up (hts _ (List.mem_of_getElem? (i := 1) rfl)) (hts _ (List.mem_of_getElem? (i := 2) rfl)) (hSx.1 _ (List.mem_of_getElem? (i := 0) rfl)) (at_IA hSx (fun w h => hts w ((fun _ h => List.mem_cons_of_mem _ (List.mem_append_right _ h)) w h))) ga_IA hZ hK hw (hl.1.trans hml.symm) dX10_parse_15 dX10_parse_18 dX10_parse_19 dX10_parse_21 dX10_parse_24 hout (Nat.le_of_ble_eq_true rfl) (Nat.le_of_ble_eq_true rfl) (Nat.le_of_ble_eq_true rfl) (Nat.le_of_ble_eq_true rfl) hlocks rfl
