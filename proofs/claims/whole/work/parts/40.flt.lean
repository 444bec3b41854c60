/-! the two answers that are floats -/
def CtF (l : Launch) (y : MethodName) (ws : List Cond) (rm : Room) (D : va_G) (cA : Nat → ClassId) (α : Nat → Nat) (n sz : Nat) (av : List Value) (S : Mem) (fr : UInt32) (fS : Mem) : Prop := Met l y ws rm (CtPre D cA α n sz av S) (va_Qf (fun r u => r = fr ∧ u = fS) (Pw D cA α n) (Aw α n sz)) 0 0 (Aw α n sz)
section FF
variable {p : Program} {l : Launch} {e : Env} {R : Room} {s : State} {m : MethodId} {args : Array Value} {below : List Frame} {meth : Method} {c : Code} {H : Heap} {locs : List Loc} {cells slots : Nat} {Q : State → Prop}
variable {cc : ByteArray} {pc : Nat} {ls : Array Slot} {rest : List Value} {D : va_G} {cA : Nat → ClassId} {α : Nat → Nat} {n : Nat} {A : Nat → Prop} {H0 : Heap} {S : Mem}
theorem ret_f {sz : Nat} {v fr : UInt32} {fS : Mem} (hx : p.tables.exec = Jvm.exec) (hb : c.code = cc) (hr : meth.sig.returnType = some .float) (hlocks : meth.locks = false) (hK : va_K D vwCl (tyl cA) s) (hw : Ws D cA α n (Aw α n sz) s.heap S H locs) (hdg : decode cc pc = .ok (.freturn, 1)) (hv : v = fr) (hS : S = fS) :
    W p l e R s m args below meth c H locs cells slots (MQ below (va_Qf (fun r u => r = fr ∧ u = fS) (Pw D cA α n) (Aw α n sz)) args s cells slots (Aw α n sz)) (F0 m pc ls [.float v]) :=
  W.fret hx hb hr (fun t ht hW => ⟨⟨v, S, rfl, ⟨hv, hS⟩, by rw [ht]; exact hw.1, va_K.moved hW.alike hK, WL_D hw.2.1 (fun _ _ => trivial)⟩, hw.2.2.F ht⟩) hw.2.2.2.2 hdg
theorem va_ldcwF {T : State} (X : Stand p l e R s m args below meth c T locs cells slots) (hexec : p.tables.exec = Jvm.exec) {own : String} {index : Nat} {v : UInt32} (hown : s.vm.findClass own = some m.cls)
    (hconst : (Cond.constantFloat own index v).before args s = true) {g : JFrame} (hg : g.method = m) (hdg : decode c.code g.pc = .ok (.ldc_w index, 3)) :
    ∀ target, Steps p.tables e below (T.setTop { g with pc := g.pc + 3, stack := .float v :: g.stack }) target → Steps p.tables e below (T.setTop g) target := by
  obtain ⟨k, cf, hk, hcf, hcp⟩ := Cond.constantFloat_spec hown hconst
  obtain ⟨k', hk', he⟩ := X.warmed.alike.2.2 _ _ hk
  intro target hrest
  subst hg
  jvm_step X.here [hexec, hdg, ldc_w.wp_float (s := T) (f := g) X.here.top hk' (by rw [he]; exact hcf) hcp]
  exact hrest
theorem lv_ldcwf (hexec : p.tables.exec = Jvm.exec) (hb : c.code = cc) {own : String} {index : Nat} {v : UInt32} (hown : s.vm.findClass own = some m.cls) (hconst : (Jvm.Cond.constantFloat own index v).before args s = true) (hdg : decode cc pc = .ok (.ldc_w index, 3)) (k : W p l e R s m args below meth c H locs cells slots Q (F0 m (pc + 3) ls (.float v :: rest))) : W p l e R s m args below meth c H locs cells slots Q (F0 m pc ls rest) := by
  intro T hT X
  obtain ⟨t, a, b⟩ := k T hT X
  exact ⟨t, va_ldcwF X hexec hown hconst (g := F0 m pc ls rest) rfl (by rw [hb]; exact hdg) t a, b⟩
theorem x_callVF {y : MethodName} {bytes : ByteArray} {maxL nL k index : Nat} {ret : Option FieldType} {ws : List Cond} {rm : Room} {Ts : List Cond} {own C : String} {As : List Value} {q : Nat} {fr : UInt32} {fS : Mem} {st0 : List Value} (X : CallFix p m c cc nL s args Ts own) (hM : CtF l y ws rm D cA α n H.size (.ref (α q) :: As) S fr fS) (cw : CallW R s args own C index y bytes maxL ret ws rm 0 0 k) (hK : va_K D vwCl (tyl cA) s) (hw : Ws D cA α n A H0 S H locs) (hAw : ∀ z, Aw α n H0.size z → A z) (hr : ∃ cell : Cell, H[α q]? = some cell ∧ cell.vm.isStatics = false ∧ s.vm.findClass C = some cell.cls)
    (hn : As.length = k) (hsize : ls.size = nL) (hstack : st0 = As.reverse ++ .ref (α q) :: rest) (hroom : (rest.map fun v => v.category).sum ≤ 8) (hdg : decode cc pc = .ok (.invokevirtual index, 3)) (hf : cells ≤ R.cells ∧ slots ≤ R.slots)
    (kk : ∀ S1 : Mem, S1 = fS → ∀ (H1 : Heap) (locs1 : List Loc), Ws D cA α n A H0 S1 H1 locs1 → W p l e R s m args below meth c H1 locs1 cells slots Q (F0 m (pc + 3) ls (.float fr :: rest))) : W p l e R s m args below meth c H locs cells slots Q (F0 m pc ls st0) := by
  have hlift := aw_lift hAw hw.2.2.1
  refine va_callf (va_runV (As := As) (rest := rest) X hM cw ⟨ct_blind, hr, fun U hU hW => ⟨rfl, by rw [hU], ws_pw hK hw hU hW⟩⟩ rfl hn hsize hstack (lv_room hroom) hdg hf) hw.2.2 (fun z _ h => hlift z h) hlift (fun r u t H1 locs1 ht hvm hw1 hB hz hk hS => ?_)
  obtain ⟨rfl, rfl⟩ := hw1
  exact kk _ rfl H1 locs1 ⟨by rw [← ht]; exact hB.1, WL_D hw.2.1 (fun k hk => hlift _ (Or.inl ⟨k, hk, rfl⟩)), hS⟩
end FF
def cGood (S : Mem) (N : Nat) : Nat := cnt (fun j => cIs S j (nI 0) (nI 1)) N + cnt (fun j => cIs S j (nI 0) (nI 3)) N
def cAll (S : Mem) (N : Nat) : Nat := cGood S N + cnt (fun j => cIs S j (nI 0) (nI 2)) N
def rGood (S : Mem) (N : Nat) : Nat := cnt (fun j => rIs S j (nI 0) (nI 1)) N + cnt (fun j => rIs S j (nI 0) (nI 3)) N
def rAll (S : Mem) (N : Nat) : Nat := rGood S N + cnt (fun j => rIs S j (nI 0) (nI 2)) N
def gCst (S : Mem) (x : Int32) (j : Nat) : Int64 := if S.1 34 (608 + 4 * j + 0) = x then (S.1 34 (608 + 4 * j + 2)).toInt64 * (S.1 33 (22 + gN (S.1 34 (608 + 4 * j + 1)))).toInt64 else 0

set_option maxRecDepth 100000 in
set_option maxHeartbeats 1000000 in
theorem ct_X10_matchRate (l : Launch) (D : va_G) (cA : Nat → ClassId) (α : Nat → Nat) (n sz : Nat) (hn : 191 ≤ n) (S : Mem) (N : Nat) (hN : S.1 74 0 = nI N) (hN2 : N ≤ 100) : CtF l yX10_matchRate wsX10_matchRate ({ frames := 2, cells := 0, slots := 0, locals := 46 }) D cA α n sz [.ref (α 0)] S (fDiv (nI (cGood S N)) (nI (cAll S N))) S := by
  refine ct_enter cX10_matchRate 3 (some .float) (by decide) rfl (Nat.le_of_ble_eq_true rfl) ?_
  intro p e s m below meth c hx hb hr hml hlocks hown hts hK hsz hw ls hl
  have hown : s.vm.findClass RX10 = some m.cls := hown
  have hAw : ∀ z, Aw α n s.heap.size z → Aw α n sz z := by rw [hsz]; exact fun _ h => h
  have hl : lv_has ls 3 [(0, .ref (α 0))] := hl
  refine lv_aload_n hx hb dX10_matchRate_0 rfl (lv_at hl 0 rfl) ?_
  refine x_get (v := .ref (α 3)) (C := RX10) (T := TX10) (N := 7) hx hb hts (fun _ h => List.mem_cons_of_mem _ (List.mem_append_left _ (List.mem_append_left _ (List.mem_append_left _ (List.mem_append_right _ h))))) hown hK hw 0 (Nat.lt_of_lt_of_le (Nat.le_of_ble_eq_true rfl : 0 < 191) hn) (mk_0 cA α) rfl 1 (by decide) (hts _ (List.mem_of_getElem? (i := 1) rfl)) (fun _ h9 => h9) rfl dX10_matchRate_1 ?_
  refine lv_iconst (v := nI 1) hx hb dX10_matchRate_4 (by decide) ?_
  refine x_callVIr (q := 3) (C := RX0) (As := [.int (nI 1)]) (rest := []) ⟨hx, hb, hml, hown, hts⟩ (ct_X0_receivablesIn l D cA α n _ hn S (nI 1) N hN hN2) (cwV 1 hts gX10_matchRate_X0_receivablesIn rfl rfl rfl (by decide +kernel) ⟨Nat.le_of_ble_eq_true rfl, Nat.le_of_ble_eq_true rfl⟩) hK hw hAw (ws_recv hK hw (q := 3) (Nat.lt_of_lt_of_le (Nat.le_of_ble_eq_true rfl : 3 < 191) hn) (mk_3 cA α) rfl) rfl hl.1 rfl (Nat.le_of_ble_eq_true rfl) dX10_matchRate_5 ⟨Nat.zero_le _, Nat.zero_le _⟩ (fun H locs hw => ?_)
  refine lv_aload_n hx hb dX10_matchRate_8 rfl (lv_at hl 0 rfl) ?_
  refine x_get (v := .ref (α 3)) (C := RX10) (T := TX10) (N := 7) hx hb hts (fun _ h => List.mem_cons_of_mem _ (List.mem_append_left _ (List.mem_append_left _ (List.mem_append_left _ (List.mem_append_right _ h))))) hown hK hw 0 (Nat.lt_of_lt_of_le (Nat.le_of_ble_eq_true rfl : 0 < 191) hn) (mk_0 cA α) rfl 1 (by decide) (hts _ (List.mem_of_getElem? (i := 1) rfl)) (fun _ h9 => h9) rfl dX10_matchRate_9 ?_
  refine lv_iconst (v := nI 3) hx hb dX10_matchRate_12 (by decide) ?_
  refine x_callVIr (q := 3) (C := RX0) (As := [.int (nI 3)]) (rest := [.int (nI (cnt (fun j => cIs S j (nI 0) (nI 1)) N))]) ⟨hx, hb, hml, hown, hts⟩ (ct_X0_receivablesIn l D cA α n _ hn S (nI 3) N hN hN2) (cwV 1 hts gX10_matchRate_X0_receivablesIn rfl rfl rfl (by decide +kernel) ⟨Nat.le_of_ble_eq_true rfl, Nat.le_of_ble_eq_true rfl⟩) hK hw hAw (ws_recv hK hw (q := 3) (Nat.lt_of_lt_of_le (Nat.le_of_ble_eq_true rfl : 3 < 191) hn) (mk_3 cA α) rfl) rfl hl.1 rfl (Nat.le_of_ble_eq_true rfl) dX10_matchRate_13 ⟨Nat.zero_le _, Nat.zero_le _⟩ (fun H locs hw => ?_)
  refine xn_iadd hx hb dX10_matchRate_16 ?_
  refine x_topE (y := nI (cGood S N)) rfl ?_
  refine lv_istore_n (lv' := [(1, .int (nI (cGood S N))), (0, .ref (α 0))]) hx hb dX10_matchRate_17 rfl hl (by decide) rfl (fun ls hl => ?_)
  refine lv_iload_n hx hb dX10_matchRate_18 rfl (lv_at hl 0 rfl) ?_
  refine lv_aload_n hx hb dX10_matchRate_19 rfl (lv_at hl 1 rfl) ?_
  refine x_get (v := .ref (α 3)) (C := RX10) (T := TX10) (N := 7) hx hb hts (fun _ h => List.mem_cons_of_mem _ (List.mem_append_left _ (List.mem_append_left _ (List.mem_append_left _ (List.mem_append_right _ h))))) hown hK hw 0 (Nat.lt_of_lt_of_le (Nat.le_of_ble_eq_true rfl : 0 < 191) hn) (mk_0 cA α) rfl 1 (by decide) (hts _ (List.mem_of_getElem? (i := 1) rfl)) (fun _ h9 => h9) rfl dX10_matchRate_20 ?_
  refine lv_iconst (v := nI 2) hx hb dX10_matchRate_23 (by decide) ?_
  refine x_callVIr (q := 3) (C := RX0) (As := [.int (nI 2)]) (rest := [.int (nI (cGood S N))]) ⟨hx, hb, hml, hown, hts⟩ (ct_X0_receivablesIn l D cA α n _ hn S (nI 2) N hN hN2) (cwV 1 hts gX10_matchRate_X0_receivablesIn rfl rfl rfl (by decide +kernel) ⟨Nat.le_of_ble_eq_true rfl, Nat.le_of_ble_eq_true rfl⟩) hK hw hAw (ws_recv hK hw (q := 3) (Nat.lt_of_lt_of_le (Nat.le_of_ble_eq_true rfl : 3 < 191) hn) (mk_3 cA α) rfl) rfl hl.1 rfl (Nat.le_of_ble_eq_true rfl) dX10_matchRate_24 ⟨Nat.zero_le _, Nat.zero_le _⟩ (fun H locs hw => ?_)
  refine xn_iadd hx hb dX10_matchRate_27 ?_
  refine x_topE (y := nI (cAll S N)) rfl ?_
  refine lv_istore_n (lv' := [(2, .int (nI (cAll S N))), (1, .int (nI (cGood S N))), (0, .ref (α 0))]) hx hb dX10_matchRate_28 rfl hl (by decide) rfl (fun ls hl => ?_)
  refine lv_iload_n hx hb dX10_matchRate_29 rfl (lv_at hl 0 rfl) ?_
  refine lv_if_ne (tgt := 35) hx hb dX10_matchRate_30 (by decide) (fun c1 => ?_) (fun c1 => ?_)
  · skip
    refine lv_iload_n hx hb dX10_matchRate_35 rfl (lv_at hl 1 rfl) ?_
    refine lv_i2f hx hb dX10_matchRate_36 ?_
    refine lv_iload_n hx hb dX10_matchRate_37 rfl (lv_at hl 0 rfl) ?_
    refine lv_i2f hx hb dX10_matchRate_38 ?_
    refine lv_fdiv hx hb dX10_matchRate_39 (fl_n32 (fl_div (fl_i2f _) (fl_i2f_fin c1))) ?_
    exact ret_f hx hb hr hlocks hK hw dX10_matchRate_40 (by unfold fDiv; simp only [if_neg c1, if_pos c1, decide_eq_false c1, if_true, if_false, eq_self, Bool.false_eq_true, not_true_eq_false, not_false_eq_true, decide_true, decide_false, Bool.and_true, Bool.true_and, Bool.and_false, Bool.false_and, Bool.not_true, Bool.not_false, Bool.or_true, Bool.true_or, Bool.or_false, Bool.false_or, reduceIte, b2i_t, b2i_f]; try rfl) rfl
  · skip
    refine lv_fconst0 hx hb dX10_matchRate_33 ?_
    exact ret_f hx hb hr hlocks hK hw dX10_matchRate_34 (by unfold fDiv; simp only [if_pos c1, if_neg (not_not_intro c1), decide_eq_true c1, if_true, if_false, eq_self, Bool.false_eq_true, not_true_eq_false, not_false_eq_true, decide_true, decide_false, Bool.and_true, Bool.true_and, Bool.and_false, Bool.false_and, Bool.not_true, Bool.not_false, Bool.or_true, Bool.true_or, Bool.or_false, Bool.false_or, reduceIte, b2i_t, b2i_f]; try rfl) rfl

set_option maxRecDepth 100000 in
set_option maxHeartbeats 1000000 in
theorem ct_X11_matchRate (l : Launch) (D : va_G) (cA : Nat → ClassId) (α : Nat → Nat) (n sz : Nat) (hn : 191 ≤ n) (S : Mem) (N : Nat) (hN : S.1 34 0 = nI N) (hN2 : N ≤ 100) : CtF l yX11_matchRate wsX11_matchRate ({ frames := 3, cells := 0, slots := 0, locals := 68 }) D cA α n sz [.ref (α 30)] S (fDiv (nI (rGood S N)) (nI (rAll S N))) (setI S 30 0 (nI 0)) := by
  refine ct_enter cX11_matchRate 3 (some .float) (by decide) rfl (Nat.le_of_ble_eq_true rfl) ?_
  intro p e s m below meth c hx hb hr hml hlocks hown hts hK hsz hw ls hl
  have hown : s.vm.findClass RX11 = some m.cls := hown
  have hAw : ∀ z, Aw α n s.heap.size z → Aw α n sz z := by rw [hsz]; exact fun _ h => h
  have hl : lv_has ls 3 [(0, .ref (α 30))] := hl
  refine lv_aload_n hx hb dX11_matchRate_0 rfl (lv_at hl 0 rfl) ?_
  refine lv_iconst (v := nI 0) hx hb dX11_matchRate_1 (by decide) ?_
  refine x_putI (x := nI 0) (ty := .int) (C := RX11) (T := TX11) (N := 24) hx hb hts (fun _ h => List.mem_cons_of_mem _ (List.mem_append_right _ h)) tyX11 tyX11_ok nmX11 hown hK hw 30 (Nat.lt_of_lt_of_le (Nat.le_of_ble_eq_true rfl : 30 < 191) hn) (mk_30 cA α) rfl 0 (by decide) (hts _ (List.mem_of_getElem? (i := 1) rfl)) (fun _ h9 => h9) rfl rfl rfl rfl (Nat.le_of_ble_eq_true rfl) rfl dX11_matchRate_2 (fun S1 eS1 H locs hw => ?_)
  refine lv_aload_n hx hb dX11_matchRate_5 rfl (lv_at hl 0 rfl) ?_
  refine lv_iconst (v := nI 1) hx hb dX11_matchRate_6 (by decide) ?_
  refine x_callVIr (q := 30) (C := RX11) (As := [.int (nI 1)]) (rest := []) ⟨hx, hb, hml, hown, hts⟩ (ct_X11_pairs l D cA α n _ hn S1 (nI 1) N (by subst eS1; exact hN) hN2) (cwV 1 hts gX11_matchRate_X11_pairs rfl rfl rfl (by decide +kernel) ⟨Nat.le_of_ble_eq_true rfl, Nat.le_of_ble_eq_true rfl⟩) hK hw hAw (ws_recv hK hw (q := 30) (Nat.lt_of_lt_of_le (Nat.le_of_ble_eq_true rfl : 30 < 191) hn) (mk_30 cA α) rfl) rfl hl.1 rfl (Nat.le_of_ble_eq_true rfl) dX11_matchRate_7 ⟨Nat.zero_le _, Nat.zero_le _⟩ (fun H locs hw => ?_)
  refine x_topE (y := nI (cnt (fun j => rIs S j (nI 0) (nI 1)) N)) (by subst eS1; rfl) ?_
  refine lv_aload_n hx hb dX11_matchRate_10 rfl (lv_at hl 0 rfl) ?_
  refine lv_iconst (v := nI 3) hx hb dX11_matchRate_11 (by decide) ?_
  refine x_callVIr (q := 30) (C := RX11) (As := [.int (nI 3)]) (rest := [.int (nI (cnt (fun j => rIs S j (nI 0) (nI 1)) N))]) ⟨hx, hb, hml, hown, hts⟩ (ct_X11_pairs l D cA α n _ hn S1 (nI 3) N (by subst eS1; exact hN) hN2) (cwV 1 hts gX11_matchRate_X11_pairs rfl rfl rfl (by decide +kernel) ⟨Nat.le_of_ble_eq_true rfl, Nat.le_of_ble_eq_true rfl⟩) hK hw hAw (ws_recv hK hw (q := 30) (Nat.lt_of_lt_of_le (Nat.le_of_ble_eq_true rfl : 30 < 191) hn) (mk_30 cA α) rfl) rfl hl.1 rfl (Nat.le_of_ble_eq_true rfl) dX11_matchRate_12 ⟨Nat.zero_le _, Nat.zero_le _⟩ (fun H locs hw => ?_)
  refine x_topE (y := nI (cnt (fun j => rIs S j (nI 0) (nI 3)) N)) (by subst eS1; rfl) ?_
  refine xn_iadd hx hb dX11_matchRate_15 ?_
  refine x_topE (y := nI (rGood S N)) rfl ?_
  refine lv_istore_n (lv' := [(1, .int (nI (rGood S N))), (0, .ref (α 30))]) hx hb dX11_matchRate_16 rfl hl (by decide) rfl (fun ls hl => ?_)
  refine lv_iload_n hx hb dX11_matchRate_17 rfl (lv_at hl 0 rfl) ?_
  refine lv_aload_n hx hb dX11_matchRate_18 rfl (lv_at hl 1 rfl) ?_
  refine lv_iconst (v := nI 2) hx hb dX11_matchRate_19 (by decide) ?_
  refine x_callVIr (q := 30) (C := RX11) (As := [.int (nI 2)]) (rest := [.int (nI (rGood S N))]) ⟨hx, hb, hml, hown, hts⟩ (ct_X11_pairs l D cA α n _ hn S1 (nI 2) N (by subst eS1; exact hN) hN2) (cwV 1 hts gX11_matchRate_X11_pairs rfl rfl rfl (by decide +kernel) ⟨Nat.le_of_ble_eq_true rfl, Nat.le_of_ble_eq_true rfl⟩) hK hw hAw (ws_recv hK hw (q := 30) (Nat.lt_of_lt_of_le (Nat.le_of_ble_eq_true rfl : 30 < 191) hn) (mk_30 cA α) rfl) rfl hl.1 rfl (Nat.le_of_ble_eq_true rfl) dX11_matchRate_20 ⟨Nat.zero_le _, Nat.zero_le _⟩ (fun H locs hw => ?_)
  refine x_topE (y := nI (cnt (fun j => rIs S j (nI 0) (nI 2)) N)) (by subst eS1; rfl) ?_
  refine xn_iadd hx hb dX11_matchRate_23 ?_
  refine x_topE (y := nI (rAll S N)) rfl ?_
  refine lv_istore_n (lv' := [(2, .int (nI (rAll S N))), (1, .int (nI (rGood S N))), (0, .ref (α 30))]) hx hb dX11_matchRate_24 rfl hl (by decide) rfl (fun ls hl => ?_)
  refine lv_iload_n hx hb dX11_matchRate_25 rfl (lv_at hl 0 rfl) ?_
  refine lv_if_ne (tgt := 33) hx hb dX11_matchRate_26 (by decide) (fun c1 => ?_) (fun c1 => ?_)
  · skip
    refine lv_iload_n hx hb dX11_matchRate_33 rfl (lv_at hl 1 rfl) ?_
    refine lv_i2f hx hb dX11_matchRate_34 ?_
    refine lv_iload_n hx hb dX11_matchRate_35 rfl (lv_at hl 0 rfl) ?_
    refine lv_i2f hx hb dX11_matchRate_36 ?_
    refine lv_fdiv hx hb dX11_matchRate_37 (fl_n32 (fl_div (fl_i2f _) (fl_i2f_fin c1))) ?_
    exact ret_f hx hb hr hlocks hK hw dX11_matchRate_38 (by unfold fDiv; simp only [if_neg c1, if_pos c1, decide_eq_false c1, if_true, if_false, eq_self, Bool.false_eq_true, not_true_eq_false, not_false_eq_true, decide_true, decide_false, Bool.and_true, Bool.true_and, Bool.and_false, Bool.false_and, Bool.not_true, Bool.not_false, Bool.or_true, Bool.true_or, Bool.or_false, Bool.false_or, reduceIte, b2i_t, b2i_f]; try rfl) (by subst_vars; rfl)
  · skip
    refine lv_fconst0 hx hb dX11_matchRate_29 ?_
    refine lv_goto (tgt := 38) hx hb dX11_matchRate_30 (by decide) ?_
    exact ret_f hx hb hr hlocks hK hw dX11_matchRate_38 (by unfold fDiv; simp only [if_pos c1, if_neg (not_not_intro c1), decide_eq_true c1, if_true, if_false, eq_self, Bool.false_eq_true, not_true_eq_false, not_false_eq_true, decide_true, decide_false, Bool.and_true, Bool.true_and, Bool.and_false, Bool.false_and, Bool.not_true, Bool.not_false, Bool.or_true, Bool.true_or, Bool.or_false, Bool.false_or, reduceIte, b2i_t, b2i_f]; try rfl) (by subst_vars; rfl)

set_option maxRecDepth 100000 in
set_option maxHeartbeats 1000000 in
theorem ct_X10_averageMargin (l : Launch) (D : va_G) (cA : Nat → ClassId) (α : Nat → Nat) (n sz : Nat) (hn : 191 ≤ n) (S : Mem) (Cn : Nat) (hC : S.1 23 1 = nI Cn) (hC2 : Cn ≤ 6) (i : Nat) (hi : i < Cn) (M : Nat) (hM : S.1 74 1 = nI M) (hM2 : M ≤ 100) (hod : ∀ d, d < M → okI (S.1 49 d) 6) : CtF l yX10_averageMargin wsX10_averageMargin ({ frames := 7, cells := 0, slots := 0, locals := 121 }) D cA α n sz [.ref (α 0), .int (nI i)] S (fMar (cPA S (nI i) (-1) (nI 0) M).2 (sumL (fCst S (nI i)) M)) S := by
  refine ct_enter cX10_averageMargin 4 (some .float) (by decide) rfl (Nat.le_of_ble_eq_true rfl) ?_
  intro p e s m below meth c hx hb hr hml hlocks hown hts hK hsz hw ls hl
  have hown : s.vm.findClass RX10 = some m.cls := hown
  have hAw : ∀ z, Aw α n s.heap.size z → Aw α n sz z := by rw [hsz]; exact fun _ h => h
  have hl : lv_has ls 4 [(0, .ref (α 0)), (1, .int (nI i))] := hl
  refine lv_aload_n hx hb dX10_averageMargin_0 rfl (lv_at hl 0 rfl) ?_
  refine lv_iload_n hx hb dX10_averageMargin_1 rfl (lv_at hl 1 rfl) ?_
  refine x_callVVr (q := 0) (C := RX10) (As := [.int (nI i)]) (rest := []) ⟨hx, hb, hml, hown, hts⟩ (ct_X10_requireCompany l D cA α n _ hn S Cn hC hC2 i hi) (cwV 1 hts gX10_averageMargin_X10_requireCompany rfl rfl rfl (by decide +kernel) ⟨Nat.le_of_ble_eq_true rfl, Nat.le_of_ble_eq_true rfl⟩) hK hw hAw (ws_recv hK hw (q := 0) (Nat.lt_of_lt_of_le (Nat.le_of_ble_eq_true rfl : 0 < 191) hn) (mk_0 cA α) rfl) rfl hl.1 rfl (Nat.le_of_ble_eq_true rfl) dX10_averageMargin_2 ⟨Nat.zero_le _, Nat.zero_le _⟩ (fun H locs hw => ?_)
  refine lv_aload_n hx hb dX10_averageMargin_5 rfl (lv_at hl 0 rfl) ?_
  refine x_get (v := .ref (α 10)) (C := RX10) (T := TX10) (N := 7) hx hb hts (fun _ h => List.mem_cons_of_mem _ (List.mem_append_left _ (List.mem_append_left _ (List.mem_append_left _ (List.mem_append_left _ (List.mem_append_left _ (List.mem_append_right _ h))))))) hown hK hw 0 (Nat.lt_of_lt_of_le (Nat.le_of_ble_eq_true rfl : 0 < 191) hn) (mk_0 cA α) rfl 4 (by decide) (hts _ (List.mem_of_getElem? (i := 1) rfl)) (fun _ h9 => h9) rfl dX10_averageMargin_6 ?_
  refine lv_aload_n hx hb dX10_averageMargin_9 rfl (lv_at hl 0 rfl) ?_
  refine x_get (v := .ref (α 3)) (C := RX10) (T := TX10) (N := 7) hx hb hts (fun _ h => List.mem_cons_of_mem _ (List.mem_append_left _ (List.mem_append_left _ (List.mem_append_left _ (List.mem_append_left _ (List.mem_append_left _ (List.mem_append_right _ h))))))) hown hK hw 0 (Nat.lt_of_lt_of_le (Nat.le_of_ble_eq_true rfl : 0 < 191) hn) (mk_0 cA α) rfl 1 (by decide) (hts _ (List.mem_of_getElem? (i := 2) rfl)) (fun _ h9 => h9) rfl dX10_averageMargin_10 ?_
  refine lv_iload_n hx hb dX10_averageMargin_13 rfl (lv_at hl 1 rfl) ?_
  refine x_callVLr (q := 10) (C := RX1) (As := [.ref (α 3), .int (nI i)]) (rest := []) ⟨hx, hb, hml, hown, hts⟩ (ct_X1_costOfLots l D cA α n _ hn S (nI i) M hM hM2 hod) (cwV 2 hts gX10_averageMargin_X1_costOfLots rfl rfl rfl (by decide +kernel) ⟨Nat.le_of_ble_eq_true rfl, Nat.le_of_ble_eq_true rfl⟩) hK hw hAw (ws_recv hK hw (q := 10) (Nat.lt_of_lt_of_le (Nat.le_of_ble_eq_true rfl : 10 < 191) hn) (mk_10 cA α) rfl) rfl hl.1 rfl (Nat.le_of_ble_eq_true rfl) dX10_averageMargin_14 ⟨Nat.zero_le _, Nat.zero_le _⟩ (fun H locs hw => ?_)
  refine lv_lstore_n (lv' := [(2, .long (sumL (fCst S (nI i)) M)), (0, .ref (α 0)), (1, .int (nI i))]) hx hb dX10_averageMargin_17 rfl hl (by decide) rfl (fun ls hl => ?_)
  refine lv_lload_n hx hb dX10_averageMargin_18 rfl (lv_at hl 0 rfl) ?_
  refine lv_lconst (v := 0) hx hb dX10_averageMargin_19 (by decide) ?_
  refine x_lcmp_ne (tgt := 26) hx hb dX10_averageMargin_20 dX10_averageMargin_21 (by decide) (fun c1 => ?_) (fun c1 => ?_)
  · skip
    refine lv_aload_n hx hb dX10_averageMargin_26 rfl (lv_at hl 1 rfl) ?_
    refine x_get (v := .ref (α 10)) (C := RX10) (T := TX10) (N := 7) hx hb hts (fun _ h => List.mem_cons_of_mem _ (List.mem_append_left _ (List.mem_append_left _ (List.mem_append_left _ (List.mem_append_left _ (List.mem_append_left _ (List.mem_append_right _ h))))))) hown hK hw 0 (Nat.lt_of_lt_of_le (Nat.le_of_ble_eq_true rfl : 0 < 191) hn) (mk_0 cA α) rfl 4 (by decide) (hts _ (List.mem_of_getElem? (i := 1) rfl)) (fun _ h9 => h9) rfl dX10_averageMargin_27 ?_
    refine lv_aload_n hx hb dX10_averageMargin_30 rfl (lv_at hl 1 rfl) ?_
    refine x_get (v := .ref (α 3)) (C := RX10) (T := TX10) (N := 7) hx hb hts (fun _ h => List.mem_cons_of_mem _ (List.mem_append_left _ (List.mem_append_left _ (List.mem_append_left _ (List.mem_append_left _ (List.mem_append_left _ (List.mem_append_right _ h))))))) hown hK hw 0 (Nat.lt_of_lt_of_le (Nat.le_of_ble_eq_true rfl : 0 < 191) hn) (mk_0 cA α) rfl 1 (by decide) (hts _ (List.mem_of_getElem? (i := 2) rfl)) (fun _ h9 => h9) rfl dX10_averageMargin_31 ?_
    refine lv_iload_n hx hb dX10_averageMargin_34 rfl (lv_at hl 2 rfl) ?_
    refine lv_iconst (v := (-1)) hx hb dX10_averageMargin_35 (by decide) ?_
    refine lv_iconst (v := nI 0) hx hb dX10_averageMargin_36 (by decide) ?_
    refine x_callVLr (q := 10) (C := RX1) (As := [.ref (α 3), .int (nI i), .int (-1), .int (nI 0)]) (rest := []) ⟨hx, hb, hml, hown, hts⟩ (ct_X1_profitAfter l D cA α n _ hn S (nI i) (-1) (nI 0) M hM hM2 hod) (cwV 4 hts gX10_averageMargin_X1_profitAfter rfl rfl rfl (by decide +kernel) ⟨Nat.le_of_ble_eq_true rfl, Nat.le_of_ble_eq_true rfl⟩) hK hw hAw (ws_recv hK hw (q := 10) (Nat.lt_of_lt_of_le (Nat.le_of_ble_eq_true rfl : 10 < 191) hn) (mk_10 cA α) rfl) rfl hl.1 rfl (Nat.le_of_ble_eq_true rfl) dX10_averageMargin_37 ⟨Nat.zero_le _, Nat.zero_le _⟩ (fun H locs hw => ?_)
    refine lv_l2f hx hb dX10_averageMargin_40 ?_
    refine lv_ldcwf (v := 1120403456) hx hb hown (hts _ (List.mem_of_getElem? (i := 3) rfl)) dX10_averageMargin_41 ?_
    refine lv_fmul hx hb dX10_averageMargin_44 (fl_n32 (fl_mul (fl_l2f _) fl_100)) ?_
    refine lv_lload_n hx hb dX10_averageMargin_45 rfl (lv_at hl 0 rfl) ?_
    refine lv_l2f hx hb dX10_averageMargin_46 ?_
    refine lv_fdiv hx hb dX10_averageMargin_47 (fl_n32 (fl_div (fl_mul (fl_l2f _) fl_100) (fl_l2f_fin c1))) ?_
    exact ret_f hx hb hr hlocks hK hw dX10_averageMargin_48 (by unfold fMar; simp only [if_neg c1, if_pos c1, decide_eq_false c1, if_true, if_false, eq_self, Bool.false_eq_true, not_true_eq_false, not_false_eq_true, decide_true, decide_false, Bool.and_true, Bool.true_and, Bool.and_false, Bool.false_and, Bool.not_true, Bool.not_false, Bool.or_true, Bool.true_or, Bool.or_false, Bool.false_or, reduceIte, b2i_t, b2i_f]; try rfl) rfl
  · skip
    refine lv_fconst0 hx hb dX10_averageMargin_24 ?_
    exact ret_f hx hb hr hlocks hK hw dX10_averageMargin_25 (by unfold fMar; simp only [if_pos c1, if_neg (not_not_intro c1), decide_eq_true c1, if_true, if_false, eq_self, Bool.false_eq_true, not_true_eq_false, not_false_eq_true, decide_true, decide_false, Bool.and_true, Bool.true_and, Bool.and_false, Bool.false_and, Bool.not_true, Bool.not_false, Bool.or_true, Bool.true_or, Bool.or_false, Bool.false_or, reduceIte, b2i_t, b2i_f]; try rfl) rfl

set_option maxRecDepth 100000 in
set_option maxHeartbeats 1000000 in
theorem ct_X10_averageMarginX (l : Launch) (hst : l.stackTraces = false) (sa : Nat → Nat) (D : va_G) (cA : Nat → ClassId) (α : Nat → Nat) (n sz : Nat) (hn : 191 ≤ n) (S : Mem) (Cn : Nat) (hC : S.1 23 1 = nI Cn) (hC2 : Cn ≤ 6) (x : Int32) (hx9 : ¬ ∃ i, i < Cn ∧ x = nI i) : CtX sa l yX10_averageMargin wsX10_averageMargin ({ frames := 7, cells := 1, slots := 6, locals := 121 }) D cA α n sz [.ref (α 0), .int x] S eIO := by
  refine ctx_enter cX10_averageMargin 4 (some .float) (by decide) rfl (Nat.le_of_ble_eq_true rfl) ?_
  intro p e s m below meth c hx hb hr hml hlocks hown hts hK hsz hw hZ hSx hout ls hl
  have hown : s.vm.findClass RX10 = some m.cls := hown
  have hAw : ∀ z, Aw α n s.heap.size z → Aw α n sz z := by rw [hsz]; exact fun _ h => h
  have hl : lv_has ls 4 [(0, .ref (α 0)), (1, .int x)] := hl
  refine lv_aload_n hx hb dX10_averageMargin_0 rfl (lv_at hl 0 rfl) ?_
  refine lv_iload_n hx hb dX10_averageMargin_1 rfl (lv_at hl 1 rfl) ?_
  exact x_callXV (q := 0) (C := RX10) (As := [.int x]) (rest := []) ⟨hx, hb, hml, hown, hts⟩ (ct_X10_requireCompanyX l hst sa D cA α n _ hn S Cn hC hC2 x hx9) (cwV 1 hts gX10_averageMargin_X10_requireCompany rfl rfl rfl (by decide +kernel) ⟨Nat.le_of_ble_eq_true rfl, Nat.le_of_ble_eq_true rfl⟩) hK hw hsz hZ hSx (ws_recv hK hw (q := 0) (Nat.lt_of_lt_of_le (Nat.le_of_ble_eq_true rfl : 0 < 191) hn) (mk_0 cA α) rfl) rfl hl.1 rfl (Nat.le_of_ble_eq_true rfl) dX10_averageMargin_2 ⟨Nat.le_of_ble_eq_true rfl, Nat.le_of_ble_eq_true rfl⟩ hout hlocks rfl

set_option maxRecDepth 100000 in
set_option maxHeartbeats 1000000 in
theorem ct_X11_averageMargin (l : Launch) (D : va_G) (cA : Nat → ClassId) (α : Nat → Nat) (n sz : Nat) (hn : 191 ≤ n) (S : Mem) (Cn : Nat) (hC : S.1 33 1 = nI Cn) (hC2 : Cn ≤ 6) (i : Nat) (hi : i < Cn) (L : Nat) (hL : S.1 34 1 = nI L) (hL2 : L ≤ 100) (hlo : ∀ j, j < L → okI (S.1 34 (608 + 4 * j + 1)) 6) : CtF l yX11_averageMargin wsX11_averageMargin ({ frames := 3, cells := 0, slots := 0, locals := 67 }) D cA α n sz [.ref (α 30), .int (nI i)] S (fMar (sumL (gPro S (nI i)) L) (sumL (gCst S (nI i)) L)) (setI S 30 0 (nI 0)) := by
  refine ct_enter cX11_averageMargin 5 (some .float) (by decide) rfl (Nat.le_of_ble_eq_true rfl) ?_
  intro p e s m below meth c hx hb hr hml hlocks hown hts hK hsz hw ls hl
  have hown : s.vm.findClass RX11 = some m.cls := hown
  have hAw : ∀ z, Aw α n s.heap.size z → Aw α n sz z := by rw [hsz]; exact fun _ h => h
  have hl : lv_has ls 5 [(0, .ref (α 30)), (1, .int (nI i))] := hl
  refine lv_aload_n hx hb dX11_averageMargin_0 rfl (lv_at hl 0 rfl) ?_
  refine lv_aload_n hx hb dX11_averageMargin_1 rfl (lv_at hl 0 rfl) ?_
  refine lv_iload_n hx hb dX11_averageMargin_2 rfl (lv_at hl 1 rfl) ?_
  refine x_callVIr (q := 30) (C := RX11) (As := [.int (nI i)]) (rest := [.ref (α 30)]) ⟨hx, hb, hml, hown, hts⟩ (ct_X11_isCompany l D cA α n _ hn S (nI i)) (cwV 1 hts gX11_averageMargin_X11_isCompany rfl rfl rfl (by decide +kernel) ⟨Nat.le_of_ble_eq_true rfl, Nat.le_of_ble_eq_true rfl⟩) hK hw hAw (ws_recv hK hw (q := 30) (Nat.lt_of_lt_of_le (Nat.le_of_ble_eq_true rfl : 30 < 191) hn) (mk_30 cA α) rfl) rfl hl.1 rfl (Nat.le_of_ble_eq_true rfl) dX11_averageMargin_3 ⟨Nat.zero_le _, Nat.zero_le _⟩ (fun H locs hw => ?_)
  refine xb_eq (b := (isCoR S (nI i))) (tgt := 13) hx hb dX11_averageMargin_6 (by decide) (fun c1 => ?_) (fun c1 => ?_)
  · exact absurd (isCo_t (S := S) (by skip; exact hC) hC2 hi) (by rw [c1]; decide)
  · skip
    refine lv_iconst (v := nI 0) hx hb dX11_averageMargin_9 (by decide) ?_
    refine lv_goto (tgt := 14) hx hb dX11_averageMargin_10 (by decide) ?_
    refine x_putI (x := nI 0) (ty := .int) (C := RX11) (T := TX11) (N := 24) hx hb hts (fun _ h => List.mem_cons_of_mem _ (List.mem_append_right _ h)) tyX11 tyX11_ok nmX11 hown hK hw 30 (Nat.lt_of_lt_of_le (Nat.le_of_ble_eq_true rfl : 30 < 191) hn) (mk_30 cA α) rfl 0 (by decide) (hts _ (List.mem_of_getElem? (i := 1) rfl)) (fun _ h9 => h9) rfl rfl rfl rfl (Nat.le_of_ble_eq_true rfl) rfl dX11_averageMargin_14 (fun S1 eS1 H locs hw => ?_)
    refine lv_aload_n hx hb dX11_averageMargin_17 rfl (lv_at hl 0 rfl) ?_
    refine x_get (v := .int (S1.1 30 0)) (C := RX11) (T := TX11) (N := 24) hx hb hts (fun _ h => List.mem_cons_of_mem _ (List.mem_append_right _ h)) hown hK hw 30 (Nat.lt_of_lt_of_le (Nat.le_of_ble_eq_true rfl : 30 < 191) hn) (mk_30 cA α) rfl 0 (by decide) (hts _ (List.mem_of_getElem? (i := 1) rfl)) (fun _ h9 => h9) rfl dX11_averageMargin_18 ?_
    refine x_topN (k := 0) (by subst eS1; simp [sI_e, upd]) ?_
    refine lv_iconst (v := nI 1) hx hb dX11_averageMargin_21 (by decide) ?_
    refine xn_icmp_ne (tgt := 27) hx hb (by decide) (by decide) dX11_averageMargin_22 (by decide) (fun c2 => ?_) (fun c2 => ?_)
    · skip
      refine lv_lconst (v := 0) hx hb dX11_averageMargin_27 (by decide) ?_
      refine lv_lstore_n (lv' := [(2, .long 0), (0, .ref (α 30)), (1, .int (nI i))]) hx hb dX11_averageMargin_28 rfl hl (by decide) rfl (fun ls hl => ?_)
      refine lv_iconst (v := nI 0) hx hb dX11_averageMargin_29 (by decide) ?_
      refine lv_istore (lv' := [(4, .int (nI 0)), (2, .long 0), (0, .ref (α 30)), (1, .int (nI i))]) hx hb dX11_averageMargin_30 hl (by decide) rfl (fun ls hl => ?_)
      have lp32 : ∀ (t : Nat) (j : Nat) (acc : Int64) (H : Heap) (locs : List Loc) (ls : Array Slot), L - j < t → j ≤ L → acc = sumL (gCst S (nI i)) j → Ws D cA α n (Aw α n sz) s.heap S1 H locs → lv_has ls 5 [(0, .ref (α 30)), (1, .int (nI i)), (4, .int (nI j)), (2, .long acc)] → W p l e ({ frames := 3, cells := 0, slots := 0, locals := 67 } : Room) s m (List.toArray ([.ref (α 30), .int (nI i)] : List Value)) below meth c H locs 0 0 (MQ below (va_Qf (fun r u => r = (fMar (sumL (gPro S (nI i)) L) (sumL (gCst S (nI i)) L)) ∧ u = (setI S 30 0 (nI 0))) (Pw D cA α n) (Aw α n sz)) (List.toArray ([.ref (α 30), .int (nI i)] : List Value)) s 0 0 (Aw α n sz)) (F0 m 32 ls []) := by
        intro t
        induction t with
        | zero => intro j acc H locs ls ht; exact absurd ht (Nat.not_lt_zero _)
        | succ t ih32 =>
          intro j acc H locs ls ht hj hk hw hl
          refine lv_iload hx hb dX11_averageMargin_32 (lv_at hl 2 rfl) ?_
          refine lv_aload_n hx hb dX11_averageMargin_34 rfl (lv_at hl 0 rfl) ?_
          refine x_get (v := .ref (α 34)) (C := RX11) (T := TX11) (N := 24) hx hb hts (fun _ h => List.mem_cons_of_mem _ (List.mem_append_right _ h)) hown hK hw 30 (Nat.lt_of_lt_of_le (Nat.le_of_ble_eq_true rfl : 30 < 191) hn) (mk_30 cA α) rfl 13 (by decide) (hts _ (List.mem_of_getElem? (i := 2) rfl)) (fun _ h9 => h9) rfl dX11_averageMargin_35 ?_
          refine lv_iconst (v := nI 1) hx hb dX11_averageMargin_38 (by decide) ?_
          refine x_iald hx hb hK hw 34 1508 (Nat.lt_of_lt_of_le (Nat.le_of_ble_eq_true rfl : 34 < 191) hn) (mk_34 cA α) 1 rfl (by decide) (by decide) dX11_averageMargin_39 ?_
          refine x_topN (k := L) (by subst eS1; exact hL) ?_
          refine xn_icmp_ge (tgt := 88) hx hb (by omega) (by omega) dX11_averageMargin_40 (by decide) (fun c3 => ?_) (fun c3 => ?_)
          · skip
            have hk9 : acc = sumL (gCst S (nI i)) L := by rw [hk, show j = L by omega]
            subst hk9
            refine lv_lload_n hx hb dX11_averageMargin_88 rfl (lv_at hl 3 rfl) ?_
            refine lv_lconst (v := 0) hx hb dX11_averageMargin_89 (by decide) ?_
            refine x_lcmp_ne (tgt := 98) hx hb dX11_averageMargin_90 dX11_averageMargin_91 (by decide) (fun c4 => ?_) (fun c4 => ?_)
            · skip
              refine lv_aload_n hx hb dX11_averageMargin_98 rfl (lv_at hl 0 rfl) ?_
              refine lv_iload_n hx hb dX11_averageMargin_99 rfl (lv_at hl 1 rfl) ?_
              refine x_callVLr (q := 30) (C := RX11) (As := [.int (nI i)]) (rest := []) ⟨hx, hb, hml, hown, hts⟩ (ct_X11_profitOf l D cA α n _ hn S1 (nI i) L (by subst eS1; exact hL) hL2 (by subst eS1; exact hlo)) (cwV 1 hts gX11_averageMargin_X11_profitOf rfl rfl rfl (by decide +kernel) ⟨Nat.le_of_ble_eq_true rfl, Nat.le_of_ble_eq_true rfl⟩) hK hw hAw (ws_recv hK hw (q := 30) (Nat.lt_of_lt_of_le (Nat.le_of_ble_eq_true rfl : 30 < 191) hn) (mk_30 cA α) rfl) rfl hl.1 rfl (Nat.le_of_ble_eq_true rfl) dX11_averageMargin_100 ⟨Nat.zero_le _, Nat.zero_le _⟩ (fun H locs hw => ?_)
              refine x_topEL (y := sumL (gPro S (nI i)) L) (by subst_vars; rfl) ?_
              refine lv_l2f hx hb dX11_averageMargin_103 ?_
              refine lv_ldcwf (v := 1120403456) hx hb hown (hts _ (List.mem_of_getElem? (i := 4) rfl)) dX11_averageMargin_104 ?_
              refine lv_fmul hx hb dX11_averageMargin_107 (fl_n32 (fl_mul (fl_l2f _) fl_100)) ?_
              refine lv_lload_n hx hb dX11_averageMargin_108 rfl (lv_at hl 3 rfl) ?_
              refine lv_l2f hx hb dX11_averageMargin_109 ?_
              refine lv_fdiv hx hb dX11_averageMargin_110 (fl_n32 (fl_div (fl_mul (fl_l2f _) fl_100) (fl_l2f_fin c4))) ?_
              exact ret_f hx hb hr hlocks hK hw dX11_averageMargin_111 (by unfold fMar; simp only [c1, if_neg c2, if_pos c2, decide_eq_false c2, if_pos c3, if_neg (not_not_intro c3), decide_eq_true c3, if_neg c4, if_pos c4, decide_eq_false c4, if_true, if_false, eq_self, Bool.false_eq_true, not_true_eq_false, not_false_eq_true, decide_true, decide_false, Bool.and_true, Bool.true_and, Bool.and_false, Bool.false_and, Bool.not_true, Bool.not_false, Bool.or_true, Bool.true_or, Bool.or_false, Bool.false_or, reduceIte, b2i_t, b2i_f]; try rfl) (by subst_vars; rfl)
            · skip
              refine lv_fconst0 hx hb dX11_averageMargin_94 ?_
              refine lv_goto (tgt := 111) hx hb dX11_averageMargin_95 (by decide) ?_
              exact ret_f hx hb hr hlocks hK hw dX11_averageMargin_111 (by unfold fMar; simp only [c1, if_neg c2, if_pos c2, decide_eq_false c2, if_pos c3, if_neg (not_not_intro c3), decide_eq_true c3, if_pos c4, if_neg (not_not_intro c4), decide_eq_true c4, if_true, if_false, eq_self, Bool.false_eq_true, not_true_eq_false, not_false_eq_true, decide_true, decide_false, Bool.and_true, Bool.true_and, Bool.and_false, Bool.false_and, Bool.not_true, Bool.not_false, Bool.or_true, Bool.true_or, Bool.or_false, Bool.false_or, reduceIte, b2i_t, b2i_f]; try rfl) (by subst_vars; rfl)
          · skip
            refine lv_aload_n hx hb dX11_averageMargin_43 rfl (lv_at hl 0 rfl) ?_
            refine lv_iload hx hb dX11_averageMargin_44 (lv_at hl 2 rfl) ?_
            refine lv_iconst (v := nI 0) hx hb dX11_averageMargin_46 (by decide) ?_
            refine x_callVIr (q := 30) (C := RX11) (As := [.int (nI j), .int (nI 0)]) (rest := []) ⟨hx, hb, hml, hown, hts⟩ (ct_X11_lot l D cA α n _ hn S1 j 0 (by omega)) (cwV 2 hts gX11_averageMargin_X11_lot rfl rfl rfl (by decide +kernel) ⟨Nat.le_of_ble_eq_true rfl, Nat.le_of_ble_eq_true rfl⟩) hK hw hAw (ws_recv hK hw (q := 30) (Nat.lt_of_lt_of_le (Nat.le_of_ble_eq_true rfl : 30 < 191) hn) (mk_30 cA α) rfl) rfl hl.1 rfl (Nat.le_of_ble_eq_true rfl) dX11_averageMargin_47 ⟨Nat.zero_le _, Nat.zero_le _⟩ (fun H locs hw => ?_)
            refine x_topE (y := S.1 34 (608 + 4 * j + 0)) (by subst_vars; rfl) ?_
            refine lv_iload_n hx hb dX11_averageMargin_50 rfl (lv_at hl 1 rfl) ?_
            refine lv_icmp_ne (tgt := 82) hx hb dX11_averageMargin_51 (by decide) (fun c5 => ?_) (fun c5 => ?_)
            · skip
              refine lv_iinc (v := nI (j + 1)) (lv' := [(4, .int (nI (j + 1))), (0, .ref (α 30)), (1, .int (nI i)), (2, .long acc)]) hx hb dX11_averageMargin_82 hl (k := 2) rfl (nI_1 _) (by decide) rfl (fun ls hl => ?_)
              refine lv_goto (tgt := 32) hx hb dX11_averageMargin_85 (by decide) ?_
              exact ih32 (j + 1) acc _ _ _ (by omega) (by omega) (by rw [sumL, ← hk]; unfold gCst; simp only [c1, if_neg c2, if_pos c2, decide_eq_false c2, if_pos c3, if_neg (not_not_intro c3), decide_eq_true c3, if_neg c5, if_pos c5, decide_eq_false c5, if_true, if_false, eq_self, Bool.false_eq_true, not_true_eq_false, not_false_eq_true, decide_true, decide_false, Bool.and_true, Bool.true_and, Bool.and_false, Bool.false_and, Bool.not_true, Bool.not_false, Bool.or_true, Bool.true_or, Bool.or_false, Bool.false_or, reduceIte, b2i_t, b2i_f, Int64.add_zero]) hw (lv_sub hl [1, 2, 0, 3] rfl)
            · skip
              have h9 := (hlo j (by omega)).2
              refine lv_lload_n hx hb dX11_averageMargin_54 rfl (lv_at hl 3 rfl) ?_
              refine lv_aload_n hx hb dX11_averageMargin_55 rfl (lv_at hl 0 rfl) ?_
              refine lv_iload hx hb dX11_averageMargin_56 (lv_at hl 2 rfl) ?_
              refine lv_iconst (v := nI 2) hx hb dX11_averageMargin_58 (by decide) ?_
              refine x_callVIr (q := 30) (C := RX11) (As := [.int (nI j), .int (nI 2)]) (rest := [.long acc]) ⟨hx, hb, hml, hown, hts⟩ (ct_X11_lot l D cA α n _ hn S1 j 2 (by omega)) (cwV 2 hts gX11_averageMargin_X11_lot rfl rfl rfl (by decide +kernel) ⟨Nat.le_of_ble_eq_true rfl, Nat.le_of_ble_eq_true rfl⟩) hK hw hAw (ws_recv hK hw (q := 30) (Nat.lt_of_lt_of_le (Nat.le_of_ble_eq_true rfl : 30 < 191) hn) (mk_30 cA α) rfl) rfl hl.1 rfl (Nat.le_of_ble_eq_true rfl) dX11_averageMargin_59 ⟨Nat.zero_le _, Nat.zero_le _⟩ (fun H locs hw => ?_)
              refine x_topE (y := S.1 34 (608 + 4 * j + 2)) (by subst_vars; rfl) ?_
              refine lv_i2l hx hb dX11_averageMargin_62 rfl ?_
              refine lv_aload_n hx hb dX11_averageMargin_63 rfl (lv_at hl 0 rfl) ?_
              refine x_get (v := .ref (α 33)) (C := RX11) (T := TX11) (N := 24) hx hb hts (fun _ h => List.mem_cons_of_mem _ (List.mem_append_right _ h)) hown hK hw 30 (Nat.lt_of_lt_of_le (Nat.le_of_ble_eq_true rfl : 30 < 191) hn) (mk_30 cA α) rfl 11 (by decide) (hts _ (List.mem_of_getElem? (i := 3) rfl)) (fun _ h9 => h9) rfl dX11_averageMargin_64 ?_
              refine lv_bipush (v := nI 22) hx hb dX11_averageMargin_67 (by decide) ?_
              refine lv_aload_n hx hb dX11_averageMargin_69 rfl (lv_at hl 0 rfl) ?_
              refine lv_iload hx hb dX11_averageMargin_70 (lv_at hl 2 rfl) ?_
              refine lv_iconst (v := nI 1) hx hb dX11_averageMargin_72 (by decide) ?_
              refine x_callVIr (q := 30) (C := RX11) (As := [.int (nI j), .int (nI 1)]) (rest := [.int (nI 22), .ref (α 33), .long ((S.1 34 (608 + 4 * j + 2)).toInt64), .long acc]) ⟨hx, hb, hml, hown, hts⟩ (ct_X11_lot l D cA α n _ hn S1 j 1 (by omega)) (cwV 2 hts gX11_averageMargin_X11_lot rfl rfl rfl (by decide +kernel) ⟨Nat.le_of_ble_eq_true rfl, Nat.le_of_ble_eq_true rfl⟩) hK hw hAw (ws_recv hK hw (q := 30) (Nat.lt_of_lt_of_le (Nat.le_of_ble_eq_true rfl : 30 < 191) hn) (mk_30 cA α) rfl) rfl hl.1 rfl (Nat.le_of_ble_eq_true rfl) dX11_averageMargin_73 ⟨Nat.zero_le _, Nat.zero_le _⟩ (fun H locs hw => ?_)
              refine x_topN (k := gN (S.1 34 (608 + 4 * j + 1))) (by subst eS1; exact (hlo j (by omega)).1) ?_
              refine xn_iadd hx hb dX11_averageMargin_76 ?_
              refine x_iald hx hb hK hw 33 40 (Nat.lt_of_lt_of_le (Nat.le_of_ble_eq_true rfl : 33 < 191) hn) (mk_33 cA α) (22 + (gN (S.1 34 (608 + 4 * j + 1)))) rfl (by omega) (by decide) dX11_averageMargin_77 ?_
              refine x_topE (y := S.1 33 (22 + gN (S.1 34 (608 + 4 * j + 1)))) (by subst_vars; rfl) ?_
              refine lv_i2l hx hb dX11_averageMargin_78 rfl ?_
              refine lv_lmul hx hb dX11_averageMargin_79 ?_
              refine lv_ladd hx hb dX11_averageMargin_80 ?_
              refine lv_lstore_n (lv' := [(2, .long (acc + (((S.1 34 (608 + 4 * j + 2)).toInt64) * ((S.1 33 (22 + gN (S.1 34 (608 + 4 * j + 1)))).toInt64)))), (0, .ref (α 30)), (1, .int (nI i)), (4, .int (nI j))]) hx hb dX11_averageMargin_81 rfl hl (by decide) rfl (fun ls hl => ?_)
              refine lv_iinc (v := nI (j + 1)) (lv' := [(4, .int (nI (j + 1))), (2, .long (acc + (((S.1 34 (608 + 4 * j + 2)).toInt64) * ((S.1 33 (22 + gN (S.1 34 (608 + 4 * j + 1)))).toInt64)))), (0, .ref (α 30)), (1, .int (nI i))]) hx hb dX11_averageMargin_82 hl (k := 3) rfl (nI_1 _) (by decide) rfl (fun ls hl => ?_)
              refine lv_goto (tgt := 32) hx hb dX11_averageMargin_85 (by decide) ?_
              exact ih32 (j + 1) (acc + (((S.1 34 (608 + 4 * j + 2)).toInt64) * ((S.1 33 (22 + gN (S.1 34 (608 + 4 * j + 1)))).toInt64))) _ _ _ (by omega) (by omega) (by rw [sumL, ← hk]; unfold gCst; simp only [c1, if_neg c2, if_pos c2, decide_eq_false c2, if_pos c3, if_neg (not_not_intro c3), decide_eq_true c3, if_pos c5, if_neg (not_not_intro c5), decide_eq_true c5, if_true, if_false, eq_self, Bool.false_eq_true, not_true_eq_false, not_false_eq_true, decide_true, decide_false, Bool.and_true, Bool.true_and, Bool.and_false, Bool.false_and, Bool.not_true, Bool.not_false, Bool.or_true, Bool.true_or, Bool.or_false, Bool.false_or, reduceIte, b2i_t, b2i_f, Int64.add_zero]) hw (lv_sub hl [2, 3, 0, 1] rfl)
      exact lp32 _ 0 0 _ _ _ (Nat.lt_succ_self _) (Nat.zero_le _) rfl hw (lv_sub hl [2, 3, 0, 1] rfl)
    · exact absurd c2 (by decide)

set_option maxRecDepth 100000 in
set_option maxHeartbeats 1000000 in
theorem ct_X11_averageMarginX (l : Launch) (D : va_G) (cA : Nat → ClassId) (α : Nat → Nat) (n sz : Nat) (hn : 191 ≤ n) (S : Mem) (Cn : Nat) (hC : S.1 33 1 = nI Cn) (hC2 : Cn ≤ 6) (x : Int32) (hx9 : ¬ ∃ i, i < Cn ∧ x = nI i) : CtF l yX11_averageMargin wsX11_averageMargin ({ frames := 3, cells := 0, slots := 0, locals := 67 }) D cA α n sz [.ref (α 30), .int x] S FP.fconst0 (setI S 30 0 (nI 1)) := by
  refine ct_enter cX11_averageMargin 5 (some .float) (by decide) rfl (Nat.le_of_ble_eq_true rfl) ?_
  intro p e s m below meth c hx hb hr hml hlocks hown hts hK hsz hw ls hl
  have hown : s.vm.findClass RX11 = some m.cls := hown
  have hAw : ∀ z, Aw α n s.heap.size z → Aw α n sz z := by rw [hsz]; exact fun _ h => h
  have hl : lv_has ls 5 [(0, .ref (α 30)), (1, .int x)] := hl
  refine lv_aload_n hx hb dX11_averageMargin_0 rfl (lv_at hl 0 rfl) ?_
  refine lv_aload_n hx hb dX11_averageMargin_1 rfl (lv_at hl 0 rfl) ?_
  refine lv_iload_n hx hb dX11_averageMargin_2 rfl (lv_at hl 1 rfl) ?_
  refine x_callVIr (q := 30) (C := RX11) (As := [.int x]) (rest := [.ref (α 30)]) ⟨hx, hb, hml, hown, hts⟩ (ct_X11_isCompany l D cA α n _ hn S x) (cwV 1 hts gX11_averageMargin_X11_isCompany rfl rfl rfl (by decide +kernel) ⟨Nat.le_of_ble_eq_true rfl, Nat.le_of_ble_eq_true rfl⟩) hK hw hAw (ws_recv hK hw (q := 30) (Nat.lt_of_lt_of_le (Nat.le_of_ble_eq_true rfl : 30 < 191) hn) (mk_30 cA α) rfl) rfl hl.1 rfl (Nat.le_of_ble_eq_true rfl) dX11_averageMargin_3 ⟨Nat.zero_le _, Nat.zero_le _⟩ (fun H locs hw => ?_)
  refine xb_eq (b := (isCoR S x)) (tgt := 13) hx hb dX11_averageMargin_6 (by decide) (fun c1 => ?_) (fun c1 => ?_)
  · skip
    refine lv_iconst (v := nI 1) hx hb dX11_averageMargin_13 (by decide) ?_
    refine x_putI (x := nI 1) (ty := .int) (C := RX11) (T := TX11) (N := 24) hx hb hts (fun _ h => List.mem_cons_of_mem _ (List.mem_append_right _ h)) tyX11 tyX11_ok nmX11 hown hK hw 30 (Nat.lt_of_lt_of_le (Nat.le_of_ble_eq_true rfl : 30 < 191) hn) (mk_30 cA α) rfl 0 (by decide) (hts _ (List.mem_of_getElem? (i := 1) rfl)) (fun _ h9 => h9) rfl rfl rfl rfl (Nat.le_of_ble_eq_true rfl) rfl dX11_averageMargin_14 (fun S1 eS1 H locs hw => ?_)
    refine lv_aload_n hx hb dX11_averageMargin_17 rfl (lv_at hl 0 rfl) ?_
    refine x_get (v := .int (S1.1 30 0)) (C := RX11) (T := TX11) (N := 24) hx hb hts (fun _ h => List.mem_cons_of_mem _ (List.mem_append_right _ h)) hown hK hw 30 (Nat.lt_of_lt_of_le (Nat.le_of_ble_eq_true rfl : 30 < 191) hn) (mk_30 cA α) rfl 0 (by decide) (hts _ (List.mem_of_getElem? (i := 1) rfl)) (fun _ h9 => h9) rfl dX11_averageMargin_18 ?_
    refine x_topN (k := 1) (by subst eS1; simp [sI_e, upd]) ?_
    refine lv_iconst (v := nI 1) hx hb dX11_averageMargin_21 (by decide) ?_
    refine xn_icmp_ne (tgt := 27) hx hb (by decide) (by decide) dX11_averageMargin_22 (by decide) (fun c2 => ?_) (fun c2 => ?_)
    · exact absurd rfl c2
    · skip
      refine lv_fconst0 hx hb dX11_averageMargin_25 ?_
      exact ret_f hx hb hr hlocks hK hw dX11_averageMargin_26 rfl (by subst_vars; rfl)
  · exact absurd (isCo_f (S := S) (by skip; exact hC) hC2 hx9) (by rw [c1]; decide)
