/-! the law's cases -/
def LX (p : Program) (l : Launch) (s : State) (m : MethodId) (meth : Method) (c : Code) (b L : Nat) (xs : Nat → Int32) (sa ka va : Nat → Nat) (D : va_G) (cA : Nat → ClassId) (α : Nat → Nat) : Prop :=
  lw_At p s m meth c b L xs ∧ l.stackTraces = false ∧ va_K D vwCl (tyl cA) s ∧ Ev sa ka va (Aw α 193 s.heap.size) s s.heap ∧ ¬ Aw α 193 s.heap.size b ∧ L ≤ 3072
section LAW
variable {p : Program} {l : Launch} {e : Env} {s : State} {m : MethodId} {below : List Frame} {meth : Method} {c : Code} {b L : Nat} {xs : Nat → Int32} {sa ka va : Nat → Nat} {D : va_G} {cA : Nat → ClassId} {α : Nat → Nat}
theorem x_sld {R : Room} {args : Array Value} {H : Heap} {locs : List Loc} {cells slots : Nat} {Q : State → Prop} {cc : ByteArray} {pc : Nat} {ls : Array Slot} {rest : List Value} {A : Nat → Prop} (hx : p.tables.exec = Jvm.exec) (hb : c.code = cc) (hX : va_X b L xs s s.heap) (hbl : b < s.heap.size) (hbA : ¬ A b) (hS : va_S A s.heap H locs) {k : Nat} (hk : k < L) (hL : L ≤ 3072) (hdg : decode cc pc = .ok (.iaload, 1))
    (kk : W p l e R s m args below meth c H locs cells slots Q (F0 m (pc + 1) ls (.int (xs k) :: rest))) : W p l e R s m args below meth c H locs cells slots Q (F0 m pc ls (.int (nI k) :: .ref b :: rest)) :=
  va_sld hx hb hX hbl hbA hS (vp_in_nI hk (by omega)) hdg (by rw [nI_clamp (by omega)]; exact kk)
/-- where a case ends -/
def Kk (p : Program) (l : Launch) (e : Env) (s : State) (m : MethodId) (below : List Frame) (meth : Method) (c : Code) (b : Nat) (D : va_G) (cA : Nat → ClassId) (α : Nat → Nat) (i cells slots : Nat) : Prop :=
  ∀ (S : Mem) (H : Heap) (locs : List Loc) (ls : Array Slot) (cells1 slots1 : Nat), Rel S → Ws D cA α 193 (Aw α 193 s.heap.size) s.heap S H locs → lv_has ls 10 [(0, .ref b), (1, .ref (α 0)), (2, .ref (α 30)), (3, .ref (α 191)), (4, .ref (α 192)), (5, .int (nI i))] → cells1 ≤ cells + 1 → slots1 ≤ slots + 6 → W p l e room_1 s m #[Value.ref b] below meth c H locs cells1 slots1 (lw_Z below #[Value.ref b] s) (F0 m 2471 ls [])

set_option maxRecDepth 100000 in
set_option maxHeartbeats 1000000 in
theorem lc_0 (C : LX p l s m meth c b L xs sa ka va D cA α) {S : Mem} {i cells slots : Nat} {H : Heap} {locs : List Loc} {ls : Array Slot} (hi : i + 6 ≤ L) (hR : Rel S) (hcs : cells + 1 ≤ 601024 ∧ slots + 6 ≤ 7293034) (hw : Ws D cA α 193 (Aw α 193 s.heap.size) s.heap S H locs) (hl : lv_has ls 10 [(0, .ref b), (1, .ref (α 0)), (2, .ref (α 30)), (3, .ref (α 191)), (4, .ref (α 192)), (5, .int (nI i))]) (kk : Kk p l e s m below meth c b D cA α i cells slots) : W p l e room_1 s m #[Value.ref b] below meth c H locs cells slots (lw_Z below #[Value.ref b] s) (F0 m 224 ls []) := by
  obtain ⟨⟨hx, hb, hr, hml, hown, hts, hX, hbl, hlocks, hgv⟩, hst, hK, hV, hbA, hL⟩ := C
  have hown : s.vm.findClass RL = some m.cls := hown
  obtain ⟨b9, S1, S2, h1, h2, h5⟩ := dp_append (l := l) (D := D) (cA := cA) (α := α) hR (xs (i + 1)) (xs (i + 2)) (xs (i + 3)) (xs (i + 4)) (xs (i + 5))
  have hcc : cells ≤ room_1.cells ∧ slots ≤ room_1.slots := ⟨Nat.le_trans (Nat.le_succ _) hcs.1, Nat.le_trans (Nat.le_add_right _ 6) hcs.2⟩
  refine lv_aload_n hx hb dL_law_224 rfl (lv_at hl 1 rfl) ?_
  refine lv_aload_n hx hb dL_law_225 rfl (lv_at hl 0 rfl) ?_
  refine lv_iload hx hb dL_law_226 (lv_at hl 5 rfl) ?_
  refine lv_iconst (v := nI 1) hx hb dL_law_228 (by decide) ?_
  refine xn_iadd hx hb dL_law_229 ?_
  refine x_sld (k := i + 1) hx hb hX hbl hbA hw.2.2 (by omega) hL dL_law_230 ?_
  refine lv_aload_n hx hb dL_law_231 rfl (lv_at hl 0 rfl) ?_
  refine lv_iload hx hb dL_law_232 (lv_at hl 5 rfl) ?_
  refine lv_iconst (v := nI 2) hx hb dL_law_234 (by decide) ?_
  refine xn_iadd hx hb dL_law_235 ?_
  refine x_sld (k := i + 2) hx hb hX hbl hbA hw.2.2 (by omega) hL dL_law_236 ?_
  refine lv_aload_n hx hb dL_law_237 rfl (lv_at hl 0 rfl) ?_
  refine lv_iload hx hb dL_law_238 (lv_at hl 5 rfl) ?_
  refine lv_iconst (v := nI 3) hx hb dL_law_240 (by decide) ?_
  refine xn_iadd hx hb dL_law_241 ?_
  refine x_sld (k := i + 3) hx hb hX hbl hbA hw.2.2 (by omega) hL dL_law_242 ?_
  refine lv_aload_n hx hb dL_law_243 rfl (lv_at hl 0 rfl) ?_
  refine lv_iload hx hb dL_law_244 (lv_at hl 5 rfl) ?_
  refine lv_iconst (v := nI 4) hx hb dL_law_246 (by decide) ?_
  refine xn_iadd hx hb dL_law_247 ?_
  refine x_sld (k := i + 4) hx hb hX hbl hbA hw.2.2 (by omega) hL dL_law_248 ?_
  refine lv_aload_n hx hb dL_law_249 rfl (lv_at hl 0 rfl) ?_
  refine lv_iload hx hb dL_law_250 (lv_at hl 5 rfl) ?_
  refine lv_iconst (v := nI 5) hx hb dL_law_252 (by decide) ?_
  refine xn_iadd hx hb dL_law_253 ?_
  refine x_sld (k := i + 5) hx hb hX hbl hbA hw.2.2 (by omega) hL dL_law_254 ?_
  refine x_callVI (q := 0) (C := RX10) (As := [.int (xs (i + 1)), .int (xs (i + 2)), .int (xs (i + 3)), .int (xs (i + 4)), .int (xs (i + 5))]) (rest := []) ⟨hx, hb, hml, hown, hts⟩ (h1 _) (cwV 5 hts gL_law_X10_append rfl rfl rfl (by decide +kernel) ⟨Nat.le_of_ble_eq_true rfl, Nat.le_of_ble_eq_true rfl⟩) hK hw (fun _ h => h) (ws_recv hK hw (q := 0) (by decide) (mk_0 cA α) rfl) rfl hl.1 rfl (Nat.le_of_ble_eq_true rfl) dL_law_255 hcc (fun S9 eS9 H locs hw => ?_)
  rw [eS9] at hw
  refine lv_aload_n hx hb dL_law_258 rfl (lv_at hl 2 rfl) ?_
  refine lv_aload_n hx hb dL_law_259 rfl (lv_at hl 0 rfl) ?_
  refine lv_iload hx hb dL_law_260 (lv_at hl 5 rfl) ?_
  refine lv_iconst (v := nI 1) hx hb dL_law_262 (by decide) ?_
  refine xn_iadd hx hb dL_law_263 ?_
  refine x_sld (k := i + 1) hx hb hX hbl hbA hw.2.2 (by omega) hL dL_law_264 ?_
  refine lv_aload_n hx hb dL_law_265 rfl (lv_at hl 0 rfl) ?_
  refine lv_iload hx hb dL_law_266 (lv_at hl 5 rfl) ?_
  refine lv_iconst (v := nI 2) hx hb dL_law_268 (by decide) ?_
  refine xn_iadd hx hb dL_law_269 ?_
  refine x_sld (k := i + 2) hx hb hX hbl hbA hw.2.2 (by omega) hL dL_law_270 ?_
  refine lv_aload_n hx hb dL_law_271 rfl (lv_at hl 0 rfl) ?_
  refine lv_iload hx hb dL_law_272 (lv_at hl 5 rfl) ?_
  refine lv_iconst (v := nI 3) hx hb dL_law_274 (by decide) ?_
  refine xn_iadd hx hb dL_law_275 ?_
  refine x_sld (k := i + 3) hx hb hX hbl hbA hw.2.2 (by omega) hL dL_law_276 ?_
  refine lv_aload_n hx hb dL_law_277 rfl (lv_at hl 0 rfl) ?_
  refine lv_iload hx hb dL_law_278 (lv_at hl 5 rfl) ?_
  refine lv_iconst (v := nI 4) hx hb dL_law_280 (by decide) ?_
  refine xn_iadd hx hb dL_law_281 ?_
  refine x_sld (k := i + 4) hx hb hX hbl hbA hw.2.2 (by omega) hL dL_law_282 ?_
  refine lv_aload_n hx hb dL_law_283 rfl (lv_at hl 0 rfl) ?_
  refine lv_iload hx hb dL_law_284 (lv_at hl 5 rfl) ?_
  refine lv_iconst (v := nI 5) hx hb dL_law_286 (by decide) ?_
  refine xn_iadd hx hb dL_law_287 ?_
  refine x_sld (k := i + 5) hx hb hX hbl hbA hw.2.2 (by omega) hL dL_law_288 ?_
  refine x_callVI (q := 30) (C := RX11) (As := [.int (xs (i + 1)), .int (xs (i + 2)), .int (xs (i + 3)), .int (xs (i + 4)), .int (xs (i + 5))]) (rest := [.int b9]) ⟨hx, hb, hml, hown, hts⟩ (h2 _) (cwV 5 hts gL_law_X11_append rfl rfl rfl (by decide +kernel) ⟨Nat.le_of_ble_eq_true rfl, Nat.le_of_ble_eq_true rfl⟩) hK hw (fun _ h => h) (ws_recv hK hw (q := 30) (by decide) (mk_30 cA α) rfl) rfl hl.1 rfl (Nat.le_of_ble_eq_true rfl) dL_law_289 hcc (fun S9 eS9 H locs hw => ?_)
  rw [eS9] at hw
  refine lv_icmp_eq (tgt := 2471) hx hb dL_law_292 (by decide) (fun c1 => ?_) (fun c1 => absurd rfl c1)
  exact kk _ _ _ _ _ _ h5 hw (lv_sub hl [0, 1, 2, 3, 4, 5] rfl) (Nat.le_succ _) (Nat.le_add_right _ 6)

set_option maxRecDepth 100000 in
set_option maxHeartbeats 1000000 in
theorem lc_1 (C : LX p l s m meth c b L xs sa ka va D cA α) {S : Mem} {i cells slots : Nat} {H : Heap} {locs : List Loc} {ls : Array Slot} (hi : i + 6 ≤ L) (hR : Rel S) (hcs : cells + 1 ≤ 601024 ∧ slots + 6 ≤ 7293034) (hw : Ws D cA α 193 (Aw α 193 s.heap.size) s.heap S H locs) (hl : lv_has ls 10 [(0, .ref b), (1, .ref (α 0)), (2, .ref (α 30)), (3, .ref (α 191)), (4, .ref (α 192)), (5, .int (nI i))]) (kk : Kk p l e s m below meth c b D cA α i cells slots) : W p l e room_1 s m #[Value.ref b] below meth c H locs cells slots (lw_Z below #[Value.ref b] s) (F0 m 297 ls []) := by
  obtain ⟨⟨hx, hb, hr, hml, hown, hts, hX, hbl, hlocks, hgv⟩, hst, hK, hV, hbA, hL⟩ := C
  have hown : s.vm.findClass RL = some m.cls := hown
  obtain ⟨k, S1, b9, S2, h1, h2, h3, h4, h5⟩ := sp_parse (l := l) (sa := sa) (ka := ka) (va := va) (D := D) (cA := cA) (α := α) hst hR (xs (i + 1))
  refine lv_aload_n hx hb dL_law_297 rfl (lv_at hl 1 rfl) ?_
  refine lv_aload_n hx hb dL_law_298 rfl (lv_at hl 0 rfl) ?_
  refine lv_iload hx hb dL_law_299 (lv_at hl 5 rfl) ?_
  refine lv_iconst (v := nI 1) hx hb dL_law_301 (by decide) ?_
  refine xn_iadd hx hb dL_law_302 ?_
  refine x_sld (k := i + 1) hx hb hX hbl hbA hw.2.2 (by omega) hL dL_law_303 ?_
  refine lv_aload_n hx hb dL_law_304 rfl (lv_at hl 3 rfl) ?_
  refine x_callH (As := [.ref (α 0), .int (xs (i + 1)), .ref (α 191)]) (rest := []) ⟨hx, hb, hml, hown, hts⟩ (h1 _) (vx_cwSW 3 hts gL_law_L_parse rfl rfl rfl (by decide +kernel) ⟨Nat.le_of_ble_eq_true rfl, Nat.le_of_ble_eq_true rfl⟩) hK hw rfl hV rfl hl.1 rfl (Nat.le_of_ble_eq_true rfl) dL_law_305 hcs (fun S9 eS9 H locs hw => ?_)
  rw [eS9] at hw
  have hcc : cells + 1 ≤ room_1.cells ∧ slots + 6 ≤ room_1.slots := hcs
  refine lv_istore (lv' := [(6, .int k), (0, .ref b), (1, .ref (α 0)), (2, .ref (α 30)), (3, .ref (α 191)), (4, .ref (α 192)), (5, .int (nI i))]) hx hb dL_law_308 hl (by decide) rfl (fun ls hl => ?_)
  refine lv_aload_n hx hb dL_law_310 rfl (lv_at hl 3 rfl) ?_
  refine lv_aload_n hx hb dL_law_311 rfl (lv_at hl 1 rfl) ?_
  refine lv_iload hx hb dL_law_312 (lv_at hl 6 rfl) ?_
  refine lv_iconst (v := nI 1) hx hb dL_law_314 (by decide) ?_
  refine xn_iadd hx hb dL_law_315 ?_
  refine x_sld (k := i + 1) hx hb hX hbl hbA hw.2.2 (by omega) hL dL_law_316 ?_
  refine x_callVIe (b := α 30) (C := RX11) (As := [.int (xs (i + 1))]) (rest := []) ⟨hx, hb, hml, hown, hts⟩ (h2 _) (cwV 1 hts gL_law_X11_parse rfl rfl rfl (by decide +kernel) ⟨Nat.le_of_ble_eq_true rfl, Nat.le_of_ble_eq_true rfl⟩) hK hw rfl hV.2.2.1 (ws_recv hK hw (q := 30) (by decide) (mk_30 cA α) rfl) rfl hl.1 rfl (Nat.le_of_ble_eq_true rfl) dL_law_317 hcc (fun S9 eS9 H locs hw => ?_)
  rw [eS9] at hw
  refine lv_istore (lv' := [(7, .int b9), (6, .int k), (0, .ref b), (1, .ref (α 0)), (2, .ref (α 30)), (3, .ref (α 191)), (4, .ref (α 192)), (5, .int (nI i))]) hx hb dL_law_320 hl (by decide) rfl (fun ls hl => ?_)
  refine lv_aload_n hx hb dL_law_322 rfl (lv_at hl 4 rfl) ?_
  refine x_callVI (q := 30) (C := RX11) (As := []) (rest := []) ⟨hx, hb, hml, hown, hts⟩ (ct_X11_thrown l D cA α 193 _ (by decide) S2) (cwV 0 hts gL_law_X11_thrown rfl rfl rfl (by decide +kernel) ⟨Nat.le_of_ble_eq_true rfl, Nat.le_of_ble_eq_true rfl⟩) hK hw (fun _ h => h) (ws_recv hK hw (q := 30) (by decide) (mk_30 cA α) rfl) rfl hl.1 rfl (Nat.le_of_ble_eq_true rfl) dL_law_323 hcc (fun S9 eS9 H locs hw => ?_)
  rw [eS9] at hw
  refine x_topE (y := k) h3 ?_
  refine lv_iload hx hb dL_law_326 (lv_at hl 1 rfl) ?_
  refine lv_icmp_eq (tgt := 333) hx hb dL_law_328 (by decide) (fun c1 => ?_) (fun c1 => absurd rfl c1)
  refine lv_iload hx hb dL_law_333 (lv_at hl 1 rfl) ?_
  refine lv_if_ne (tgt := 350) hx hb dL_law_335 (by decide) (fun c2 => ?_) (fun c2 => ?_)
  · skip
    refine lv_goto (tgt := 2471) hx hb dL_law_350 (by decide) ?_
    exact kk _ _ _ _ _ _ h5 hw (lv_sub hl [2, 3, 4, 5, 6, 7] rfl) (Nat.le_refl _) (Nat.le_refl _)
  · skip
    refine lv_aload_n hx hb dL_law_338 rfl (lv_at hl 5 rfl) ?_
    refine lv_iconst (v := nI 0) hx hb dL_law_339 (by decide) ?_
    refine x_lald hx hb hK hw 191 1 (by decide) (mk_191 cA α) 0 rfl (by decide) (by decide) dL_law_340 ?_
    refine lv_iload hx hb dL_law_341 (lv_at hl 0 rfl) ?_
    refine lv_i2l hx hb dL_law_343 rfl ?_
    refine x_lcmp_eq (tgt := 350) hx hb dL_law_344 dL_law_345 (by decide) (fun c3 => ?_) (fun c3 => absurd (h4 (c2.trans nI_0.symm)) c3)
    refine lv_goto (tgt := 2471) hx hb dL_law_350 (by decide) ?_
    exact kk _ _ _ _ _ _ h5 hw (lv_sub hl [2, 3, 4, 5, 6, 7] rfl) (Nat.le_refl _) (Nat.le_refl _)

set_option maxRecDepth 100000 in
set_option maxHeartbeats 1000000 in
theorem lc_2 (C : LX p l s m meth c b L xs sa ka va D cA α) {S : Mem} {i cells slots : Nat} {H : Heap} {locs : List Loc} {ls : Array Slot} (hi : i + 6 ≤ L) (hR : Rel S) (hcs : cells + 1 ≤ 601024 ∧ slots + 6 ≤ 7293034) (hw : Ws D cA α 193 (Aw α 193 s.heap.size) s.heap S H locs) (hl : lv_has ls 10 [(0, .ref b), (1, .ref (α 0)), (2, .ref (α 30)), (3, .ref (α 191)), (4, .ref (α 192)), (5, .int (nI i))]) (kk : Kk p l e s m below meth c b D cA α i cells slots) : W p l e room_1 s m #[Value.ref b] below meth c H locs cells slots (lw_Z below #[Value.ref b] s) (F0 m 353 ls []) := by
  obtain ⟨⟨hx, hb, hr, hml, hown, hts, hX, hbl, hlocks, hgv⟩, hst, hK, hV, hbA, hL⟩ := C
  have hown : s.vm.findClass RL = some m.cls := hown
  obtain ⟨k, S1, b9, S2, h1, h2, h3, h4, h5⟩ := sp_size (l := l) (sa := sa) (ka := ka) (va := va) (D := D) (cA := cA) (α := α) hst hR (xs (i + 1))
  refine lv_aload_n hx hb dL_law_353 rfl (lv_at hl 1 rfl) ?_
  refine lv_aload_n hx hb dL_law_354 rfl (lv_at hl 0 rfl) ?_
  refine lv_iload hx hb dL_law_355 (lv_at hl 5 rfl) ?_
  refine lv_iconst (v := nI 1) hx hb dL_law_357 (by decide) ?_
  refine xn_iadd hx hb dL_law_358 ?_
  refine x_sld (k := i + 1) hx hb hX hbl hbA hw.2.2 (by omega) hL dL_law_359 ?_
  refine lv_aload_n hx hb dL_law_360 rfl (lv_at hl 3 rfl) ?_
  refine x_callH (As := [.ref (α 0), .int (xs (i + 1)), .ref (α 191)]) (rest := []) ⟨hx, hb, hml, hown, hts⟩ (h1 _) (vx_cwSW 3 hts gL_law_L_size rfl rfl rfl (by decide +kernel) ⟨Nat.le_of_ble_eq_true rfl, Nat.le_of_ble_eq_true rfl⟩) hK hw rfl hV rfl hl.1 rfl (Nat.le_of_ble_eq_true rfl) dL_law_361 hcs (fun S9 eS9 H locs hw => ?_)
  rw [eS9] at hw
  have hcc : cells + 1 ≤ room_1.cells ∧ slots + 6 ≤ room_1.slots := hcs
  refine lv_istore (lv' := [(6, .int k), (0, .ref b), (1, .ref (α 0)), (2, .ref (α 30)), (3, .ref (α 191)), (4, .ref (α 192)), (5, .int (nI i))]) hx hb dL_law_364 hl (by decide) rfl (fun ls hl => ?_)
  refine lv_aload_n hx hb dL_law_366 rfl (lv_at hl 3 rfl) ?_
  refine lv_aload_n hx hb dL_law_367 rfl (lv_at hl 1 rfl) ?_
  refine lv_iload hx hb dL_law_368 (lv_at hl 6 rfl) ?_
  refine lv_iconst (v := nI 1) hx hb dL_law_370 (by decide) ?_
  refine xn_iadd hx hb dL_law_371 ?_
  refine x_sld (k := i + 1) hx hb hX hbl hbA hw.2.2 (by omega) hL dL_law_372 ?_
  refine x_callVI (q := 30) (C := RX11) (As := [.int (xs (i + 1))]) (rest := []) ⟨hx, hb, hml, hown, hts⟩ (h2 _) (cwV 1 hts gL_law_X11_size rfl rfl rfl (by decide +kernel) ⟨Nat.le_of_ble_eq_true rfl, Nat.le_of_ble_eq_true rfl⟩) hK hw (fun _ h => h) (ws_recv hK hw (q := 30) (by decide) (mk_30 cA α) rfl) rfl hl.1 rfl (Nat.le_of_ble_eq_true rfl) dL_law_373 hcc (fun S9 eS9 H locs hw => ?_)
  rw [eS9] at hw
  refine lv_istore (lv' := [(7, .int b9), (6, .int k), (0, .ref b), (1, .ref (α 0)), (2, .ref (α 30)), (3, .ref (α 191)), (4, .ref (α 192)), (5, .int (nI i))]) hx hb dL_law_376 hl (by decide) rfl (fun ls hl => ?_)
  refine lv_aload_n hx hb dL_law_378 rfl (lv_at hl 4 rfl) ?_
  refine x_callVI (q := 30) (C := RX11) (As := []) (rest := []) ⟨hx, hb, hml, hown, hts⟩ (ct_X11_thrown l D cA α 193 _ (by decide) S2) (cwV 0 hts gL_law_X11_thrown rfl rfl rfl (by decide +kernel) ⟨Nat.le_of_ble_eq_true rfl, Nat.le_of_ble_eq_true rfl⟩) hK hw (fun _ h => h) (ws_recv hK hw (q := 30) (by decide) (mk_30 cA α) rfl) rfl hl.1 rfl (Nat.le_of_ble_eq_true rfl) dL_law_379 hcc (fun S9 eS9 H locs hw => ?_)
  rw [eS9] at hw
  refine x_topE (y := k) h3 ?_
  refine lv_iload hx hb dL_law_382 (lv_at hl 1 rfl) ?_
  refine lv_icmp_eq (tgt := 389) hx hb dL_law_384 (by decide) (fun c1 => ?_) (fun c1 => absurd rfl c1)
  refine lv_iload hx hb dL_law_389 (lv_at hl 1 rfl) ?_
  refine lv_if_ne (tgt := 406) hx hb dL_law_391 (by decide) (fun c2 => ?_) (fun c2 => ?_)
  · skip
    refine lv_goto (tgt := 2471) hx hb dL_law_406 (by decide) ?_
    exact kk _ _ _ _ _ _ h5 hw (lv_sub hl [2, 3, 4, 5, 6, 7] rfl) (Nat.le_refl _) (Nat.le_refl _)
  · skip
    refine lv_aload_n hx hb dL_law_394 rfl (lv_at hl 5 rfl) ?_
    refine lv_iconst (v := nI 0) hx hb dL_law_395 (by decide) ?_
    refine x_lald hx hb hK hw 191 1 (by decide) (mk_191 cA α) 0 rfl (by decide) (by decide) dL_law_396 ?_
    refine lv_iload hx hb dL_law_397 (lv_at hl 0 rfl) ?_
    refine lv_i2l hx hb dL_law_399 rfl ?_
    refine x_lcmp_eq (tgt := 406) hx hb dL_law_400 dL_law_401 (by decide) (fun c3 => ?_) (fun c3 => absurd (h4 (c2.trans nI_0.symm)) c3)
    refine lv_goto (tgt := 2471) hx hb dL_law_406 (by decide) ?_
    exact kk _ _ _ _ _ _ h5 hw (lv_sub hl [2, 3, 4, 5, 6, 7] rfl) (Nat.le_refl _) (Nat.le_refl _)

set_option maxRecDepth 100000 in
set_option maxHeartbeats 1000000 in
theorem lc_3 (C : LX p l s m meth c b L xs sa ka va D cA α) {S : Mem} {i cells slots : Nat} {H : Heap} {locs : List Loc} {ls : Array Slot} (hi : i + 6 ≤ L) (hR : Rel S) (hcs : cells + 1 ≤ 601024 ∧ slots + 6 ≤ 7293034) (hw : Ws D cA α 193 (Aw α 193 s.heap.size) s.heap S H locs) (hl : lv_has ls 10 [(0, .ref b), (1, .ref (α 0)), (2, .ref (α 30)), (3, .ref (α 191)), (4, .ref (α 192)), (5, .int (nI i))]) (kk : Kk p l e s m below meth c b D cA α i cells slots) : W p l e room_1 s m #[Value.ref b] below meth c H locs cells slots (lw_Z below #[Value.ref b] s) (F0 m 409 ls []) := by
  obtain ⟨⟨hx, hb, hr, hml, hown, hts, hX, hbl, hlocks, hgv⟩, hst, hK, hV, hbA, hL⟩ := C
  have hown : s.vm.findClass RL = some m.cls := hown
  obtain ⟨k, S1, b9, S2, h1, h2, h3, h4, h5⟩ := sp_rate (l := l) (sa := sa) (ka := ka) (va := va) (D := D) (cA := cA) (α := α) hst hR (xs (i + 1))
  refine lv_aload_n hx hb dL_law_409 rfl (lv_at hl 1 rfl) ?_
  refine lv_aload_n hx hb dL_law_410 rfl (lv_at hl 0 rfl) ?_
  refine lv_iload hx hb dL_law_411 (lv_at hl 5 rfl) ?_
  refine lv_iconst (v := nI 1) hx hb dL_law_413 (by decide) ?_
  refine xn_iadd hx hb dL_law_414 ?_
  refine x_sld (k := i + 1) hx hb hX hbl hbA hw.2.2 (by omega) hL dL_law_415 ?_
  refine lv_aload_n hx hb dL_law_416 rfl (lv_at hl 3 rfl) ?_
  refine x_callH (As := [.ref (α 0), .int (xs (i + 1)), .ref (α 191)]) (rest := []) ⟨hx, hb, hml, hown, hts⟩ (h1 _) (vx_cwSW 3 hts gL_law_L_rate rfl rfl rfl (by decide +kernel) ⟨Nat.le_of_ble_eq_true rfl, Nat.le_of_ble_eq_true rfl⟩) hK hw rfl hV rfl hl.1 rfl (Nat.le_of_ble_eq_true rfl) dL_law_417 hcs (fun S9 eS9 H locs hw => ?_)
  rw [eS9] at hw
  have hcc : cells + 1 ≤ room_1.cells ∧ slots + 6 ≤ room_1.slots := hcs
  refine lv_istore (lv' := [(6, .int k), (0, .ref b), (1, .ref (α 0)), (2, .ref (α 30)), (3, .ref (α 191)), (4, .ref (α 192)), (5, .int (nI i))]) hx hb dL_law_420 hl (by decide) rfl (fun ls hl => ?_)
  refine lv_aload_n hx hb dL_law_422 rfl (lv_at hl 3 rfl) ?_
  refine lv_aload_n hx hb dL_law_423 rfl (lv_at hl 1 rfl) ?_
  refine lv_iload hx hb dL_law_424 (lv_at hl 6 rfl) ?_
  refine lv_iconst (v := nI 1) hx hb dL_law_426 (by decide) ?_
  refine xn_iadd hx hb dL_law_427 ?_
  refine x_sld (k := i + 1) hx hb hX hbl hbA hw.2.2 (by omega) hL dL_law_428 ?_
  refine x_callVI (q := 30) (C := RX11) (As := [.int (xs (i + 1))]) (rest := []) ⟨hx, hb, hml, hown, hts⟩ (h2 _) (cwV 1 hts gL_law_X11_rate rfl rfl rfl (by decide +kernel) ⟨Nat.le_of_ble_eq_true rfl, Nat.le_of_ble_eq_true rfl⟩) hK hw (fun _ h => h) (ws_recv hK hw (q := 30) (by decide) (mk_30 cA α) rfl) rfl hl.1 rfl (Nat.le_of_ble_eq_true rfl) dL_law_429 hcc (fun S9 eS9 H locs hw => ?_)
  rw [eS9] at hw
  refine lv_istore (lv' := [(7, .int b9), (6, .int k), (0, .ref b), (1, .ref (α 0)), (2, .ref (α 30)), (3, .ref (α 191)), (4, .ref (α 192)), (5, .int (nI i))]) hx hb dL_law_432 hl (by decide) rfl (fun ls hl => ?_)
  refine lv_aload_n hx hb dL_law_434 rfl (lv_at hl 4 rfl) ?_
  refine x_callVI (q := 30) (C := RX11) (As := []) (rest := []) ⟨hx, hb, hml, hown, hts⟩ (ct_X11_thrown l D cA α 193 _ (by decide) S2) (cwV 0 hts gL_law_X11_thrown rfl rfl rfl (by decide +kernel) ⟨Nat.le_of_ble_eq_true rfl, Nat.le_of_ble_eq_true rfl⟩) hK hw (fun _ h => h) (ws_recv hK hw (q := 30) (by decide) (mk_30 cA α) rfl) rfl hl.1 rfl (Nat.le_of_ble_eq_true rfl) dL_law_435 hcc (fun S9 eS9 H locs hw => ?_)
  rw [eS9] at hw
  refine x_topE (y := k) h3 ?_
  refine lv_iload hx hb dL_law_438 (lv_at hl 1 rfl) ?_
  refine lv_icmp_eq (tgt := 445) hx hb dL_law_440 (by decide) (fun c1 => ?_) (fun c1 => absurd rfl c1)
  refine lv_iload hx hb dL_law_445 (lv_at hl 1 rfl) ?_
  refine lv_if_ne (tgt := 462) hx hb dL_law_447 (by decide) (fun c2 => ?_) (fun c2 => ?_)
  · skip
    refine lv_goto (tgt := 2471) hx hb dL_law_462 (by decide) ?_
    exact kk _ _ _ _ _ _ h5 hw (lv_sub hl [2, 3, 4, 5, 6, 7] rfl) (Nat.le_refl _) (Nat.le_refl _)
  · skip
    refine lv_aload_n hx hb dL_law_450 rfl (lv_at hl 5 rfl) ?_
    refine lv_iconst (v := nI 0) hx hb dL_law_451 (by decide) ?_
    refine x_lald hx hb hK hw 191 1 (by decide) (mk_191 cA α) 0 rfl (by decide) (by decide) dL_law_452 ?_
    refine lv_iload hx hb dL_law_453 (lv_at hl 0 rfl) ?_
    refine lv_i2l hx hb dL_law_455 rfl ?_
    refine x_lcmp_eq (tgt := 462) hx hb dL_law_456 dL_law_457 (by decide) (fun c3 => ?_) (fun c3 => absurd (h4 (c2.trans nI_0.symm)) c3)
    refine lv_goto (tgt := 2471) hx hb dL_law_462 (by decide) ?_
    exact kk _ _ _ _ _ _ h5 hw (lv_sub hl [2, 3, 4, 5, 6, 7] rfl) (Nat.le_refl _) (Nat.le_refl _)

set_option maxRecDepth 100000 in
set_option maxHeartbeats 1000000 in
theorem lc_4 (C : LX p l s m meth c b L xs sa ka va D cA α) {S : Mem} {i cells slots : Nat} {H : Heap} {locs : List Loc} {ls : Array Slot} (hi : i + 6 ≤ L) (hR : Rel S) (hcs : cells + 1 ≤ 601024 ∧ slots + 6 ≤ 7293034) (hw : Ws D cA α 193 (Aw α 193 s.heap.size) s.heap S H locs) (hl : lv_has ls 10 [(0, .ref b), (1, .ref (α 0)), (2, .ref (α 30)), (3, .ref (α 191)), (4, .ref (α 192)), (5, .int (nI i))]) (kk : Kk p l e s m below meth c b D cA α i cells slots) : W p l e room_1 s m #[Value.ref b] below meth c H locs cells slots (lw_Z below #[Value.ref b] s) (F0 m 465 ls []) := by
  obtain ⟨⟨hx, hb, hr, hml, hown, hts, hX, hbl, hlocks, hgv⟩, hst, hK, hV, hbA, hL⟩ := C
  have hown : s.vm.findClass RL = some m.cls := hown
  obtain ⟨k, S1, b9, S2, h1, h2, h3, h4, h5⟩ := sp_currencyOf (l := l) (sa := sa) (ka := ka) (va := va) (D := D) (cA := cA) (α := α) hst hR (xs (i + 1))
  refine lv_aload_n hx hb dL_law_465 rfl (lv_at hl 1 rfl) ?_
  refine lv_aload_n hx hb dL_law_466 rfl (lv_at hl 0 rfl) ?_
  refine lv_iload hx hb dL_law_467 (lv_at hl 5 rfl) ?_
  refine lv_iconst (v := nI 1) hx hb dL_law_469 (by decide) ?_
  refine xn_iadd hx hb dL_law_470 ?_
  refine x_sld (k := i + 1) hx hb hX hbl hbA hw.2.2 (by omega) hL dL_law_471 ?_
  refine lv_aload_n hx hb dL_law_472 rfl (lv_at hl 3 rfl) ?_
  refine x_callH (As := [.ref (α 0), .int (xs (i + 1)), .ref (α 191)]) (rest := []) ⟨hx, hb, hml, hown, hts⟩ (h1 _) (vx_cwSW 3 hts gL_law_L_currencyOf rfl rfl rfl (by decide +kernel) ⟨Nat.le_of_ble_eq_true rfl, Nat.le_of_ble_eq_true rfl⟩) hK hw rfl hV rfl hl.1 rfl (Nat.le_of_ble_eq_true rfl) dL_law_473 hcs (fun S9 eS9 H locs hw => ?_)
  rw [eS9] at hw
  have hcc : cells + 1 ≤ room_1.cells ∧ slots + 6 ≤ room_1.slots := hcs
  refine lv_istore (lv' := [(6, .int k), (0, .ref b), (1, .ref (α 0)), (2, .ref (α 30)), (3, .ref (α 191)), (4, .ref (α 192)), (5, .int (nI i))]) hx hb dL_law_476 hl (by decide) rfl (fun ls hl => ?_)
  refine lv_aload_n hx hb dL_law_478 rfl (lv_at hl 3 rfl) ?_
  refine lv_aload_n hx hb dL_law_479 rfl (lv_at hl 1 rfl) ?_
  refine lv_iload hx hb dL_law_480 (lv_at hl 6 rfl) ?_
  refine lv_iconst (v := nI 1) hx hb dL_law_482 (by decide) ?_
  refine xn_iadd hx hb dL_law_483 ?_
  refine x_sld (k := i + 1) hx hb hX hbl hbA hw.2.2 (by omega) hL dL_law_484 ?_
  refine x_callVI (q := 30) (C := RX11) (As := [.int (xs (i + 1))]) (rest := []) ⟨hx, hb, hml, hown, hts⟩ (h2 _) (cwV 1 hts gL_law_X11_currencyOf rfl rfl rfl (by decide +kernel) ⟨Nat.le_of_ble_eq_true rfl, Nat.le_of_ble_eq_true rfl⟩) hK hw (fun _ h => h) (ws_recv hK hw (q := 30) (by decide) (mk_30 cA α) rfl) rfl hl.1 rfl (Nat.le_of_ble_eq_true rfl) dL_law_485 hcc (fun S9 eS9 H locs hw => ?_)
  rw [eS9] at hw
  refine lv_istore (lv' := [(7, .int b9), (6, .int k), (0, .ref b), (1, .ref (α 0)), (2, .ref (α 30)), (3, .ref (α 191)), (4, .ref (α 192)), (5, .int (nI i))]) hx hb dL_law_488 hl (by decide) rfl (fun ls hl => ?_)
  refine lv_aload_n hx hb dL_law_490 rfl (lv_at hl 4 rfl) ?_
  refine x_callVI (q := 30) (C := RX11) (As := []) (rest := []) ⟨hx, hb, hml, hown, hts⟩ (ct_X11_thrown l D cA α 193 _ (by decide) S2) (cwV 0 hts gL_law_X11_thrown rfl rfl rfl (by decide +kernel) ⟨Nat.le_of_ble_eq_true rfl, Nat.le_of_ble_eq_true rfl⟩) hK hw (fun _ h => h) (ws_recv hK hw (q := 30) (by decide) (mk_30 cA α) rfl) rfl hl.1 rfl (Nat.le_of_ble_eq_true rfl) dL_law_491 hcc (fun S9 eS9 H locs hw => ?_)
  rw [eS9] at hw
  refine x_topE (y := k) h3 ?_
  refine lv_iload hx hb dL_law_494 (lv_at hl 1 rfl) ?_
  refine lv_icmp_eq (tgt := 501) hx hb dL_law_496 (by decide) (fun c1 => ?_) (fun c1 => absurd rfl c1)
  refine lv_iload hx hb dL_law_501 (lv_at hl 1 rfl) ?_
  refine lv_if_ne (tgt := 518) hx hb dL_law_503 (by decide) (fun c2 => ?_) (fun c2 => ?_)
  · skip
    refine lv_goto (tgt := 2471) hx hb dL_law_518 (by decide) ?_
    exact kk _ _ _ _ _ _ h5 hw (lv_sub hl [2, 3, 4, 5, 6, 7] rfl) (Nat.le_refl _) (Nat.le_refl _)
  · skip
    refine lv_aload_n hx hb dL_law_506 rfl (lv_at hl 5 rfl) ?_
    refine lv_iconst (v := nI 0) hx hb dL_law_507 (by decide) ?_
    refine x_lald hx hb hK hw 191 1 (by decide) (mk_191 cA α) 0 rfl (by decide) (by decide) dL_law_508 ?_
    refine lv_iload hx hb dL_law_509 (lv_at hl 0 rfl) ?_
    refine lv_i2l hx hb dL_law_511 rfl ?_
    refine x_lcmp_eq (tgt := 518) hx hb dL_law_512 dL_law_513 (by decide) (fun c3 => ?_) (fun c3 => absurd (h4 (c2.trans nI_0.symm)) c3)
    refine lv_goto (tgt := 2471) hx hb dL_law_518 (by decide) ?_
    exact kk _ _ _ _ _ _ h5 hw (lv_sub hl [2, 3, 4, 5, 6, 7] rfl) (Nat.le_refl _) (Nat.le_refl _)

set_option maxRecDepth 100000 in
set_option maxHeartbeats 1000000 in
theorem lc_5 (C : LX p l s m meth c b L xs sa ka va D cA α) {S : Mem} {i cells slots : Nat} {H : Heap} {locs : List Loc} {ls : Array Slot} (hi : i + 6 ≤ L) (hR : Rel S) (hcs : cells + 1 ≤ 601024 ∧ slots + 6 ≤ 7293034) (hw : Ws D cA α 193 (Aw α 193 s.heap.size) s.heap S H locs) (hl : lv_has ls 10 [(0, .ref b), (1, .ref (α 0)), (2, .ref (α 30)), (3, .ref (α 191)), (4, .ref (α 192)), (5, .int (nI i))]) (kk : Kk p l e s m below meth c b D cA α i cells slots) : W p l e room_1 s m #[Value.ref b] below meth c H locs cells slots (lw_Z below #[Value.ref b] s) (F0 m 521 ls []) := by
  obtain ⟨⟨hx, hb, hr, hml, hown, hts, hX, hbl, hlocks, hgv⟩, hst, hK, hV, hbA, hL⟩ := C
  have hown : s.vm.findClass RL = some m.cls := hown
  obtain ⟨k, S1, b9, S2, h1, h2, h3, h4, h5⟩ := sp_product (l := l) (sa := sa) (ka := ka) (va := va) (D := D) (cA := cA) (α := α) hst hR (xs (i + 1)) (xs (i + 2))
  refine lv_aload_n hx hb dL_law_521 rfl (lv_at hl 1 rfl) ?_
  refine lv_aload_n hx hb dL_law_522 rfl (lv_at hl 0 rfl) ?_
  refine lv_iload hx hb dL_law_523 (lv_at hl 5 rfl) ?_
  refine lv_iconst (v := nI 1) hx hb dL_law_525 (by decide) ?_
  refine xn_iadd hx hb dL_law_526 ?_
  refine x_sld (k := i + 1) hx hb hX hbl hbA hw.2.2 (by omega) hL dL_law_527 ?_
  refine lv_aload_n hx hb dL_law_528 rfl (lv_at hl 0 rfl) ?_
  refine lv_iload hx hb dL_law_529 (lv_at hl 5 rfl) ?_
  refine lv_iconst (v := nI 2) hx hb dL_law_531 (by decide) ?_
  refine xn_iadd hx hb dL_law_532 ?_
  refine x_sld (k := i + 2) hx hb hX hbl hbA hw.2.2 (by omega) hL dL_law_533 ?_
  refine lv_aload_n hx hb dL_law_534 rfl (lv_at hl 3 rfl) ?_
  refine x_callH (As := [.ref (α 0), .int (xs (i + 1)), .int (xs (i + 2)), .ref (α 191)]) (rest := []) ⟨hx, hb, hml, hown, hts⟩ (h1 _) (vx_cwSW 4 hts gL_law_L_product rfl rfl rfl (by decide +kernel) ⟨Nat.le_of_ble_eq_true rfl, Nat.le_of_ble_eq_true rfl⟩) hK hw rfl hV rfl hl.1 rfl (Nat.le_of_ble_eq_true rfl) dL_law_535 hcs (fun S9 eS9 H locs hw => ?_)
  rw [eS9] at hw
  have hcc : cells + 1 ≤ room_1.cells ∧ slots + 6 ≤ room_1.slots := hcs
  refine lv_istore (lv' := [(6, .int k), (0, .ref b), (1, .ref (α 0)), (2, .ref (α 30)), (3, .ref (α 191)), (4, .ref (α 192)), (5, .int (nI i))]) hx hb dL_law_538 hl (by decide) rfl (fun ls hl => ?_)
  refine lv_aload_n hx hb dL_law_540 rfl (lv_at hl 3 rfl) ?_
  refine lv_aload_n hx hb dL_law_541 rfl (lv_at hl 1 rfl) ?_
  refine lv_iload hx hb dL_law_542 (lv_at hl 6 rfl) ?_
  refine lv_iconst (v := nI 1) hx hb dL_law_544 (by decide) ?_
  refine xn_iadd hx hb dL_law_545 ?_
  refine x_sld (k := i + 1) hx hb hX hbl hbA hw.2.2 (by omega) hL dL_law_546 ?_
  refine lv_aload_n hx hb dL_law_547 rfl (lv_at hl 1 rfl) ?_
  refine lv_iload hx hb dL_law_548 (lv_at hl 6 rfl) ?_
  refine lv_iconst (v := nI 2) hx hb dL_law_550 (by decide) ?_
  refine xn_iadd hx hb dL_law_551 ?_
  refine x_sld (k := i + 2) hx hb hX hbl hbA hw.2.2 (by omega) hL dL_law_552 ?_
  refine x_callVI (q := 30) (C := RX11) (As := [.int (xs (i + 1)), .int (xs (i + 2))]) (rest := []) ⟨hx, hb, hml, hown, hts⟩ (h2 _) (cwV 2 hts gL_law_X11_product rfl rfl rfl (by decide +kernel) ⟨Nat.le_of_ble_eq_true rfl, Nat.le_of_ble_eq_true rfl⟩) hK hw (fun _ h => h) (ws_recv hK hw (q := 30) (by decide) (mk_30 cA α) rfl) rfl hl.1 rfl (Nat.le_of_ble_eq_true rfl) dL_law_553 hcc (fun S9 eS9 H locs hw => ?_)
  rw [eS9] at hw
  refine lv_istore (lv' := [(7, .int b9), (6, .int k), (0, .ref b), (1, .ref (α 0)), (2, .ref (α 30)), (3, .ref (α 191)), (4, .ref (α 192)), (5, .int (nI i))]) hx hb dL_law_556 hl (by decide) rfl (fun ls hl => ?_)
  refine lv_aload_n hx hb dL_law_558 rfl (lv_at hl 4 rfl) ?_
  refine x_callVI (q := 30) (C := RX11) (As := []) (rest := []) ⟨hx, hb, hml, hown, hts⟩ (ct_X11_thrown l D cA α 193 _ (by decide) S2) (cwV 0 hts gL_law_X11_thrown rfl rfl rfl (by decide +kernel) ⟨Nat.le_of_ble_eq_true rfl, Nat.le_of_ble_eq_true rfl⟩) hK hw (fun _ h => h) (ws_recv hK hw (q := 30) (by decide) (mk_30 cA α) rfl) rfl hl.1 rfl (Nat.le_of_ble_eq_true rfl) dL_law_559 hcc (fun S9 eS9 H locs hw => ?_)
  rw [eS9] at hw
  refine x_topE (y := k) h3 ?_
  refine lv_iload hx hb dL_law_562 (lv_at hl 1 rfl) ?_
  refine lv_icmp_eq (tgt := 569) hx hb dL_law_564 (by decide) (fun c1 => ?_) (fun c1 => absurd rfl c1)
  refine lv_iload hx hb dL_law_569 (lv_at hl 1 rfl) ?_
  refine lv_if_ne (tgt := 586) hx hb dL_law_571 (by decide) (fun c2 => ?_) (fun c2 => ?_)
  · skip
    refine lv_goto (tgt := 2471) hx hb dL_law_586 (by decide) ?_
    exact kk _ _ _ _ _ _ h5 hw (lv_sub hl [2, 3, 4, 5, 6, 7] rfl) (Nat.le_refl _) (Nat.le_refl _)
  · skip
    refine lv_aload_n hx hb dL_law_574 rfl (lv_at hl 5 rfl) ?_
    refine lv_iconst (v := nI 0) hx hb dL_law_575 (by decide) ?_
    refine x_lald hx hb hK hw 191 1 (by decide) (mk_191 cA α) 0 rfl (by decide) (by decide) dL_law_576 ?_
    refine lv_iload hx hb dL_law_577 (lv_at hl 0 rfl) ?_
    refine lv_i2l hx hb dL_law_579 rfl ?_
    refine x_lcmp_eq (tgt := 586) hx hb dL_law_580 dL_law_581 (by decide) (fun c3 => ?_) (fun c3 => absurd (h4 (c2.trans nI_0.symm)) c3)
    refine lv_goto (tgt := 2471) hx hb dL_law_586 (by decide) ?_
    exact kk _ _ _ _ _ _ h5 hw (lv_sub hl [2, 3, 4, 5, 6, 7] rfl) (Nat.le_refl _) (Nat.le_refl _)

set_option maxRecDepth 100000 in
set_option maxHeartbeats 1000000 in
theorem lc_6 (C : LX p l s m meth c b L xs sa ka va D cA α) {S : Mem} {i cells slots : Nat} {H : Heap} {locs : List Loc} {ls : Array Slot} (hi : i + 6 ≤ L) (hR : Rel S) (hcs : cells + 1 ≤ 601024 ∧ slots + 6 ≤ 7293034) (hw : Ws D cA α 193 (Aw α 193 s.heap.size) s.heap S H locs) (hl : lv_has ls 10 [(0, .ref b), (1, .ref (α 0)), (2, .ref (α 30)), (3, .ref (α 191)), (4, .ref (α 192)), (5, .int (nI i))]) (kk : Kk p l e s m below meth c b D cA α i cells slots) : W p l e room_1 s m #[Value.ref b] below meth c H locs cells slots (lw_Z below #[Value.ref b] s) (F0 m 589 ls []) := by
  obtain ⟨⟨hx, hb, hr, hml, hown, hts, hX, hbl, hlocks, hgv⟩, hst, hK, hV, hbA, hL⟩ := C
  have hown : s.vm.findClass RL = some m.cls := hown
  obtain ⟨k, S1, b9, S2, h1, h2, h3, h4, h5⟩ := sp_item (l := l) (sa := sa) (ka := ka) (va := va) (D := D) (cA := cA) (α := α) hst hR (xs (i + 1)) (xs (i + 2))
  refine lv_aload_n hx hb dL_law_589 rfl (lv_at hl 1 rfl) ?_
  refine lv_aload_n hx hb dL_law_590 rfl (lv_at hl 0 rfl) ?_
  refine lv_iload hx hb dL_law_591 (lv_at hl 5 rfl) ?_
  refine lv_iconst (v := nI 1) hx hb dL_law_593 (by decide) ?_
  refine xn_iadd hx hb dL_law_594 ?_
  refine x_sld (k := i + 1) hx hb hX hbl hbA hw.2.2 (by omega) hL dL_law_595 ?_
  refine lv_aload_n hx hb dL_law_596 rfl (lv_at hl 0 rfl) ?_
  refine lv_iload hx hb dL_law_597 (lv_at hl 5 rfl) ?_
  refine lv_iconst (v := nI 2) hx hb dL_law_599 (by decide) ?_
  refine xn_iadd hx hb dL_law_600 ?_
  refine x_sld (k := i + 2) hx hb hX hbl hbA hw.2.2 (by omega) hL dL_law_601 ?_
  refine lv_aload_n hx hb dL_law_602 rfl (lv_at hl 3 rfl) ?_
  refine x_callH (As := [.ref (α 0), .int (xs (i + 1)), .int (xs (i + 2)), .ref (α 191)]) (rest := []) ⟨hx, hb, hml, hown, hts⟩ (h1 _) (vx_cwSW 4 hts gL_law_L_item rfl rfl rfl (by decide +kernel) ⟨Nat.le_of_ble_eq_true rfl, Nat.le_of_ble_eq_true rfl⟩) hK hw rfl hV rfl hl.1 rfl (Nat.le_of_ble_eq_true rfl) dL_law_603 hcs (fun S9 eS9 H locs hw => ?_)
  rw [eS9] at hw
  have hcc : cells + 1 ≤ room_1.cells ∧ slots + 6 ≤ room_1.slots := hcs
  refine lv_istore (lv' := [(6, .int k), (0, .ref b), (1, .ref (α 0)), (2, .ref (α 30)), (3, .ref (α 191)), (4, .ref (α 192)), (5, .int (nI i))]) hx hb dL_law_606 hl (by decide) rfl (fun ls hl => ?_)
  refine lv_aload_n hx hb dL_law_608 rfl (lv_at hl 3 rfl) ?_
  refine lv_aload_n hx hb dL_law_609 rfl (lv_at hl 1 rfl) ?_
  refine lv_iload hx hb dL_law_610 (lv_at hl 6 rfl) ?_
  refine lv_iconst (v := nI 1) hx hb dL_law_612 (by decide) ?_
  refine xn_iadd hx hb dL_law_613 ?_
  refine x_sld (k := i + 1) hx hb hX hbl hbA hw.2.2 (by omega) hL dL_law_614 ?_
  refine lv_aload_n hx hb dL_law_615 rfl (lv_at hl 1 rfl) ?_
  refine lv_iload hx hb dL_law_616 (lv_at hl 6 rfl) ?_
  refine lv_iconst (v := nI 2) hx hb dL_law_618 (by decide) ?_
  refine xn_iadd hx hb dL_law_619 ?_
  refine x_sld (k := i + 2) hx hb hX hbl hbA hw.2.2 (by omega) hL dL_law_620 ?_
  refine x_callVI (q := 30) (C := RX11) (As := [.int (xs (i + 1)), .int (xs (i + 2))]) (rest := []) ⟨hx, hb, hml, hown, hts⟩ (h2 _) (cwV 2 hts gL_law_X11_item rfl rfl rfl (by decide +kernel) ⟨Nat.le_of_ble_eq_true rfl, Nat.le_of_ble_eq_true rfl⟩) hK hw (fun _ h => h) (ws_recv hK hw (q := 30) (by decide) (mk_30 cA α) rfl) rfl hl.1 rfl (Nat.le_of_ble_eq_true rfl) dL_law_621 hcc (fun S9 eS9 H locs hw => ?_)
  rw [eS9] at hw
  refine lv_istore (lv' := [(7, .int b9), (6, .int k), (0, .ref b), (1, .ref (α 0)), (2, .ref (α 30)), (3, .ref (α 191)), (4, .ref (α 192)), (5, .int (nI i))]) hx hb dL_law_624 hl (by decide) rfl (fun ls hl => ?_)
  refine lv_aload_n hx hb dL_law_626 rfl (lv_at hl 4 rfl) ?_
  refine x_callVI (q := 30) (C := RX11) (As := []) (rest := []) ⟨hx, hb, hml, hown, hts⟩ (ct_X11_thrown l D cA α 193 _ (by decide) S2) (cwV 0 hts gL_law_X11_thrown rfl rfl rfl (by decide +kernel) ⟨Nat.le_of_ble_eq_true rfl, Nat.le_of_ble_eq_true rfl⟩) hK hw (fun _ h => h) (ws_recv hK hw (q := 30) (by decide) (mk_30 cA α) rfl) rfl hl.1 rfl (Nat.le_of_ble_eq_true rfl) dL_law_627 hcc (fun S9 eS9 H locs hw => ?_)
  rw [eS9] at hw
  refine x_topE (y := k) h3 ?_
  refine lv_iload hx hb dL_law_630 (lv_at hl 1 rfl) ?_
  refine lv_icmp_eq (tgt := 637) hx hb dL_law_632 (by decide) (fun c1 => ?_) (fun c1 => absurd rfl c1)
  refine lv_iload hx hb dL_law_637 (lv_at hl 1 rfl) ?_
  refine lv_if_ne (tgt := 654) hx hb dL_law_639 (by decide) (fun c2 => ?_) (fun c2 => ?_)
  · skip
    refine lv_goto (tgt := 2471) hx hb dL_law_654 (by decide) ?_
    exact kk _ _ _ _ _ _ h5 hw (lv_sub hl [2, 3, 4, 5, 6, 7] rfl) (Nat.le_refl _) (Nat.le_refl _)
  · skip
    refine lv_aload_n hx hb dL_law_642 rfl (lv_at hl 5 rfl) ?_
    refine lv_iconst (v := nI 0) hx hb dL_law_643 (by decide) ?_
    refine x_lald hx hb hK hw 191 1 (by decide) (mk_191 cA α) 0 rfl (by decide) (by decide) dL_law_644 ?_
    refine lv_iload hx hb dL_law_645 (lv_at hl 0 rfl) ?_
    refine lv_i2l hx hb dL_law_647 rfl ?_
    refine x_lcmp_eq (tgt := 654) hx hb dL_law_648 dL_law_649 (by decide) (fun c3 => ?_) (fun c3 => absurd (h4 (c2.trans nI_0.symm)) c3)
    refine lv_goto (tgt := 2471) hx hb dL_law_654 (by decide) ?_
    exact kk _ _ _ _ _ _ h5 hw (lv_sub hl [2, 3, 4, 5, 6, 7] rfl) (Nat.le_refl _) (Nat.le_refl _)

set_option maxRecDepth 100000 in
set_option maxHeartbeats 1000000 in
theorem lc_7 (C : LX p l s m meth c b L xs sa ka va D cA α) {S : Mem} {i cells slots : Nat} {H : Heap} {locs : List Loc} {ls : Array Slot} (hi : i + 6 ≤ L) (hR : Rel S) (hcs : cells + 1 ≤ 601024 ∧ slots + 6 ≤ 7293034) (hw : Ws D cA α 193 (Aw α 193 s.heap.size) s.heap S H locs) (hl : lv_has ls 10 [(0, .ref b), (1, .ref (α 0)), (2, .ref (α 30)), (3, .ref (α 191)), (4, .ref (α 192)), (5, .int (nI i))]) (kk : Kk p l e s m below meth c b D cA α i cells slots) : W p l e room_1 s m #[Value.ref b] below meth c H locs cells slots (lw_Z below #[Value.ref b] s) (F0 m 657 ls []) := by
  obtain ⟨⟨hx, hb, hr, hml, hown, hts, hX, hbl, hlocks, hgv⟩, hst, hK, hV, hbA, hL⟩ := C
  have hown : s.vm.findClass RL = some m.cls := hown
  obtain ⟨k, S1, b9, S2, h1, h2, h3, h4, h5⟩ := sp_amount (l := l) (sa := sa) (ka := ka) (va := va) (D := D) (cA := cA) (α := α) hst hR (xs (i + 1))
  refine lv_aload_n hx hb dL_law_657 rfl (lv_at hl 1 rfl) ?_
  refine lv_aload_n hx hb dL_law_658 rfl (lv_at hl 0 rfl) ?_
  refine lv_iload hx hb dL_law_659 (lv_at hl 5 rfl) ?_
  refine lv_iconst (v := nI 1) hx hb dL_law_661 (by decide) ?_
  refine xn_iadd hx hb dL_law_662 ?_
  refine x_sld (k := i + 1) hx hb hX hbl hbA hw.2.2 (by omega) hL dL_law_663 ?_
  refine lv_aload_n hx hb dL_law_664 rfl (lv_at hl 3 rfl) ?_
  refine x_callH (As := [.ref (α 0), .int (xs (i + 1)), .ref (α 191)]) (rest := []) ⟨hx, hb, hml, hown, hts⟩ (h1 _) (vx_cwSW 3 hts gL_law_L_amount rfl rfl rfl (by decide +kernel) ⟨Nat.le_of_ble_eq_true rfl, Nat.le_of_ble_eq_true rfl⟩) hK hw rfl hV rfl hl.1 rfl (Nat.le_of_ble_eq_true rfl) dL_law_665 hcs (fun S9 eS9 H locs hw => ?_)
  rw [eS9] at hw
  have hcc : cells + 1 ≤ room_1.cells ∧ slots + 6 ≤ room_1.slots := hcs
  refine lv_istore (lv' := [(6, .int k), (0, .ref b), (1, .ref (α 0)), (2, .ref (α 30)), (3, .ref (α 191)), (4, .ref (α 192)), (5, .int (nI i))]) hx hb dL_law_668 hl (by decide) rfl (fun ls hl => ?_)
  refine lv_aload_n hx hb dL_law_670 rfl (lv_at hl 3 rfl) ?_
  refine lv_aload_n hx hb dL_law_671 rfl (lv_at hl 1 rfl) ?_
  refine lv_iload hx hb dL_law_672 (lv_at hl 6 rfl) ?_
  refine lv_iconst (v := nI 1) hx hb dL_law_674 (by decide) ?_
  refine xn_iadd hx hb dL_law_675 ?_
  refine x_sld (k := i + 1) hx hb hX hbl hbA hw.2.2 (by omega) hL dL_law_676 ?_
  refine x_callVL (q := 30) (C := RX11) (As := [.int (xs (i + 1))]) (rest := []) ⟨hx, hb, hml, hown, hts⟩ (h2 _) (cwV 1 hts gL_law_X11_amount rfl rfl rfl (by decide +kernel) ⟨Nat.le_of_ble_eq_true rfl, Nat.le_of_ble_eq_true rfl⟩) hK hw (fun _ h => h) (ws_recv hK hw (q := 30) (by decide) (mk_30 cA α) rfl) rfl hl.1 rfl (Nat.le_of_ble_eq_true rfl) dL_law_677 hcc (fun S9 eS9 H locs hw => ?_)
  rw [eS9] at hw
  refine lv_lstore (lv' := [(7, .long b9), (6, .int k), (0, .ref b), (1, .ref (α 0)), (2, .ref (α 30)), (3, .ref (α 191)), (4, .ref (α 192)), (5, .int (nI i))]) hx hb dL_law_680 hl (by decide) rfl (fun ls hl => ?_)
  refine lv_aload_n hx hb dL_law_682 rfl (lv_at hl 4 rfl) ?_
  refine x_callVI (q := 30) (C := RX11) (As := []) (rest := []) ⟨hx, hb, hml, hown, hts⟩ (ct_X11_thrown l D cA α 193 _ (by decide) S2) (cwV 0 hts gL_law_X11_thrown rfl rfl rfl (by decide +kernel) ⟨Nat.le_of_ble_eq_true rfl, Nat.le_of_ble_eq_true rfl⟩) hK hw (fun _ h => h) (ws_recv hK hw (q := 30) (by decide) (mk_30 cA α) rfl) rfl hl.1 rfl (Nat.le_of_ble_eq_true rfl) dL_law_683 hcc (fun S9 eS9 H locs hw => ?_)
  rw [eS9] at hw
  refine x_topE (y := k) h3 ?_
  refine lv_iload hx hb dL_law_686 (lv_at hl 1 rfl) ?_
  refine lv_icmp_eq (tgt := 693) hx hb dL_law_688 (by decide) (fun c1 => ?_) (fun c1 => absurd rfl c1)
  refine lv_iload hx hb dL_law_693 (lv_at hl 1 rfl) ?_
  refine lv_if_ne (tgt := 709) hx hb dL_law_695 (by decide) (fun c2 => ?_) (fun c2 => ?_)
  · skip
    refine lv_goto (tgt := 2471) hx hb dL_law_709 (by decide) ?_
    exact kk _ _ _ _ _ _ h5 hw (lv_sub hl [2, 3, 4, 5, 6, 7] rfl) (Nat.le_refl _) (Nat.le_refl _)
  · skip
    refine lv_aload_n hx hb dL_law_698 rfl (lv_at hl 5 rfl) ?_
    refine lv_iconst (v := nI 0) hx hb dL_law_699 (by decide) ?_
    refine x_lald hx hb hK hw 191 1 (by decide) (mk_191 cA α) 0 rfl (by decide) (by decide) dL_law_700 ?_
    refine lv_lload hx hb dL_law_701 (lv_at hl 0 rfl) ?_
    refine x_lcmp_eq (tgt := 709) hx hb dL_law_703 dL_law_704 (by decide) (fun c3 => ?_) (fun c3 => absurd (h4 (c2.trans nI_0.symm)) c3)
    refine lv_goto (tgt := 2471) hx hb dL_law_709 (by decide) ?_
    exact kk _ _ _ _ _ _ h5 hw (lv_sub hl [2, 3, 4, 5, 6, 7] rfl) (Nat.le_refl _) (Nat.le_refl _)

set_option maxRecDepth 100000 in
set_option maxHeartbeats 1000000 in
theorem lc_8 (C : LX p l s m meth c b L xs sa ka va D cA α) {S : Mem} {i cells slots : Nat} {H : Heap} {locs : List Loc} {ls : Array Slot} (hi : i + 6 ≤ L) (hR : Rel S) (hcs : cells + 1 ≤ 601024 ∧ slots + 6 ≤ 7293034) (hw : Ws D cA α 193 (Aw α 193 s.heap.size) s.heap S H locs) (hl : lv_has ls 10 [(0, .ref b), (1, .ref (α 0)), (2, .ref (α 30)), (3, .ref (α 191)), (4, .ref (α 192)), (5, .int (nI i))]) (kk : Kk p l e s m below meth c b D cA α i cells slots) : W p l e room_1 s m #[Value.ref b] below meth c H locs cells slots (lw_Z below #[Value.ref b] s) (F0 m 712 ls []) := by
  obtain ⟨⟨hx, hb, hr, hml, hown, hts, hX, hbl, hlocks, hgv⟩, hst, hK, hV, hbA, hL⟩ := C
  have hown : s.vm.findClass RL = some m.cls := hown
  obtain ⟨k, S1, b9, S2, h1, h2, h3, h4, h5⟩ := sp_value (l := l) (sa := sa) (ka := ka) (va := va) (D := D) (cA := cA) (α := α) hst hR (xs (i + 1))
  refine lv_aload_n hx hb dL_law_712 rfl (lv_at hl 1 rfl) ?_
  refine lv_aload_n hx hb dL_law_713 rfl (lv_at hl 0 rfl) ?_
  refine lv_iload hx hb dL_law_714 (lv_at hl 5 rfl) ?_
  refine lv_iconst (v := nI 1) hx hb dL_law_716 (by decide) ?_
  refine xn_iadd hx hb dL_law_717 ?_
  refine x_sld (k := i + 1) hx hb hX hbl hbA hw.2.2 (by omega) hL dL_law_718 ?_
  refine lv_aload_n hx hb dL_law_719 rfl (lv_at hl 3 rfl) ?_
  refine x_callH (As := [.ref (α 0), .int (xs (i + 1)), .ref (α 191)]) (rest := []) ⟨hx, hb, hml, hown, hts⟩ (h1 _) (vx_cwSW 3 hts gL_law_L_value rfl rfl rfl (by decide +kernel) ⟨Nat.le_of_ble_eq_true rfl, Nat.le_of_ble_eq_true rfl⟩) hK hw rfl hV rfl hl.1 rfl (Nat.le_of_ble_eq_true rfl) dL_law_720 hcs (fun S9 eS9 H locs hw => ?_)
  rw [eS9] at hw
  have hcc : cells + 1 ≤ room_1.cells ∧ slots + 6 ≤ room_1.slots := hcs
  refine lv_istore (lv' := [(6, .int k), (0, .ref b), (1, .ref (α 0)), (2, .ref (α 30)), (3, .ref (α 191)), (4, .ref (α 192)), (5, .int (nI i))]) hx hb dL_law_723 hl (by decide) rfl (fun ls hl => ?_)
  refine lv_aload_n hx hb dL_law_725 rfl (lv_at hl 3 rfl) ?_
  refine lv_aload_n hx hb dL_law_726 rfl (lv_at hl 1 rfl) ?_
  refine lv_iload hx hb dL_law_727 (lv_at hl 6 rfl) ?_
  refine lv_iconst (v := nI 1) hx hb dL_law_729 (by decide) ?_
  refine xn_iadd hx hb dL_law_730 ?_
  refine x_sld (k := i + 1) hx hb hX hbl hbA hw.2.2 (by omega) hL dL_law_731 ?_
  refine x_callVL (q := 30) (C := RX11) (As := [.int (xs (i + 1))]) (rest := []) ⟨hx, hb, hml, hown, hts⟩ (h2 _) (cwV 1 hts gL_law_X11_value rfl rfl rfl (by decide +kernel) ⟨Nat.le_of_ble_eq_true rfl, Nat.le_of_ble_eq_true rfl⟩) hK hw (fun _ h => h) (ws_recv hK hw (q := 30) (by decide) (mk_30 cA α) rfl) rfl hl.1 rfl (Nat.le_of_ble_eq_true rfl) dL_law_732 hcc (fun S9 eS9 H locs hw => ?_)
  rw [eS9] at hw
  refine lv_lstore (lv' := [(7, .long b9), (6, .int k), (0, .ref b), (1, .ref (α 0)), (2, .ref (α 30)), (3, .ref (α 191)), (4, .ref (α 192)), (5, .int (nI i))]) hx hb dL_law_735 hl (by decide) rfl (fun ls hl => ?_)
  refine lv_aload_n hx hb dL_law_737 rfl (lv_at hl 4 rfl) ?_
  refine x_callVI (q := 30) (C := RX11) (As := []) (rest := []) ⟨hx, hb, hml, hown, hts⟩ (ct_X11_thrown l D cA α 193 _ (by decide) S2) (cwV 0 hts gL_law_X11_thrown rfl rfl rfl (by decide +kernel) ⟨Nat.le_of_ble_eq_true rfl, Nat.le_of_ble_eq_true rfl⟩) hK hw (fun _ h => h) (ws_recv hK hw (q := 30) (by decide) (mk_30 cA α) rfl) rfl hl.1 rfl (Nat.le_of_ble_eq_true rfl) dL_law_738 hcc (fun S9 eS9 H locs hw => ?_)
  rw [eS9] at hw
  refine x_topE (y := k) h3 ?_
  refine lv_iload hx hb dL_law_741 (lv_at hl 1 rfl) ?_
  refine lv_icmp_eq (tgt := 748) hx hb dL_law_743 (by decide) (fun c1 => ?_) (fun c1 => absurd rfl c1)
  refine lv_iload hx hb dL_law_748 (lv_at hl 1 rfl) ?_
  refine lv_if_ne (tgt := 764) hx hb dL_law_750 (by decide) (fun c2 => ?_) (fun c2 => ?_)
  · skip
    refine lv_goto (tgt := 2471) hx hb dL_law_764 (by decide) ?_
    exact kk _ _ _ _ _ _ h5 hw (lv_sub hl [2, 3, 4, 5, 6, 7] rfl) (Nat.le_refl _) (Nat.le_refl _)
  · skip
    refine lv_aload_n hx hb dL_law_753 rfl (lv_at hl 5 rfl) ?_
    refine lv_iconst (v := nI 0) hx hb dL_law_754 (by decide) ?_
    refine x_lald hx hb hK hw 191 1 (by decide) (mk_191 cA α) 0 rfl (by decide) (by decide) dL_law_755 ?_
    refine lv_lload hx hb dL_law_756 (lv_at hl 0 rfl) ?_
    refine x_lcmp_eq (tgt := 764) hx hb dL_law_758 dL_law_759 (by decide) (fun c3 => ?_) (fun c3 => absurd (h4 (c2.trans nI_0.symm)) c3)
    refine lv_goto (tgt := 2471) hx hb dL_law_764 (by decide) ?_
    exact kk _ _ _ _ _ _ h5 hw (lv_sub hl [2, 3, 4, 5, 6, 7] rfl) (Nat.le_refl _) (Nat.le_refl _)

set_option maxRecDepth 100000 in
set_option maxHeartbeats 1000000 in
theorem lc_9 (C : LX p l s m meth c b L xs sa ka va D cA α) {S : Mem} {i cells slots : Nat} {H : Heap} {locs : List Loc} {ls : Array Slot} (hi : i + 6 ≤ L) (hR : Rel S) (hcs : cells + 1 ≤ 601024 ∧ slots + 6 ≤ 7293034) (hw : Ws D cA α 193 (Aw α 193 s.heap.size) s.heap S H locs) (hl : lv_has ls 10 [(0, .ref b), (1, .ref (α 0)), (2, .ref (α 30)), (3, .ref (α 191)), (4, .ref (α 192)), (5, .int (nI i))]) (kk : Kk p l e s m below meth c b D cA α i cells slots) : W p l e room_1 s m #[Value.ref b] below meth c H locs cells slots (lw_Z below #[Value.ref b] s) (F0 m 767 ls []) := by
  obtain ⟨⟨hx, hb, hr, hml, hown, hts, hX, hbl, hlocks, hgv⟩, hst, hK, hV, hbA, hL⟩ := C
  have hown : s.vm.findClass RL = some m.cls := hown
  obtain ⟨k, S1, b9, S2, h1, h2, h3, h4, h5⟩ := sp_currencyDifference (l := l) (sa := sa) (ka := ka) (va := va) (D := D) (cA := cA) (α := α) hst hR (xs (i + 1))
  refine lv_aload_n hx hb dL_law_767 rfl (lv_at hl 1 rfl) ?_
  refine lv_aload_n hx hb dL_law_768 rfl (lv_at hl 0 rfl) ?_
  refine lv_iload hx hb dL_law_769 (lv_at hl 5 rfl) ?_
  refine lv_iconst (v := nI 1) hx hb dL_law_771 (by decide) ?_
  refine xn_iadd hx hb dL_law_772 ?_
  refine x_sld (k := i + 1) hx hb hX hbl hbA hw.2.2 (by omega) hL dL_law_773 ?_
  refine lv_aload_n hx hb dL_law_774 rfl (lv_at hl 3 rfl) ?_
  refine x_callH (As := [.ref (α 0), .int (xs (i + 1)), .ref (α 191)]) (rest := []) ⟨hx, hb, hml, hown, hts⟩ (h1 _) (vx_cwSW 3 hts gL_law_L_currencyDifference rfl rfl rfl (by decide +kernel) ⟨Nat.le_of_ble_eq_true rfl, Nat.le_of_ble_eq_true rfl⟩) hK hw rfl hV rfl hl.1 rfl (Nat.le_of_ble_eq_true rfl) dL_law_775 hcs (fun S9 eS9 H locs hw => ?_)
  rw [eS9] at hw
  have hcc : cells + 1 ≤ room_1.cells ∧ slots + 6 ≤ room_1.slots := hcs
  refine lv_istore (lv' := [(6, .int k), (0, .ref b), (1, .ref (α 0)), (2, .ref (α 30)), (3, .ref (α 191)), (4, .ref (α 192)), (5, .int (nI i))]) hx hb dL_law_778 hl (by decide) rfl (fun ls hl => ?_)
  refine lv_aload_n hx hb dL_law_780 rfl (lv_at hl 3 rfl) ?_
  refine lv_aload_n hx hb dL_law_781 rfl (lv_at hl 1 rfl) ?_
  refine lv_iload hx hb dL_law_782 (lv_at hl 6 rfl) ?_
  refine lv_iconst (v := nI 1) hx hb dL_law_784 (by decide) ?_
  refine xn_iadd hx hb dL_law_785 ?_
  refine x_sld (k := i + 1) hx hb hX hbl hbA hw.2.2 (by omega) hL dL_law_786 ?_
  refine x_callVL (q := 30) (C := RX11) (As := [.int (xs (i + 1))]) (rest := []) ⟨hx, hb, hml, hown, hts⟩ (h2 _) (cwV 1 hts gL_law_X11_currencyDifference rfl rfl rfl (by decide +kernel) ⟨Nat.le_of_ble_eq_true rfl, Nat.le_of_ble_eq_true rfl⟩) hK hw (fun _ h => h) (ws_recv hK hw (q := 30) (by decide) (mk_30 cA α) rfl) rfl hl.1 rfl (Nat.le_of_ble_eq_true rfl) dL_law_787 hcc (fun S9 eS9 H locs hw => ?_)
  rw [eS9] at hw
  refine lv_lstore (lv' := [(7, .long b9), (6, .int k), (0, .ref b), (1, .ref (α 0)), (2, .ref (α 30)), (3, .ref (α 191)), (4, .ref (α 192)), (5, .int (nI i))]) hx hb dL_law_790 hl (by decide) rfl (fun ls hl => ?_)
  refine lv_aload_n hx hb dL_law_792 rfl (lv_at hl 4 rfl) ?_
  refine x_callVI (q := 30) (C := RX11) (As := []) (rest := []) ⟨hx, hb, hml, hown, hts⟩ (ct_X11_thrown l D cA α 193 _ (by decide) S2) (cwV 0 hts gL_law_X11_thrown rfl rfl rfl (by decide +kernel) ⟨Nat.le_of_ble_eq_true rfl, Nat.le_of_ble_eq_true rfl⟩) hK hw (fun _ h => h) (ws_recv hK hw (q := 30) (by decide) (mk_30 cA α) rfl) rfl hl.1 rfl (Nat.le_of_ble_eq_true rfl) dL_law_793 hcc (fun S9 eS9 H locs hw => ?_)
  rw [eS9] at hw
  refine x_topE (y := k) h3 ?_
  refine lv_iload hx hb dL_law_796 (lv_at hl 1 rfl) ?_
  refine lv_icmp_eq (tgt := 803) hx hb dL_law_798 (by decide) (fun c1 => ?_) (fun c1 => absurd rfl c1)
  refine lv_iload hx hb dL_law_803 (lv_at hl 1 rfl) ?_
  refine lv_if_ne (tgt := 819) hx hb dL_law_805 (by decide) (fun c2 => ?_) (fun c2 => ?_)
  · skip
    refine lv_goto (tgt := 2471) hx hb dL_law_819 (by decide) ?_
    exact kk _ _ _ _ _ _ h5 hw (lv_sub hl [2, 3, 4, 5, 6, 7] rfl) (Nat.le_refl _) (Nat.le_refl _)
  · skip
    refine lv_aload_n hx hb dL_law_808 rfl (lv_at hl 5 rfl) ?_
    refine lv_iconst (v := nI 0) hx hb dL_law_809 (by decide) ?_
    refine x_lald hx hb hK hw 191 1 (by decide) (mk_191 cA α) 0 rfl (by decide) (by decide) dL_law_810 ?_
    refine lv_lload hx hb dL_law_811 (lv_at hl 0 rfl) ?_
    refine x_lcmp_eq (tgt := 819) hx hb dL_law_813 dL_law_814 (by decide) (fun c3 => ?_) (fun c3 => absurd (h4 (c2.trans nI_0.symm)) c3)
    refine lv_goto (tgt := 2471) hx hb dL_law_819 (by decide) ?_
    exact kk _ _ _ _ _ _ h5 hw (lv_sub hl [2, 3, 4, 5, 6, 7] rfl) (Nat.le_refl _) (Nat.le_refl _)

set_option maxRecDepth 100000 in
set_option maxHeartbeats 1000000 in
theorem lc_10 (C : LX p l s m meth c b L xs sa ka va D cA α) {S : Mem} {i cells slots : Nat} {H : Heap} {locs : List Loc} {ls : Array Slot} (hi : i + 6 ≤ L) (hR : Rel S) (hcs : cells + 1 ≤ 601024 ∧ slots + 6 ≤ 7293034) (hw : Ws D cA α 193 (Aw α 193 s.heap.size) s.heap S H locs) (hl : lv_has ls 10 [(0, .ref b), (1, .ref (α 0)), (2, .ref (α 30)), (3, .ref (α 191)), (4, .ref (α 192)), (5, .int (nI i))]) (kk : Kk p l e s m below meth c b D cA α i cells slots) : W p l e room_1 s m #[Value.ref b] below meth c H locs cells slots (lw_Z below #[Value.ref b] s) (F0 m 822 ls []) := by
  obtain ⟨⟨hx, hb, hr, hml, hown, hts, hX, hbl, hlocks, hgv⟩, hst, hK, hV, hbA, hL⟩ := C
  have hown : s.vm.findClass RL = some m.cls := hown
  obtain ⟨k, S1, b9, S2, h1, h2, h3, h4, h5⟩ := sp_pairDifference (l := l) (sa := sa) (ka := ka) (va := va) (D := D) (cA := cA) (α := α) hst hR (xs (i + 1))
  refine lv_aload_n hx hb dL_law_822 rfl (lv_at hl 1 rfl) ?_
  refine lv_aload_n hx hb dL_law_823 rfl (lv_at hl 0 rfl) ?_
  refine lv_iload hx hb dL_law_824 (lv_at hl 5 rfl) ?_
  refine lv_iconst (v := nI 1) hx hb dL_law_826 (by decide) ?_
  refine xn_iadd hx hb dL_law_827 ?_
  refine x_sld (k := i + 1) hx hb hX hbl hbA hw.2.2 (by omega) hL dL_law_828 ?_
  refine lv_aload_n hx hb dL_law_829 rfl (lv_at hl 3 rfl) ?_
  refine x_callH (As := [.ref (α 0), .int (xs (i + 1)), .ref (α 191)]) (rest := []) ⟨hx, hb, hml, hown, hts⟩ (h1 _) (vx_cwSW 3 hts gL_law_L_pairDifference rfl rfl rfl (by decide +kernel) ⟨Nat.le_of_ble_eq_true rfl, Nat.le_of_ble_eq_true rfl⟩) hK hw rfl hV rfl hl.1 rfl (Nat.le_of_ble_eq_true rfl) dL_law_830 hcs (fun S9 eS9 H locs hw => ?_)
  rw [eS9] at hw
  have hcc : cells + 1 ≤ room_1.cells ∧ slots + 6 ≤ room_1.slots := hcs
  refine lv_istore (lv' := [(6, .int k), (0, .ref b), (1, .ref (α 0)), (2, .ref (α 30)), (3, .ref (α 191)), (4, .ref (α 192)), (5, .int (nI i))]) hx hb dL_law_833 hl (by decide) rfl (fun ls hl => ?_)
  refine lv_aload_n hx hb dL_law_835 rfl (lv_at hl 3 rfl) ?_
  refine lv_aload_n hx hb dL_law_836 rfl (lv_at hl 1 rfl) ?_
  refine lv_iload hx hb dL_law_837 (lv_at hl 6 rfl) ?_
  refine lv_iconst (v := nI 1) hx hb dL_law_839 (by decide) ?_
  refine xn_iadd hx hb dL_law_840 ?_
  refine x_sld (k := i + 1) hx hb hX hbl hbA hw.2.2 (by omega) hL dL_law_841 ?_
  refine x_callVL (q := 30) (C := RX11) (As := [.int (xs (i + 1))]) (rest := []) ⟨hx, hb, hml, hown, hts⟩ (h2 _) (cwV 1 hts gL_law_X11_pairDifference rfl rfl rfl (by decide +kernel) ⟨Nat.le_of_ble_eq_true rfl, Nat.le_of_ble_eq_true rfl⟩) hK hw (fun _ h => h) (ws_recv hK hw (q := 30) (by decide) (mk_30 cA α) rfl) rfl hl.1 rfl (Nat.le_of_ble_eq_true rfl) dL_law_842 hcc (fun S9 eS9 H locs hw => ?_)
  rw [eS9] at hw
  refine lv_lstore (lv' := [(7, .long b9), (6, .int k), (0, .ref b), (1, .ref (α 0)), (2, .ref (α 30)), (3, .ref (α 191)), (4, .ref (α 192)), (5, .int (nI i))]) hx hb dL_law_845 hl (by decide) rfl (fun ls hl => ?_)
  refine lv_aload_n hx hb dL_law_847 rfl (lv_at hl 4 rfl) ?_
  refine x_callVI (q := 30) (C := RX11) (As := []) (rest := []) ⟨hx, hb, hml, hown, hts⟩ (ct_X11_thrown l D cA α 193 _ (by decide) S2) (cwV 0 hts gL_law_X11_thrown rfl rfl rfl (by decide +kernel) ⟨Nat.le_of_ble_eq_true rfl, Nat.le_of_ble_eq_true rfl⟩) hK hw (fun _ h => h) (ws_recv hK hw (q := 30) (by decide) (mk_30 cA α) rfl) rfl hl.1 rfl (Nat.le_of_ble_eq_true rfl) dL_law_848 hcc (fun S9 eS9 H locs hw => ?_)
  rw [eS9] at hw
  refine x_topE (y := k) h3 ?_
  refine lv_iload hx hb dL_law_851 (lv_at hl 1 rfl) ?_
  refine lv_icmp_eq (tgt := 858) hx hb dL_law_853 (by decide) (fun c1 => ?_) (fun c1 => absurd rfl c1)
  refine lv_iload hx hb dL_law_858 (lv_at hl 1 rfl) ?_
  refine lv_if_ne (tgt := 874) hx hb dL_law_860 (by decide) (fun c2 => ?_) (fun c2 => ?_)
  · skip
    refine lv_goto (tgt := 2471) hx hb dL_law_874 (by decide) ?_
    exact kk _ _ _ _ _ _ h5 hw (lv_sub hl [2, 3, 4, 5, 6, 7] rfl) (Nat.le_refl _) (Nat.le_refl _)
  · skip
    refine lv_aload_n hx hb dL_law_863 rfl (lv_at hl 5 rfl) ?_
    refine lv_iconst (v := nI 0) hx hb dL_law_864 (by decide) ?_
    refine x_lald hx hb hK hw 191 1 (by decide) (mk_191 cA α) 0 rfl (by decide) (by decide) dL_law_865 ?_
    refine lv_lload hx hb dL_law_866 (lv_at hl 0 rfl) ?_
    refine x_lcmp_eq (tgt := 874) hx hb dL_law_868 dL_law_869 (by decide) (fun c3 => ?_) (fun c3 => absurd (h4 (c2.trans nI_0.symm)) c3)
    refine lv_goto (tgt := 2471) hx hb dL_law_874 (by decide) ?_
    exact kk _ _ _ _ _ _ h5 hw (lv_sub hl [2, 3, 4, 5, 6, 7] rfl) (Nat.le_refl _) (Nat.le_refl _)

set_option maxRecDepth 100000 in
set_option maxHeartbeats 1000000 in
theorem lc_11 (C : LX p l s m meth c b L xs sa ka va D cA α) {S : Mem} {i cells slots : Nat} {H : Heap} {locs : List Loc} {ls : Array Slot} (hi : i + 6 ≤ L) (hR : Rel S) (hcs : cells + 1 ≤ 601024 ∧ slots + 6 ≤ 7293034) (hw : Ws D cA α 193 (Aw α 193 s.heap.size) s.heap S H locs) (hl : lv_has ls 10 [(0, .ref b), (1, .ref (α 0)), (2, .ref (α 30)), (3, .ref (α 191)), (4, .ref (α 192)), (5, .int (nI i))]) (kk : Kk p l e s m below meth c b D cA α i cells slots) : W p l e room_1 s m #[Value.ref b] below meth c H locs cells slots (lw_Z below #[Value.ref b] s) (F0 m 877 ls []) := by
  obtain ⟨⟨hx, hb, hr, hml, hown, hts, hX, hbl, hlocks, hgv⟩, hst, hK, hV, hbA, hL⟩ := C
  have hown : s.vm.findClass RL = some m.cls := hown
  obtain ⟨k, S1, b9, S2, h1, h2, h3, h4, h5⟩ := sp_candidates (l := l) (sa := sa) (ka := ka) (va := va) (D := D) (cA := cA) (α := α) hst hR (xs (i + 1))
  refine lv_aload_n hx hb dL_law_877 rfl (lv_at hl 1 rfl) ?_
  refine lv_aload_n hx hb dL_law_878 rfl (lv_at hl 0 rfl) ?_
  refine lv_iload hx hb dL_law_879 (lv_at hl 5 rfl) ?_
  refine lv_iconst (v := nI 1) hx hb dL_law_881 (by decide) ?_
  refine xn_iadd hx hb dL_law_882 ?_
  refine x_sld (k := i + 1) hx hb hX hbl hbA hw.2.2 (by omega) hL dL_law_883 ?_
  refine lv_aload_n hx hb dL_law_884 rfl (lv_at hl 3 rfl) ?_
  refine x_callH (As := [.ref (α 0), .int (xs (i + 1)), .ref (α 191)]) (rest := []) ⟨hx, hb, hml, hown, hts⟩ (h1 _) (vx_cwSW 3 hts gL_law_L_candidates rfl rfl rfl (by decide +kernel) ⟨Nat.le_of_ble_eq_true rfl, Nat.le_of_ble_eq_true rfl⟩) hK hw rfl hV rfl hl.1 rfl (Nat.le_of_ble_eq_true rfl) dL_law_885 hcs (fun S9 eS9 H locs hw => ?_)
  rw [eS9] at hw
  have hcc : cells + 1 ≤ room_1.cells ∧ slots + 6 ≤ room_1.slots := hcs
  refine lv_istore (lv' := [(6, .int k), (0, .ref b), (1, .ref (α 0)), (2, .ref (α 30)), (3, .ref (α 191)), (4, .ref (α 192)), (5, .int (nI i))]) hx hb dL_law_888 hl (by decide) rfl (fun ls hl => ?_)
  refine lv_aload_n hx hb dL_law_890 rfl (lv_at hl 3 rfl) ?_
  refine lv_aload_n hx hb dL_law_891 rfl (lv_at hl 1 rfl) ?_
  refine lv_iload hx hb dL_law_892 (lv_at hl 6 rfl) ?_
  refine lv_iconst (v := nI 1) hx hb dL_law_894 (by decide) ?_
  refine xn_iadd hx hb dL_law_895 ?_
  refine x_sld (k := i + 1) hx hb hX hbl hbA hw.2.2 (by omega) hL dL_law_896 ?_
  refine x_callVI (q := 30) (C := RX11) (As := [.int (xs (i + 1))]) (rest := []) ⟨hx, hb, hml, hown, hts⟩ (h2 _) (cwV 1 hts gL_law_X11_candidates rfl rfl rfl (by decide +kernel) ⟨Nat.le_of_ble_eq_true rfl, Nat.le_of_ble_eq_true rfl⟩) hK hw (fun _ h => h) (ws_recv hK hw (q := 30) (by decide) (mk_30 cA α) rfl) rfl hl.1 rfl (Nat.le_of_ble_eq_true rfl) dL_law_897 hcc (fun S9 eS9 H locs hw => ?_)
  rw [eS9] at hw
  refine lv_istore (lv' := [(7, .int b9), (6, .int k), (0, .ref b), (1, .ref (α 0)), (2, .ref (α 30)), (3, .ref (α 191)), (4, .ref (α 192)), (5, .int (nI i))]) hx hb dL_law_900 hl (by decide) rfl (fun ls hl => ?_)
  refine lv_aload_n hx hb dL_law_902 rfl (lv_at hl 4 rfl) ?_
  refine x_callVI (q := 30) (C := RX11) (As := []) (rest := []) ⟨hx, hb, hml, hown, hts⟩ (ct_X11_thrown l D cA α 193 _ (by decide) S2) (cwV 0 hts gL_law_X11_thrown rfl rfl rfl (by decide +kernel) ⟨Nat.le_of_ble_eq_true rfl, Nat.le_of_ble_eq_true rfl⟩) hK hw (fun _ h => h) (ws_recv hK hw (q := 30) (by decide) (mk_30 cA α) rfl) rfl hl.1 rfl (Nat.le_of_ble_eq_true rfl) dL_law_903 hcc (fun S9 eS9 H locs hw => ?_)
  rw [eS9] at hw
  refine x_topE (y := k) h3 ?_
  refine lv_iload hx hb dL_law_906 (lv_at hl 1 rfl) ?_
  refine lv_icmp_eq (tgt := 913) hx hb dL_law_908 (by decide) (fun c1 => ?_) (fun c1 => absurd rfl c1)
  refine lv_iload hx hb dL_law_913 (lv_at hl 1 rfl) ?_
  refine lv_if_ne (tgt := 930) hx hb dL_law_915 (by decide) (fun c2 => ?_) (fun c2 => ?_)
  · skip
    refine lv_goto (tgt := 2471) hx hb dL_law_930 (by decide) ?_
    exact kk _ _ _ _ _ _ h5 hw (lv_sub hl [2, 3, 4, 5, 6, 7] rfl) (Nat.le_refl _) (Nat.le_refl _)
  · skip
    refine lv_aload_n hx hb dL_law_918 rfl (lv_at hl 5 rfl) ?_
    refine lv_iconst (v := nI 0) hx hb dL_law_919 (by decide) ?_
    refine x_lald hx hb hK hw 191 1 (by decide) (mk_191 cA α) 0 rfl (by decide) (by decide) dL_law_920 ?_
    refine lv_iload hx hb dL_law_921 (lv_at hl 0 rfl) ?_
    refine lv_i2l hx hb dL_law_923 rfl ?_
    refine x_lcmp_eq (tgt := 930) hx hb dL_law_924 dL_law_925 (by decide) (fun c3 => ?_) (fun c3 => absurd (h4 (c2.trans nI_0.symm)) c3)
    refine lv_goto (tgt := 2471) hx hb dL_law_930 (by decide) ?_
    exact kk _ _ _ _ _ _ h5 hw (lv_sub hl [2, 3, 4, 5, 6, 7] rfl) (Nat.le_refl _) (Nat.le_refl _)

set_option maxRecDepth 100000 in
set_option maxHeartbeats 1000000 in
theorem lc_12 (C : LX p l s m meth c b L xs sa ka va D cA α) {S : Mem} {i cells slots : Nat} {H : Heap} {locs : List Loc} {ls : Array Slot} (hi : i + 6 ≤ L) (hR : Rel S) (hcs : cells + 1 ≤ 601024 ∧ slots + 6 ≤ 7293034) (hw : Ws D cA α 193 (Aw α 193 s.heap.size) s.heap S H locs) (hl : lv_has ls 10 [(0, .ref b), (1, .ref (α 0)), (2, .ref (α 30)), (3, .ref (α 191)), (4, .ref (α 192)), (5, .int (nI i))]) (kk : Kk p l e s m below meth c b D cA α i cells slots) : W p l e room_1 s m #[Value.ref b] below meth c H locs cells slots (lw_Z below #[Value.ref b] s) (F0 m 933 ls []) := by
  obtain ⟨⟨hx, hb, hr, hml, hown, hts, hX, hbl, hlocks, hgv⟩, hst, hK, hV, hbA, hL⟩ := C
  have hown : s.vm.findClass RL = some m.cls := hown
  obtain ⟨k, S1, b9, S2, h1, h2, h3, h4, h5⟩ := sp_wouldPair (l := l) (sa := sa) (ka := ka) (va := va) (D := D) (cA := cA) (α := α) hst hR (xs (i + 1))
  refine lv_aload_n hx hb dL_law_933 rfl (lv_at hl 1 rfl) ?_
  refine lv_aload_n hx hb dL_law_934 rfl (lv_at hl 0 rfl) ?_
  refine lv_iload hx hb dL_law_935 (lv_at hl 5 rfl) ?_
  refine lv_iconst (v := nI 1) hx hb dL_law_937 (by decide) ?_
  refine xn_iadd hx hb dL_law_938 ?_
  refine x_sld (k := i + 1) hx hb hX hbl hbA hw.2.2 (by omega) hL dL_law_939 ?_
  refine lv_aload_n hx hb dL_law_940 rfl (lv_at hl 3 rfl) ?_
  refine x_callH (As := [.ref (α 0), .int (xs (i + 1)), .ref (α 191)]) (rest := []) ⟨hx, hb, hml, hown, hts⟩ (h1 _) (vx_cwSW 3 hts gL_law_L_wouldPair rfl rfl rfl (by decide +kernel) ⟨Nat.le_of_ble_eq_true rfl, Nat.le_of_ble_eq_true rfl⟩) hK hw rfl hV rfl hl.1 rfl (Nat.le_of_ble_eq_true rfl) dL_law_941 hcs (fun S9 eS9 H locs hw => ?_)
  rw [eS9] at hw
  have hcc : cells + 1 ≤ room_1.cells ∧ slots + 6 ≤ room_1.slots := hcs
  refine lv_istore (lv' := [(6, .int k), (0, .ref b), (1, .ref (α 0)), (2, .ref (α 30)), (3, .ref (α 191)), (4, .ref (α 192)), (5, .int (nI i))]) hx hb dL_law_944 hl (by decide) rfl (fun ls hl => ?_)
  refine lv_aload_n hx hb dL_law_946 rfl (lv_at hl 3 rfl) ?_
  refine lv_aload_n hx hb dL_law_947 rfl (lv_at hl 1 rfl) ?_
  refine lv_iload hx hb dL_law_948 (lv_at hl 6 rfl) ?_
  refine lv_iconst (v := nI 1) hx hb dL_law_950 (by decide) ?_
  refine xn_iadd hx hb dL_law_951 ?_
  refine x_sld (k := i + 1) hx hb hX hbl hbA hw.2.2 (by omega) hL dL_law_952 ?_
  refine x_callVI (q := 30) (C := RX11) (As := [.int (xs (i + 1))]) (rest := []) ⟨hx, hb, hml, hown, hts⟩ (h2 _) (cwV 1 hts gL_law_X11_wouldPair rfl rfl rfl (by decide +kernel) ⟨Nat.le_of_ble_eq_true rfl, Nat.le_of_ble_eq_true rfl⟩) hK hw (fun _ h => h) (ws_recv hK hw (q := 30) (by decide) (mk_30 cA α) rfl) rfl hl.1 rfl (Nat.le_of_ble_eq_true rfl) dL_law_953 hcc (fun S9 eS9 H locs hw => ?_)
  rw [eS9] at hw
  refine lv_istore (lv' := [(7, .int b9), (6, .int k), (0, .ref b), (1, .ref (α 0)), (2, .ref (α 30)), (3, .ref (α 191)), (4, .ref (α 192)), (5, .int (nI i))]) hx hb dL_law_956 hl (by decide) rfl (fun ls hl => ?_)
  refine lv_aload_n hx hb dL_law_958 rfl (lv_at hl 4 rfl) ?_
  refine x_callVI (q := 30) (C := RX11) (As := []) (rest := []) ⟨hx, hb, hml, hown, hts⟩ (ct_X11_thrown l D cA α 193 _ (by decide) S2) (cwV 0 hts gL_law_X11_thrown rfl rfl rfl (by decide +kernel) ⟨Nat.le_of_ble_eq_true rfl, Nat.le_of_ble_eq_true rfl⟩) hK hw (fun _ h => h) (ws_recv hK hw (q := 30) (by decide) (mk_30 cA α) rfl) rfl hl.1 rfl (Nat.le_of_ble_eq_true rfl) dL_law_959 hcc (fun S9 eS9 H locs hw => ?_)
  rw [eS9] at hw
  refine x_topE (y := k) h3 ?_
  refine lv_iload hx hb dL_law_962 (lv_at hl 1 rfl) ?_
  refine lv_icmp_eq (tgt := 969) hx hb dL_law_964 (by decide) (fun c1 => ?_) (fun c1 => absurd rfl c1)
  refine lv_iload hx hb dL_law_969 (lv_at hl 1 rfl) ?_
  refine lv_if_ne (tgt := 986) hx hb dL_law_971 (by decide) (fun c2 => ?_) (fun c2 => ?_)
  · skip
    refine lv_goto (tgt := 2471) hx hb dL_law_986 (by decide) ?_
    exact kk _ _ _ _ _ _ h5 hw (lv_sub hl [2, 3, 4, 5, 6, 7] rfl) (Nat.le_refl _) (Nat.le_refl _)
  · skip
    refine lv_aload_n hx hb dL_law_974 rfl (lv_at hl 5 rfl) ?_
    refine lv_iconst (v := nI 0) hx hb dL_law_975 (by decide) ?_
    refine x_lald hx hb hK hw 191 1 (by decide) (mk_191 cA α) 0 rfl (by decide) (by decide) dL_law_976 ?_
    refine lv_iload hx hb dL_law_977 (lv_at hl 0 rfl) ?_
    refine lv_i2l hx hb dL_law_979 rfl ?_
    refine x_lcmp_eq (tgt := 986) hx hb dL_law_980 dL_law_981 (by decide) (fun c3 => ?_) (fun c3 => absurd (h4 (c2.trans nI_0.symm)) c3)
    refine lv_goto (tgt := 2471) hx hb dL_law_986 (by decide) ?_
    exact kk _ _ _ _ _ _ h5 hw (lv_sub hl [2, 3, 4, 5, 6, 7] rfl) (Nat.le_refl _) (Nat.le_refl _)

set_option maxRecDepth 100000 in
set_option maxHeartbeats 1000000 in
theorem lc_13 (C : LX p l s m meth c b L xs sa ka va D cA α) {S : Mem} {i cells slots : Nat} {H : Heap} {locs : List Loc} {ls : Array Slot} (hi : i + 6 ≤ L) (hR : Rel S) (hcs : cells + 1 ≤ 601024 ∧ slots + 6 ≤ 7293034) (hw : Ws D cA α 193 (Aw α 193 s.heap.size) s.heap S H locs) (hl : lv_has ls 10 [(0, .ref b), (1, .ref (α 0)), (2, .ref (α 30)), (3, .ref (α 191)), (4, .ref (α 192)), (5, .int (nI i))]) (kk : Kk p l e s m below meth c b D cA α i cells slots) : W p l e room_1 s m #[Value.ref b] below meth c H locs cells slots (lw_Z below #[Value.ref b] s) (F0 m 989 ls []) := by
  obtain ⟨⟨hx, hb, hr, hml, hown, hts, hX, hbl, hlocks, hgv⟩, hst, hK, hV, hbA, hL⟩ := C
  have hown : s.vm.findClass RL = some m.cls := hown
  obtain ⟨b9, S1, S2, h1, h2, h5⟩ := dp_toleranceNeeded (l := l) (D := D) (cA := cA) (α := α) hR 
  have hcc : cells ≤ room_1.cells ∧ slots ≤ room_1.slots := ⟨Nat.le_trans (Nat.le_succ _) hcs.1, Nat.le_trans (Nat.le_add_right _ 6) hcs.2⟩
  refine lv_aload_n hx hb dL_law_989 rfl (lv_at hl 1 rfl) ?_
  refine x_callVL (q := 0) (C := RX10) (As := []) (rest := []) ⟨hx, hb, hml, hown, hts⟩ (h1 _) (cwV 0 hts gL_law_X10_toleranceNeeded rfl rfl rfl (by decide +kernel) ⟨Nat.le_of_ble_eq_true rfl, Nat.le_of_ble_eq_true rfl⟩) hK hw (fun _ h => h) (ws_recv hK hw (q := 0) (by decide) (mk_0 cA α) rfl) rfl hl.1 rfl (Nat.le_of_ble_eq_true rfl) dL_law_990 hcc (fun S9 eS9 H locs hw => ?_)
  rw [eS9] at hw
  refine lv_aload_n hx hb dL_law_993 rfl (lv_at hl 2 rfl) ?_
  refine x_callVL (q := 30) (C := RX11) (As := []) (rest := [.long b9]) ⟨hx, hb, hml, hown, hts⟩ (h2 _) (cwV 0 hts gL_law_X11_toleranceNeeded rfl rfl rfl (by decide +kernel) ⟨Nat.le_of_ble_eq_true rfl, Nat.le_of_ble_eq_true rfl⟩) hK hw (fun _ h => h) (ws_recv hK hw (q := 30) (by decide) (mk_30 cA α) rfl) rfl hl.1 rfl (Nat.le_of_ble_eq_true rfl) dL_law_994 hcc (fun S9 eS9 H locs hw => ?_)
  rw [eS9] at hw
  refine x_lcmp_eq (tgt := 2471) hx hb dL_law_997 dL_law_998 (by decide) (fun c1 => ?_) (fun c1 => absurd rfl c1)
  exact kk _ _ _ _ _ _ h5 hw (lv_sub hl [0, 1, 2, 3, 4, 5] rfl) (Nat.le_succ _) (Nat.le_add_right _ 6)

set_option maxRecDepth 100000 in
set_option maxHeartbeats 1000000 in
theorem lc_14 (C : LX p l s m meth c b L xs sa ka va D cA α) {S : Mem} {i cells slots : Nat} {H : Heap} {locs : List Loc} {ls : Array Slot} (hi : i + 6 ≤ L) (hR : Rel S) (hcs : cells + 1 ≤ 601024 ∧ slots + 6 ≤ 7293034) (hw : Ws D cA α 193 (Aw α 193 s.heap.size) s.heap S H locs) (hl : lv_has ls 10 [(0, .ref b), (1, .ref (α 0)), (2, .ref (α 30)), (3, .ref (α 191)), (4, .ref (α 192)), (5, .int (nI i))]) (kk : Kk p l e s m below meth c b D cA α i cells slots) : W p l e room_1 s m #[Value.ref b] below meth c H locs cells slots (lw_Z below #[Value.ref b] s) (F0 m 1003 ls []) := by
  obtain ⟨⟨hx, hb, hr, hml, hown, hts, hX, hbl, hlocks, hgv⟩, hst, hK, hV, hbA, hL⟩ := C
  have hown : s.vm.findClass RL = some m.cls := hown
  obtain ⟨b9, S1, S2, h1, h2, hfn, h5⟩ := dp_matchRate (l := l) (D := D) (cA := cA) (α := α) hR 
  have hcc : cells ≤ room_1.cells ∧ slots ≤ room_1.slots := ⟨Nat.le_trans (Nat.le_succ _) hcs.1, Nat.le_trans (Nat.le_add_right _ 6) hcs.2⟩
  refine lv_aload_n hx hb dL_law_1003 rfl (lv_at hl 1 rfl) ?_
  refine x_callVF (q := 0) (C := RX10) (As := []) (rest := []) ⟨hx, hb, hml, hown, hts⟩ (h1 _) (cwV 0 hts gL_law_X10_matchRate rfl rfl rfl (by decide +kernel) ⟨Nat.le_of_ble_eq_true rfl, Nat.le_of_ble_eq_true rfl⟩) hK hw (fun _ h => h) (ws_recv hK hw (q := 0) (by decide) (mk_0 cA α) rfl) rfl hl.1 rfl (Nat.le_of_ble_eq_true rfl) dL_law_1004 hcc (fun S9 eS9 H locs hw => ?_)
  rw [eS9] at hw
  refine lv_f2d hx hb dL_law_1007 (fl_n64 (fl_f2d hfn)) ?_
  refine lv_dstore (lv' := [(6, .double (FP.f2d b9)), (0, .ref b), (1, .ref (α 0)), (2, .ref (α 30)), (3, .ref (α 191)), (4, .ref (α 192)), (5, .int (nI i))]) hx hb dL_law_1008 hl (by decide) rfl (fun ls hl => ?_)
  refine lv_aload_n hx hb dL_law_1010 rfl (lv_at hl 3 rfl) ?_
  refine x_callVF (q := 30) (C := RX11) (As := []) (rest := []) ⟨hx, hb, hml, hown, hts⟩ (h2 _) (cwV 0 hts gL_law_X11_matchRate rfl rfl rfl (by decide +kernel) ⟨Nat.le_of_ble_eq_true rfl, Nat.le_of_ble_eq_true rfl⟩) hK hw (fun _ h => h) (ws_recv hK hw (q := 30) (by decide) (mk_30 cA α) rfl) rfl hl.1 rfl (Nat.le_of_ble_eq_true rfl) dL_law_1011 hcc (fun S9 eS9 H locs hw => ?_)
  rw [eS9] at hw
  refine lv_f2d hx hb dL_law_1014 (fl_n64 (fl_f2d hfn)) ?_
  refine lv_dstore (lv' := [(8, .double (FP.f2d b9)), (6, .double (FP.f2d b9)), (0, .ref b), (1, .ref (α 0)), (2, .ref (α 30)), (3, .ref (α 191)), (4, .ref (α 192)), (5, .int (nI i))]) hx hb dL_law_1015 hl (by decide) rfl (fun ls hl => ?_)
  refine lv_dload hx hb dL_law_1017 (lv_at hl 1 rfl) ?_
  refine lv_dload hx hb dL_law_1019 (lv_at hl 0 rfl) ?_
  refine lv_dcmp hx hb dL_law_1021 ?_
  refine x_topE (y := 0) (fl_self (fl_f2d hfn) _) ?_
  refine lv_if_eq (tgt := 1043) hx hb dL_law_1022 (by decide) (fun c3 => ?_) (fun c3 => absurd rfl c3)
  refine lv_goto (tgt := 2471) hx hb dL_law_1043 (by decide) ?_
  exact kk _ _ _ _ _ _ h5 hw (lv_sub hl [2, 3, 4, 5, 6, 7] rfl) (Nat.le_succ _) (Nat.le_add_right _ 6)

set_option maxRecDepth 100000 in
set_option maxHeartbeats 1000000 in
theorem lc_15 (C : LX p l s m meth c b L xs sa ka va D cA α) {S : Mem} {i cells slots : Nat} {H : Heap} {locs : List Loc} {ls : Array Slot} (hi : i + 6 ≤ L) (hR : Rel S) (hcs : cells + 1 ≤ 601024 ∧ slots + 6 ≤ 7293034) (hw : Ws D cA α 193 (Aw α 193 s.heap.size) s.heap S H locs) (hl : lv_has ls 10 [(0, .ref b), (1, .ref (α 0)), (2, .ref (α 30)), (3, .ref (α 191)), (4, .ref (α 192)), (5, .int (nI i))]) (kk : Kk p l e s m below meth c b D cA α i cells slots) : W p l e room_1 s m #[Value.ref b] below meth c H locs cells slots (lw_Z below #[Value.ref b] s) (F0 m 1046 ls []) := by
  obtain ⟨⟨hx, hb, hr, hml, hown, hts, hX, hbl, hlocks, hgv⟩, hst, hK, hV, hbA, hL⟩ := C
  have hown : s.vm.findClass RL = some m.cls := hown
  obtain ⟨k, S1, b9, S2, h1, h2, h3, h4, h5⟩ := sp_balance (l := l) (sa := sa) (ka := ka) (va := va) (D := D) (cA := cA) (α := α) hst hR (xs (i + 1)) (xs (i + 2))
  refine lv_aload_n hx hb dL_law_1046 rfl (lv_at hl 1 rfl) ?_
  refine lv_aload_n hx hb dL_law_1047 rfl (lv_at hl 0 rfl) ?_
  refine lv_iload hx hb dL_law_1048 (lv_at hl 5 rfl) ?_
  refine lv_iconst (v := nI 1) hx hb dL_law_1050 (by decide) ?_
  refine xn_iadd hx hb dL_law_1051 ?_
  refine x_sld (k := i + 1) hx hb hX hbl hbA hw.2.2 (by omega) hL dL_law_1052 ?_
  refine lv_aload_n hx hb dL_law_1053 rfl (lv_at hl 0 rfl) ?_
  refine lv_iload hx hb dL_law_1054 (lv_at hl 5 rfl) ?_
  refine lv_iconst (v := nI 2) hx hb dL_law_1056 (by decide) ?_
  refine xn_iadd hx hb dL_law_1057 ?_
  refine x_sld (k := i + 2) hx hb hX hbl hbA hw.2.2 (by omega) hL dL_law_1058 ?_
  refine lv_aload_n hx hb dL_law_1059 rfl (lv_at hl 3 rfl) ?_
  refine x_callH (As := [.ref (α 0), .int (xs (i + 1)), .int (xs (i + 2)), .ref (α 191)]) (rest := []) ⟨hx, hb, hml, hown, hts⟩ (h1 _) (vx_cwSW 4 hts gL_law_L_balance rfl rfl rfl (by decide +kernel) ⟨Nat.le_of_ble_eq_true rfl, Nat.le_of_ble_eq_true rfl⟩) hK hw rfl hV rfl hl.1 rfl (Nat.le_of_ble_eq_true rfl) dL_law_1060 hcs (fun S9 eS9 H locs hw => ?_)
  rw [eS9] at hw
  have hcc : cells + 1 ≤ room_1.cells ∧ slots + 6 ≤ room_1.slots := hcs
  refine lv_istore (lv' := [(6, .int k), (0, .ref b), (1, .ref (α 0)), (2, .ref (α 30)), (3, .ref (α 191)), (4, .ref (α 192)), (5, .int (nI i))]) hx hb dL_law_1063 hl (by decide) rfl (fun ls hl => ?_)
  refine lv_aload_n hx hb dL_law_1065 rfl (lv_at hl 3 rfl) ?_
  refine lv_aload_n hx hb dL_law_1066 rfl (lv_at hl 1 rfl) ?_
  refine lv_iload hx hb dL_law_1067 (lv_at hl 6 rfl) ?_
  refine lv_iconst (v := nI 1) hx hb dL_law_1069 (by decide) ?_
  refine xn_iadd hx hb dL_law_1070 ?_
  refine x_sld (k := i + 1) hx hb hX hbl hbA hw.2.2 (by omega) hL dL_law_1071 ?_
  refine lv_aload_n hx hb dL_law_1072 rfl (lv_at hl 1 rfl) ?_
  refine lv_iload hx hb dL_law_1073 (lv_at hl 6 rfl) ?_
  refine lv_iconst (v := nI 2) hx hb dL_law_1075 (by decide) ?_
  refine xn_iadd hx hb dL_law_1076 ?_
  refine x_sld (k := i + 2) hx hb hX hbl hbA hw.2.2 (by omega) hL dL_law_1077 ?_
  refine x_callVL (q := 30) (C := RX11) (As := [.int (xs (i + 1)), .int (xs (i + 2))]) (rest := []) ⟨hx, hb, hml, hown, hts⟩ (h2 _) (cwV 2 hts gL_law_X11_balance rfl rfl rfl (by decide +kernel) ⟨Nat.le_of_ble_eq_true rfl, Nat.le_of_ble_eq_true rfl⟩) hK hw (fun _ h => h) (ws_recv hK hw (q := 30) (by decide) (mk_30 cA α) rfl) rfl hl.1 rfl (Nat.le_of_ble_eq_true rfl) dL_law_1078 hcc (fun S9 eS9 H locs hw => ?_)
  rw [eS9] at hw
  refine lv_lstore (lv' := [(7, .long b9), (6, .int k), (0, .ref b), (1, .ref (α 0)), (2, .ref (α 30)), (3, .ref (α 191)), (4, .ref (α 192)), (5, .int (nI i))]) hx hb dL_law_1081 hl (by decide) rfl (fun ls hl => ?_)
  refine lv_aload_n hx hb dL_law_1083 rfl (lv_at hl 4 rfl) ?_
  refine x_callVI (q := 30) (C := RX11) (As := []) (rest := []) ⟨hx, hb, hml, hown, hts⟩ (ct_X11_thrown l D cA α 193 _ (by decide) S2) (cwV 0 hts gL_law_X11_thrown rfl rfl rfl (by decide +kernel) ⟨Nat.le_of_ble_eq_true rfl, Nat.le_of_ble_eq_true rfl⟩) hK hw (fun _ h => h) (ws_recv hK hw (q := 30) (by decide) (mk_30 cA α) rfl) rfl hl.1 rfl (Nat.le_of_ble_eq_true rfl) dL_law_1084 hcc (fun S9 eS9 H locs hw => ?_)
  rw [eS9] at hw
  refine x_topE (y := k) h3 ?_
  refine lv_iload hx hb dL_law_1087 (lv_at hl 1 rfl) ?_
  refine lv_icmp_eq (tgt := 1094) hx hb dL_law_1089 (by decide) (fun c1 => ?_) (fun c1 => absurd rfl c1)
  refine lv_iload hx hb dL_law_1094 (lv_at hl 1 rfl) ?_
  refine lv_if_ne (tgt := 1110) hx hb dL_law_1096 (by decide) (fun c2 => ?_) (fun c2 => ?_)
  · skip
    refine lv_goto (tgt := 2471) hx hb dL_law_1110 (by decide) ?_
    exact kk _ _ _ _ _ _ h5 hw (lv_sub hl [2, 3, 4, 5, 6, 7] rfl) (Nat.le_refl _) (Nat.le_refl _)
  · skip
    refine lv_aload_n hx hb dL_law_1099 rfl (lv_at hl 5 rfl) ?_
    refine lv_iconst (v := nI 0) hx hb dL_law_1100 (by decide) ?_
    refine x_lald hx hb hK hw 191 1 (by decide) (mk_191 cA α) 0 rfl (by decide) (by decide) dL_law_1101 ?_
    refine lv_lload hx hb dL_law_1102 (lv_at hl 0 rfl) ?_
    refine x_lcmp_eq (tgt := 1110) hx hb dL_law_1104 dL_law_1105 (by decide) (fun c3 => ?_) (fun c3 => absurd (h4 (c2.trans nI_0.symm)) c3)
    refine lv_goto (tgt := 2471) hx hb dL_law_1110 (by decide) ?_
    exact kk _ _ _ _ _ _ h5 hw (lv_sub hl [2, 3, 4, 5, 6, 7] rfl) (Nat.le_refl _) (Nat.le_refl _)

set_option maxRecDepth 100000 in
set_option maxHeartbeats 1000000 in
theorem lc_16 (C : LX p l s m meth c b L xs sa ka va D cA α) {S : Mem} {i cells slots : Nat} {H : Heap} {locs : List Loc} {ls : Array Slot} (hi : i + 6 ≤ L) (hR : Rel S) (hcs : cells + 1 ≤ 601024 ∧ slots + 6 ≤ 7293034) (hw : Ws D cA α 193 (Aw α 193 s.heap.size) s.heap S H locs) (hl : lv_has ls 10 [(0, .ref b), (1, .ref (α 0)), (2, .ref (α 30)), (3, .ref (α 191)), (4, .ref (α 192)), (5, .int (nI i))]) (kk : Kk p l e s m below meth c b D cA α i cells slots) : W p l e room_1 s m #[Value.ref b] below meth c H locs cells slots (lw_Z below #[Value.ref b] s) (F0 m 1113 ls []) := by
  obtain ⟨⟨hx, hb, hr, hml, hown, hts, hX, hbl, hlocks, hgv⟩, hst, hK, hV, hbA, hL⟩ := C
  have hown : s.vm.findClass RL = some m.cls := hown
  obtain ⟨k, S1, b9, S2, h1, h2, h3, h4, h5⟩ := sp_total (l := l) (sa := sa) (ka := ka) (va := va) (D := D) (cA := cA) (α := α) hst hR (xs (i + 1))
  refine lv_aload_n hx hb dL_law_1113 rfl (lv_at hl 1 rfl) ?_
  refine lv_aload_n hx hb dL_law_1114 rfl (lv_at hl 0 rfl) ?_
  refine lv_iload hx hb dL_law_1115 (lv_at hl 5 rfl) ?_
  refine lv_iconst (v := nI 1) hx hb dL_law_1117 (by decide) ?_
  refine xn_iadd hx hb dL_law_1118 ?_
  refine x_sld (k := i + 1) hx hb hX hbl hbA hw.2.2 (by omega) hL dL_law_1119 ?_
  refine lv_aload_n hx hb dL_law_1120 rfl (lv_at hl 3 rfl) ?_
  refine x_callH (As := [.ref (α 0), .int (xs (i + 1)), .ref (α 191)]) (rest := []) ⟨hx, hb, hml, hown, hts⟩ (h1 _) (vx_cwSW 3 hts gL_law_L_total rfl rfl rfl (by decide +kernel) ⟨Nat.le_of_ble_eq_true rfl, Nat.le_of_ble_eq_true rfl⟩) hK hw rfl hV rfl hl.1 rfl (Nat.le_of_ble_eq_true rfl) dL_law_1121 hcs (fun S9 eS9 H locs hw => ?_)
  rw [eS9] at hw
  have hcc : cells + 1 ≤ room_1.cells ∧ slots + 6 ≤ room_1.slots := hcs
  refine lv_istore (lv' := [(6, .int k), (0, .ref b), (1, .ref (α 0)), (2, .ref (α 30)), (3, .ref (α 191)), (4, .ref (α 192)), (5, .int (nI i))]) hx hb dL_law_1124 hl (by decide) rfl (fun ls hl => ?_)
  refine lv_aload_n hx hb dL_law_1126 rfl (lv_at hl 3 rfl) ?_
  refine lv_aload_n hx hb dL_law_1127 rfl (lv_at hl 1 rfl) ?_
  refine lv_iload hx hb dL_law_1128 (lv_at hl 6 rfl) ?_
  refine lv_iconst (v := nI 1) hx hb dL_law_1130 (by decide) ?_
  refine xn_iadd hx hb dL_law_1131 ?_
  refine x_sld (k := i + 1) hx hb hX hbl hbA hw.2.2 (by omega) hL dL_law_1132 ?_
  refine x_callVL (q := 30) (C := RX11) (As := [.int (xs (i + 1))]) (rest := []) ⟨hx, hb, hml, hown, hts⟩ (h2 _) (cwV 1 hts gL_law_X11_total rfl rfl rfl (by decide +kernel) ⟨Nat.le_of_ble_eq_true rfl, Nat.le_of_ble_eq_true rfl⟩) hK hw (fun _ h => h) (ws_recv hK hw (q := 30) (by decide) (mk_30 cA α) rfl) rfl hl.1 rfl (Nat.le_of_ble_eq_true rfl) dL_law_1133 hcc (fun S9 eS9 H locs hw => ?_)
  rw [eS9] at hw
  refine lv_lstore (lv' := [(7, .long b9), (6, .int k), (0, .ref b), (1, .ref (α 0)), (2, .ref (α 30)), (3, .ref (α 191)), (4, .ref (α 192)), (5, .int (nI i))]) hx hb dL_law_1136 hl (by decide) rfl (fun ls hl => ?_)
  refine lv_aload_n hx hb dL_law_1138 rfl (lv_at hl 4 rfl) ?_
  refine x_callVI (q := 30) (C := RX11) (As := []) (rest := []) ⟨hx, hb, hml, hown, hts⟩ (ct_X11_thrown l D cA α 193 _ (by decide) S2) (cwV 0 hts gL_law_X11_thrown rfl rfl rfl (by decide +kernel) ⟨Nat.le_of_ble_eq_true rfl, Nat.le_of_ble_eq_true rfl⟩) hK hw (fun _ h => h) (ws_recv hK hw (q := 30) (by decide) (mk_30 cA α) rfl) rfl hl.1 rfl (Nat.le_of_ble_eq_true rfl) dL_law_1139 hcc (fun S9 eS9 H locs hw => ?_)
  rw [eS9] at hw
  refine x_topE (y := k) h3 ?_
  refine lv_iload hx hb dL_law_1142 (lv_at hl 1 rfl) ?_
  refine lv_icmp_eq (tgt := 1149) hx hb dL_law_1144 (by decide) (fun c1 => ?_) (fun c1 => absurd rfl c1)
  refine lv_iload hx hb dL_law_1149 (lv_at hl 1 rfl) ?_
  refine lv_if_ne (tgt := 1165) hx hb dL_law_1151 (by decide) (fun c2 => ?_) (fun c2 => ?_)
  · skip
    refine lv_goto (tgt := 2471) hx hb dL_law_1165 (by decide) ?_
    exact kk _ _ _ _ _ _ h5 hw (lv_sub hl [2, 3, 4, 5, 6, 7] rfl) (Nat.le_refl _) (Nat.le_refl _)
  · skip
    refine lv_aload_n hx hb dL_law_1154 rfl (lv_at hl 5 rfl) ?_
    refine lv_iconst (v := nI 0) hx hb dL_law_1155 (by decide) ?_
    refine x_lald hx hb hK hw 191 1 (by decide) (mk_191 cA α) 0 rfl (by decide) (by decide) dL_law_1156 ?_
    refine lv_lload hx hb dL_law_1157 (lv_at hl 0 rfl) ?_
    refine x_lcmp_eq (tgt := 1165) hx hb dL_law_1159 dL_law_1160 (by decide) (fun c3 => ?_) (fun c3 => absurd (h4 (c2.trans nI_0.symm)) c3)
    refine lv_goto (tgt := 2471) hx hb dL_law_1165 (by decide) ?_
    exact kk _ _ _ _ _ _ h5 hw (lv_sub hl [2, 3, 4, 5, 6, 7] rfl) (Nat.le_refl _) (Nat.le_refl _)

set_option maxRecDepth 100000 in
set_option maxHeartbeats 1000000 in
theorem lc_17 (C : LX p l s m meth c b L xs sa ka va D cA α) {S : Mem} {i cells slots : Nat} {H : Heap} {locs : List Loc} {ls : Array Slot} (hi : i + 6 ≤ L) (hR : Rel S) (hcs : cells + 1 ≤ 601024 ∧ slots + 6 ≤ 7293034) (hw : Ws D cA α 193 (Aw α 193 s.heap.size) s.heap S H locs) (hl : lv_has ls 10 [(0, .ref b), (1, .ref (α 0)), (2, .ref (α 30)), (3, .ref (α 191)), (4, .ref (α 192)), (5, .int (nI i))]) (kk : Kk p l e s m below meth c b D cA α i cells slots) : W p l e room_1 s m #[Value.ref b] below meth c H locs cells slots (lw_Z below #[Value.ref b] s) (F0 m 1168 ls []) := by
  obtain ⟨⟨hx, hb, hr, hml, hown, hts, hX, hbl, hlocks, hgv⟩, hst, hK, hV, hbA, hL⟩ := C
  have hown : s.vm.findClass RL = some m.cls := hown
  obtain ⟨k, S1, b9, S2, h1, h2, h3, h4, h5⟩ := sp_position (l := l) (sa := sa) (ka := ka) (va := va) (D := D) (cA := cA) (α := α) hst hR (xs (i + 1))
  refine lv_aload_n hx hb dL_law_1168 rfl (lv_at hl 1 rfl) ?_
  refine lv_aload_n hx hb dL_law_1169 rfl (lv_at hl 0 rfl) ?_
  refine lv_iload hx hb dL_law_1170 (lv_at hl 5 rfl) ?_
  refine lv_iconst (v := nI 1) hx hb dL_law_1172 (by decide) ?_
  refine xn_iadd hx hb dL_law_1173 ?_
  refine x_sld (k := i + 1) hx hb hX hbl hbA hw.2.2 (by omega) hL dL_law_1174 ?_
  refine lv_aload_n hx hb dL_law_1175 rfl (lv_at hl 3 rfl) ?_
  refine x_callH (As := [.ref (α 0), .int (xs (i + 1)), .ref (α 191)]) (rest := []) ⟨hx, hb, hml, hown, hts⟩ (h1 _) (vx_cwSW 3 hts gL_law_L_position rfl rfl rfl (by decide +kernel) ⟨Nat.le_of_ble_eq_true rfl, Nat.le_of_ble_eq_true rfl⟩) hK hw rfl hV rfl hl.1 rfl (Nat.le_of_ble_eq_true rfl) dL_law_1176 hcs (fun S9 eS9 H locs hw => ?_)
  rw [eS9] at hw
  have hcc : cells + 1 ≤ room_1.cells ∧ slots + 6 ≤ room_1.slots := hcs
  refine lv_istore (lv' := [(6, .int k), (0, .ref b), (1, .ref (α 0)), (2, .ref (α 30)), (3, .ref (α 191)), (4, .ref (α 192)), (5, .int (nI i))]) hx hb dL_law_1179 hl (by decide) rfl (fun ls hl => ?_)
  refine lv_aload_n hx hb dL_law_1181 rfl (lv_at hl 3 rfl) ?_
  refine lv_aload_n hx hb dL_law_1182 rfl (lv_at hl 1 rfl) ?_
  refine lv_iload hx hb dL_law_1183 (lv_at hl 6 rfl) ?_
  refine lv_iconst (v := nI 1) hx hb dL_law_1185 (by decide) ?_
  refine xn_iadd hx hb dL_law_1186 ?_
  refine x_sld (k := i + 1) hx hb hX hbl hbA hw.2.2 (by omega) hL dL_law_1187 ?_
  refine x_callVL (q := 30) (C := RX11) (As := [.int (xs (i + 1))]) (rest := []) ⟨hx, hb, hml, hown, hts⟩ (h2 _) (cwV 1 hts gL_law_X11_position rfl rfl rfl (by decide +kernel) ⟨Nat.le_of_ble_eq_true rfl, Nat.le_of_ble_eq_true rfl⟩) hK hw (fun _ h => h) (ws_recv hK hw (q := 30) (by decide) (mk_30 cA α) rfl) rfl hl.1 rfl (Nat.le_of_ble_eq_true rfl) dL_law_1188 hcc (fun S9 eS9 H locs hw => ?_)
  rw [eS9] at hw
  refine lv_lstore (lv' := [(7, .long b9), (6, .int k), (0, .ref b), (1, .ref (α 0)), (2, .ref (α 30)), (3, .ref (α 191)), (4, .ref (α 192)), (5, .int (nI i))]) hx hb dL_law_1191 hl (by decide) rfl (fun ls hl => ?_)
  refine lv_aload_n hx hb dL_law_1193 rfl (lv_at hl 4 rfl) ?_
  refine x_callVI (q := 30) (C := RX11) (As := []) (rest := []) ⟨hx, hb, hml, hown, hts⟩ (ct_X11_thrown l D cA α 193 _ (by decide) S2) (cwV 0 hts gL_law_X11_thrown rfl rfl rfl (by decide +kernel) ⟨Nat.le_of_ble_eq_true rfl, Nat.le_of_ble_eq_true rfl⟩) hK hw (fun _ h => h) (ws_recv hK hw (q := 30) (by decide) (mk_30 cA α) rfl) rfl hl.1 rfl (Nat.le_of_ble_eq_true rfl) dL_law_1194 hcc (fun S9 eS9 H locs hw => ?_)
  rw [eS9] at hw
  refine x_topE (y := k) h3 ?_
  refine lv_iload hx hb dL_law_1197 (lv_at hl 1 rfl) ?_
  refine lv_icmp_eq (tgt := 1204) hx hb dL_law_1199 (by decide) (fun c1 => ?_) (fun c1 => absurd rfl c1)
  refine lv_iload hx hb dL_law_1204 (lv_at hl 1 rfl) ?_
  refine lv_if_ne (tgt := 1220) hx hb dL_law_1206 (by decide) (fun c2 => ?_) (fun c2 => ?_)
  · skip
    refine lv_goto (tgt := 2471) hx hb dL_law_1220 (by decide) ?_
    exact kk _ _ _ _ _ _ h5 hw (lv_sub hl [2, 3, 4, 5, 6, 7] rfl) (Nat.le_refl _) (Nat.le_refl _)
  · skip
    refine lv_aload_n hx hb dL_law_1209 rfl (lv_at hl 5 rfl) ?_
    refine lv_iconst (v := nI 0) hx hb dL_law_1210 (by decide) ?_
    refine x_lald hx hb hK hw 191 1 (by decide) (mk_191 cA α) 0 rfl (by decide) (by decide) dL_law_1211 ?_
    refine lv_lload hx hb dL_law_1212 (lv_at hl 0 rfl) ?_
    refine x_lcmp_eq (tgt := 1220) hx hb dL_law_1214 dL_law_1215 (by decide) (fun c3 => ?_) (fun c3 => absurd (h4 (c2.trans nI_0.symm)) c3)
    refine lv_goto (tgt := 2471) hx hb dL_law_1220 (by decide) ?_
    exact kk _ _ _ _ _ _ h5 hw (lv_sub hl [2, 3, 4, 5, 6, 7] rfl) (Nat.le_refl _) (Nat.le_refl _)

set_option maxRecDepth 100000 in
set_option maxHeartbeats 1000000 in
theorem lc_18 (C : LX p l s m meth c b L xs sa ka va D cA α) {S : Mem} {i cells slots : Nat} {H : Heap} {locs : List Loc} {ls : Array Slot} (hi : i + 6 ≤ L) (hR : Rel S) (hcs : cells + 1 ≤ 601024 ∧ slots + 6 ≤ 7293034) (hw : Ws D cA α 193 (Aw α 193 s.heap.size) s.heap S H locs) (hl : lv_has ls 10 [(0, .ref b), (1, .ref (α 0)), (2, .ref (α 30)), (3, .ref (α 191)), (4, .ref (α 192)), (5, .int (nI i))]) (kk : Kk p l e s m below meth c b D cA α i cells slots) : W p l e room_1 s m #[Value.ref b] below meth c H locs cells slots (lw_Z below #[Value.ref b] s) (F0 m 1223 ls []) := by
  obtain ⟨⟨hx, hb, hr, hml, hown, hts, hX, hbl, hlocks, hgv⟩, hst, hK, hV, hbA, hL⟩ := C
  have hown : s.vm.findClass RL = some m.cls := hown
  obtain ⟨k, S1, b9, S2, h1, h2, h3, h4, h5⟩ := sp_settledPosition (l := l) (sa := sa) (ka := ka) (va := va) (D := D) (cA := cA) (α := α) hst hR (xs (i + 1))
  refine lv_aload_n hx hb dL_law_1223 rfl (lv_at hl 1 rfl) ?_
  refine lv_aload_n hx hb dL_law_1224 rfl (lv_at hl 0 rfl) ?_
  refine lv_iload hx hb dL_law_1225 (lv_at hl 5 rfl) ?_
  refine lv_iconst (v := nI 1) hx hb dL_law_1227 (by decide) ?_
  refine xn_iadd hx hb dL_law_1228 ?_
  refine x_sld (k := i + 1) hx hb hX hbl hbA hw.2.2 (by omega) hL dL_law_1229 ?_
  refine lv_aload_n hx hb dL_law_1230 rfl (lv_at hl 3 rfl) ?_
  refine x_callH (As := [.ref (α 0), .int (xs (i + 1)), .ref (α 191)]) (rest := []) ⟨hx, hb, hml, hown, hts⟩ (h1 _) (vx_cwSW 3 hts gL_law_L_settledPosition rfl rfl rfl (by decide +kernel) ⟨Nat.le_of_ble_eq_true rfl, Nat.le_of_ble_eq_true rfl⟩) hK hw rfl hV rfl hl.1 rfl (Nat.le_of_ble_eq_true rfl) dL_law_1231 hcs (fun S9 eS9 H locs hw => ?_)
  rw [eS9] at hw
  have hcc : cells + 1 ≤ room_1.cells ∧ slots + 6 ≤ room_1.slots := hcs
  refine lv_istore (lv' := [(6, .int k), (0, .ref b), (1, .ref (α 0)), (2, .ref (α 30)), (3, .ref (α 191)), (4, .ref (α 192)), (5, .int (nI i))]) hx hb dL_law_1234 hl (by decide) rfl (fun ls hl => ?_)
  refine lv_aload_n hx hb dL_law_1236 rfl (lv_at hl 3 rfl) ?_
  refine lv_aload_n hx hb dL_law_1237 rfl (lv_at hl 1 rfl) ?_
  refine lv_iload hx hb dL_law_1238 (lv_at hl 6 rfl) ?_
  refine lv_iconst (v := nI 1) hx hb dL_law_1240 (by decide) ?_
  refine xn_iadd hx hb dL_law_1241 ?_
  refine x_sld (k := i + 1) hx hb hX hbl hbA hw.2.2 (by omega) hL dL_law_1242 ?_
  refine x_callVL (q := 30) (C := RX11) (As := [.int (xs (i + 1))]) (rest := []) ⟨hx, hb, hml, hown, hts⟩ (h2 _) (cwV 1 hts gL_law_X11_settledPosition rfl rfl rfl (by decide +kernel) ⟨Nat.le_of_ble_eq_true rfl, Nat.le_of_ble_eq_true rfl⟩) hK hw (fun _ h => h) (ws_recv hK hw (q := 30) (by decide) (mk_30 cA α) rfl) rfl hl.1 rfl (Nat.le_of_ble_eq_true rfl) dL_law_1243 hcc (fun S9 eS9 H locs hw => ?_)
  rw [eS9] at hw
  refine lv_lstore (lv' := [(7, .long b9), (6, .int k), (0, .ref b), (1, .ref (α 0)), (2, .ref (α 30)), (3, .ref (α 191)), (4, .ref (α 192)), (5, .int (nI i))]) hx hb dL_law_1246 hl (by decide) rfl (fun ls hl => ?_)
  refine lv_aload_n hx hb dL_law_1248 rfl (lv_at hl 4 rfl) ?_
  refine x_callVI (q := 30) (C := RX11) (As := []) (rest := []) ⟨hx, hb, hml, hown, hts⟩ (ct_X11_thrown l D cA α 193 _ (by decide) S2) (cwV 0 hts gL_law_X11_thrown rfl rfl rfl (by decide +kernel) ⟨Nat.le_of_ble_eq_true rfl, Nat.le_of_ble_eq_true rfl⟩) hK hw (fun _ h => h) (ws_recv hK hw (q := 30) (by decide) (mk_30 cA α) rfl) rfl hl.1 rfl (Nat.le_of_ble_eq_true rfl) dL_law_1249 hcc (fun S9 eS9 H locs hw => ?_)
  rw [eS9] at hw
  refine x_topE (y := k) h3 ?_
  refine lv_iload hx hb dL_law_1252 (lv_at hl 1 rfl) ?_
  refine lv_icmp_eq (tgt := 1259) hx hb dL_law_1254 (by decide) (fun c1 => ?_) (fun c1 => absurd rfl c1)
  refine lv_iload hx hb dL_law_1259 (lv_at hl 1 rfl) ?_
  refine lv_if_ne (tgt := 1275) hx hb dL_law_1261 (by decide) (fun c2 => ?_) (fun c2 => ?_)
  · skip
    refine lv_goto (tgt := 2471) hx hb dL_law_1275 (by decide) ?_
    exact kk _ _ _ _ _ _ h5 hw (lv_sub hl [2, 3, 4, 5, 6, 7] rfl) (Nat.le_refl _) (Nat.le_refl _)
  · skip
    refine lv_aload_n hx hb dL_law_1264 rfl (lv_at hl 5 rfl) ?_
    refine lv_iconst (v := nI 0) hx hb dL_law_1265 (by decide) ?_
    refine x_lald hx hb hK hw 191 1 (by decide) (mk_191 cA α) 0 rfl (by decide) (by decide) dL_law_1266 ?_
    refine lv_lload hx hb dL_law_1267 (lv_at hl 0 rfl) ?_
    refine x_lcmp_eq (tgt := 1275) hx hb dL_law_1269 dL_law_1270 (by decide) (fun c3 => ?_) (fun c3 => absurd (h4 (c2.trans nI_0.symm)) c3)
    refine lv_goto (tgt := 2471) hx hb dL_law_1275 (by decide) ?_
    exact kk _ _ _ _ _ _ h5 hw (lv_sub hl [2, 3, 4, 5, 6, 7] rfl) (Nat.le_refl _) (Nat.le_refl _)

set_option maxRecDepth 100000 in
set_option maxHeartbeats 1000000 in
theorem lc_19 (C : LX p l s m meth c b L xs sa ka va D cA α) {S : Mem} {i cells slots : Nat} {H : Heap} {locs : List Loc} {ls : Array Slot} (hi : i + 6 ≤ L) (hR : Rel S) (hcs : cells + 1 ≤ 601024 ∧ slots + 6 ≤ 7293034) (hw : Ws D cA α 193 (Aw α 193 s.heap.size) s.heap S H locs) (hl : lv_has ls 10 [(0, .ref b), (1, .ref (α 0)), (2, .ref (α 30)), (3, .ref (α 191)), (4, .ref (α 192)), (5, .int (nI i))]) (kk : Kk p l e s m below meth c b D cA α i cells slots) : W p l e room_1 s m #[Value.ref b] below meth c H locs cells slots (lw_Z below #[Value.ref b] s) (F0 m 1278 ls []) := by
  obtain ⟨⟨hx, hb, hr, hml, hown, hts, hX, hbl, hlocks, hgv⟩, hst, hK, hV, hbA, hL⟩ := C
  have hown : s.vm.findClass RL = some m.cls := hown
  obtain ⟨b9, S1, S2, h1, h2, h5⟩ := dp_directPayments (l := l) (D := D) (cA := cA) (α := α) hR 
  have hcc : cells ≤ room_1.cells ∧ slots ≤ room_1.slots := ⟨Nat.le_trans (Nat.le_succ _) hcs.1, Nat.le_trans (Nat.le_add_right _ 6) hcs.2⟩
  refine lv_aload_n hx hb dL_law_1278 rfl (lv_at hl 1 rfl) ?_
  refine x_callVI (q := 0) (C := RX10) (As := []) (rest := []) ⟨hx, hb, hml, hown, hts⟩ (h1 _) (cwV 0 hts gL_law_X10_directPayments rfl rfl rfl (by decide +kernel) ⟨Nat.le_of_ble_eq_true rfl, Nat.le_of_ble_eq_true rfl⟩) hK hw (fun _ h => h) (ws_recv hK hw (q := 0) (by decide) (mk_0 cA α) rfl) rfl hl.1 rfl (Nat.le_of_ble_eq_true rfl) dL_law_1279 hcc (fun S9 eS9 H locs hw => ?_)
  rw [eS9] at hw
  refine lv_aload_n hx hb dL_law_1282 rfl (lv_at hl 2 rfl) ?_
  refine x_callVI (q := 30) (C := RX11) (As := []) (rest := [.int b9]) ⟨hx, hb, hml, hown, hts⟩ (h2 _) (cwV 0 hts gL_law_X11_directPayments rfl rfl rfl (by decide +kernel) ⟨Nat.le_of_ble_eq_true rfl, Nat.le_of_ble_eq_true rfl⟩) hK hw (fun _ h => h) (ws_recv hK hw (q := 30) (by decide) (mk_30 cA α) rfl) rfl hl.1 rfl (Nat.le_of_ble_eq_true rfl) dL_law_1283 hcc (fun S9 eS9 H locs hw => ?_)
  rw [eS9] at hw
  refine lv_icmp_eq (tgt := 2471) hx hb dL_law_1286 (by decide) (fun c1 => ?_) (fun c1 => absurd rfl c1)
  exact kk _ _ _ _ _ _ h5 hw (lv_sub hl [0, 1, 2, 3, 4, 5] rfl) (Nat.le_succ _) (Nat.le_add_right _ 6)

set_option maxRecDepth 100000 in
set_option maxHeartbeats 1000000 in
theorem lc_20 (C : LX p l s m meth c b L xs sa ka va D cA α) {S : Mem} {i cells slots : Nat} {H : Heap} {locs : List Loc} {ls : Array Slot} (hi : i + 6 ≤ L) (hR : Rel S) (hcs : cells + 1 ≤ 601024 ∧ slots + 6 ≤ 7293034) (hw : Ws D cA α 193 (Aw α 193 s.heap.size) s.heap S H locs) (hl : lv_has ls 10 [(0, .ref b), (1, .ref (α 0)), (2, .ref (α 30)), (3, .ref (α 191)), (4, .ref (α 192)), (5, .int (nI i))]) (kk : Kk p l e s m below meth c b D cA α i cells slots) : W p l e room_1 s m #[Value.ref b] below meth c H locs cells slots (lw_Z below #[Value.ref b] s) (F0 m 1291 ls []) := by
  obtain ⟨⟨hx, hb, hr, hml, hown, hts, hX, hbl, hlocks, hgv⟩, hst, hK, hV, hbA, hL⟩ := C
  have hown : s.vm.findClass RL = some m.cls := hown
  obtain ⟨b9, S1, S2, h1, h2, h5⟩ := dp_fewestPayments (l := l) (D := D) (cA := cA) (α := α) hR 
  have hcc : cells ≤ room_1.cells ∧ slots ≤ room_1.slots := ⟨Nat.le_trans (Nat.le_succ _) hcs.1, Nat.le_trans (Nat.le_add_right _ 6) hcs.2⟩
  refine lv_aload_n hx hb dL_law_1291 rfl (lv_at hl 1 rfl) ?_
  refine x_callVI (q := 0) (C := RX10) (As := []) (rest := []) ⟨hx, hb, hml, hown, hts⟩ (h1 _) (cwV 0 hts gL_law_X10_fewestPayments rfl rfl rfl (by decide +kernel) ⟨Nat.le_of_ble_eq_true rfl, Nat.le_of_ble_eq_true rfl⟩) hK hw (fun _ h => h) (ws_recv hK hw (q := 0) (by decide) (mk_0 cA α) rfl) rfl hl.1 rfl (Nat.le_of_ble_eq_true rfl) dL_law_1292 hcc (fun S9 eS9 H locs hw => ?_)
  rw [eS9] at hw
  refine lv_aload_n hx hb dL_law_1295 rfl (lv_at hl 2 rfl) ?_
  refine x_callVI (q := 30) (C := RX11) (As := []) (rest := [.int b9]) ⟨hx, hb, hml, hown, hts⟩ (h2 _) (cwV 0 hts gL_law_X11_fewestPayments rfl rfl rfl (by decide +kernel) ⟨Nat.le_of_ble_eq_true rfl, Nat.le_of_ble_eq_true rfl⟩) hK hw (fun _ h => h) (ws_recv hK hw (q := 30) (by decide) (mk_30 cA α) rfl) rfl hl.1 rfl (Nat.le_of_ble_eq_true rfl) dL_law_1296 hcc (fun S9 eS9 H locs hw => ?_)
  rw [eS9] at hw
  refine lv_icmp_eq (tgt := 2471) hx hb dL_law_1299 (by decide) (fun c1 => ?_) (fun c1 => absurd rfl c1)
  exact kk _ _ _ _ _ _ h5 hw (lv_sub hl [0, 1, 2, 3, 4, 5] rfl) (Nat.le_succ _) (Nat.le_add_right _ 6)

set_option maxRecDepth 100000 in
set_option maxHeartbeats 1000000 in
theorem lc_21 (C : LX p l s m meth c b L xs sa ka va D cA α) {S : Mem} {i cells slots : Nat} {H : Heap} {locs : List Loc} {ls : Array Slot} (hi : i + 6 ≤ L) (hR : Rel S) (hcs : cells + 1 ≤ 601024 ∧ slots + 6 ≤ 7293034) (hw : Ws D cA α 193 (Aw α 193 s.heap.size) s.heap S H locs) (hl : lv_has ls 10 [(0, .ref b), (1, .ref (α 0)), (2, .ref (α 30)), (3, .ref (α 191)), (4, .ref (α 192)), (5, .int (nI i))]) (kk : Kk p l e s m below meth c b D cA α i cells slots) : W p l e room_1 s m #[Value.ref b] below meth c H locs cells slots (lw_Z below #[Value.ref b] s) (F0 m 1304 ls []) := by
  obtain ⟨⟨hx, hb, hr, hml, hown, hts, hX, hbl, hlocks, hgv⟩, hst, hK, hV, hbA, hL⟩ := C
  have hown : s.vm.findClass RL = some m.cls := hown
  obtain ⟨k, S1, b9, S2, h1, h2, h3, h4, h5⟩ := sp_stock (l := l) (sa := sa) (ka := ka) (va := va) (D := D) (cA := cA) (α := α) hst hR (xs (i + 1)) (xs (i + 2))
  refine lv_aload_n hx hb dL_law_1304 rfl (lv_at hl 1 rfl) ?_
  refine lv_aload_n hx hb dL_law_1305 rfl (lv_at hl 0 rfl) ?_
  refine lv_iload hx hb dL_law_1306 (lv_at hl 5 rfl) ?_
  refine lv_iconst (v := nI 1) hx hb dL_law_1308 (by decide) ?_
  refine xn_iadd hx hb dL_law_1309 ?_
  refine x_sld (k := i + 1) hx hb hX hbl hbA hw.2.2 (by omega) hL dL_law_1310 ?_
  refine lv_aload_n hx hb dL_law_1311 rfl (lv_at hl 0 rfl) ?_
  refine lv_iload hx hb dL_law_1312 (lv_at hl 5 rfl) ?_
  refine lv_iconst (v := nI 2) hx hb dL_law_1314 (by decide) ?_
  refine xn_iadd hx hb dL_law_1315 ?_
  refine x_sld (k := i + 2) hx hb hX hbl hbA hw.2.2 (by omega) hL dL_law_1316 ?_
  refine lv_aload_n hx hb dL_law_1317 rfl (lv_at hl 3 rfl) ?_
  refine x_callH (As := [.ref (α 0), .int (xs (i + 1)), .int (xs (i + 2)), .ref (α 191)]) (rest := []) ⟨hx, hb, hml, hown, hts⟩ (h1 _) (vx_cwSW 4 hts gL_law_L_stock rfl rfl rfl (by decide +kernel) ⟨Nat.le_of_ble_eq_true rfl, Nat.le_of_ble_eq_true rfl⟩) hK hw rfl hV rfl hl.1 rfl (Nat.le_of_ble_eq_true rfl) dL_law_1318 hcs (fun S9 eS9 H locs hw => ?_)
  rw [eS9] at hw
  have hcc : cells + 1 ≤ room_1.cells ∧ slots + 6 ≤ room_1.slots := hcs
  refine lv_istore (lv' := [(6, .int k), (0, .ref b), (1, .ref (α 0)), (2, .ref (α 30)), (3, .ref (α 191)), (4, .ref (α 192)), (5, .int (nI i))]) hx hb dL_law_1321 hl (by decide) rfl (fun ls hl => ?_)
  refine lv_aload_n hx hb dL_law_1323 rfl (lv_at hl 3 rfl) ?_
  refine lv_aload_n hx hb dL_law_1324 rfl (lv_at hl 1 rfl) ?_
  refine lv_iload hx hb dL_law_1325 (lv_at hl 6 rfl) ?_
  refine lv_iconst (v := nI 1) hx hb dL_law_1327 (by decide) ?_
  refine xn_iadd hx hb dL_law_1328 ?_
  refine x_sld (k := i + 1) hx hb hX hbl hbA hw.2.2 (by omega) hL dL_law_1329 ?_
  refine lv_aload_n hx hb dL_law_1330 rfl (lv_at hl 1 rfl) ?_
  refine lv_iload hx hb dL_law_1331 (lv_at hl 6 rfl) ?_
  refine lv_iconst (v := nI 2) hx hb dL_law_1333 (by decide) ?_
  refine xn_iadd hx hb dL_law_1334 ?_
  refine x_sld (k := i + 2) hx hb hX hbl hbA hw.2.2 (by omega) hL dL_law_1335 ?_
  refine x_callVI (q := 30) (C := RX11) (As := [.int (xs (i + 1)), .int (xs (i + 2))]) (rest := []) ⟨hx, hb, hml, hown, hts⟩ (h2 _) (cwV 2 hts gL_law_X11_stock rfl rfl rfl (by decide +kernel) ⟨Nat.le_of_ble_eq_true rfl, Nat.le_of_ble_eq_true rfl⟩) hK hw (fun _ h => h) (ws_recv hK hw (q := 30) (by decide) (mk_30 cA α) rfl) rfl hl.1 rfl (Nat.le_of_ble_eq_true rfl) dL_law_1336 hcc (fun S9 eS9 H locs hw => ?_)
  rw [eS9] at hw
  refine lv_istore (lv' := [(7, .int b9), (6, .int k), (0, .ref b), (1, .ref (α 0)), (2, .ref (α 30)), (3, .ref (α 191)), (4, .ref (α 192)), (5, .int (nI i))]) hx hb dL_law_1339 hl (by decide) rfl (fun ls hl => ?_)
  refine lv_aload_n hx hb dL_law_1341 rfl (lv_at hl 4 rfl) ?_
  refine x_callVI (q := 30) (C := RX11) (As := []) (rest := []) ⟨hx, hb, hml, hown, hts⟩ (ct_X11_thrown l D cA α 193 _ (by decide) S2) (cwV 0 hts gL_law_X11_thrown rfl rfl rfl (by decide +kernel) ⟨Nat.le_of_ble_eq_true rfl, Nat.le_of_ble_eq_true rfl⟩) hK hw (fun _ h => h) (ws_recv hK hw (q := 30) (by decide) (mk_30 cA α) rfl) rfl hl.1 rfl (Nat.le_of_ble_eq_true rfl) dL_law_1342 hcc (fun S9 eS9 H locs hw => ?_)
  rw [eS9] at hw
  refine x_topE (y := k) h3 ?_
  refine lv_iload hx hb dL_law_1345 (lv_at hl 1 rfl) ?_
  refine lv_icmp_eq (tgt := 1352) hx hb dL_law_1347 (by decide) (fun c1 => ?_) (fun c1 => absurd rfl c1)
  refine lv_iload hx hb dL_law_1352 (lv_at hl 1 rfl) ?_
  refine lv_if_ne (tgt := 1369) hx hb dL_law_1354 (by decide) (fun c2 => ?_) (fun c2 => ?_)
  · skip
    refine lv_goto (tgt := 2471) hx hb dL_law_1369 (by decide) ?_
    exact kk _ _ _ _ _ _ h5 hw (lv_sub hl [2, 3, 4, 5, 6, 7] rfl) (Nat.le_refl _) (Nat.le_refl _)
  · skip
    refine lv_aload_n hx hb dL_law_1357 rfl (lv_at hl 5 rfl) ?_
    refine lv_iconst (v := nI 0) hx hb dL_law_1358 (by decide) ?_
    refine x_lald hx hb hK hw 191 1 (by decide) (mk_191 cA α) 0 rfl (by decide) (by decide) dL_law_1359 ?_
    refine lv_iload hx hb dL_law_1360 (lv_at hl 0 rfl) ?_
    refine lv_i2l hx hb dL_law_1362 rfl ?_
    refine x_lcmp_eq (tgt := 1369) hx hb dL_law_1363 dL_law_1364 (by decide) (fun c3 => ?_) (fun c3 => absurd (h4 (c2.trans nI_0.symm)) c3)
    refine lv_goto (tgt := 2471) hx hb dL_law_1369 (by decide) ?_
    exact kk _ _ _ _ _ _ h5 hw (lv_sub hl [2, 3, 4, 5, 6, 7] rfl) (Nat.le_refl _) (Nat.le_refl _)

set_option maxRecDepth 100000 in
set_option maxHeartbeats 1000000 in
theorem lc_22 (C : LX p l s m meth c b L xs sa ka va D cA α) {S : Mem} {i cells slots : Nat} {H : Heap} {locs : List Loc} {ls : Array Slot} (hi : i + 6 ≤ L) (hR : Rel S) (hcs : cells + 1 ≤ 601024 ∧ slots + 6 ≤ 7293034) (hw : Ws D cA α 193 (Aw α 193 s.heap.size) s.heap S H locs) (hl : lv_has ls 10 [(0, .ref b), (1, .ref (α 0)), (2, .ref (α 30)), (3, .ref (α 191)), (4, .ref (α 192)), (5, .int (nI i))]) (kk : Kk p l e s m below meth c b D cA α i cells slots) : W p l e room_1 s m #[Value.ref b] below meth c H locs cells slots (lw_Z below #[Value.ref b] s) (F0 m 1372 ls []) := by
  obtain ⟨⟨hx, hb, hr, hml, hown, hts, hX, hbl, hlocks, hgv⟩, hst, hK, hV, hbA, hL⟩ := C
  have hown : s.vm.findClass RL = some m.cls := hown
  obtain ⟨k, S1, b9, S2, h1, h2, h3, h4, h5⟩ := sp_oldestPrice (l := l) (sa := sa) (ka := ka) (va := va) (D := D) (cA := cA) (α := α) hst hR (xs (i + 1)) (xs (i + 2))
  refine lv_aload_n hx hb dL_law_1372 rfl (lv_at hl 1 rfl) ?_
  refine lv_aload_n hx hb dL_law_1373 rfl (lv_at hl 0 rfl) ?_
  refine lv_iload hx hb dL_law_1374 (lv_at hl 5 rfl) ?_
  refine lv_iconst (v := nI 1) hx hb dL_law_1376 (by decide) ?_
  refine xn_iadd hx hb dL_law_1377 ?_
  refine x_sld (k := i + 1) hx hb hX hbl hbA hw.2.2 (by omega) hL dL_law_1378 ?_
  refine lv_aload_n hx hb dL_law_1379 rfl (lv_at hl 0 rfl) ?_
  refine lv_iload hx hb dL_law_1380 (lv_at hl 5 rfl) ?_
  refine lv_iconst (v := nI 2) hx hb dL_law_1382 (by decide) ?_
  refine xn_iadd hx hb dL_law_1383 ?_
  refine x_sld (k := i + 2) hx hb hX hbl hbA hw.2.2 (by omega) hL dL_law_1384 ?_
  refine lv_aload_n hx hb dL_law_1385 rfl (lv_at hl 3 rfl) ?_
  refine x_callH (As := [.ref (α 0), .int (xs (i + 1)), .int (xs (i + 2)), .ref (α 191)]) (rest := []) ⟨hx, hb, hml, hown, hts⟩ (h1 _) (vx_cwSW 4 hts gL_law_L_oldestPrice rfl rfl rfl (by decide +kernel) ⟨Nat.le_of_ble_eq_true rfl, Nat.le_of_ble_eq_true rfl⟩) hK hw rfl hV rfl hl.1 rfl (Nat.le_of_ble_eq_true rfl) dL_law_1386 hcs (fun S9 eS9 H locs hw => ?_)
  rw [eS9] at hw
  have hcc : cells + 1 ≤ room_1.cells ∧ slots + 6 ≤ room_1.slots := hcs
  refine lv_istore (lv' := [(6, .int k), (0, .ref b), (1, .ref (α 0)), (2, .ref (α 30)), (3, .ref (α 191)), (4, .ref (α 192)), (5, .int (nI i))]) hx hb dL_law_1389 hl (by decide) rfl (fun ls hl => ?_)
  refine lv_aload_n hx hb dL_law_1391 rfl (lv_at hl 3 rfl) ?_
  refine lv_aload_n hx hb dL_law_1392 rfl (lv_at hl 1 rfl) ?_
  refine lv_iload hx hb dL_law_1393 (lv_at hl 6 rfl) ?_
  refine lv_iconst (v := nI 1) hx hb dL_law_1395 (by decide) ?_
  refine xn_iadd hx hb dL_law_1396 ?_
  refine x_sld (k := i + 1) hx hb hX hbl hbA hw.2.2 (by omega) hL dL_law_1397 ?_
  refine lv_aload_n hx hb dL_law_1398 rfl (lv_at hl 1 rfl) ?_
  refine lv_iload hx hb dL_law_1399 (lv_at hl 6 rfl) ?_
  refine lv_iconst (v := nI 2) hx hb dL_law_1401 (by decide) ?_
  refine xn_iadd hx hb dL_law_1402 ?_
  refine x_sld (k := i + 2) hx hb hX hbl hbA hw.2.2 (by omega) hL dL_law_1403 ?_
  refine x_callVI (q := 30) (C := RX11) (As := [.int (xs (i + 1)), .int (xs (i + 2))]) (rest := []) ⟨hx, hb, hml, hown, hts⟩ (h2 _) (cwV 2 hts gL_law_X11_oldestPrice rfl rfl rfl (by decide +kernel) ⟨Nat.le_of_ble_eq_true rfl, Nat.le_of_ble_eq_true rfl⟩) hK hw (fun _ h => h) (ws_recv hK hw (q := 30) (by decide) (mk_30 cA α) rfl) rfl hl.1 rfl (Nat.le_of_ble_eq_true rfl) dL_law_1404 hcc (fun S9 eS9 H locs hw => ?_)
  rw [eS9] at hw
  refine lv_istore (lv' := [(7, .int b9), (6, .int k), (0, .ref b), (1, .ref (α 0)), (2, .ref (α 30)), (3, .ref (α 191)), (4, .ref (α 192)), (5, .int (nI i))]) hx hb dL_law_1407 hl (by decide) rfl (fun ls hl => ?_)
  refine lv_aload_n hx hb dL_law_1409 rfl (lv_at hl 4 rfl) ?_
  refine x_callVI (q := 30) (C := RX11) (As := []) (rest := []) ⟨hx, hb, hml, hown, hts⟩ (ct_X11_thrown l D cA α 193 _ (by decide) S2) (cwV 0 hts gL_law_X11_thrown rfl rfl rfl (by decide +kernel) ⟨Nat.le_of_ble_eq_true rfl, Nat.le_of_ble_eq_true rfl⟩) hK hw (fun _ h => h) (ws_recv hK hw (q := 30) (by decide) (mk_30 cA α) rfl) rfl hl.1 rfl (Nat.le_of_ble_eq_true rfl) dL_law_1410 hcc (fun S9 eS9 H locs hw => ?_)
  rw [eS9] at hw
  refine x_topE (y := k) h3 ?_
  refine lv_iload hx hb dL_law_1413 (lv_at hl 1 rfl) ?_
  refine lv_icmp_eq (tgt := 1420) hx hb dL_law_1415 (by decide) (fun c1 => ?_) (fun c1 => absurd rfl c1)
  refine lv_iload hx hb dL_law_1420 (lv_at hl 1 rfl) ?_
  refine lv_if_ne (tgt := 1437) hx hb dL_law_1422 (by decide) (fun c2 => ?_) (fun c2 => ?_)
  · skip
    refine lv_goto (tgt := 2471) hx hb dL_law_1437 (by decide) ?_
    exact kk _ _ _ _ _ _ h5 hw (lv_sub hl [2, 3, 4, 5, 6, 7] rfl) (Nat.le_refl _) (Nat.le_refl _)
  · skip
    refine lv_aload_n hx hb dL_law_1425 rfl (lv_at hl 5 rfl) ?_
    refine lv_iconst (v := nI 0) hx hb dL_law_1426 (by decide) ?_
    refine x_lald hx hb hK hw 191 1 (by decide) (mk_191 cA α) 0 rfl (by decide) (by decide) dL_law_1427 ?_
    refine lv_iload hx hb dL_law_1428 (lv_at hl 0 rfl) ?_
    refine lv_i2l hx hb dL_law_1430 rfl ?_
    refine x_lcmp_eq (tgt := 1437) hx hb dL_law_1431 dL_law_1432 (by decide) (fun c3 => ?_) (fun c3 => absurd (h4 (c2.trans nI_0.symm)) c3)
    refine lv_goto (tgt := 2471) hx hb dL_law_1437 (by decide) ?_
    exact kk _ _ _ _ _ _ h5 hw (lv_sub hl [2, 3, 4, 5, 6, 7] rfl) (Nat.le_refl _) (Nat.le_refl _)

set_option maxRecDepth 100000 in
set_option maxHeartbeats 1000000 in
theorem lc_23 (C : LX p l s m meth c b L xs sa ka va D cA α) {S : Mem} {i cells slots : Nat} {H : Heap} {locs : List Loc} {ls : Array Slot} (hi : i + 6 ≤ L) (hR : Rel S) (hcs : cells + 1 ≤ 601024 ∧ slots + 6 ≤ 7293034) (hw : Ws D cA α 193 (Aw α 193 s.heap.size) s.heap S H locs) (hl : lv_has ls 10 [(0, .ref b), (1, .ref (α 0)), (2, .ref (α 30)), (3, .ref (α 191)), (4, .ref (α 192)), (5, .int (nI i))]) (kk : Kk p l e s m below meth c b D cA α i cells slots) : W p l e room_1 s m #[Value.ref b] below meth c H locs cells slots (lw_Z below #[Value.ref b] s) (F0 m 1440 ls []) := by
  obtain ⟨⟨hx, hb, hr, hml, hown, hts, hX, hbl, hlocks, hgv⟩, hst, hK, hV, hbA, hL⟩ := C
  have hown : s.vm.findClass RL = some m.cls := hown
  obtain ⟨k, S1, b9, S2, h1, h2, h3, h4, h5⟩ := sp_unrealized (l := l) (sa := sa) (ka := ka) (va := va) (D := D) (cA := cA) (α := α) hst hR (xs (i + 1))
  refine lv_aload_n hx hb dL_law_1440 rfl (lv_at hl 1 rfl) ?_
  refine lv_aload_n hx hb dL_law_1441 rfl (lv_at hl 0 rfl) ?_
  refine lv_iload hx hb dL_law_1442 (lv_at hl 5 rfl) ?_
  refine lv_iconst (v := nI 1) hx hb dL_law_1444 (by decide) ?_
  refine xn_iadd hx hb dL_law_1445 ?_
  refine x_sld (k := i + 1) hx hb hX hbl hbA hw.2.2 (by omega) hL dL_law_1446 ?_
  refine lv_aload_n hx hb dL_law_1447 rfl (lv_at hl 3 rfl) ?_
  refine x_callH (As := [.ref (α 0), .int (xs (i + 1)), .ref (α 191)]) (rest := []) ⟨hx, hb, hml, hown, hts⟩ (h1 _) (vx_cwSW 3 hts gL_law_L_unrealized rfl rfl rfl (by decide +kernel) ⟨Nat.le_of_ble_eq_true rfl, Nat.le_of_ble_eq_true rfl⟩) hK hw rfl hV rfl hl.1 rfl (Nat.le_of_ble_eq_true rfl) dL_law_1448 hcs (fun S9 eS9 H locs hw => ?_)
  rw [eS9] at hw
  have hcc : cells + 1 ≤ room_1.cells ∧ slots + 6 ≤ room_1.slots := hcs
  refine lv_istore (lv' := [(6, .int k), (0, .ref b), (1, .ref (α 0)), (2, .ref (α 30)), (3, .ref (α 191)), (4, .ref (α 192)), (5, .int (nI i))]) hx hb dL_law_1451 hl (by decide) rfl (fun ls hl => ?_)
  refine lv_aload_n hx hb dL_law_1453 rfl (lv_at hl 3 rfl) ?_
  refine lv_aload_n hx hb dL_law_1454 rfl (lv_at hl 1 rfl) ?_
  refine lv_iload hx hb dL_law_1455 (lv_at hl 6 rfl) ?_
  refine lv_iconst (v := nI 1) hx hb dL_law_1457 (by decide) ?_
  refine xn_iadd hx hb dL_law_1458 ?_
  refine x_sld (k := i + 1) hx hb hX hbl hbA hw.2.2 (by omega) hL dL_law_1459 ?_
  refine x_callVL (q := 30) (C := RX11) (As := [.int (xs (i + 1))]) (rest := []) ⟨hx, hb, hml, hown, hts⟩ (h2 _) (cwV 1 hts gL_law_X11_unrealized rfl rfl rfl (by decide +kernel) ⟨Nat.le_of_ble_eq_true rfl, Nat.le_of_ble_eq_true rfl⟩) hK hw (fun _ h => h) (ws_recv hK hw (q := 30) (by decide) (mk_30 cA α) rfl) rfl hl.1 rfl (Nat.le_of_ble_eq_true rfl) dL_law_1460 hcc (fun S9 eS9 H locs hw => ?_)
  rw [eS9] at hw
  refine lv_lstore (lv' := [(7, .long b9), (6, .int k), (0, .ref b), (1, .ref (α 0)), (2, .ref (α 30)), (3, .ref (α 191)), (4, .ref (α 192)), (5, .int (nI i))]) hx hb dL_law_1463 hl (by decide) rfl (fun ls hl => ?_)
  refine lv_aload_n hx hb dL_law_1465 rfl (lv_at hl 4 rfl) ?_
  refine x_callVI (q := 30) (C := RX11) (As := []) (rest := []) ⟨hx, hb, hml, hown, hts⟩ (ct_X11_thrown l D cA α 193 _ (by decide) S2) (cwV 0 hts gL_law_X11_thrown rfl rfl rfl (by decide +kernel) ⟨Nat.le_of_ble_eq_true rfl, Nat.le_of_ble_eq_true rfl⟩) hK hw (fun _ h => h) (ws_recv hK hw (q := 30) (by decide) (mk_30 cA α) rfl) rfl hl.1 rfl (Nat.le_of_ble_eq_true rfl) dL_law_1466 hcc (fun S9 eS9 H locs hw => ?_)
  rw [eS9] at hw
  refine x_topE (y := k) h3 ?_
  refine lv_iload hx hb dL_law_1469 (lv_at hl 1 rfl) ?_
  refine lv_icmp_eq (tgt := 1476) hx hb dL_law_1471 (by decide) (fun c1 => ?_) (fun c1 => absurd rfl c1)
  refine lv_iload hx hb dL_law_1476 (lv_at hl 1 rfl) ?_
  refine lv_if_ne (tgt := 1492) hx hb dL_law_1478 (by decide) (fun c2 => ?_) (fun c2 => ?_)
  · skip
    refine lv_goto (tgt := 2471) hx hb dL_law_1492 (by decide) ?_
    exact kk _ _ _ _ _ _ h5 hw (lv_sub hl [2, 3, 4, 5, 6, 7] rfl) (Nat.le_refl _) (Nat.le_refl _)
  · skip
    refine lv_aload_n hx hb dL_law_1481 rfl (lv_at hl 5 rfl) ?_
    refine lv_iconst (v := nI 0) hx hb dL_law_1482 (by decide) ?_
    refine x_lald hx hb hK hw 191 1 (by decide) (mk_191 cA α) 0 rfl (by decide) (by decide) dL_law_1483 ?_
    refine lv_lload hx hb dL_law_1484 (lv_at hl 0 rfl) ?_
    refine x_lcmp_eq (tgt := 1492) hx hb dL_law_1486 dL_law_1487 (by decide) (fun c3 => ?_) (fun c3 => absurd (h4 (c2.trans nI_0.symm)) c3)
    refine lv_goto (tgt := 2471) hx hb dL_law_1492 (by decide) ?_
    exact kk _ _ _ _ _ _ h5 hw (lv_sub hl [2, 3, 4, 5, 6, 7] rfl) (Nat.le_refl _) (Nat.le_refl _)

set_option maxRecDepth 100000 in
set_option maxHeartbeats 1000000 in
theorem lc_24 (C : LX p l s m meth c b L xs sa ka va D cA α) {S : Mem} {i cells slots : Nat} {H : Heap} {locs : List Loc} {ls : Array Slot} (hi : i + 6 ≤ L) (hR : Rel S) (hcs : cells + 1 ≤ 601024 ∧ slots + 6 ≤ 7293034) (hw : Ws D cA α 193 (Aw α 193 s.heap.size) s.heap S H locs) (hl : lv_has ls 10 [(0, .ref b), (1, .ref (α 0)), (2, .ref (α 30)), (3, .ref (α 191)), (4, .ref (α 192)), (5, .int (nI i))]) (kk : Kk p l e s m below meth c b D cA α i cells slots) : W p l e room_1 s m #[Value.ref b] below meth c H locs cells slots (lw_Z below #[Value.ref b] s) (F0 m 1495 ls []) := by
  obtain ⟨⟨hx, hb, hr, hml, hown, hts, hX, hbl, hlocks, hgv⟩, hst, hK, hV, hbA, hL⟩ := C
  have hown : s.vm.findClass RL = some m.cls := hown
  obtain ⟨k, S1, b9, S2, h1, h2, h3, h4, h5⟩ := sp_unrealizedAfterSale (l := l) (sa := sa) (ka := ka) (va := va) (D := D) (cA := cA) (α := α) hst hR (xs (i + 1)) (xs (i + 2)) (xs (i + 3))
  refine lv_aload_n hx hb dL_law_1495 rfl (lv_at hl 1 rfl) ?_
  refine lv_aload_n hx hb dL_law_1496 rfl (lv_at hl 0 rfl) ?_
  refine lv_iload hx hb dL_law_1497 (lv_at hl 5 rfl) ?_
  refine lv_iconst (v := nI 1) hx hb dL_law_1499 (by decide) ?_
  refine xn_iadd hx hb dL_law_1500 ?_
  refine x_sld (k := i + 1) hx hb hX hbl hbA hw.2.2 (by omega) hL dL_law_1501 ?_
  refine lv_aload_n hx hb dL_law_1502 rfl (lv_at hl 0 rfl) ?_
  refine lv_iload hx hb dL_law_1503 (lv_at hl 5 rfl) ?_
  refine lv_iconst (v := nI 2) hx hb dL_law_1505 (by decide) ?_
  refine xn_iadd hx hb dL_law_1506 ?_
  refine x_sld (k := i + 2) hx hb hX hbl hbA hw.2.2 (by omega) hL dL_law_1507 ?_
  refine lv_aload_n hx hb dL_law_1508 rfl (lv_at hl 0 rfl) ?_
  refine lv_iload hx hb dL_law_1509 (lv_at hl 5 rfl) ?_
  refine lv_iconst (v := nI 3) hx hb dL_law_1511 (by decide) ?_
  refine xn_iadd hx hb dL_law_1512 ?_
  refine x_sld (k := i + 3) hx hb hX hbl hbA hw.2.2 (by omega) hL dL_law_1513 ?_
  refine lv_aload_n hx hb dL_law_1514 rfl (lv_at hl 3 rfl) ?_
  refine x_callH (As := [.ref (α 0), .int (xs (i + 1)), .int (xs (i + 2)), .int (xs (i + 3)), .ref (α 191)]) (rest := []) ⟨hx, hb, hml, hown, hts⟩ (h1 _) (vx_cwSW 5 hts gL_law_L_unrealizedAfterSale rfl rfl rfl (by decide +kernel) ⟨Nat.le_of_ble_eq_true rfl, Nat.le_of_ble_eq_true rfl⟩) hK hw rfl hV rfl hl.1 rfl (Nat.le_of_ble_eq_true rfl) dL_law_1515 hcs (fun S9 eS9 H locs hw => ?_)
  rw [eS9] at hw
  have hcc : cells + 1 ≤ room_1.cells ∧ slots + 6 ≤ room_1.slots := hcs
  refine lv_istore (lv' := [(6, .int k), (0, .ref b), (1, .ref (α 0)), (2, .ref (α 30)), (3, .ref (α 191)), (4, .ref (α 192)), (5, .int (nI i))]) hx hb dL_law_1518 hl (by decide) rfl (fun ls hl => ?_)
  refine lv_aload_n hx hb dL_law_1520 rfl (lv_at hl 3 rfl) ?_
  refine lv_aload_n hx hb dL_law_1521 rfl (lv_at hl 1 rfl) ?_
  refine lv_iload hx hb dL_law_1522 (lv_at hl 6 rfl) ?_
  refine lv_iconst (v := nI 1) hx hb dL_law_1524 (by decide) ?_
  refine xn_iadd hx hb dL_law_1525 ?_
  refine x_sld (k := i + 1) hx hb hX hbl hbA hw.2.2 (by omega) hL dL_law_1526 ?_
  refine lv_aload_n hx hb dL_law_1527 rfl (lv_at hl 1 rfl) ?_
  refine lv_iload hx hb dL_law_1528 (lv_at hl 6 rfl) ?_
  refine lv_iconst (v := nI 2) hx hb dL_law_1530 (by decide) ?_
  refine xn_iadd hx hb dL_law_1531 ?_
  refine x_sld (k := i + 2) hx hb hX hbl hbA hw.2.2 (by omega) hL dL_law_1532 ?_
  refine lv_aload_n hx hb dL_law_1533 rfl (lv_at hl 1 rfl) ?_
  refine lv_iload hx hb dL_law_1534 (lv_at hl 6 rfl) ?_
  refine lv_iconst (v := nI 3) hx hb dL_law_1536 (by decide) ?_
  refine xn_iadd hx hb dL_law_1537 ?_
  refine x_sld (k := i + 3) hx hb hX hbl hbA hw.2.2 (by omega) hL dL_law_1538 ?_
  refine x_callVL (q := 30) (C := RX11) (As := [.int (xs (i + 1)), .int (xs (i + 2)), .int (xs (i + 3))]) (rest := []) ⟨hx, hb, hml, hown, hts⟩ (h2 _) (cwV 3 hts gL_law_X11_unrealizedAfterSale rfl rfl rfl (by decide +kernel) ⟨Nat.le_of_ble_eq_true rfl, Nat.le_of_ble_eq_true rfl⟩) hK hw (fun _ h => h) (ws_recv hK hw (q := 30) (by decide) (mk_30 cA α) rfl) rfl hl.1 rfl (Nat.le_of_ble_eq_true rfl) dL_law_1539 hcc (fun S9 eS9 H locs hw => ?_)
  rw [eS9] at hw
  refine lv_lstore (lv' := [(7, .long b9), (6, .int k), (0, .ref b), (1, .ref (α 0)), (2, .ref (α 30)), (3, .ref (α 191)), (4, .ref (α 192)), (5, .int (nI i))]) hx hb dL_law_1542 hl (by decide) rfl (fun ls hl => ?_)
  refine lv_aload_n hx hb dL_law_1544 rfl (lv_at hl 4 rfl) ?_
  refine x_callVI (q := 30) (C := RX11) (As := []) (rest := []) ⟨hx, hb, hml, hown, hts⟩ (ct_X11_thrown l D cA α 193 _ (by decide) S2) (cwV 0 hts gL_law_X11_thrown rfl rfl rfl (by decide +kernel) ⟨Nat.le_of_ble_eq_true rfl, Nat.le_of_ble_eq_true rfl⟩) hK hw (fun _ h => h) (ws_recv hK hw (q := 30) (by decide) (mk_30 cA α) rfl) rfl hl.1 rfl (Nat.le_of_ble_eq_true rfl) dL_law_1545 hcc (fun S9 eS9 H locs hw => ?_)
  rw [eS9] at hw
  refine x_topE (y := k) h3 ?_
  refine lv_iload hx hb dL_law_1548 (lv_at hl 1 rfl) ?_
  refine lv_icmp_eq (tgt := 1555) hx hb dL_law_1550 (by decide) (fun c1 => ?_) (fun c1 => absurd rfl c1)
  refine lv_iload hx hb dL_law_1555 (lv_at hl 1 rfl) ?_
  refine lv_if_ne (tgt := 1571) hx hb dL_law_1557 (by decide) (fun c2 => ?_) (fun c2 => ?_)
  · skip
    refine lv_goto (tgt := 2471) hx hb dL_law_1571 (by decide) ?_
    exact kk _ _ _ _ _ _ h5 hw (lv_sub hl [2, 3, 4, 5, 6, 7] rfl) (Nat.le_refl _) (Nat.le_refl _)
  · skip
    refine lv_aload_n hx hb dL_law_1560 rfl (lv_at hl 5 rfl) ?_
    refine lv_iconst (v := nI 0) hx hb dL_law_1561 (by decide) ?_
    refine x_lald hx hb hK hw 191 1 (by decide) (mk_191 cA α) 0 rfl (by decide) (by decide) dL_law_1562 ?_
    refine lv_lload hx hb dL_law_1563 (lv_at hl 0 rfl) ?_
    refine x_lcmp_eq (tgt := 1571) hx hb dL_law_1565 dL_law_1566 (by decide) (fun c3 => ?_) (fun c3 => absurd (h4 (c2.trans nI_0.symm)) c3)
    refine lv_goto (tgt := 2471) hx hb dL_law_1571 (by decide) ?_
    exact kk _ _ _ _ _ _ h5 hw (lv_sub hl [2, 3, 4, 5, 6, 7] rfl) (Nat.le_refl _) (Nat.le_refl _)

set_option maxRecDepth 100000 in
set_option maxHeartbeats 1000000 in
theorem lc_25 (C : LX p l s m meth c b L xs sa ka va D cA α) {S : Mem} {i cells slots : Nat} {H : Heap} {locs : List Loc} {ls : Array Slot} (hi : i + 6 ≤ L) (hR : Rel S) (hcs : cells + 1 ≤ 601024 ∧ slots + 6 ≤ 7293034) (hw : Ws D cA α 193 (Aw α 193 s.heap.size) s.heap S H locs) (hl : lv_has ls 10 [(0, .ref b), (1, .ref (α 0)), (2, .ref (α 30)), (3, .ref (α 191)), (4, .ref (α 192)), (5, .int (nI i))]) (kk : Kk p l e s m below meth c b D cA α i cells slots) : W p l e room_1 s m #[Value.ref b] below meth c H locs cells slots (lw_Z below #[Value.ref b] s) (F0 m 1574 ls []) := by
  obtain ⟨⟨hx, hb, hr, hml, hown, hts, hX, hbl, hlocks, hgv⟩, hst, hK, hV, hbA, hL⟩ := C
  have hown : s.vm.findClass RL = some m.cls := hown
  obtain ⟨k, S1, b9, S2, h1, h2, h3, h4, hfn, h5⟩ := sp_averageMargin (l := l) (sa := sa) (ka := ka) (va := va) (D := D) (cA := cA) (α := α) hst hR (xs (i + 1))
  refine lv_aload_n hx hb dL_law_1574 rfl (lv_at hl 1 rfl) ?_
  refine lv_aload_n hx hb dL_law_1575 rfl (lv_at hl 0 rfl) ?_
  refine lv_iload hx hb dL_law_1576 (lv_at hl 5 rfl) ?_
  refine lv_iconst (v := nI 1) hx hb dL_law_1578 (by decide) ?_
  refine xn_iadd hx hb dL_law_1579 ?_
  refine x_sld (k := i + 1) hx hb hX hbl hbA hw.2.2 (by omega) hL dL_law_1580 ?_
  refine lv_aload hx hb dL_law_1581 (lv_at hl 4 rfl) ?_
  refine x_callH (As := [.ref (α 0), .int (xs (i + 1)), .ref (α 192)]) (rest := []) ⟨hx, hb, hml, hown, hts⟩ (h1 _) (vx_cwSW 3 hts gL_law_L_averageMargin rfl rfl rfl (by decide +kernel) ⟨Nat.le_of_ble_eq_true rfl, Nat.le_of_ble_eq_true rfl⟩) hK hw rfl hV rfl hl.1 rfl (Nat.le_of_ble_eq_true rfl) dL_law_1583 hcs (fun S9 eS9 H locs hw => ?_)
  rw [eS9] at hw
  have hcc : cells + 1 ≤ room_1.cells ∧ slots + 6 ≤ room_1.slots := hcs
  refine lv_istore (lv' := [(6, .int k), (0, .ref b), (1, .ref (α 0)), (2, .ref (α 30)), (3, .ref (α 191)), (4, .ref (α 192)), (5, .int (nI i))]) hx hb dL_law_1586 hl (by decide) rfl (fun ls hl => ?_)
  refine lv_aload_n hx hb dL_law_1588 rfl (lv_at hl 3 rfl) ?_
  refine lv_aload_n hx hb dL_law_1589 rfl (lv_at hl 1 rfl) ?_
  refine lv_iload hx hb dL_law_1590 (lv_at hl 6 rfl) ?_
  refine lv_iconst (v := nI 1) hx hb dL_law_1592 (by decide) ?_
  refine xn_iadd hx hb dL_law_1593 ?_
  refine x_sld (k := i + 1) hx hb hX hbl hbA hw.2.2 (by omega) hL dL_law_1594 ?_
  refine x_callVF (q := 30) (C := RX11) (As := [.int (xs (i + 1))]) (rest := []) ⟨hx, hb, hml, hown, hts⟩ (h2 _) (cwV 1 hts gL_law_X11_averageMargin rfl rfl rfl (by decide +kernel) ⟨Nat.le_of_ble_eq_true rfl, Nat.le_of_ble_eq_true rfl⟩) hK hw (fun _ h => h) (ws_recv hK hw (q := 30) (by decide) (mk_30 cA α) rfl) rfl hl.1 rfl (Nat.le_of_ble_eq_true rfl) dL_law_1595 hcc (fun S9 eS9 H locs hw => ?_)
  rw [eS9] at hw
  refine lv_fstore (lv' := [(7, .float b9), (6, .int k), (0, .ref b), (1, .ref (α 0)), (2, .ref (α 30)), (3, .ref (α 191)), (4, .ref (α 192)), (5, .int (nI i))]) hx hb dL_law_1598 hl (by decide) rfl (fun ls hl => ?_)
  refine lv_aload_n hx hb dL_law_1600 rfl (lv_at hl 4 rfl) ?_
  refine x_callVI (q := 30) (C := RX11) (As := []) (rest := []) ⟨hx, hb, hml, hown, hts⟩ (ct_X11_thrown l D cA α 193 _ (by decide) S2) (cwV 0 hts gL_law_X11_thrown rfl rfl rfl (by decide +kernel) ⟨Nat.le_of_ble_eq_true rfl, Nat.le_of_ble_eq_true rfl⟩) hK hw (fun _ h => h) (ws_recv hK hw (q := 30) (by decide) (mk_30 cA α) rfl) rfl hl.1 rfl (Nat.le_of_ble_eq_true rfl) dL_law_1601 hcc (fun S9 eS9 H locs hw => ?_)
  rw [eS9] at hw
  refine x_topE (y := k) h3 ?_
  refine lv_iload hx hb dL_law_1604 (lv_at hl 1 rfl) ?_
  refine lv_icmp_eq (tgt := 1611) hx hb dL_law_1606 (by decide) (fun c1 => ?_) (fun c1 => absurd rfl c1)
  refine lv_iload hx hb dL_law_1611 (lv_at hl 1 rfl) ?_
  refine lv_if_ne (tgt := 1649) hx hb dL_law_1613 (by decide) (fun c2 => ?_) (fun c2 => ?_)
  · skip
    refine lv_goto (tgt := 2471) hx hb dL_law_1649 (by decide) ?_
    exact kk _ _ _ _ _ _ h5 hw (lv_sub hl [2, 3, 4, 5, 6, 7] rfl) (Nat.le_refl _) (Nat.le_refl _)
  · skip
    have e9 : (S2.2 192 0).toUInt64 = FP.f2d b9 := by rw [h4 (c2.trans nI_0.symm)]; simp
    refine lv_aload hx hb dL_law_1616 (lv_at hl 6 rfl) ?_
    refine lv_iconst (v := nI 0) hx hb dL_law_1618 (by decide) ?_
    refine x_dald hx hb hK hw 192 1 (by decide) (mk_192 cA α) 0 rfl (by decide) (by decide) dL_law_1619 ?_
    rw [e9]
    refine lv_fload hx hb dL_law_1620 (lv_at hl 0 rfl) ?_
    refine lv_f2d hx hb dL_law_1622 (fl_n64 (fl_f2d hfn)) ?_
    refine lv_dcmp hx hb dL_law_1623 ?_
    refine x_topE (y := 0) (fl_self (fl_f2d hfn) _) ?_
    refine lv_if_eq (tgt := 1649) hx hb dL_law_1624 (by decide) (fun c3 => ?_) (fun c3 => absurd rfl c3)
    refine lv_goto (tgt := 2471) hx hb dL_law_1649 (by decide) ?_
    exact kk _ _ _ _ _ _ h5 hw (lv_sub hl [2, 3, 4, 5, 6, 7] rfl) (Nat.le_refl _) (Nat.le_refl _)

set_option maxRecDepth 100000 in
set_option maxHeartbeats 1000000 in
theorem lc_26 (C : LX p l s m meth c b L xs sa ka va D cA α) {S : Mem} {i cells slots : Nat} {H : Heap} {locs : List Loc} {ls : Array Slot} (hi : i + 6 ≤ L) (hR : Rel S) (hcs : cells + 1 ≤ 601024 ∧ slots + 6 ≤ 7293034) (hw : Ws D cA α 193 (Aw α 193 s.heap.size) s.heap S H locs) (hl : lv_has ls 10 [(0, .ref b), (1, .ref (α 0)), (2, .ref (α 30)), (3, .ref (α 191)), (4, .ref (α 192)), (5, .int (nI i))]) (kk : Kk p l e s m below meth c b D cA α i cells slots) : W p l e room_1 s m #[Value.ref b] below meth c H locs cells slots (lw_Z below #[Value.ref b] s) (F0 m 1652 ls []) := by
  obtain ⟨⟨hx, hb, hr, hml, hown, hts, hX, hbl, hlocks, hgv⟩, hst, hK, hV, hbA, hL⟩ := C
  have hown : s.vm.findClass RL = some m.cls := hown
  obtain ⟨k, S1, b9, S2, h1, h2, h3, h4, h5⟩ := sp_gap (l := l) (sa := sa) (ka := ka) (va := va) (D := D) (cA := cA) (α := α) hst hR (xs (i + 1))
  refine lv_aload_n hx hb dL_law_1652 rfl (lv_at hl 1 rfl) ?_
  refine lv_aload_n hx hb dL_law_1653 rfl (lv_at hl 0 rfl) ?_
  refine lv_iload hx hb dL_law_1654 (lv_at hl 5 rfl) ?_
  refine lv_iconst (v := nI 1) hx hb dL_law_1656 (by decide) ?_
  refine xn_iadd hx hb dL_law_1657 ?_
  refine x_sld (k := i + 1) hx hb hX hbl hbA hw.2.2 (by omega) hL dL_law_1658 ?_
  refine lv_aload_n hx hb dL_law_1659 rfl (lv_at hl 3 rfl) ?_
  refine x_callH (As := [.ref (α 0), .int (xs (i + 1)), .ref (α 191)]) (rest := []) ⟨hx, hb, hml, hown, hts⟩ (h1 _) (vx_cwSW 3 hts gL_law_L_gap rfl rfl rfl (by decide +kernel) ⟨Nat.le_of_ble_eq_true rfl, Nat.le_of_ble_eq_true rfl⟩) hK hw rfl hV rfl hl.1 rfl (Nat.le_of_ble_eq_true rfl) dL_law_1660 hcs (fun S9 eS9 H locs hw => ?_)
  rw [eS9] at hw
  have hcc : cells + 1 ≤ room_1.cells ∧ slots + 6 ≤ room_1.slots := hcs
  refine lv_istore (lv' := [(6, .int k), (0, .ref b), (1, .ref (α 0)), (2, .ref (α 30)), (3, .ref (α 191)), (4, .ref (α 192)), (5, .int (nI i))]) hx hb dL_law_1663 hl (by decide) rfl (fun ls hl => ?_)
  refine lv_aload_n hx hb dL_law_1665 rfl (lv_at hl 3 rfl) ?_
  refine lv_aload_n hx hb dL_law_1666 rfl (lv_at hl 1 rfl) ?_
  refine lv_iload hx hb dL_law_1667 (lv_at hl 6 rfl) ?_
  refine lv_iconst (v := nI 1) hx hb dL_law_1669 (by decide) ?_
  refine xn_iadd hx hb dL_law_1670 ?_
  refine x_sld (k := i + 1) hx hb hX hbl hbA hw.2.2 (by omega) hL dL_law_1671 ?_
  refine x_callVL (q := 30) (C := RX11) (As := [.int (xs (i + 1))]) (rest := []) ⟨hx, hb, hml, hown, hts⟩ (h2 _) (cwV 1 hts gL_law_X11_gap rfl rfl rfl (by decide +kernel) ⟨Nat.le_of_ble_eq_true rfl, Nat.le_of_ble_eq_true rfl⟩) hK hw (fun _ h => h) (ws_recv hK hw (q := 30) (by decide) (mk_30 cA α) rfl) rfl hl.1 rfl (Nat.le_of_ble_eq_true rfl) dL_law_1672 hcc (fun S9 eS9 H locs hw => ?_)
  rw [eS9] at hw
  refine lv_lstore (lv' := [(7, .long b9), (6, .int k), (0, .ref b), (1, .ref (α 0)), (2, .ref (α 30)), (3, .ref (α 191)), (4, .ref (α 192)), (5, .int (nI i))]) hx hb dL_law_1675 hl (by decide) rfl (fun ls hl => ?_)
  refine lv_aload_n hx hb dL_law_1677 rfl (lv_at hl 4 rfl) ?_
  refine x_callVI (q := 30) (C := RX11) (As := []) (rest := []) ⟨hx, hb, hml, hown, hts⟩ (ct_X11_thrown l D cA α 193 _ (by decide) S2) (cwV 0 hts gL_law_X11_thrown rfl rfl rfl (by decide +kernel) ⟨Nat.le_of_ble_eq_true rfl, Nat.le_of_ble_eq_true rfl⟩) hK hw (fun _ h => h) (ws_recv hK hw (q := 30) (by decide) (mk_30 cA α) rfl) rfl hl.1 rfl (Nat.le_of_ble_eq_true rfl) dL_law_1678 hcc (fun S9 eS9 H locs hw => ?_)
  rw [eS9] at hw
  refine x_topE (y := k) h3 ?_
  refine lv_iload hx hb dL_law_1681 (lv_at hl 1 rfl) ?_
  refine lv_icmp_eq (tgt := 1688) hx hb dL_law_1683 (by decide) (fun c1 => ?_) (fun c1 => absurd rfl c1)
  refine lv_iload hx hb dL_law_1688 (lv_at hl 1 rfl) ?_
  refine lv_if_ne (tgt := 1704) hx hb dL_law_1690 (by decide) (fun c2 => ?_) (fun c2 => ?_)
  · skip
    refine lv_goto (tgt := 2471) hx hb dL_law_1704 (by decide) ?_
    exact kk _ _ _ _ _ _ h5 hw (lv_sub hl [2, 3, 4, 5, 6, 7] rfl) (Nat.le_refl _) (Nat.le_refl _)
  · skip
    refine lv_aload_n hx hb dL_law_1693 rfl (lv_at hl 5 rfl) ?_
    refine lv_iconst (v := nI 0) hx hb dL_law_1694 (by decide) ?_
    refine x_lald hx hb hK hw 191 1 (by decide) (mk_191 cA α) 0 rfl (by decide) (by decide) dL_law_1695 ?_
    refine lv_lload hx hb dL_law_1696 (lv_at hl 0 rfl) ?_
    refine x_lcmp_eq (tgt := 1704) hx hb dL_law_1698 dL_law_1699 (by decide) (fun c3 => ?_) (fun c3 => absurd (h4 (c2.trans nI_0.symm)) c3)
    refine lv_goto (tgt := 2471) hx hb dL_law_1704 (by decide) ?_
    exact kk _ _ _ _ _ _ h5 hw (lv_sub hl [2, 3, 4, 5, 6, 7] rfl) (Nat.le_refl _) (Nat.le_refl _)

set_option maxRecDepth 100000 in
set_option maxHeartbeats 1000000 in
theorem lc_27 (C : LX p l s m meth c b L xs sa ka va D cA α) {S : Mem} {i cells slots : Nat} {H : Heap} {locs : List Loc} {ls : Array Slot} (hi : i + 6 ≤ L) (hR : Rel S) (hcs : cells + 1 ≤ 601024 ∧ slots + 6 ≤ 7293034) (hw : Ws D cA α 193 (Aw α 193 s.heap.size) s.heap S H locs) (hl : lv_has ls 10 [(0, .ref b), (1, .ref (α 0)), (2, .ref (α 30)), (3, .ref (α 191)), (4, .ref (α 192)), (5, .int (nI i))]) (kk : Kk p l e s m below meth c b D cA α i cells slots) : W p l e room_1 s m #[Value.ref b] below meth c H locs cells slots (lw_Z below #[Value.ref b] s) (F0 m 1707 ls []) := by
  obtain ⟨⟨hx, hb, hr, hml, hown, hts, hX, hbl, hlocks, hgv⟩, hst, hK, hV, hbA, hL⟩ := C
  have hown : s.vm.findClass RL = some m.cls := hown
  obtain ⟨k, S1, b9, S2, h1, h2, h3, h4, h5⟩ := sp_gapsOf (l := l) (sa := sa) (ka := ka) (va := va) (D := D) (cA := cA) (α := α) hst hR (xs (i + 1))
  refine lv_aload_n hx hb dL_law_1707 rfl (lv_at hl 1 rfl) ?_
  refine lv_aload_n hx hb dL_law_1708 rfl (lv_at hl 0 rfl) ?_
  refine lv_iload hx hb dL_law_1709 (lv_at hl 5 rfl) ?_
  refine lv_iconst (v := nI 1) hx hb dL_law_1711 (by decide) ?_
  refine xn_iadd hx hb dL_law_1712 ?_
  refine x_sld (k := i + 1) hx hb hX hbl hbA hw.2.2 (by omega) hL dL_law_1713 ?_
  refine lv_aload_n hx hb dL_law_1714 rfl (lv_at hl 3 rfl) ?_
  refine x_callH (As := [.ref (α 0), .int (xs (i + 1)), .ref (α 191)]) (rest := []) ⟨hx, hb, hml, hown, hts⟩ (h1 _) (vx_cwSW 3 hts gL_law_L_gapsOf rfl rfl rfl (by decide +kernel) ⟨Nat.le_of_ble_eq_true rfl, Nat.le_of_ble_eq_true rfl⟩) hK hw rfl hV rfl hl.1 rfl (Nat.le_of_ble_eq_true rfl) dL_law_1715 hcs (fun S9 eS9 H locs hw => ?_)
  rw [eS9] at hw
  have hcc : cells + 1 ≤ room_1.cells ∧ slots + 6 ≤ room_1.slots := hcs
  refine lv_istore (lv' := [(6, .int k), (0, .ref b), (1, .ref (α 0)), (2, .ref (α 30)), (3, .ref (α 191)), (4, .ref (α 192)), (5, .int (nI i))]) hx hb dL_law_1718 hl (by decide) rfl (fun ls hl => ?_)
  refine lv_aload_n hx hb dL_law_1720 rfl (lv_at hl 3 rfl) ?_
  refine lv_aload_n hx hb dL_law_1721 rfl (lv_at hl 1 rfl) ?_
  refine lv_iload hx hb dL_law_1722 (lv_at hl 6 rfl) ?_
  refine lv_iconst (v := nI 1) hx hb dL_law_1724 (by decide) ?_
  refine xn_iadd hx hb dL_law_1725 ?_
  refine x_sld (k := i + 1) hx hb hX hbl hbA hw.2.2 (by omega) hL dL_law_1726 ?_
  refine x_callVL (q := 30) (C := RX11) (As := [.int (xs (i + 1))]) (rest := []) ⟨hx, hb, hml, hown, hts⟩ (h2 _) (cwV 1 hts gL_law_X11_gapsOf rfl rfl rfl (by decide +kernel) ⟨Nat.le_of_ble_eq_true rfl, Nat.le_of_ble_eq_true rfl⟩) hK hw (fun _ h => h) (ws_recv hK hw (q := 30) (by decide) (mk_30 cA α) rfl) rfl hl.1 rfl (Nat.le_of_ble_eq_true rfl) dL_law_1727 hcc (fun S9 eS9 H locs hw => ?_)
  rw [eS9] at hw
  refine lv_lstore (lv' := [(7, .long b9), (6, .int k), (0, .ref b), (1, .ref (α 0)), (2, .ref (α 30)), (3, .ref (α 191)), (4, .ref (α 192)), (5, .int (nI i))]) hx hb dL_law_1730 hl (by decide) rfl (fun ls hl => ?_)
  refine lv_aload_n hx hb dL_law_1732 rfl (lv_at hl 4 rfl) ?_
  refine x_callVI (q := 30) (C := RX11) (As := []) (rest := []) ⟨hx, hb, hml, hown, hts⟩ (ct_X11_thrown l D cA α 193 _ (by decide) S2) (cwV 0 hts gL_law_X11_thrown rfl rfl rfl (by decide +kernel) ⟨Nat.le_of_ble_eq_true rfl, Nat.le_of_ble_eq_true rfl⟩) hK hw (fun _ h => h) (ws_recv hK hw (q := 30) (by decide) (mk_30 cA α) rfl) rfl hl.1 rfl (Nat.le_of_ble_eq_true rfl) dL_law_1733 hcc (fun S9 eS9 H locs hw => ?_)
  rw [eS9] at hw
  refine x_topE (y := k) h3 ?_
  refine lv_iload hx hb dL_law_1736 (lv_at hl 1 rfl) ?_
  refine lv_icmp_eq (tgt := 1743) hx hb dL_law_1738 (by decide) (fun c1 => ?_) (fun c1 => absurd rfl c1)
  refine lv_iload hx hb dL_law_1743 (lv_at hl 1 rfl) ?_
  refine lv_if_ne (tgt := 1759) hx hb dL_law_1745 (by decide) (fun c2 => ?_) (fun c2 => ?_)
  · skip
    refine lv_goto (tgt := 2471) hx hb dL_law_1759 (by decide) ?_
    exact kk _ _ _ _ _ _ h5 hw (lv_sub hl [2, 3, 4, 5, 6, 7] rfl) (Nat.le_refl _) (Nat.le_refl _)
  · skip
    refine lv_aload_n hx hb dL_law_1748 rfl (lv_at hl 5 rfl) ?_
    refine lv_iconst (v := nI 0) hx hb dL_law_1749 (by decide) ?_
    refine x_lald hx hb hK hw 191 1 (by decide) (mk_191 cA α) 0 rfl (by decide) (by decide) dL_law_1750 ?_
    refine lv_lload hx hb dL_law_1751 (lv_at hl 0 rfl) ?_
    refine x_lcmp_eq (tgt := 1759) hx hb dL_law_1753 dL_law_1754 (by decide) (fun c3 => ?_) (fun c3 => absurd (h4 (c2.trans nI_0.symm)) c3)
    refine lv_goto (tgt := 2471) hx hb dL_law_1759 (by decide) ?_
    exact kk _ _ _ _ _ _ h5 hw (lv_sub hl [2, 3, 4, 5, 6, 7] rfl) (Nat.le_refl _) (Nat.le_refl _)

set_option maxRecDepth 100000 in
set_option maxHeartbeats 1000000 in
theorem lc_28 (C : LX p l s m meth c b L xs sa ka va D cA α) {S : Mem} {i cells slots : Nat} {H : Heap} {locs : List Loc} {ls : Array Slot} (hi : i + 6 ≤ L) (hR : Rel S) (hcs : cells + 1 ≤ 601024 ∧ slots + 6 ≤ 7293034) (hw : Ws D cA α 193 (Aw α 193 s.heap.size) s.heap S H locs) (hl : lv_has ls 10 [(0, .ref b), (1, .ref (α 0)), (2, .ref (α 30)), (3, .ref (α 191)), (4, .ref (α 192)), (5, .int (nI i))]) (kk : Kk p l e s m below meth c b D cA α i cells slots) : W p l e room_1 s m #[Value.ref b] below meth c H locs cells slots (lw_Z below #[Value.ref b] s) (F0 m 1762 ls []) := by
  obtain ⟨⟨hx, hb, hr, hml, hown, hts, hX, hbl, hlocks, hgv⟩, hst, hK, hV, hbA, hL⟩ := C
  have hown : s.vm.findClass RL = some m.cls := hown
  obtain ⟨k, S1, b9, S2, h1, h2, h3, h4, h5⟩ := sp_book (l := l) (sa := sa) (ka := ka) (va := va) (D := D) (cA := cA) (α := α) hst hR (xs (i + 1)) (xs (i + 2)) (xs (i + 3)) (xs (i + 4)) (xs (i + 5))
  refine lv_aload_n hx hb dL_law_1762 rfl (lv_at hl 1 rfl) ?_
  refine lv_aload_n hx hb dL_law_1763 rfl (lv_at hl 0 rfl) ?_
  refine lv_iload hx hb dL_law_1764 (lv_at hl 5 rfl) ?_
  refine lv_iconst (v := nI 1) hx hb dL_law_1766 (by decide) ?_
  refine xn_iadd hx hb dL_law_1767 ?_
  refine x_sld (k := i + 1) hx hb hX hbl hbA hw.2.2 (by omega) hL dL_law_1768 ?_
  refine lv_aload_n hx hb dL_law_1769 rfl (lv_at hl 0 rfl) ?_
  refine lv_iload hx hb dL_law_1770 (lv_at hl 5 rfl) ?_
  refine lv_iconst (v := nI 2) hx hb dL_law_1772 (by decide) ?_
  refine xn_iadd hx hb dL_law_1773 ?_
  refine x_sld (k := i + 2) hx hb hX hbl hbA hw.2.2 (by omega) hL dL_law_1774 ?_
  refine lv_aload_n hx hb dL_law_1775 rfl (lv_at hl 0 rfl) ?_
  refine lv_iload hx hb dL_law_1776 (lv_at hl 5 rfl) ?_
  refine lv_iconst (v := nI 3) hx hb dL_law_1778 (by decide) ?_
  refine xn_iadd hx hb dL_law_1779 ?_
  refine x_sld (k := i + 3) hx hb hX hbl hbA hw.2.2 (by omega) hL dL_law_1780 ?_
  refine lv_aload_n hx hb dL_law_1781 rfl (lv_at hl 0 rfl) ?_
  refine lv_iload hx hb dL_law_1782 (lv_at hl 5 rfl) ?_
  refine lv_iconst (v := nI 4) hx hb dL_law_1784 (by decide) ?_
  refine xn_iadd hx hb dL_law_1785 ?_
  refine x_sld (k := i + 4) hx hb hX hbl hbA hw.2.2 (by omega) hL dL_law_1786 ?_
  refine lv_aload_n hx hb dL_law_1787 rfl (lv_at hl 0 rfl) ?_
  refine lv_iload hx hb dL_law_1788 (lv_at hl 5 rfl) ?_
  refine lv_iconst (v := nI 5) hx hb dL_law_1790 (by decide) ?_
  refine xn_iadd hx hb dL_law_1791 ?_
  refine x_sld (k := i + 5) hx hb hX hbl hbA hw.2.2 (by omega) hL dL_law_1792 ?_
  refine lv_aload_n hx hb dL_law_1793 rfl (lv_at hl 3 rfl) ?_
  refine x_callH (As := [.ref (α 0), .int (xs (i + 1)), .int (xs (i + 2)), .int (xs (i + 3)), .int (xs (i + 4)), .int (xs (i + 5)), .ref (α 191)]) (rest := []) ⟨hx, hb, hml, hown, hts⟩ (h1 _) (vx_cwSW 7 hts gL_law_L_book rfl rfl rfl (by decide +kernel) ⟨Nat.le_of_ble_eq_true rfl, Nat.le_of_ble_eq_true rfl⟩) hK hw rfl hV rfl hl.1 rfl (Nat.le_of_ble_eq_true rfl) dL_law_1794 hcs (fun S9 eS9 H locs hw => ?_)
  rw [eS9] at hw
  have hcc : cells + 1 ≤ room_1.cells ∧ slots + 6 ≤ room_1.slots := hcs
  refine lv_istore (lv' := [(6, .int k), (0, .ref b), (1, .ref (α 0)), (2, .ref (α 30)), (3, .ref (α 191)), (4, .ref (α 192)), (5, .int (nI i))]) hx hb dL_law_1797 hl (by decide) rfl (fun ls hl => ?_)
  refine lv_aload_n hx hb dL_law_1799 rfl (lv_at hl 3 rfl) ?_
  refine lv_aload_n hx hb dL_law_1800 rfl (lv_at hl 1 rfl) ?_
  refine lv_iload hx hb dL_law_1801 (lv_at hl 6 rfl) ?_
  refine lv_iconst (v := nI 1) hx hb dL_law_1803 (by decide) ?_
  refine xn_iadd hx hb dL_law_1804 ?_
  refine x_sld (k := i + 1) hx hb hX hbl hbA hw.2.2 (by omega) hL dL_law_1805 ?_
  refine lv_aload_n hx hb dL_law_1806 rfl (lv_at hl 1 rfl) ?_
  refine lv_iload hx hb dL_law_1807 (lv_at hl 6 rfl) ?_
  refine lv_iconst (v := nI 2) hx hb dL_law_1809 (by decide) ?_
  refine xn_iadd hx hb dL_law_1810 ?_
  refine x_sld (k := i + 2) hx hb hX hbl hbA hw.2.2 (by omega) hL dL_law_1811 ?_
  refine lv_aload_n hx hb dL_law_1812 rfl (lv_at hl 1 rfl) ?_
  refine lv_iload hx hb dL_law_1813 (lv_at hl 6 rfl) ?_
  refine lv_iconst (v := nI 3) hx hb dL_law_1815 (by decide) ?_
  refine xn_iadd hx hb dL_law_1816 ?_
  refine x_sld (k := i + 3) hx hb hX hbl hbA hw.2.2 (by omega) hL dL_law_1817 ?_
  refine lv_aload_n hx hb dL_law_1818 rfl (lv_at hl 1 rfl) ?_
  refine lv_iload hx hb dL_law_1819 (lv_at hl 6 rfl) ?_
  refine lv_iconst (v := nI 4) hx hb dL_law_1821 (by decide) ?_
  refine xn_iadd hx hb dL_law_1822 ?_
  refine x_sld (k := i + 4) hx hb hX hbl hbA hw.2.2 (by omega) hL dL_law_1823 ?_
  refine lv_aload_n hx hb dL_law_1824 rfl (lv_at hl 1 rfl) ?_
  refine lv_iload hx hb dL_law_1825 (lv_at hl 6 rfl) ?_
  refine lv_iconst (v := nI 5) hx hb dL_law_1827 (by decide) ?_
  refine xn_iadd hx hb dL_law_1828 ?_
  refine x_sld (k := i + 5) hx hb hX hbl hbA hw.2.2 (by omega) hL dL_law_1829 ?_
  refine x_callVI (q := 30) (C := RX11) (As := [.int (xs (i + 1)), .int (xs (i + 2)), .int (xs (i + 3)), .int (xs (i + 4)), .int (xs (i + 5))]) (rest := []) ⟨hx, hb, hml, hown, hts⟩ (h2 _) (cwV 5 hts gL_law_X11_book rfl rfl rfl (by decide +kernel) ⟨Nat.le_of_ble_eq_true rfl, Nat.le_of_ble_eq_true rfl⟩) hK hw (fun _ h => h) (ws_recv hK hw (q := 30) (by decide) (mk_30 cA α) rfl) rfl hl.1 rfl (Nat.le_of_ble_eq_true rfl) dL_law_1830 hcc (fun S9 eS9 H locs hw => ?_)
  rw [eS9] at hw
  refine lv_istore (lv' := [(7, .int b9), (6, .int k), (0, .ref b), (1, .ref (α 0)), (2, .ref (α 30)), (3, .ref (α 191)), (4, .ref (α 192)), (5, .int (nI i))]) hx hb dL_law_1833 hl (by decide) rfl (fun ls hl => ?_)
  refine lv_aload_n hx hb dL_law_1835 rfl (lv_at hl 4 rfl) ?_
  refine x_callVI (q := 30) (C := RX11) (As := []) (rest := []) ⟨hx, hb, hml, hown, hts⟩ (ct_X11_thrown l D cA α 193 _ (by decide) S2) (cwV 0 hts gL_law_X11_thrown rfl rfl rfl (by decide +kernel) ⟨Nat.le_of_ble_eq_true rfl, Nat.le_of_ble_eq_true rfl⟩) hK hw (fun _ h => h) (ws_recv hK hw (q := 30) (by decide) (mk_30 cA α) rfl) rfl hl.1 rfl (Nat.le_of_ble_eq_true rfl) dL_law_1836 hcc (fun S9 eS9 H locs hw => ?_)
  rw [eS9] at hw
  refine x_topE (y := k) h3 ?_
  refine lv_iload hx hb dL_law_1839 (lv_at hl 1 rfl) ?_
  refine lv_icmp_eq (tgt := 1846) hx hb dL_law_1841 (by decide) (fun c1 => ?_) (fun c1 => absurd rfl c1)
  refine lv_iload hx hb dL_law_1846 (lv_at hl 1 rfl) ?_
  refine lv_if_ne (tgt := 1863) hx hb dL_law_1848 (by decide) (fun c2 => ?_) (fun c2 => ?_)
  · skip
    refine lv_goto (tgt := 2471) hx hb dL_law_1863 (by decide) ?_
    exact kk _ _ _ _ _ _ h5 hw (lv_sub hl [2, 3, 4, 5, 6, 7] rfl) (Nat.le_refl _) (Nat.le_refl _)
  · skip
    refine lv_aload_n hx hb dL_law_1851 rfl (lv_at hl 5 rfl) ?_
    refine lv_iconst (v := nI 0) hx hb dL_law_1852 (by decide) ?_
    refine x_lald hx hb hK hw 191 1 (by decide) (mk_191 cA α) 0 rfl (by decide) (by decide) dL_law_1853 ?_
    refine lv_iload hx hb dL_law_1854 (lv_at hl 0 rfl) ?_
    refine lv_i2l hx hb dL_law_1856 rfl ?_
    refine x_lcmp_eq (tgt := 1863) hx hb dL_law_1857 dL_law_1858 (by decide) (fun c3 => ?_) (fun c3 => absurd (h4 (c2.trans nI_0.symm)) c3)
    refine lv_goto (tgt := 2471) hx hb dL_law_1863 (by decide) ?_
    exact kk _ _ _ _ _ _ h5 hw (lv_sub hl [2, 3, 4, 5, 6, 7] rfl) (Nat.le_refl _) (Nat.le_refl _)

set_option maxRecDepth 100000 in
set_option maxHeartbeats 1000000 in
theorem lc_29 (C : LX p l s m meth c b L xs sa ka va D cA α) {S : Mem} {i cells slots : Nat} {H : Heap} {locs : List Loc} {ls : Array Slot} (hi : i + 6 ≤ L) (hR : Rel S) (hcs : cells + 1 ≤ 601024 ∧ slots + 6 ≤ 7293034) (hw : Ws D cA α 193 (Aw α 193 s.heap.size) s.heap S H locs) (hl : lv_has ls 10 [(0, .ref b), (1, .ref (α 0)), (2, .ref (α 30)), (3, .ref (α 191)), (4, .ref (α 192)), (5, .int (nI i))]) (kk : Kk p l e s m below meth c b D cA α i cells slots) : W p l e room_1 s m #[Value.ref b] below meth c H locs cells slots (lw_Z below #[Value.ref b] s) (F0 m 1866 ls []) := by
  obtain ⟨⟨hx, hb, hr, hml, hown, hts, hX, hbl, hlocks, hgv⟩, hst, hK, hV, hbA, hL⟩ := C
  have hown : s.vm.findClass RL = some m.cls := hown
  obtain ⟨k, S1, b9, S2, h1, h2, h3, h4, h5⟩ := sp_cancel (l := l) (sa := sa) (ka := ka) (va := va) (D := D) (cA := cA) (α := α) hst hR (xs (i + 1))
  refine lv_aload_n hx hb dL_law_1866 rfl (lv_at hl 1 rfl) ?_
  refine lv_aload_n hx hb dL_law_1867 rfl (lv_at hl 0 rfl) ?_
  refine lv_iload hx hb dL_law_1868 (lv_at hl 5 rfl) ?_
  refine lv_iconst (v := nI 1) hx hb dL_law_1870 (by decide) ?_
  refine xn_iadd hx hb dL_law_1871 ?_
  refine x_sld (k := i + 1) hx hb hX hbl hbA hw.2.2 (by omega) hL dL_law_1872 ?_
  refine lv_aload_n hx hb dL_law_1873 rfl (lv_at hl 3 rfl) ?_
  refine x_callH (As := [.ref (α 0), .int (xs (i + 1)), .ref (α 191)]) (rest := []) ⟨hx, hb, hml, hown, hts⟩ (h1 _) (vx_cwSW 3 hts gL_law_L_cancel rfl rfl rfl (by decide +kernel) ⟨Nat.le_of_ble_eq_true rfl, Nat.le_of_ble_eq_true rfl⟩) hK hw rfl hV rfl hl.1 rfl (Nat.le_of_ble_eq_true rfl) dL_law_1874 hcs (fun S9 eS9 H locs hw => ?_)
  rw [eS9] at hw
  have hcc : cells + 1 ≤ room_1.cells ∧ slots + 6 ≤ room_1.slots := hcs
  refine lv_istore (lv' := [(6, .int k), (0, .ref b), (1, .ref (α 0)), (2, .ref (α 30)), (3, .ref (α 191)), (4, .ref (α 192)), (5, .int (nI i))]) hx hb dL_law_1877 hl (by decide) rfl (fun ls hl => ?_)
  refine lv_aload_n hx hb dL_law_1879 rfl (lv_at hl 3 rfl) ?_
  refine lv_aload_n hx hb dL_law_1880 rfl (lv_at hl 1 rfl) ?_
  refine lv_iload hx hb dL_law_1881 (lv_at hl 6 rfl) ?_
  refine lv_iconst (v := nI 1) hx hb dL_law_1883 (by decide) ?_
  refine xn_iadd hx hb dL_law_1884 ?_
  refine x_sld (k := i + 1) hx hb hX hbl hbA hw.2.2 (by omega) hL dL_law_1885 ?_
  refine x_callVL (q := 30) (C := RX11) (As := [.int (xs (i + 1))]) (rest := []) ⟨hx, hb, hml, hown, hts⟩ (h2 _) (cwV 1 hts gL_law_X11_cancel rfl rfl rfl (by decide +kernel) ⟨Nat.le_of_ble_eq_true rfl, Nat.le_of_ble_eq_true rfl⟩) hK hw (fun _ h => h) (ws_recv hK hw (q := 30) (by decide) (mk_30 cA α) rfl) rfl hl.1 rfl (Nat.le_of_ble_eq_true rfl) dL_law_1886 hcc (fun S9 eS9 H locs hw => ?_)
  rw [eS9] at hw
  refine lv_lstore (lv' := [(7, .long b9), (6, .int k), (0, .ref b), (1, .ref (α 0)), (2, .ref (α 30)), (3, .ref (α 191)), (4, .ref (α 192)), (5, .int (nI i))]) hx hb dL_law_1889 hl (by decide) rfl (fun ls hl => ?_)
  refine lv_aload_n hx hb dL_law_1891 rfl (lv_at hl 4 rfl) ?_
  refine x_callVI (q := 30) (C := RX11) (As := []) (rest := []) ⟨hx, hb, hml, hown, hts⟩ (ct_X11_thrown l D cA α 193 _ (by decide) S2) (cwV 0 hts gL_law_X11_thrown rfl rfl rfl (by decide +kernel) ⟨Nat.le_of_ble_eq_true rfl, Nat.le_of_ble_eq_true rfl⟩) hK hw (fun _ h => h) (ws_recv hK hw (q := 30) (by decide) (mk_30 cA α) rfl) rfl hl.1 rfl (Nat.le_of_ble_eq_true rfl) dL_law_1892 hcc (fun S9 eS9 H locs hw => ?_)
  rw [eS9] at hw
  refine x_topE (y := k) h3 ?_
  refine lv_iload hx hb dL_law_1895 (lv_at hl 1 rfl) ?_
  refine lv_icmp_eq (tgt := 1902) hx hb dL_law_1897 (by decide) (fun c1 => ?_) (fun c1 => absurd rfl c1)
  refine lv_iload hx hb dL_law_1902 (lv_at hl 1 rfl) ?_
  refine lv_if_ne (tgt := 1918) hx hb dL_law_1904 (by decide) (fun c2 => ?_) (fun c2 => ?_)
  · skip
    refine lv_goto (tgt := 2471) hx hb dL_law_1918 (by decide) ?_
    exact kk _ _ _ _ _ _ h5 hw (lv_sub hl [2, 3, 4, 5, 6, 7] rfl) (Nat.le_refl _) (Nat.le_refl _)
  · skip
    refine lv_aload_n hx hb dL_law_1907 rfl (lv_at hl 5 rfl) ?_
    refine lv_iconst (v := nI 0) hx hb dL_law_1908 (by decide) ?_
    refine x_lald hx hb hK hw 191 1 (by decide) (mk_191 cA α) 0 rfl (by decide) (by decide) dL_law_1909 ?_
    refine lv_lload hx hb dL_law_1910 (lv_at hl 0 rfl) ?_
    refine x_lcmp_eq (tgt := 1918) hx hb dL_law_1912 dL_law_1913 (by decide) (fun c3 => ?_) (fun c3 => absurd (h4 (c2.trans nI_0.symm)) c3)
    refine lv_goto (tgt := 2471) hx hb dL_law_1918 (by decide) ?_
    exact kk _ _ _ _ _ _ h5 hw (lv_sub hl [2, 3, 4, 5, 6, 7] rfl) (Nat.le_refl _) (Nat.le_refl _)

set_option maxRecDepth 100000 in
set_option maxHeartbeats 1000000 in
theorem lc_30 (C : LX p l s m meth c b L xs sa ka va D cA α) {S : Mem} {i cells slots : Nat} {H : Heap} {locs : List Loc} {ls : Array Slot} (hi : i + 6 ≤ L) (hR : Rel S) (hcs : cells + 1 ≤ 601024 ∧ slots + 6 ≤ 7293034) (hw : Ws D cA α 193 (Aw α 193 s.heap.size) s.heap S H locs) (hl : lv_has ls 10 [(0, .ref b), (1, .ref (α 0)), (2, .ref (α 30)), (3, .ref (α 191)), (4, .ref (α 192)), (5, .int (nI i))]) (kk : Kk p l e s m below meth c b D cA α i cells slots) : W p l e room_1 s m #[Value.ref b] below meth c H locs cells slots (lw_Z below #[Value.ref b] s) (F0 m 1921 ls []) := by
  obtain ⟨⟨hx, hb, hr, hml, hown, hts, hX, hbl, hlocks, hgv⟩, hst, hK, hV, hbA, hL⟩ := C
  have hown : s.vm.findClass RL = some m.cls := hown
  obtain ⟨b9, S1, S2, h1, h2, h5⟩ := dp_match (l := l) (D := D) (cA := cA) (α := α) hR 
  have hcc : cells ≤ room_1.cells ∧ slots ≤ room_1.slots := ⟨Nat.le_trans (Nat.le_succ _) hcs.1, Nat.le_trans (Nat.le_add_right _ 6) hcs.2⟩
  refine lv_aload_n hx hb dL_law_1921 rfl (lv_at hl 1 rfl) ?_
  refine x_callVI (q := 0) (C := RX10) (As := []) (rest := []) ⟨hx, hb, hml, hown, hts⟩ (h1 _) (cwV 0 hts gL_law_X10_match rfl rfl rfl (by decide +kernel) ⟨Nat.le_of_ble_eq_true rfl, Nat.le_of_ble_eq_true rfl⟩) hK hw (fun _ h => h) (ws_recv hK hw (q := 0) (by decide) (mk_0 cA α) rfl) rfl hl.1 rfl (Nat.le_of_ble_eq_true rfl) dL_law_1922 hcc (fun S9 eS9 H locs hw => ?_)
  rw [eS9] at hw
  refine lv_aload_n hx hb dL_law_1925 rfl (lv_at hl 2 rfl) ?_
  refine x_callVI (q := 30) (C := RX11) (As := []) (rest := [.int b9]) ⟨hx, hb, hml, hown, hts⟩ (h2 _) (cwV 0 hts gL_law_X11_match rfl rfl rfl (by decide +kernel) ⟨Nat.le_of_ble_eq_true rfl, Nat.le_of_ble_eq_true rfl⟩) hK hw (fun _ h => h) (ws_recv hK hw (q := 30) (by decide) (mk_30 cA α) rfl) rfl hl.1 rfl (Nat.le_of_ble_eq_true rfl) dL_law_1926 hcc (fun S9 eS9 H locs hw => ?_)
  rw [eS9] at hw
  refine lv_icmp_eq (tgt := 2471) hx hb dL_law_1929 (by decide) (fun c1 => ?_) (fun c1 => absurd rfl c1)
  exact kk _ _ _ _ _ _ h5 hw (lv_sub hl [0, 1, 2, 3, 4, 5] rfl) (Nat.le_succ _) (Nat.le_add_right _ 6)

set_option maxRecDepth 100000 in
set_option maxHeartbeats 1000000 in
theorem lc_31 (C : LX p l s m meth c b L xs sa ka va D cA α) {S : Mem} {i cells slots : Nat} {H : Heap} {locs : List Loc} {ls : Array Slot} (hi : i + 6 ≤ L) (hR : Rel S) (hcs : cells + 1 ≤ 601024 ∧ slots + 6 ≤ 7293034) (hw : Ws D cA α 193 (Aw α 193 s.heap.size) s.heap S H locs) (hl : lv_has ls 10 [(0, .ref b), (1, .ref (α 0)), (2, .ref (α 30)), (3, .ref (α 191)), (4, .ref (α 192)), (5, .int (nI i))]) (kk : Kk p l e s m below meth c b D cA α i cells slots) : W p l e room_1 s m #[Value.ref b] below meth c H locs cells slots (lw_Z below #[Value.ref b] s) (F0 m 1934 ls []) := by
  obtain ⟨⟨hx, hb, hr, hml, hown, hts, hX, hbl, hlocks, hgv⟩, hst, hK, hV, hbA, hL⟩ := C
  have hown : s.vm.findClass RL = some m.cls := hown
  obtain ⟨k, S1, b9, S2, h1, h2, h3, h4, h5⟩ := sp_release (l := l) (sa := sa) (ka := ka) (va := va) (D := D) (cA := cA) (α := α) hst hR (xs (i + 1))
  refine lv_aload_n hx hb dL_law_1934 rfl (lv_at hl 1 rfl) ?_
  refine lv_aload_n hx hb dL_law_1935 rfl (lv_at hl 0 rfl) ?_
  refine lv_iload hx hb dL_law_1936 (lv_at hl 5 rfl) ?_
  refine lv_iconst (v := nI 1) hx hb dL_law_1938 (by decide) ?_
  refine xn_iadd hx hb dL_law_1939 ?_
  refine x_sld (k := i + 1) hx hb hX hbl hbA hw.2.2 (by omega) hL dL_law_1940 ?_
  refine lv_aload_n hx hb dL_law_1941 rfl (lv_at hl 3 rfl) ?_
  refine x_callH (As := [.ref (α 0), .int (xs (i + 1)), .ref (α 191)]) (rest := []) ⟨hx, hb, hml, hown, hts⟩ (h1 _) (vx_cwSW 3 hts gL_law_L_release rfl rfl rfl (by decide +kernel) ⟨Nat.le_of_ble_eq_true rfl, Nat.le_of_ble_eq_true rfl⟩) hK hw rfl hV rfl hl.1 rfl (Nat.le_of_ble_eq_true rfl) dL_law_1942 hcs (fun S9 eS9 H locs hw => ?_)
  rw [eS9] at hw
  have hcc : cells + 1 ≤ room_1.cells ∧ slots + 6 ≤ room_1.slots := hcs
  refine lv_istore (lv' := [(6, .int k), (0, .ref b), (1, .ref (α 0)), (2, .ref (α 30)), (3, .ref (α 191)), (4, .ref (α 192)), (5, .int (nI i))]) hx hb dL_law_1945 hl (by decide) rfl (fun ls hl => ?_)
  refine lv_aload_n hx hb dL_law_1947 rfl (lv_at hl 3 rfl) ?_
  refine lv_aload_n hx hb dL_law_1948 rfl (lv_at hl 1 rfl) ?_
  refine lv_iload hx hb dL_law_1949 (lv_at hl 6 rfl) ?_
  refine lv_iconst (v := nI 1) hx hb dL_law_1951 (by decide) ?_
  refine xn_iadd hx hb dL_law_1952 ?_
  refine x_sld (k := i + 1) hx hb hX hbl hbA hw.2.2 (by omega) hL dL_law_1953 ?_
  refine x_callVI (q := 30) (C := RX11) (As := [.int (xs (i + 1))]) (rest := []) ⟨hx, hb, hml, hown, hts⟩ (h2 _) (cwV 1 hts gL_law_X11_release rfl rfl rfl (by decide +kernel) ⟨Nat.le_of_ble_eq_true rfl, Nat.le_of_ble_eq_true rfl⟩) hK hw (fun _ h => h) (ws_recv hK hw (q := 30) (by decide) (mk_30 cA α) rfl) rfl hl.1 rfl (Nat.le_of_ble_eq_true rfl) dL_law_1954 hcc (fun S9 eS9 H locs hw => ?_)
  rw [eS9] at hw
  refine lv_istore (lv' := [(7, .int b9), (6, .int k), (0, .ref b), (1, .ref (α 0)), (2, .ref (α 30)), (3, .ref (α 191)), (4, .ref (α 192)), (5, .int (nI i))]) hx hb dL_law_1957 hl (by decide) rfl (fun ls hl => ?_)
  refine lv_aload_n hx hb dL_law_1959 rfl (lv_at hl 4 rfl) ?_
  refine x_callVI (q := 30) (C := RX11) (As := []) (rest := []) ⟨hx, hb, hml, hown, hts⟩ (ct_X11_thrown l D cA α 193 _ (by decide) S2) (cwV 0 hts gL_law_X11_thrown rfl rfl rfl (by decide +kernel) ⟨Nat.le_of_ble_eq_true rfl, Nat.le_of_ble_eq_true rfl⟩) hK hw (fun _ h => h) (ws_recv hK hw (q := 30) (by decide) (mk_30 cA α) rfl) rfl hl.1 rfl (Nat.le_of_ble_eq_true rfl) dL_law_1960 hcc (fun S9 eS9 H locs hw => ?_)
  rw [eS9] at hw
  refine x_topE (y := k) h3 ?_
  refine lv_iload hx hb dL_law_1963 (lv_at hl 1 rfl) ?_
  refine lv_icmp_eq (tgt := 1970) hx hb dL_law_1965 (by decide) (fun c1 => ?_) (fun c1 => absurd rfl c1)
  refine lv_iload hx hb dL_law_1970 (lv_at hl 1 rfl) ?_
  refine lv_if_ne (tgt := 1987) hx hb dL_law_1972 (by decide) (fun c2 => ?_) (fun c2 => ?_)
  · skip
    refine lv_goto (tgt := 2471) hx hb dL_law_1987 (by decide) ?_
    exact kk _ _ _ _ _ _ h5 hw (lv_sub hl [2, 3, 4, 5, 6, 7] rfl) (Nat.le_refl _) (Nat.le_refl _)
  · skip
    refine lv_aload_n hx hb dL_law_1975 rfl (lv_at hl 5 rfl) ?_
    refine lv_iconst (v := nI 0) hx hb dL_law_1976 (by decide) ?_
    refine x_lald hx hb hK hw 191 1 (by decide) (mk_191 cA α) 0 rfl (by decide) (by decide) dL_law_1977 ?_
    refine lv_iload hx hb dL_law_1978 (lv_at hl 0 rfl) ?_
    refine lv_i2l hx hb dL_law_1980 rfl ?_
    refine x_lcmp_eq (tgt := 1987) hx hb dL_law_1981 dL_law_1982 (by decide) (fun c3 => ?_) (fun c3 => absurd (h4 (c2.trans nI_0.symm)) c3)
    refine lv_goto (tgt := 2471) hx hb dL_law_1987 (by decide) ?_
    exact kk _ _ _ _ _ _ h5 hw (lv_sub hl [2, 3, 4, 5, 6, 7] rfl) (Nat.le_refl _) (Nat.le_refl _)

set_option maxRecDepth 100000 in
set_option maxHeartbeats 1000000 in
theorem lc_32 (C : LX p l s m meth c b L xs sa ka va D cA α) {S : Mem} {i cells slots : Nat} {H : Heap} {locs : List Loc} {ls : Array Slot} (hi : i + 6 ≤ L) (hR : Rel S) (hcs : cells + 1 ≤ 601024 ∧ slots + 6 ≤ 7293034) (hw : Ws D cA α 193 (Aw α 193 s.heap.size) s.heap S H locs) (hl : lv_has ls 10 [(0, .ref b), (1, .ref (α 0)), (2, .ref (α 30)), (3, .ref (α 191)), (4, .ref (α 192)), (5, .int (nI i))]) (kk : Kk p l e s m below meth c b D cA α i cells slots) : W p l e room_1 s m #[Value.ref b] below meth c H locs cells slots (lw_Z below #[Value.ref b] s) (F0 m 1990 ls []) := by
  obtain ⟨⟨hx, hb, hr, hml, hown, hts, hX, hbl, hlocks, hgv⟩, hst, hK, hV, hbA, hL⟩ := C
  have hown : s.vm.findClass RL = some m.cls := hown
  obtain ⟨k, S1, b9, S2, h1, h2, h3, h4, h5⟩ := sp_accept (l := l) (sa := sa) (ka := ka) (va := va) (D := D) (cA := cA) (α := α) hst hR (xs (i + 1))
  refine lv_aload_n hx hb dL_law_1990 rfl (lv_at hl 1 rfl) ?_
  refine lv_aload_n hx hb dL_law_1991 rfl (lv_at hl 0 rfl) ?_
  refine lv_iload hx hb dL_law_1992 (lv_at hl 5 rfl) ?_
  refine lv_iconst (v := nI 1) hx hb dL_law_1994 (by decide) ?_
  refine xn_iadd hx hb dL_law_1995 ?_
  refine x_sld (k := i + 1) hx hb hX hbl hbA hw.2.2 (by omega) hL dL_law_1996 ?_
  refine lv_aload_n hx hb dL_law_1997 rfl (lv_at hl 3 rfl) ?_
  refine x_callH (As := [.ref (α 0), .int (xs (i + 1)), .ref (α 191)]) (rest := []) ⟨hx, hb, hml, hown, hts⟩ (h1 _) (vx_cwSW 3 hts gL_law_L_accept rfl rfl rfl (by decide +kernel) ⟨Nat.le_of_ble_eq_true rfl, Nat.le_of_ble_eq_true rfl⟩) hK hw rfl hV rfl hl.1 rfl (Nat.le_of_ble_eq_true rfl) dL_law_1998 hcs (fun S9 eS9 H locs hw => ?_)
  rw [eS9] at hw
  have hcc : cells + 1 ≤ room_1.cells ∧ slots + 6 ≤ room_1.slots := hcs
  refine lv_istore (lv' := [(6, .int k), (0, .ref b), (1, .ref (α 0)), (2, .ref (α 30)), (3, .ref (α 191)), (4, .ref (α 192)), (5, .int (nI i))]) hx hb dL_law_2001 hl (by decide) rfl (fun ls hl => ?_)
  refine lv_aload_n hx hb dL_law_2003 rfl (lv_at hl 3 rfl) ?_
  refine lv_aload_n hx hb dL_law_2004 rfl (lv_at hl 1 rfl) ?_
  refine lv_iload hx hb dL_law_2005 (lv_at hl 6 rfl) ?_
  refine lv_iconst (v := nI 1) hx hb dL_law_2007 (by decide) ?_
  refine xn_iadd hx hb dL_law_2008 ?_
  refine x_sld (k := i + 1) hx hb hX hbl hbA hw.2.2 (by omega) hL dL_law_2009 ?_
  refine x_callVL (q := 30) (C := RX11) (As := [.int (xs (i + 1))]) (rest := []) ⟨hx, hb, hml, hown, hts⟩ (h2 _) (cwV 1 hts gL_law_X11_accept rfl rfl rfl (by decide +kernel) ⟨Nat.le_of_ble_eq_true rfl, Nat.le_of_ble_eq_true rfl⟩) hK hw (fun _ h => h) (ws_recv hK hw (q := 30) (by decide) (mk_30 cA α) rfl) rfl hl.1 rfl (Nat.le_of_ble_eq_true rfl) dL_law_2010 hcc (fun S9 eS9 H locs hw => ?_)
  rw [eS9] at hw
  refine lv_lstore (lv' := [(7, .long b9), (6, .int k), (0, .ref b), (1, .ref (α 0)), (2, .ref (α 30)), (3, .ref (α 191)), (4, .ref (α 192)), (5, .int (nI i))]) hx hb dL_law_2013 hl (by decide) rfl (fun ls hl => ?_)
  refine lv_aload_n hx hb dL_law_2015 rfl (lv_at hl 4 rfl) ?_
  refine x_callVI (q := 30) (C := RX11) (As := []) (rest := []) ⟨hx, hb, hml, hown, hts⟩ (ct_X11_thrown l D cA α 193 _ (by decide) S2) (cwV 0 hts gL_law_X11_thrown rfl rfl rfl (by decide +kernel) ⟨Nat.le_of_ble_eq_true rfl, Nat.le_of_ble_eq_true rfl⟩) hK hw (fun _ h => h) (ws_recv hK hw (q := 30) (by decide) (mk_30 cA α) rfl) rfl hl.1 rfl (Nat.le_of_ble_eq_true rfl) dL_law_2016 hcc (fun S9 eS9 H locs hw => ?_)
  rw [eS9] at hw
  refine x_topE (y := k) h3 ?_
  refine lv_iload hx hb dL_law_2019 (lv_at hl 1 rfl) ?_
  refine lv_icmp_eq (tgt := 2026) hx hb dL_law_2021 (by decide) (fun c1 => ?_) (fun c1 => absurd rfl c1)
  refine lv_iload hx hb dL_law_2026 (lv_at hl 1 rfl) ?_
  refine lv_if_ne (tgt := 2042) hx hb dL_law_2028 (by decide) (fun c2 => ?_) (fun c2 => ?_)
  · skip
    refine lv_goto (tgt := 2471) hx hb dL_law_2042 (by decide) ?_
    exact kk _ _ _ _ _ _ h5 hw (lv_sub hl [2, 3, 4, 5, 6, 7] rfl) (Nat.le_refl _) (Nat.le_refl _)
  · skip
    refine lv_aload_n hx hb dL_law_2031 rfl (lv_at hl 5 rfl) ?_
    refine lv_iconst (v := nI 0) hx hb dL_law_2032 (by decide) ?_
    refine x_lald hx hb hK hw 191 1 (by decide) (mk_191 cA α) 0 rfl (by decide) (by decide) dL_law_2033 ?_
    refine lv_lload hx hb dL_law_2034 (lv_at hl 0 rfl) ?_
    refine x_lcmp_eq (tgt := 2042) hx hb dL_law_2036 dL_law_2037 (by decide) (fun c3 => ?_) (fun c3 => absurd (h4 (c2.trans nI_0.symm)) c3)
    refine lv_goto (tgt := 2471) hx hb dL_law_2042 (by decide) ?_
    exact kk _ _ _ _ _ _ h5 hw (lv_sub hl [2, 3, 4, 5, 6, 7] rfl) (Nat.le_refl _) (Nat.le_refl _)

set_option maxRecDepth 100000 in
set_option maxHeartbeats 1000000 in
theorem lc_33 (C : LX p l s m meth c b L xs sa ka va D cA α) {S : Mem} {i cells slots : Nat} {H : Heap} {locs : List Loc} {ls : Array Slot} (hi : i + 6 ≤ L) (hR : Rel S) (hcs : cells + 1 ≤ 601024 ∧ slots + 6 ≤ 7293034) (hw : Ws D cA α 193 (Aw α 193 s.heap.size) s.heap S H locs) (hl : lv_has ls 10 [(0, .ref b), (1, .ref (α 0)), (2, .ref (α 30)), (3, .ref (α 191)), (4, .ref (α 192)), (5, .int (nI i))]) (kk : Kk p l e s m below meth c b D cA α i cells slots) : W p l e room_1 s m #[Value.ref b] below meth c H locs cells slots (lw_Z below #[Value.ref b] s) (F0 m 2045 ls []) := by
  obtain ⟨⟨hx, hb, hr, hml, hown, hts, hX, hbl, hlocks, hgv⟩, hst, hK, hV, hbA, hL⟩ := C
  have hown : s.vm.findClass RL = some m.cls := hown
  obtain ⟨k, S1, b9, S2, h1, h2, h3, h4, h5⟩ := sp_setRate (l := l) (sa := sa) (ka := ka) (va := va) (D := D) (cA := cA) (α := α) hst hR (xs (i + 1)) (xs (i + 2))
  refine lv_aload_n hx hb dL_law_2045 rfl (lv_at hl 1 rfl) ?_
  refine lv_aload_n hx hb dL_law_2046 rfl (lv_at hl 0 rfl) ?_
  refine lv_iload hx hb dL_law_2047 (lv_at hl 5 rfl) ?_
  refine lv_iconst (v := nI 1) hx hb dL_law_2049 (by decide) ?_
  refine xn_iadd hx hb dL_law_2050 ?_
  refine x_sld (k := i + 1) hx hb hX hbl hbA hw.2.2 (by omega) hL dL_law_2051 ?_
  refine lv_aload_n hx hb dL_law_2052 rfl (lv_at hl 0 rfl) ?_
  refine lv_iload hx hb dL_law_2053 (lv_at hl 5 rfl) ?_
  refine lv_iconst (v := nI 2) hx hb dL_law_2055 (by decide) ?_
  refine xn_iadd hx hb dL_law_2056 ?_
  refine x_sld (k := i + 2) hx hb hX hbl hbA hw.2.2 (by omega) hL dL_law_2057 ?_
  refine lv_aload_n hx hb dL_law_2058 rfl (lv_at hl 3 rfl) ?_
  refine x_callH (As := [.ref (α 0), .int (xs (i + 1)), .int (xs (i + 2)), .ref (α 191)]) (rest := []) ⟨hx, hb, hml, hown, hts⟩ (h1 _) (vx_cwSW 4 hts gL_law_L_setRate rfl rfl rfl (by decide +kernel) ⟨Nat.le_of_ble_eq_true rfl, Nat.le_of_ble_eq_true rfl⟩) hK hw rfl hV rfl hl.1 rfl (Nat.le_of_ble_eq_true rfl) dL_law_2059 hcs (fun S9 eS9 H locs hw => ?_)
  rw [eS9] at hw
  have hcc : cells + 1 ≤ room_1.cells ∧ slots + 6 ≤ room_1.slots := hcs
  refine lv_istore (lv' := [(6, .int k), (0, .ref b), (1, .ref (α 0)), (2, .ref (α 30)), (3, .ref (α 191)), (4, .ref (α 192)), (5, .int (nI i))]) hx hb dL_law_2062 hl (by decide) rfl (fun ls hl => ?_)
  refine lv_aload_n hx hb dL_law_2064 rfl (lv_at hl 3 rfl) ?_
  refine lv_aload_n hx hb dL_law_2065 rfl (lv_at hl 1 rfl) ?_
  refine lv_iload hx hb dL_law_2066 (lv_at hl 6 rfl) ?_
  refine lv_iconst (v := nI 1) hx hb dL_law_2068 (by decide) ?_
  refine xn_iadd hx hb dL_law_2069 ?_
  refine x_sld (k := i + 1) hx hb hX hbl hbA hw.2.2 (by omega) hL dL_law_2070 ?_
  refine lv_aload_n hx hb dL_law_2071 rfl (lv_at hl 1 rfl) ?_
  refine lv_iload hx hb dL_law_2072 (lv_at hl 6 rfl) ?_
  refine lv_iconst (v := nI 2) hx hb dL_law_2074 (by decide) ?_
  refine xn_iadd hx hb dL_law_2075 ?_
  refine x_sld (k := i + 2) hx hb hX hbl hbA hw.2.2 (by omega) hL dL_law_2076 ?_
  refine x_callVI (q := 30) (C := RX11) (As := [.int (xs (i + 1)), .int (xs (i + 2))]) (rest := []) ⟨hx, hb, hml, hown, hts⟩ (h2 _) (cwV 2 hts gL_law_X11_setRate rfl rfl rfl (by decide +kernel) ⟨Nat.le_of_ble_eq_true rfl, Nat.le_of_ble_eq_true rfl⟩) hK hw (fun _ h => h) (ws_recv hK hw (q := 30) (by decide) (mk_30 cA α) rfl) rfl hl.1 rfl (Nat.le_of_ble_eq_true rfl) dL_law_2077 hcc (fun S9 eS9 H locs hw => ?_)
  rw [eS9] at hw
  refine lv_istore (lv' := [(7, .int b9), (6, .int k), (0, .ref b), (1, .ref (α 0)), (2, .ref (α 30)), (3, .ref (α 191)), (4, .ref (α 192)), (5, .int (nI i))]) hx hb dL_law_2080 hl (by decide) rfl (fun ls hl => ?_)
  refine lv_aload_n hx hb dL_law_2082 rfl (lv_at hl 4 rfl) ?_
  refine x_callVI (q := 30) (C := RX11) (As := []) (rest := []) ⟨hx, hb, hml, hown, hts⟩ (ct_X11_thrown l D cA α 193 _ (by decide) S2) (cwV 0 hts gL_law_X11_thrown rfl rfl rfl (by decide +kernel) ⟨Nat.le_of_ble_eq_true rfl, Nat.le_of_ble_eq_true rfl⟩) hK hw (fun _ h => h) (ws_recv hK hw (q := 30) (by decide) (mk_30 cA α) rfl) rfl hl.1 rfl (Nat.le_of_ble_eq_true rfl) dL_law_2083 hcc (fun S9 eS9 H locs hw => ?_)
  rw [eS9] at hw
  refine x_topE (y := k) h3 ?_
  refine lv_iload hx hb dL_law_2086 (lv_at hl 1 rfl) ?_
  refine lv_icmp_eq (tgt := 2093) hx hb dL_law_2088 (by decide) (fun c1 => ?_) (fun c1 => absurd rfl c1)
  refine lv_iload hx hb dL_law_2093 (lv_at hl 1 rfl) ?_
  refine lv_if_ne (tgt := 2110) hx hb dL_law_2095 (by decide) (fun c2 => ?_) (fun c2 => ?_)
  · skip
    refine lv_goto (tgt := 2471) hx hb dL_law_2110 (by decide) ?_
    exact kk _ _ _ _ _ _ h5 hw (lv_sub hl [2, 3, 4, 5, 6, 7] rfl) (Nat.le_refl _) (Nat.le_refl _)
  · skip
    refine lv_aload_n hx hb dL_law_2098 rfl (lv_at hl 5 rfl) ?_
    refine lv_iconst (v := nI 0) hx hb dL_law_2099 (by decide) ?_
    refine x_lald hx hb hK hw 191 1 (by decide) (mk_191 cA α) 0 rfl (by decide) (by decide) dL_law_2100 ?_
    refine lv_iload hx hb dL_law_2101 (lv_at hl 0 rfl) ?_
    refine lv_i2l hx hb dL_law_2103 rfl ?_
    refine x_lcmp_eq (tgt := 2110) hx hb dL_law_2104 dL_law_2105 (by decide) (fun c3 => ?_) (fun c3 => absurd (h4 (c2.trans nI_0.symm)) c3)
    refine lv_goto (tgt := 2471) hx hb dL_law_2110 (by decide) ?_
    exact kk _ _ _ _ _ _ h5 hw (lv_sub hl [2, 3, 4, 5, 6, 7] rfl) (Nat.le_refl _) (Nat.le_refl _)

set_option maxRecDepth 100000 in
set_option maxHeartbeats 1000000 in
theorem lc_34 (C : LX p l s m meth c b L xs sa ka va D cA α) {S : Mem} {i cells slots : Nat} {H : Heap} {locs : List Loc} {ls : Array Slot} (hi : i + 6 ≤ L) (hR : Rel S) (hcs : cells + 1 ≤ 601024 ∧ slots + 6 ≤ 7293034) (hw : Ws D cA α 193 (Aw α 193 s.heap.size) s.heap S H locs) (hl : lv_has ls 10 [(0, .ref b), (1, .ref (α 0)), (2, .ref (α 30)), (3, .ref (α 191)), (4, .ref (α 192)), (5, .int (nI i))]) (kk : Kk p l e s m below meth c b D cA α i cells slots) : W p l e room_1 s m #[Value.ref b] below meth c H locs cells slots (lw_Z below #[Value.ref b] s) (F0 m 2113 ls []) := by
  obtain ⟨⟨hx, hb, hr, hml, hown, hts, hX, hbl, hlocks, hgv⟩, hst, hK, hV, hbA, hL⟩ := C
  have hown : s.vm.findClass RL = some m.cls := hown
  obtain ⟨k, S1, b9, S2, h1, h2, h3, h4, h5⟩ := sp_setTolerance (l := l) (sa := sa) (ka := ka) (va := va) (D := D) (cA := cA) (α := α) hst hR (xs (i + 1))
  refine lv_aload_n hx hb dL_law_2113 rfl (lv_at hl 1 rfl) ?_
  refine lv_aload_n hx hb dL_law_2114 rfl (lv_at hl 0 rfl) ?_
  refine lv_iload hx hb dL_law_2115 (lv_at hl 5 rfl) ?_
  refine lv_iconst (v := nI 1) hx hb dL_law_2117 (by decide) ?_
  refine xn_iadd hx hb dL_law_2118 ?_
  refine x_sld (k := i + 1) hx hb hX hbl hbA hw.2.2 (by omega) hL dL_law_2119 ?_
  refine lv_aload_n hx hb dL_law_2120 rfl (lv_at hl 3 rfl) ?_
  refine x_callH (As := [.ref (α 0), .int (xs (i + 1)), .ref (α 191)]) (rest := []) ⟨hx, hb, hml, hown, hts⟩ (h1 _) (vx_cwSW 3 hts gL_law_L_setTolerance rfl rfl rfl (by decide +kernel) ⟨Nat.le_of_ble_eq_true rfl, Nat.le_of_ble_eq_true rfl⟩) hK hw rfl hV rfl hl.1 rfl (Nat.le_of_ble_eq_true rfl) dL_law_2121 hcs (fun S9 eS9 H locs hw => ?_)
  rw [eS9] at hw
  have hcc : cells + 1 ≤ room_1.cells ∧ slots + 6 ≤ room_1.slots := hcs
  refine lv_istore (lv' := [(6, .int k), (0, .ref b), (1, .ref (α 0)), (2, .ref (α 30)), (3, .ref (α 191)), (4, .ref (α 192)), (5, .int (nI i))]) hx hb dL_law_2124 hl (by decide) rfl (fun ls hl => ?_)
  refine lv_aload_n hx hb dL_law_2126 rfl (lv_at hl 3 rfl) ?_
  refine lv_aload_n hx hb dL_law_2127 rfl (lv_at hl 1 rfl) ?_
  refine lv_iload hx hb dL_law_2128 (lv_at hl 6 rfl) ?_
  refine lv_iconst (v := nI 1) hx hb dL_law_2130 (by decide) ?_
  refine xn_iadd hx hb dL_law_2131 ?_
  refine x_sld (k := i + 1) hx hb hX hbl hbA hw.2.2 (by omega) hL dL_law_2132 ?_
  refine x_callVI (q := 30) (C := RX11) (As := [.int (xs (i + 1))]) (rest := []) ⟨hx, hb, hml, hown, hts⟩ (h2 _) (cwV 1 hts gL_law_X11_setTolerance rfl rfl rfl (by decide +kernel) ⟨Nat.le_of_ble_eq_true rfl, Nat.le_of_ble_eq_true rfl⟩) hK hw (fun _ h => h) (ws_recv hK hw (q := 30) (by decide) (mk_30 cA α) rfl) rfl hl.1 rfl (Nat.le_of_ble_eq_true rfl) dL_law_2133 hcc (fun S9 eS9 H locs hw => ?_)
  rw [eS9] at hw
  refine lv_istore (lv' := [(7, .int b9), (6, .int k), (0, .ref b), (1, .ref (α 0)), (2, .ref (α 30)), (3, .ref (α 191)), (4, .ref (α 192)), (5, .int (nI i))]) hx hb dL_law_2136 hl (by decide) rfl (fun ls hl => ?_)
  refine lv_aload_n hx hb dL_law_2138 rfl (lv_at hl 4 rfl) ?_
  refine x_callVI (q := 30) (C := RX11) (As := []) (rest := []) ⟨hx, hb, hml, hown, hts⟩ (ct_X11_thrown l D cA α 193 _ (by decide) S2) (cwV 0 hts gL_law_X11_thrown rfl rfl rfl (by decide +kernel) ⟨Nat.le_of_ble_eq_true rfl, Nat.le_of_ble_eq_true rfl⟩) hK hw (fun _ h => h) (ws_recv hK hw (q := 30) (by decide) (mk_30 cA α) rfl) rfl hl.1 rfl (Nat.le_of_ble_eq_true rfl) dL_law_2139 hcc (fun S9 eS9 H locs hw => ?_)
  rw [eS9] at hw
  refine x_topE (y := k) h3 ?_
  refine lv_iload hx hb dL_law_2142 (lv_at hl 1 rfl) ?_
  refine lv_icmp_eq (tgt := 2149) hx hb dL_law_2144 (by decide) (fun c1 => ?_) (fun c1 => absurd rfl c1)
  refine lv_iload hx hb dL_law_2149 (lv_at hl 1 rfl) ?_
  refine lv_if_ne (tgt := 2166) hx hb dL_law_2151 (by decide) (fun c2 => ?_) (fun c2 => ?_)
  · skip
    refine lv_goto (tgt := 2471) hx hb dL_law_2166 (by decide) ?_
    exact kk _ _ _ _ _ _ h5 hw (lv_sub hl [2, 3, 4, 5, 6, 7] rfl) (Nat.le_refl _) (Nat.le_refl _)
  · skip
    refine lv_aload_n hx hb dL_law_2154 rfl (lv_at hl 5 rfl) ?_
    refine lv_iconst (v := nI 0) hx hb dL_law_2155 (by decide) ?_
    refine x_lald hx hb hK hw 191 1 (by decide) (mk_191 cA α) 0 rfl (by decide) (by decide) dL_law_2156 ?_
    refine lv_iload hx hb dL_law_2157 (lv_at hl 0 rfl) ?_
    refine lv_i2l hx hb dL_law_2159 rfl ?_
    refine x_lcmp_eq (tgt := 2166) hx hb dL_law_2160 dL_law_2161 (by decide) (fun c3 => ?_) (fun c3 => absurd (h4 (c2.trans nI_0.symm)) c3)
    refine lv_goto (tgt := 2471) hx hb dL_law_2166 (by decide) ?_
    exact kk _ _ _ _ _ _ h5 hw (lv_sub hl [2, 3, 4, 5, 6, 7] rfl) (Nat.le_refl _) (Nat.le_refl _)

set_option maxRecDepth 100000 in
set_option maxHeartbeats 1000000 in
theorem lc_35 (C : LX p l s m meth c b L xs sa ka va D cA α) {S : Mem} {i cells slots : Nat} {H : Heap} {locs : List Loc} {ls : Array Slot} (hi : i + 6 ≤ L) (hR : Rel S) (hcs : cells + 1 ≤ 601024 ∧ slots + 6 ≤ 7293034) (hw : Ws D cA α 193 (Aw α 193 s.heap.size) s.heap S H locs) (hl : lv_has ls 10 [(0, .ref b), (1, .ref (α 0)), (2, .ref (α 30)), (3, .ref (α 191)), (4, .ref (α 192)), (5, .int (nI i))]) (kk : Kk p l e s m below meth c b D cA α i cells slots) : W p l e room_1 s m #[Value.ref b] below meth c H locs cells slots (lw_Z below #[Value.ref b] s) (F0 m 2169 ls []) := by
  obtain ⟨⟨hx, hb, hr, hml, hown, hts, hX, hbl, hlocks, hgv⟩, hst, hK, hV, hbA, hL⟩ := C
  have hown : s.vm.findClass RL = some m.cls := hown
  obtain ⟨k, S1, b9, S2, h1, h2, h3, h4, h5⟩ := sp_net (l := l) (sa := sa) (ka := ka) (va := va) (D := D) (cA := cA) (α := α) hst hR 
  refine lv_aload_n hx hb dL_law_2169 rfl (lv_at hl 1 rfl) ?_
  refine lv_aload_n hx hb dL_law_2170 rfl (lv_at hl 3 rfl) ?_
  refine x_callH (As := [.ref (α 0), .ref (α 191)]) (rest := []) ⟨hx, hb, hml, hown, hts⟩ (h1 _) (vx_cwSW 2 hts gL_law_L_net rfl rfl rfl (by decide +kernel) ⟨Nat.le_of_ble_eq_true rfl, Nat.le_of_ble_eq_true rfl⟩) hK hw rfl hV rfl hl.1 rfl (Nat.le_of_ble_eq_true rfl) dL_law_2171 hcs (fun S9 eS9 H locs hw => ?_)
  rw [eS9] at hw
  have hcc : cells + 1 ≤ room_1.cells ∧ slots + 6 ≤ room_1.slots := hcs
  refine lv_istore (lv' := [(6, .int k), (0, .ref b), (1, .ref (α 0)), (2, .ref (α 30)), (3, .ref (α 191)), (4, .ref (α 192)), (5, .int (nI i))]) hx hb dL_law_2174 hl (by decide) rfl (fun ls hl => ?_)
  refine lv_aload_n hx hb dL_law_2176 rfl (lv_at hl 3 rfl) ?_
  refine x_callVI (q := 30) (C := RX11) (As := []) (rest := []) ⟨hx, hb, hml, hown, hts⟩ (h2 _) (cwV 0 hts gL_law_X11_net rfl rfl rfl (by decide +kernel) ⟨Nat.le_of_ble_eq_true rfl, Nat.le_of_ble_eq_true rfl⟩) hK hw (fun _ h => h) (ws_recv hK hw (q := 30) (by decide) (mk_30 cA α) rfl) rfl hl.1 rfl (Nat.le_of_ble_eq_true rfl) dL_law_2177 hcc (fun S9 eS9 H locs hw => ?_)
  rw [eS9] at hw
  refine lv_istore (lv' := [(7, .int b9), (6, .int k), (0, .ref b), (1, .ref (α 0)), (2, .ref (α 30)), (3, .ref (α 191)), (4, .ref (α 192)), (5, .int (nI i))]) hx hb dL_law_2180 hl (by decide) rfl (fun ls hl => ?_)
  refine lv_aload_n hx hb dL_law_2182 rfl (lv_at hl 4 rfl) ?_
  refine x_callVI (q := 30) (C := RX11) (As := []) (rest := []) ⟨hx, hb, hml, hown, hts⟩ (ct_X11_thrown l D cA α 193 _ (by decide) S2) (cwV 0 hts gL_law_X11_thrown rfl rfl rfl (by decide +kernel) ⟨Nat.le_of_ble_eq_true rfl, Nat.le_of_ble_eq_true rfl⟩) hK hw (fun _ h => h) (ws_recv hK hw (q := 30) (by decide) (mk_30 cA α) rfl) rfl hl.1 rfl (Nat.le_of_ble_eq_true rfl) dL_law_2183 hcc (fun S9 eS9 H locs hw => ?_)
  rw [eS9] at hw
  refine x_topE (y := k) h3 ?_
  refine lv_iload hx hb dL_law_2186 (lv_at hl 1 rfl) ?_
  refine lv_icmp_eq (tgt := 2193) hx hb dL_law_2188 (by decide) (fun c1 => ?_) (fun c1 => absurd rfl c1)
  refine lv_iload hx hb dL_law_2193 (lv_at hl 1 rfl) ?_
  refine lv_if_ne (tgt := 2210) hx hb dL_law_2195 (by decide) (fun c2 => ?_) (fun c2 => ?_)
  · skip
    refine lv_goto (tgt := 2471) hx hb dL_law_2210 (by decide) ?_
    exact kk _ _ _ _ _ _ h5 hw (lv_sub hl [2, 3, 4, 5, 6, 7] rfl) (Nat.le_refl _) (Nat.le_refl _)
  · skip
    refine lv_aload_n hx hb dL_law_2198 rfl (lv_at hl 5 rfl) ?_
    refine lv_iconst (v := nI 0) hx hb dL_law_2199 (by decide) ?_
    refine x_lald hx hb hK hw 191 1 (by decide) (mk_191 cA α) 0 rfl (by decide) (by decide) dL_law_2200 ?_
    refine lv_iload hx hb dL_law_2201 (lv_at hl 0 rfl) ?_
    refine lv_i2l hx hb dL_law_2203 rfl ?_
    refine x_lcmp_eq (tgt := 2210) hx hb dL_law_2204 dL_law_2205 (by decide) (fun c3 => ?_) (fun c3 => absurd (h4 (c2.trans nI_0.symm)) c3)
    refine lv_goto (tgt := 2471) hx hb dL_law_2210 (by decide) ?_
    exact kk _ _ _ _ _ _ h5 hw (lv_sub hl [2, 3, 4, 5, 6, 7] rfl) (Nat.le_refl _) (Nat.le_refl _)

set_option maxRecDepth 100000 in
set_option maxHeartbeats 1000000 in
theorem lc_36 (C : LX p l s m meth c b L xs sa ka va D cA α) {S : Mem} {i cells slots : Nat} {H : Heap} {locs : List Loc} {ls : Array Slot} (hi : i + 6 ≤ L) (hR : Rel S) (hcs : cells + 1 ≤ 601024 ∧ slots + 6 ≤ 7293034) (hw : Ws D cA α 193 (Aw α 193 s.heap.size) s.heap S H locs) (hl : lv_has ls 10 [(0, .ref b), (1, .ref (α 0)), (2, .ref (α 30)), (3, .ref (α 191)), (4, .ref (α 192)), (5, .int (nI i))]) (kk : Kk p l e s m below meth c b D cA α i cells slots) : W p l e room_1 s m #[Value.ref b] below meth c H locs cells slots (lw_Z below #[Value.ref b] s) (F0 m 2213 ls []) := by
  obtain ⟨⟨hx, hb, hr, hml, hown, hts, hX, hbl, hlocks, hgv⟩, hst, hK, hV, hbA, hL⟩ := C
  have hown : s.vm.findClass RL = some m.cls := hown
  obtain ⟨k, S1, b9, S2, h1, h2, h3, h4, h5⟩ := sp_deliver (l := l) (sa := sa) (ka := ka) (va := va) (D := D) (cA := cA) (α := α) hst hR (xs (i + 1)) (xs (i + 2)) (xs (i + 3)) (xs (i + 4)) (xs (i + 5))
  refine lv_aload_n hx hb dL_law_2213 rfl (lv_at hl 1 rfl) ?_
  refine lv_aload_n hx hb dL_law_2214 rfl (lv_at hl 0 rfl) ?_
  refine lv_iload hx hb dL_law_2215 (lv_at hl 5 rfl) ?_
  refine lv_iconst (v := nI 1) hx hb dL_law_2217 (by decide) ?_
  refine xn_iadd hx hb dL_law_2218 ?_
  refine x_sld (k := i + 1) hx hb hX hbl hbA hw.2.2 (by omega) hL dL_law_2219 ?_
  refine lv_aload_n hx hb dL_law_2220 rfl (lv_at hl 0 rfl) ?_
  refine lv_iload hx hb dL_law_2221 (lv_at hl 5 rfl) ?_
  refine lv_iconst (v := nI 2) hx hb dL_law_2223 (by decide) ?_
  refine xn_iadd hx hb dL_law_2224 ?_
  refine x_sld (k := i + 2) hx hb hX hbl hbA hw.2.2 (by omega) hL dL_law_2225 ?_
  refine lv_aload_n hx hb dL_law_2226 rfl (lv_at hl 0 rfl) ?_
  refine lv_iload hx hb dL_law_2227 (lv_at hl 5 rfl) ?_
  refine lv_iconst (v := nI 3) hx hb dL_law_2229 (by decide) ?_
  refine xn_iadd hx hb dL_law_2230 ?_
  refine x_sld (k := i + 3) hx hb hX hbl hbA hw.2.2 (by omega) hL dL_law_2231 ?_
  refine lv_aload_n hx hb dL_law_2232 rfl (lv_at hl 0 rfl) ?_
  refine lv_iload hx hb dL_law_2233 (lv_at hl 5 rfl) ?_
  refine lv_iconst (v := nI 4) hx hb dL_law_2235 (by decide) ?_
  refine xn_iadd hx hb dL_law_2236 ?_
  refine x_sld (k := i + 4) hx hb hX hbl hbA hw.2.2 (by omega) hL dL_law_2237 ?_
  refine lv_aload_n hx hb dL_law_2238 rfl (lv_at hl 0 rfl) ?_
  refine lv_iload hx hb dL_law_2239 (lv_at hl 5 rfl) ?_
  refine lv_iconst (v := nI 5) hx hb dL_law_2241 (by decide) ?_
  refine xn_iadd hx hb dL_law_2242 ?_
  refine x_sld (k := i + 5) hx hb hX hbl hbA hw.2.2 (by omega) hL dL_law_2243 ?_
  refine lv_aload_n hx hb dL_law_2244 rfl (lv_at hl 3 rfl) ?_
  refine x_callH (As := [.ref (α 0), .int (xs (i + 1)), .int (xs (i + 2)), .int (xs (i + 3)), .int (xs (i + 4)), .int (xs (i + 5)), .ref (α 191)]) (rest := []) ⟨hx, hb, hml, hown, hts⟩ (h1 _) (vx_cwSW 7 hts gL_law_L_deliver rfl rfl rfl (by decide +kernel) ⟨Nat.le_of_ble_eq_true rfl, Nat.le_of_ble_eq_true rfl⟩) hK hw rfl hV rfl hl.1 rfl (Nat.le_of_ble_eq_true rfl) dL_law_2245 hcs (fun S9 eS9 H locs hw => ?_)
  rw [eS9] at hw
  have hcc : cells + 1 ≤ room_1.cells ∧ slots + 6 ≤ room_1.slots := hcs
  refine lv_istore (lv' := [(6, .int k), (0, .ref b), (1, .ref (α 0)), (2, .ref (α 30)), (3, .ref (α 191)), (4, .ref (α 192)), (5, .int (nI i))]) hx hb dL_law_2248 hl (by decide) rfl (fun ls hl => ?_)
  refine lv_aload_n hx hb dL_law_2250 rfl (lv_at hl 3 rfl) ?_
  refine lv_aload_n hx hb dL_law_2251 rfl (lv_at hl 1 rfl) ?_
  refine lv_iload hx hb dL_law_2252 (lv_at hl 6 rfl) ?_
  refine lv_iconst (v := nI 1) hx hb dL_law_2254 (by decide) ?_
  refine xn_iadd hx hb dL_law_2255 ?_
  refine x_sld (k := i + 1) hx hb hX hbl hbA hw.2.2 (by omega) hL dL_law_2256 ?_
  refine lv_aload_n hx hb dL_law_2257 rfl (lv_at hl 1 rfl) ?_
  refine lv_iload hx hb dL_law_2258 (lv_at hl 6 rfl) ?_
  refine lv_iconst (v := nI 2) hx hb dL_law_2260 (by decide) ?_
  refine xn_iadd hx hb dL_law_2261 ?_
  refine x_sld (k := i + 2) hx hb hX hbl hbA hw.2.2 (by omega) hL dL_law_2262 ?_
  refine lv_aload_n hx hb dL_law_2263 rfl (lv_at hl 1 rfl) ?_
  refine lv_iload hx hb dL_law_2264 (lv_at hl 6 rfl) ?_
  refine lv_iconst (v := nI 3) hx hb dL_law_2266 (by decide) ?_
  refine xn_iadd hx hb dL_law_2267 ?_
  refine x_sld (k := i + 3) hx hb hX hbl hbA hw.2.2 (by omega) hL dL_law_2268 ?_
  refine lv_aload_n hx hb dL_law_2269 rfl (lv_at hl 1 rfl) ?_
  refine lv_iload hx hb dL_law_2270 (lv_at hl 6 rfl) ?_
  refine lv_iconst (v := nI 4) hx hb dL_law_2272 (by decide) ?_
  refine xn_iadd hx hb dL_law_2273 ?_
  refine x_sld (k := i + 4) hx hb hX hbl hbA hw.2.2 (by omega) hL dL_law_2274 ?_
  refine lv_aload_n hx hb dL_law_2275 rfl (lv_at hl 1 rfl) ?_
  refine lv_iload hx hb dL_law_2276 (lv_at hl 6 rfl) ?_
  refine lv_iconst (v := nI 5) hx hb dL_law_2278 (by decide) ?_
  refine xn_iadd hx hb dL_law_2279 ?_
  refine x_sld (k := i + 5) hx hb hX hbl hbA hw.2.2 (by omega) hL dL_law_2280 ?_
  refine x_callVI (q := 30) (C := RX11) (As := [.int (xs (i + 1)), .int (xs (i + 2)), .int (xs (i + 3)), .int (xs (i + 4)), .int (xs (i + 5))]) (rest := []) ⟨hx, hb, hml, hown, hts⟩ (h2 _) (cwV 5 hts gL_law_X11_deliver rfl rfl rfl (by decide +kernel) ⟨Nat.le_of_ble_eq_true rfl, Nat.le_of_ble_eq_true rfl⟩) hK hw (fun _ h => h) (ws_recv hK hw (q := 30) (by decide) (mk_30 cA α) rfl) rfl hl.1 rfl (Nat.le_of_ble_eq_true rfl) dL_law_2281 hcc (fun S9 eS9 H locs hw => ?_)
  rw [eS9] at hw
  refine lv_istore (lv' := [(7, .int b9), (6, .int k), (0, .ref b), (1, .ref (α 0)), (2, .ref (α 30)), (3, .ref (α 191)), (4, .ref (α 192)), (5, .int (nI i))]) hx hb dL_law_2284 hl (by decide) rfl (fun ls hl => ?_)
  refine lv_aload_n hx hb dL_law_2286 rfl (lv_at hl 4 rfl) ?_
  refine x_callVI (q := 30) (C := RX11) (As := []) (rest := []) ⟨hx, hb, hml, hown, hts⟩ (ct_X11_thrown l D cA α 193 _ (by decide) S2) (cwV 0 hts gL_law_X11_thrown rfl rfl rfl (by decide +kernel) ⟨Nat.le_of_ble_eq_true rfl, Nat.le_of_ble_eq_true rfl⟩) hK hw (fun _ h => h) (ws_recv hK hw (q := 30) (by decide) (mk_30 cA α) rfl) rfl hl.1 rfl (Nat.le_of_ble_eq_true rfl) dL_law_2287 hcc (fun S9 eS9 H locs hw => ?_)
  rw [eS9] at hw
  refine x_topE (y := k) h3 ?_
  refine lv_iload hx hb dL_law_2290 (lv_at hl 1 rfl) ?_
  refine lv_icmp_eq (tgt := 2297) hx hb dL_law_2292 (by decide) (fun c1 => ?_) (fun c1 => absurd rfl c1)
  refine lv_iload hx hb dL_law_2297 (lv_at hl 1 rfl) ?_
  refine lv_if_ne (tgt := 2314) hx hb dL_law_2299 (by decide) (fun c2 => ?_) (fun c2 => ?_)
  · skip
    refine lv_goto (tgt := 2471) hx hb dL_law_2314 (by decide) ?_
    exact kk _ _ _ _ _ _ h5 hw (lv_sub hl [2, 3, 4, 5, 6, 7] rfl) (Nat.le_refl _) (Nat.le_refl _)
  · skip
    refine lv_aload_n hx hb dL_law_2302 rfl (lv_at hl 5 rfl) ?_
    refine lv_iconst (v := nI 0) hx hb dL_law_2303 (by decide) ?_
    refine x_lald hx hb hK hw 191 1 (by decide) (mk_191 cA α) 0 rfl (by decide) (by decide) dL_law_2304 ?_
    refine lv_iload hx hb dL_law_2305 (lv_at hl 0 rfl) ?_
    refine lv_i2l hx hb dL_law_2307 rfl ?_
    refine x_lcmp_eq (tgt := 2314) hx hb dL_law_2308 dL_law_2309 (by decide) (fun c3 => ?_) (fun c3 => absurd (h4 (c2.trans nI_0.symm)) c3)
    refine lv_goto (tgt := 2471) hx hb dL_law_2314 (by decide) ?_
    exact kk _ _ _ _ _ _ h5 hw (lv_sub hl [2, 3, 4, 5, 6, 7] rfl) (Nat.le_refl _) (Nat.le_refl _)

set_option maxRecDepth 100000 in
set_option maxHeartbeats 1000000 in
theorem lc_37 (C : LX p l s m meth c b L xs sa ka va D cA α) {S : Mem} {i cells slots : Nat} {H : Heap} {locs : List Loc} {ls : Array Slot} (hi : i + 6 ≤ L) (hR : Rel S) (hcs : cells + 1 ≤ 601024 ∧ slots + 6 ≤ 7293034) (hw : Ws D cA α 193 (Aw α 193 s.heap.size) s.heap S H locs) (hl : lv_has ls 10 [(0, .ref b), (1, .ref (α 0)), (2, .ref (α 30)), (3, .ref (α 191)), (4, .ref (α 192)), (5, .int (nI i))]) (kk : Kk p l e s m below meth c b D cA α i cells slots) : W p l e room_1 s m #[Value.ref b] below meth c H locs cells slots (lw_Z below #[Value.ref b] s) (F0 m 2317 ls []) := by
  obtain ⟨⟨hx, hb, hr, hml, hown, hts, hX, hbl, hlocks, hgv⟩, hst, hK, hV, hbA, hL⟩ := C
  have hown : s.vm.findClass RL = some m.cls := hown
  obtain ⟨k, S1, b9, S2, h1, h2, h3, h4, h5⟩ := sp_sell (l := l) (sa := sa) (ka := ka) (va := va) (D := D) (cA := cA) (α := α) hst hR (xs (i + 1)) (xs (i + 2)) (xs (i + 3)) (xs (i + 4))
  refine lv_aload_n hx hb dL_law_2317 rfl (lv_at hl 1 rfl) ?_
  refine lv_aload_n hx hb dL_law_2318 rfl (lv_at hl 0 rfl) ?_
  refine lv_iload hx hb dL_law_2319 (lv_at hl 5 rfl) ?_
  refine lv_iconst (v := nI 1) hx hb dL_law_2321 (by decide) ?_
  refine xn_iadd hx hb dL_law_2322 ?_
  refine x_sld (k := i + 1) hx hb hX hbl hbA hw.2.2 (by omega) hL dL_law_2323 ?_
  refine lv_aload_n hx hb dL_law_2324 rfl (lv_at hl 0 rfl) ?_
  refine lv_iload hx hb dL_law_2325 (lv_at hl 5 rfl) ?_
  refine lv_iconst (v := nI 2) hx hb dL_law_2327 (by decide) ?_
  refine xn_iadd hx hb dL_law_2328 ?_
  refine x_sld (k := i + 2) hx hb hX hbl hbA hw.2.2 (by omega) hL dL_law_2329 ?_
  refine lv_aload_n hx hb dL_law_2330 rfl (lv_at hl 0 rfl) ?_
  refine lv_iload hx hb dL_law_2331 (lv_at hl 5 rfl) ?_
  refine lv_iconst (v := nI 3) hx hb dL_law_2333 (by decide) ?_
  refine xn_iadd hx hb dL_law_2334 ?_
  refine x_sld (k := i + 3) hx hb hX hbl hbA hw.2.2 (by omega) hL dL_law_2335 ?_
  refine lv_aload_n hx hb dL_law_2336 rfl (lv_at hl 0 rfl) ?_
  refine lv_iload hx hb dL_law_2337 (lv_at hl 5 rfl) ?_
  refine lv_iconst (v := nI 4) hx hb dL_law_2339 (by decide) ?_
  refine xn_iadd hx hb dL_law_2340 ?_
  refine x_sld (k := i + 4) hx hb hX hbl hbA hw.2.2 (by omega) hL dL_law_2341 ?_
  refine lv_aload_n hx hb dL_law_2342 rfl (lv_at hl 3 rfl) ?_
  refine x_callH (As := [.ref (α 0), .int (xs (i + 1)), .int (xs (i + 2)), .int (xs (i + 3)), .int (xs (i + 4)), .ref (α 191)]) (rest := []) ⟨hx, hb, hml, hown, hts⟩ (h1 _) (vx_cwSW 6 hts gL_law_L_sell rfl rfl rfl (by decide +kernel) ⟨Nat.le_of_ble_eq_true rfl, Nat.le_of_ble_eq_true rfl⟩) hK hw rfl hV rfl hl.1 rfl (Nat.le_of_ble_eq_true rfl) dL_law_2343 hcs (fun S9 eS9 H locs hw => ?_)
  rw [eS9] at hw
  have hcc : cells + 1 ≤ room_1.cells ∧ slots + 6 ≤ room_1.slots := hcs
  refine lv_istore (lv' := [(6, .int k), (0, .ref b), (1, .ref (α 0)), (2, .ref (α 30)), (3, .ref (α 191)), (4, .ref (α 192)), (5, .int (nI i))]) hx hb dL_law_2346 hl (by decide) rfl (fun ls hl => ?_)
  refine lv_aload_n hx hb dL_law_2348 rfl (lv_at hl 3 rfl) ?_
  refine lv_aload_n hx hb dL_law_2349 rfl (lv_at hl 1 rfl) ?_
  refine lv_iload hx hb dL_law_2350 (lv_at hl 6 rfl) ?_
  refine lv_iconst (v := nI 1) hx hb dL_law_2352 (by decide) ?_
  refine xn_iadd hx hb dL_law_2353 ?_
  refine x_sld (k := i + 1) hx hb hX hbl hbA hw.2.2 (by omega) hL dL_law_2354 ?_
  refine lv_aload_n hx hb dL_law_2355 rfl (lv_at hl 1 rfl) ?_
  refine lv_iload hx hb dL_law_2356 (lv_at hl 6 rfl) ?_
  refine lv_iconst (v := nI 2) hx hb dL_law_2358 (by decide) ?_
  refine xn_iadd hx hb dL_law_2359 ?_
  refine x_sld (k := i + 2) hx hb hX hbl hbA hw.2.2 (by omega) hL dL_law_2360 ?_
  refine lv_aload_n hx hb dL_law_2361 rfl (lv_at hl 1 rfl) ?_
  refine lv_iload hx hb dL_law_2362 (lv_at hl 6 rfl) ?_
  refine lv_iconst (v := nI 3) hx hb dL_law_2364 (by decide) ?_
  refine xn_iadd hx hb dL_law_2365 ?_
  refine x_sld (k := i + 3) hx hb hX hbl hbA hw.2.2 (by omega) hL dL_law_2366 ?_
  refine lv_aload_n hx hb dL_law_2367 rfl (lv_at hl 1 rfl) ?_
  refine lv_iload hx hb dL_law_2368 (lv_at hl 6 rfl) ?_
  refine lv_iconst (v := nI 4) hx hb dL_law_2370 (by decide) ?_
  refine xn_iadd hx hb dL_law_2371 ?_
  refine x_sld (k := i + 4) hx hb hX hbl hbA hw.2.2 (by omega) hL dL_law_2372 ?_
  refine x_callVL (q := 30) (C := RX11) (As := [.int (xs (i + 1)), .int (xs (i + 2)), .int (xs (i + 3)), .int (xs (i + 4))]) (rest := []) ⟨hx, hb, hml, hown, hts⟩ (h2 _) (cwV 4 hts gL_law_X11_sell rfl rfl rfl (by decide +kernel) ⟨Nat.le_of_ble_eq_true rfl, Nat.le_of_ble_eq_true rfl⟩) hK hw (fun _ h => h) (ws_recv hK hw (q := 30) (by decide) (mk_30 cA α) rfl) rfl hl.1 rfl (Nat.le_of_ble_eq_true rfl) dL_law_2373 hcc (fun S9 eS9 H locs hw => ?_)
  rw [eS9] at hw
  refine lv_lstore (lv' := [(7, .long b9), (6, .int k), (0, .ref b), (1, .ref (α 0)), (2, .ref (α 30)), (3, .ref (α 191)), (4, .ref (α 192)), (5, .int (nI i))]) hx hb dL_law_2376 hl (by decide) rfl (fun ls hl => ?_)
  refine lv_aload_n hx hb dL_law_2378 rfl (lv_at hl 4 rfl) ?_
  refine x_callVI (q := 30) (C := RX11) (As := []) (rest := []) ⟨hx, hb, hml, hown, hts⟩ (ct_X11_thrown l D cA α 193 _ (by decide) S2) (cwV 0 hts gL_law_X11_thrown rfl rfl rfl (by decide +kernel) ⟨Nat.le_of_ble_eq_true rfl, Nat.le_of_ble_eq_true rfl⟩) hK hw (fun _ h => h) (ws_recv hK hw (q := 30) (by decide) (mk_30 cA α) rfl) rfl hl.1 rfl (Nat.le_of_ble_eq_true rfl) dL_law_2379 hcc (fun S9 eS9 H locs hw => ?_)
  rw [eS9] at hw
  refine x_topE (y := k) h3 ?_
  refine lv_iload hx hb dL_law_2382 (lv_at hl 1 rfl) ?_
  refine lv_icmp_eq (tgt := 2389) hx hb dL_law_2384 (by decide) (fun c1 => ?_) (fun c1 => absurd rfl c1)
  refine lv_iload hx hb dL_law_2389 (lv_at hl 1 rfl) ?_
  refine lv_if_ne (tgt := 2405) hx hb dL_law_2391 (by decide) (fun c2 => ?_) (fun c2 => ?_)
  · skip
    refine lv_goto (tgt := 2471) hx hb dL_law_2405 (by decide) ?_
    exact kk _ _ _ _ _ _ h5 hw (lv_sub hl [2, 3, 4, 5, 6, 7] rfl) (Nat.le_refl _) (Nat.le_refl _)
  · skip
    refine lv_aload_n hx hb dL_law_2394 rfl (lv_at hl 5 rfl) ?_
    refine lv_iconst (v := nI 0) hx hb dL_law_2395 (by decide) ?_
    refine x_lald hx hb hK hw 191 1 (by decide) (mk_191 cA α) 0 rfl (by decide) (by decide) dL_law_2396 ?_
    refine lv_lload hx hb dL_law_2397 (lv_at hl 0 rfl) ?_
    refine x_lcmp_eq (tgt := 2405) hx hb dL_law_2399 dL_law_2400 (by decide) (fun c3 => ?_) (fun c3 => absurd (h4 (c2.trans nI_0.symm)) c3)
    refine lv_goto (tgt := 2471) hx hb dL_law_2405 (by decide) ?_
    exact kk _ _ _ _ _ _ h5 hw (lv_sub hl [2, 3, 4, 5, 6, 7] rfl) (Nat.le_refl _) (Nat.le_refl _)

set_option maxRecDepth 100000 in
set_option maxHeartbeats 1000000 in
theorem lc_38 (C : LX p l s m meth c b L xs sa ka va D cA α) {S : Mem} {i cells slots : Nat} {H : Heap} {locs : List Loc} {ls : Array Slot} (hi : i + 6 ≤ L) (hR : Rel S) (hcs : cells + 1 ≤ 601024 ∧ slots + 6 ≤ 7293034) (hw : Ws D cA α 193 (Aw α 193 s.heap.size) s.heap S H locs) (hl : lv_has ls 10 [(0, .ref b), (1, .ref (α 0)), (2, .ref (α 30)), (3, .ref (α 191)), (4, .ref (α 192)), (5, .int (nI i))]) (kk : Kk p l e s m below meth c b D cA α i cells slots) : W p l e room_1 s m #[Value.ref b] below meth c H locs cells slots (lw_Z below #[Value.ref b] s) (F0 m 2408 ls []) := by
  obtain ⟨⟨hx, hb, hr, hml, hown, hts, hX, hbl, hlocks, hgv⟩, hst, hK, hV, hbA, hL⟩ := C
  have hown : s.vm.findClass RL = some m.cls := hown
  obtain ⟨b9, S1, S2, h1, h2, h5⟩ := dp_undo (l := l) (D := D) (cA := cA) (α := α) hR 
  have hcc : cells ≤ room_1.cells ∧ slots ≤ room_1.slots := ⟨Nat.le_trans (Nat.le_succ _) hcs.1, Nat.le_trans (Nat.le_add_right _ 6) hcs.2⟩
  refine lv_aload_n hx hb dL_law_2408 rfl (lv_at hl 1 rfl) ?_
  refine x_callVI (q := 0) (C := RX10) (As := []) (rest := []) ⟨hx, hb, hml, hown, hts⟩ (h1 _) (cwV 0 hts gL_law_X10_undo rfl rfl rfl (by decide +kernel) ⟨Nat.le_of_ble_eq_true rfl, Nat.le_of_ble_eq_true rfl⟩) hK hw (fun _ h => h) (ws_recv hK hw (q := 0) (by decide) (mk_0 cA α) rfl) rfl hl.1 rfl (Nat.le_of_ble_eq_true rfl) dL_law_2409 hcc (fun S9 eS9 H locs hw => ?_)
  rw [eS9] at hw
  refine lv_aload_n hx hb dL_law_2412 rfl (lv_at hl 2 rfl) ?_
  refine x_callVI (q := 30) (C := RX11) (As := []) (rest := [.int b9]) ⟨hx, hb, hml, hown, hts⟩ (h2 _) (cwV 0 hts gL_law_X11_undo rfl rfl rfl (by decide +kernel) ⟨Nat.le_of_ble_eq_true rfl, Nat.le_of_ble_eq_true rfl⟩) hK hw (fun _ h => h) (ws_recv hK hw (q := 30) (by decide) (mk_30 cA α) rfl) rfl hl.1 rfl (Nat.le_of_ble_eq_true rfl) dL_law_2413 hcc (fun S9 eS9 H locs hw => ?_)
  rw [eS9] at hw
  refine lv_icmp_eq (tgt := 2471) hx hb dL_law_2416 (by decide) (fun c1 => ?_) (fun c1 => absurd rfl c1)
  exact kk _ _ _ _ _ _ h5 hw (lv_sub hl [0, 1, 2, 3, 4, 5] rfl) (Nat.le_succ _) (Nat.le_add_right _ 6)

set_option maxRecDepth 100000 in
set_option maxHeartbeats 1000000 in
theorem lc_39 (C : LX p l s m meth c b L xs sa ka va D cA α) {S : Mem} {i cells slots : Nat} {H : Heap} {locs : List Loc} {ls : Array Slot} (hi : i + 6 ≤ L) (hR : Rel S) (hcs : cells + 1 ≤ 601024 ∧ slots + 6 ≤ 7293034) (hw : Ws D cA α 193 (Aw α 193 s.heap.size) s.heap S H locs) (hl : lv_has ls 10 [(0, .ref b), (1, .ref (α 0)), (2, .ref (α 30)), (3, .ref (α 191)), (4, .ref (α 192)), (5, .int (nI i))]) (kk : Kk p l e s m below meth c b D cA α i cells slots) : W p l e room_1 s m #[Value.ref b] below meth c H locs cells slots (lw_Z below #[Value.ref b] s) (F0 m 2421 ls []) := by
  obtain ⟨⟨hx, hb, hr, hml, hown, hts, hX, hbl, hlocks, hgv⟩, hst, hK, hV, hbA, hL⟩ := C
  have hown : s.vm.findClass RL = some m.cls := hown
  obtain ⟨b9, S1, S2, h1, h2, h5⟩ := dp_saveSnapshot (l := l) (D := D) (cA := cA) (α := α) hR (xs (i + 1))
  have hcc : cells ≤ room_1.cells ∧ slots ≤ room_1.slots := ⟨Nat.le_trans (Nat.le_succ _) hcs.1, Nat.le_trans (Nat.le_add_right _ 6) hcs.2⟩
  refine lv_aload_n hx hb dL_law_2421 rfl (lv_at hl 1 rfl) ?_
  refine lv_aload_n hx hb dL_law_2422 rfl (lv_at hl 0 rfl) ?_
  refine lv_iload hx hb dL_law_2423 (lv_at hl 5 rfl) ?_
  refine lv_iconst (v := nI 1) hx hb dL_law_2425 (by decide) ?_
  refine xn_iadd hx hb dL_law_2426 ?_
  refine x_sld (k := i + 1) hx hb hX hbl hbA hw.2.2 (by omega) hL dL_law_2427 ?_
  refine x_callVI (q := 0) (C := RX10) (As := [.int (xs (i + 1))]) (rest := []) ⟨hx, hb, hml, hown, hts⟩ (h1 _) (cwV 1 hts gL_law_X10_saveSnapshot rfl rfl rfl (by decide +kernel) ⟨Nat.le_of_ble_eq_true rfl, Nat.le_of_ble_eq_true rfl⟩) hK hw (fun _ h => h) (ws_recv hK hw (q := 0) (by decide) (mk_0 cA α) rfl) rfl hl.1 rfl (Nat.le_of_ble_eq_true rfl) dL_law_2428 hcc (fun S9 eS9 H locs hw => ?_)
  rw [eS9] at hw
  refine lv_aload_n hx hb dL_law_2431 rfl (lv_at hl 2 rfl) ?_
  refine lv_aload_n hx hb dL_law_2432 rfl (lv_at hl 0 rfl) ?_
  refine lv_iload hx hb dL_law_2433 (lv_at hl 5 rfl) ?_
  refine lv_iconst (v := nI 1) hx hb dL_law_2435 (by decide) ?_
  refine xn_iadd hx hb dL_law_2436 ?_
  refine x_sld (k := i + 1) hx hb hX hbl hbA hw.2.2 (by omega) hL dL_law_2437 ?_
  refine x_callVI (q := 30) (C := RX11) (As := [.int (xs (i + 1))]) (rest := [.int b9]) ⟨hx, hb, hml, hown, hts⟩ (h2 _) (cwV 1 hts gL_law_X11_saveSnapshot rfl rfl rfl (by decide +kernel) ⟨Nat.le_of_ble_eq_true rfl, Nat.le_of_ble_eq_true rfl⟩) hK hw (fun _ h => h) (ws_recv hK hw (q := 30) (by decide) (mk_30 cA α) rfl) rfl hl.1 rfl (Nat.le_of_ble_eq_true rfl) dL_law_2438 hcc (fun S9 eS9 H locs hw => ?_)
  rw [eS9] at hw
  refine lv_icmp_eq (tgt := 2471) hx hb dL_law_2441 (by decide) (fun c1 => ?_) (fun c1 => absurd rfl c1)
  exact kk _ _ _ _ _ _ h5 hw (lv_sub hl [0, 1, 2, 3, 4, 5] rfl) (Nat.le_succ _) (Nat.le_add_right _ 6)

set_option maxRecDepth 100000 in
set_option maxHeartbeats 1000000 in
theorem lc_40 (C : LX p l s m meth c b L xs sa ka va D cA α) {S : Mem} {i cells slots : Nat} {H : Heap} {locs : List Loc} {ls : Array Slot} (hi : i + 6 ≤ L) (hR : Rel S) (hcs : cells + 1 ≤ 601024 ∧ slots + 6 ≤ 7293034) (hw : Ws D cA α 193 (Aw α 193 s.heap.size) s.heap S H locs) (hl : lv_has ls 10 [(0, .ref b), (1, .ref (α 0)), (2, .ref (α 30)), (3, .ref (α 191)), (4, .ref (α 192)), (5, .int (nI i))]) (kk : Kk p l e s m below meth c b D cA α i cells slots) : W p l e room_1 s m #[Value.ref b] below meth c H locs cells slots (lw_Z below #[Value.ref b] s) (F0 m 2446 ls []) := by
  obtain ⟨⟨hx, hb, hr, hml, hown, hts, hX, hbl, hlocks, hgv⟩, hst, hK, hV, hbA, hL⟩ := C
  have hown : s.vm.findClass RL = some m.cls := hown
  obtain ⟨b9, S1, S2, h1, h2, h5⟩ := dp_restoreSnapshot (l := l) (D := D) (cA := cA) (α := α) hR (xs (i + 1))
  have hcc : cells ≤ room_1.cells ∧ slots ≤ room_1.slots := ⟨Nat.le_trans (Nat.le_succ _) hcs.1, Nat.le_trans (Nat.le_add_right _ 6) hcs.2⟩
  refine lv_aload_n hx hb dL_law_2446 rfl (lv_at hl 1 rfl) ?_
  refine lv_aload_n hx hb dL_law_2447 rfl (lv_at hl 0 rfl) ?_
  refine lv_iload hx hb dL_law_2448 (lv_at hl 5 rfl) ?_
  refine lv_iconst (v := nI 1) hx hb dL_law_2450 (by decide) ?_
  refine xn_iadd hx hb dL_law_2451 ?_
  refine x_sld (k := i + 1) hx hb hX hbl hbA hw.2.2 (by omega) hL dL_law_2452 ?_
  refine x_callVI (q := 0) (C := RX10) (As := [.int (xs (i + 1))]) (rest := []) ⟨hx, hb, hml, hown, hts⟩ (h1 _) (cwV 1 hts gL_law_X10_restoreSnapshot rfl rfl rfl (by decide +kernel) ⟨Nat.le_of_ble_eq_true rfl, Nat.le_of_ble_eq_true rfl⟩) hK hw (fun _ h => h) (ws_recv hK hw (q := 0) (by decide) (mk_0 cA α) rfl) rfl hl.1 rfl (Nat.le_of_ble_eq_true rfl) dL_law_2453 hcc (fun S9 eS9 H locs hw => ?_)
  rw [eS9] at hw
  refine lv_aload_n hx hb dL_law_2456 rfl (lv_at hl 2 rfl) ?_
  refine lv_aload_n hx hb dL_law_2457 rfl (lv_at hl 0 rfl) ?_
  refine lv_iload hx hb dL_law_2458 (lv_at hl 5 rfl) ?_
  refine lv_iconst (v := nI 1) hx hb dL_law_2460 (by decide) ?_
  refine xn_iadd hx hb dL_law_2461 ?_
  refine x_sld (k := i + 1) hx hb hX hbl hbA hw.2.2 (by omega) hL dL_law_2462 ?_
  refine x_callVI (q := 30) (C := RX11) (As := [.int (xs (i + 1))]) (rest := [.int b9]) ⟨hx, hb, hml, hown, hts⟩ (h2 _) (cwV 1 hts gL_law_X11_restoreSnapshot rfl rfl rfl (by decide +kernel) ⟨Nat.le_of_ble_eq_true rfl, Nat.le_of_ble_eq_true rfl⟩) hK hw (fun _ h => h) (ws_recv hK hw (q := 30) (by decide) (mk_30 cA α) rfl) rfl hl.1 rfl (Nat.le_of_ble_eq_true rfl) dL_law_2463 hcc (fun S9 eS9 H locs hw => ?_)
  rw [eS9] at hw
  refine lv_icmp_eq (tgt := 2471) hx hb dL_law_2466 (by decide) (fun c1 => ?_) (fun c1 => absurd rfl c1)
  exact kk _ _ _ _ _ _ h5 hw (lv_sub hl [0, 1, 2, 3, 4, 5] rfl) (Nat.le_succ _) (Nat.le_add_right _ 6)

end LAW
