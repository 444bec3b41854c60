/-! the words of the group's text: String constants that both sides read -/
def wB : List (List Int32) := [[99, 117, 114, 114, 101, 110, 99, 121], [99, 111, 109, 112, 97, 110, 121], [112, 114, 111, 100, 117, 99, 116], [116, 111, 108, 101, 114, 97, 110, 99, 101], [99, 101, 110, 116, 101, 114], [102, 101, 101]]
abbrev wb (i : Nat) : List Int32 := wB.getD i []
abbrev wl (i : Nat) : Nat := (wb i).length
def wK : List (String × Nat × String × Nat) := [("IntercompanyLedger$GroupReader", 61, "currency", 0), ("IntercompanyLedger$GroupReader", 70, "company", 1), ("IntercompanyLedger$GroupReader", 75, "product", 2), ("IntercompanyLedger$GroupReader", 80, "tolerance", 3), ("IntercompanyLedger$GroupReader", 85, "center", 4), ("IntercompanyLedger$GroupReader", 90, "fee", 5), ("IntercompanyLedgerModel", 136, "currency", 0), ("IntercompanyLedgerModel", 142, "company", 1), ("IntercompanyLedgerModel", 144, "product", 2), ("IntercompanyLedgerModel", 149, "tolerance", 3), ("IntercompanyLedgerModel", 155, "center", 4), ("IntercompanyLedgerModel", 157, "fee", 5)]
def Ke (ka va : Nat → Nat) (A : Nat → Prop) (U : State) (H : Heap) : Prop :=
  (∀ i : Nat, i < 6 → va_O "java/lang/String" (ka i) A U H ∧ va_OF "java/lang/String" "coder" "B" (.int 0) (ka i) A U H ∧ va_OF "java/lang/String" "value" "[B" (.ref (va i)) (ka i) A U H ∧ va_T .byte (va i) (wl i) (fun j => .int ((wb i).getD j 0)) A U H) ∧
  va_Z "java/lang/String" "COMPACT_STRINGS" "Z" (.int 1) A U H ∧ va_Zq "jdk/internal/util/Preconditions" "SIOOBE_FORMATTER" "Ljava/util/function/BiFunction;" A U H
def Kr (ka : Nat → Nat) (U : State) : Prop := ∀ q ∈ wK, vk_R q.1 q.2.1 q.2.2.1 (ka q.2.2.2) U
def Ee (ka va : Nat → Nat) (A : Nat → Prop) (U : State) (H : Heap) : Prop := Ke ka va A U H ∧ Kr ka U
theorem Ke.moved {ka va : Nat → Nat} {A : Nat → Prop} {u U : State} {H : Heap} (hvm : u.vm.Alike U.vm) (h : Ke ka va A u H) : Ke ka va A U H :=
  ⟨fun i hi => ⟨va_O.moved hvm (h.1 i hi).1, va_OF.moved hvm (h.1 i hi).2.1, va_OF.moved hvm (h.1 i hi).2.2.1, va_T.moved hvm (h.1 i hi).2.2.2⟩, va_Z.moved hvm h.2.1, va_Zq.moved hvm h.2.2⟩
theorem Ke.kept {ka va : Nat → Nat} {A : Nat → Prop} {U : State} {H H1 : Heap} (h : Ke ka va A U H) (hq : ∀ a : Nat, a < H.size → ¬ A a → H1[a]? = H[a]?) : Ke ka va A U H1 :=
  ⟨fun i hi => ⟨(h.1 i hi).1.kept hq, (h.1 i hi).2.1.kept hq, (h.1 i hi).2.2.1.kept hq, (h.1 i hi).2.2.2.kept hq⟩, h.2.1.kept hq, h.2.2.kept hq⟩
theorem Ke.narrow {ka va : Nat → Nat} {A B : Nat → Prop} {U : State} {H : Heap} (h : Ke ka va A U H) (hAB : ∀ q, B q → A q) : Ke ka va B U H :=
  ⟨fun i hi => ⟨(h.1 i hi).1.narrow hAB, (h.1 i hi).2.1.narrow hAB, (h.1 i hi).2.2.1.narrow hAB, (h.1 i hi).2.2.2.narrow hAB⟩, h.2.1.narrow hAB, h.2.2.narrow hAB⟩
theorem Kr.warm {ka : Nat → Nat} {s U : State} (hW : s.WarmedH U.vm) (h : Kr ka s) : Kr ka U := fun q hq => vk_R.warm hW (h q hq)
abbrev CtPreE (ka va : Nat → Nat) (D : va_G) (cA : Nat → ClassId) (α : Nat → Nat) (n sz : Nat) (av : List Value) (S : Mem) : Array Value → State → Prop := va_Pc av (fun U => U.heap.size = sz ∧ Pw D cA α n S U ∧ Ee ka va (Aw α n sz) U U.heap)
def CtIe (ka va : Nat → Nat) (l : Launch) (y : MethodName) (ws : List Cond) (rm : Room) (D : va_G) (cA : Nat → ClassId) (α : Nat → Nat) (n sz : Nat) (av : List Value) (S : Mem) (fr : Int32) (fS : Mem) : Prop := Met l y ws rm (CtPreE ka va D cA α n sz av S) (va_Qi (fun r u => r = fr ∧ u = fS) (Pw D cA α n) (Aw α n sz)) 0 0 (Aw α n sz)
def CtVe (ka va : Nat → Nat) (l : Launch) (y : MethodName) (ws : List Cond) (rm : Room) (D : va_G) (cA : Nat → ClassId) (α : Nat → Nat) (n sz : Nat) (av : List Value) (S : Mem) (fS : Mem) : Prop := Met l y ws rm (CtPreE ka va D cA α n sz av S) (va_Qv (fun u => u = fS) (Pw D cA α n) (Aw α n sz)) 0 0 (Aw α n sz)
theorem cte_blind {ka va : Nat → Nat} {D : va_G} {cA : Nat → ClassId} {α : Nat → Nat} {n sz : Nat} {av : List Value} {S : Mem} : FrameBlind (CtPreE ka va D cA α n sz av S) := by
  intro a U g mk' q
  obtain ⟨q0, q1, qP, qK, qR⟩ := q
  exact ⟨q0, q1, Pw.alike qP rfl (Vm.Alike.refl U.vm), Ke.moved (Vm.Alike.refl U.vm) qK, Kr.warm (s := U) (State.WarmedH.refl U) qR⟩
section TE
variable {p : Program} {l : Launch} {e : Env} {R : Room} {s : State} {m : MethodId} {args : Array Value} {below : List Frame} {meth : Method} {c : Code} {H : Heap} {locs : List Loc} {cells slots : Nat} {Q : State → Prop}
variable {cc : ByteArray} {pc : Nat} {ls : Array Slot} {rest : List Value} {D : va_G} {cA : Nat → ClassId} {α : Nat → Nat} {n : Nat} {A : Nat → Prop} {H0 : Heap} {S : Mem} {ka va : Nat → Nat}
theorem cte_enter {y : MethodName} {ws ws' : List Cond} {rm : Room} {sz : Nat} {av : List Value} {Qc : Array Value → State → Outcome → State → Prop} (cc : ByteArray) (maxL : Nat) (ret : Option FieldType) (hy : plainName y.cls = true) (hw : ws = Cond.code y cc maxL ret :: ws') (hlen : (lg_sl av).length ≤ maxL)
    (body : ∀ (p : Program) (e : Env) (s : State) (m : MethodId) (below : List Frame) (meth : Method) (c : Code), p.tables.exec = Jvm.exec → c.code = cc → meth.sig.returnType = ret → c.maxLocals = maxL → meth.locks = false → s.vm.findClass y.cls = some m.cls → (∀ w ∈ ws, w.before av.toArray s = true) → va_K D vwCl (tyl cA) s → s.heap.size = sz → Ws D cA α n (Aw α n sz) s.heap S s.heap [] → Ee ka va (Aw α n sz) s s.heap →
      ∀ ls : Array Slot, lv_has ls maxL (lv_args 0 av) → W p l e rm s m av.toArray below meth c s.heap [] 0 0 (MQ below Qc av.toArray s 0 0 (Aw α n sz)) (F0 m 0 ls [])) :
    Met l y ws rm (CtPreE ka va D cA α n sz av S) Qc 0 0 (Aw α n sz) := by
  refine Met.ofW (cc := cc) (maxL := maxL) (ret := ret) hy hw ?_
  intro p e s m args below meth c s₁ B hml hv
  obtain ⟨rfl, hsz, ⟨hP, hK, hD⟩, hE⟩ := hv
  have hl := lv_entry av (n := maxL) hlen
  rw [lg_entry_eq]
  exact body p e s m below meth c B.exec B.bytes B.returns hml B.notSynchronized (findClass_of_methodNamed B.named) (atoms_spec (ws := ws) B.pre) hK hsz ⟨hP, WL_D hD (fun k hk => Or.inl ⟨k, hk, rfl⟩), va_S.rf⟩ hE _ hl
theorem ee_at {sz : Nat} (hw : Ws D cA α n (Aw α n sz) s.heap S H locs) (hsz : s.heap.size = sz) (hE : Ee ka va (Aw α n sz) s s.heap) {U : State} (hU : U.heap = H) (hW : s.WarmedH U.vm) : Ee ka va (Aw α n H.size) U U.heap := by
  rw [hU]
  refine ⟨Ke.narrow (Ke.moved hW.alike (hE.1.kept hw.2.2.2.1)) (fun q h => h.elim Or.inl (fun h => Or.inr (Nat.le_trans ?_ h))), Kr.warm hW hE.2⟩
  rw [← hsz]; exact hw.2.2.1
theorem k_recv {sz i : Nat} (hE : Ee ka va (Aw α n sz) s s.heap) (hw : Ws D cA α n (Aw α n sz) s.heap S H locs) (hi : i < 6) : ∃ cell : Cell, H[ka i]? = some cell ∧ cell.vm.isStatics = false ∧ s.vm.findClass "java/lang/String" = some cell.cls := by
  obtain ⟨cell, h1, h2, h3, -⟩ := (hE.1.1 i hi).1.kept hw.2.2.2.1
  exact ⟨cell, h1, h2, h3⟩
theorem x_callVIe {y : MethodName} {bytes : ByteArray} {maxL nL k index sz : Nat} {ret : Option FieldType} {ws : List Cond} {rm : Room} {Ts : List Cond} {own C : String} {As : List Value} {b : Nat} {fr : Int32} {fS : Mem} {st0 : List Value} (X : CallFix p m c cc nL s args Ts own) (hM : CtIe ka va l y ws rm D cA α n H.size (.ref b :: As) S fr fS) (cw : CallW R s args own C index y bytes maxL ret ws rm 0 0 k) (hK : va_K D vwCl (tyl cA) s) (hw : Ws D cA α n (Aw α n sz) s.heap S H locs) (hsz : s.heap.size = sz) (hE : Ee ka va (Aw α n sz) s s.heap) (hr : ∃ cell : Cell, H[b]? = some cell ∧ cell.vm.isStatics = false ∧ s.vm.findClass C = some cell.cls)
    (hn : As.length = k) (hsize : ls.size = nL) (hstack : st0 = As.reverse ++ .ref b :: rest) (hroom : (rest.map fun v => v.category).sum ≤ 8) (hdg : decode cc pc = .ok (.invokevirtual index, 3)) (hf : cells ≤ R.cells ∧ slots ≤ R.slots)
    (kk : ∀ S1 : Mem, S1 = fS → ∀ (H1 : Heap) (locs1 : List Loc), Ws D cA α n (Aw α n sz) s.heap S1 H1 locs1 → W p l e R s m args below meth c H1 locs1 cells slots Q (F0 m (pc + 3) ls (.int fr :: rest))) : W p l e R s m args below meth c H locs cells slots Q (F0 m pc ls st0) := by
  have hlift : ∀ z, Aw α n H.size z → Aw α n sz z := aw_lift (H0 := s.heap) (by rw [hsz]; exact fun _ h => h) hw.2.2.1
  refine va_calli (va_runV (As := As) (rest := rest) X hM cw ⟨cte_blind, hr, fun U hU hW => ⟨rfl, by rw [hU], ws_pw hK hw hU hW, ee_at hw hsz hE hU hW⟩⟩ rfl hn hsize hstack (lv_room hroom) hdg hf) hw.2.2 (fun z _ h => hlift z h) hlift (fun r u t H1 locs1 ht hvm hw1 hB hz hk hS => ?_)
  obtain ⟨rfl, rfl⟩ := hw1
  exact kk _ rfl H1 locs1 ⟨by rw [← ht]; exact hB.1, WL_D hw.2.1 (fun k hk => hlift _ (Or.inl ⟨k, hk, rfl⟩)), hS⟩
theorem x_callVVe {y : MethodName} {bytes : ByteArray} {maxL nL k index sz : Nat} {ret : Option FieldType} {ws : List Cond} {rm : Room} {Ts : List Cond} {own C : String} {As : List Value} {b : Nat} {fS : Mem} {st0 : List Value} (X : CallFix p m c cc nL s args Ts own) (hM : CtVe ka va l y ws rm D cA α n H.size (.ref b :: As) S fS) (cw : CallW R s args own C index y bytes maxL ret ws rm 0 0 k) (hK : va_K D vwCl (tyl cA) s) (hw : Ws D cA α n (Aw α n sz) s.heap S H locs) (hsz : s.heap.size = sz) (hE : Ee ka va (Aw α n sz) s s.heap) (hr : ∃ cell : Cell, H[b]? = some cell ∧ cell.vm.isStatics = false ∧ s.vm.findClass C = some cell.cls)
    (hn : As.length = k) (hsize : ls.size = nL) (hstack : st0 = As.reverse ++ .ref b :: rest) (hroom : (rest.map fun v => v.category).sum ≤ 8) (hdg : decode cc pc = .ok (.invokevirtual index, 3)) (hf : cells ≤ R.cells ∧ slots ≤ R.slots)
    (kk : ∀ S1 : Mem, S1 = fS → ∀ (H1 : Heap) (locs1 : List Loc), Ws D cA α n (Aw α n sz) s.heap S1 H1 locs1 → W p l e R s m args below meth c H1 locs1 cells slots Q (F0 m (pc + 3) ls rest)) : W p l e R s m args below meth c H locs cells slots Q (F0 m pc ls st0) := by
  have hlift : ∀ z, Aw α n H.size z → Aw α n sz z := aw_lift (H0 := s.heap) (by rw [hsz]; exact fun _ h => h) hw.2.2.1
  refine va_callv (va_runV (As := As) (rest := rest) X hM cw ⟨cte_blind, hr, fun U hU hW => ⟨rfl, by rw [hU], ws_pw hK hw hU hW, ee_at hw hsz hE hU hW⟩⟩ rfl hn hsize hstack (lv_room hroom) hdg hf) hw.2.2 (fun z _ h => hlift z h) hlift (fun u t H1 locs1 ht hvm hw1 hB hz hk hS => ?_)
  obtain rfl := hw1
  exact kk _ rfl H1 locs1 ⟨by rw [← ht]; exact hB.1, WL_D hw.2.1 (fun k hk => hlift _ (Or.inl ⟨k, hk, rfl⟩)), hS⟩
theorem x_callSIe {y : MethodName} {bytes : ByteArray} {maxL nL k index sz : Nat} {ret : Option FieldType} {ws : List Cond} {rm : Room} {Ts : List Cond} {own : String} {As : List Value} {fr : Int32} {fS : Mem} {st0 : List Value} (X : CallFix p m c cc nL s args Ts own) (hM : CtIe ka va l y ws rm D cA α n H.size As S fr fS) (cw : CallB R s args own index y bytes maxL ret ws rm 0 0 k ∧ (Cond.static y).before args s = true) (hK : va_K D vwCl (tyl cA) s) (hw : Ws D cA α n (Aw α n sz) s.heap S H locs) (hsz : s.heap.size = sz) (hE : Ee ka va (Aw α n sz) s s.heap)
    (hn : As.length = k) (hsize : ls.size = nL) (hstack : st0 = As.reverse ++ rest) (hroom : (rest.map fun v => v.category).sum ≤ 8) (hdg : decode cc pc = .ok (.invokestatic index, 3)) (hf : cells ≤ R.cells ∧ slots ≤ R.slots)
    (kk : ∀ S1 : Mem, S1 = fS → ∀ (H1 : Heap) (locs1 : List Loc), Ws D cA α n (Aw α n sz) s.heap S1 H1 locs1 → W p l e R s m args below meth c H1 locs1 cells slots Q (F0 m (pc + 3) ls (.int fr :: rest))) : W p l e R s m args below meth c H locs cells slots Q (F0 m pc ls st0) := by
  have hlift : ∀ z, Aw α n H.size z → Aw α n sz z := aw_lift (H0 := s.heap) (by rw [hsz]; exact fun _ h => h) hw.2.2.1
  refine va_calli (va_runS (As := As) (rest := rest) X hM cw ⟨cte_blind, fun U hU hW => ⟨rfl, by rw [hU], ws_pw hK hw hU hW, ee_at hw hsz hE hU hW⟩⟩ rfl hn hsize hstack (lv_room hroom) hdg hf) hw.2.2 (fun z _ h => hlift z h) hlift (fun r u t H1 locs1 ht hvm hw1 hB hz hk hS => ?_)
  obtain ⟨rfl, rfl⟩ := hw1
  exact kk _ rfl H1 locs1 ⟨by rw [← ht]; exact hB.1, WL_D hw.2.1 (fun k hk => hlift _ (Or.inl ⟨k, hk, rfl⟩)), hS⟩
theorem x_callSVe {y : MethodName} {bytes : ByteArray} {maxL nL k index sz : Nat} {ret : Option FieldType} {ws : List Cond} {rm : Room} {Ts : List Cond} {own : String} {As : List Value} {fS : Mem} {st0 : List Value} (X : CallFix p m c cc nL s args Ts own) (hM : CtVe ka va l y ws rm D cA α n H.size As S fS) (cw : CallB R s args own index y bytes maxL ret ws rm 0 0 k ∧ (Cond.static y).before args s = true) (hK : va_K D vwCl (tyl cA) s) (hw : Ws D cA α n (Aw α n sz) s.heap S H locs) (hsz : s.heap.size = sz) (hE : Ee ka va (Aw α n sz) s s.heap)
    (hn : As.length = k) (hsize : ls.size = nL) (hstack : st0 = As.reverse ++ rest) (hroom : (rest.map fun v => v.category).sum ≤ 8) (hdg : decode cc pc = .ok (.invokestatic index, 3)) (hf : cells ≤ R.cells ∧ slots ≤ R.slots)
    (kk : ∀ S1 : Mem, S1 = fS → ∀ (H1 : Heap) (locs1 : List Loc), Ws D cA α n (Aw α n sz) s.heap S1 H1 locs1 → W p l e R s m args below meth c H1 locs1 cells slots Q (F0 m (pc + 3) ls rest)) : W p l e R s m args below meth c H locs cells slots Q (F0 m pc ls st0) := by
  have hlift : ∀ z, Aw α n H.size z → Aw α n sz z := aw_lift (H0 := s.heap) (by rw [hsz]; exact fun _ h => h) hw.2.2.1
  refine va_callv (va_runS (As := As) (rest := rest) X hM cw ⟨cte_blind, fun U hU hW => ⟨rfl, by rw [hU], ws_pw hK hw hU hW, ee_at hw hsz hE hU hW⟩⟩ rfl hn hsize hstack (lv_room hroom) hdg hf) hw.2.2 (fun z _ h => hlift z h) hlift (fun u t H1 locs1 ht hvm hw1 hB hz hk hS => ?_)
  obtain rfl := hw1
  exact kk _ rfl H1 locs1 ⟨by rw [← ht]; exact hB.1, WL_D hw.2.1 (fun k hk => hlift _ (Or.inl ⟨k, hk, rfl⟩)), hS⟩
theorem x_kby {sz i : Nat} (hx : p.tables.exec = Jvm.exec) (hb : c.code = cc) (hE : Ee ka va (Aw α n sz) s s.heap) (hw : Ws D cA α n (Aw α n sz) s.heap S H locs) (hi : i < 6) (k : Nat) (hk : k < wl i) (hN : wl i < 2147483648) (hdg : decode cc pc = .ok (.baload, 1))
    (kk : W p l e R s m args below meth c H locs cells slots Q (F0 m (pc + 1) ls (.int ((wb i).getD k 0) :: rest))) : W p l e R s m args below meth c H locs cells slots Q (F0 m pc ls (.int (nI k) :: .ref (va i) :: rest)) :=
  va_tb hx hb (hE.1.1 i hi).2.2.2 hw.2.2 (vp_in_nI hk hN) (by rw [nI_clamp (Nat.lt_trans hk hN)]) hdg kk
theorem x_kfmt {sz : Nat} {own ref : String} {index : Nat} (hx : p.tables.exec = Jvm.exec) (hb : c.code = cc) (hE : Ee ka va (Aw α n sz) s s.heap) (hw : Ws D cA α n (Aw α n sz) s.heap S H locs) (hown : s.vm.findClass own = some m.cls) (hlink : (Cond.fieldLink own index "jdk/internal/util/Preconditions" "SIOOBE_FORMATTER" "Ljava/util/function/BiFunction;").before args s = true) (hdg : decode cc pc = .ok (.getstatic index, 3))
    (k0 : W p l e R s m args below meth c H locs cells slots Q (F0 m (pc + 3) ls (.null :: rest))) (k1 : ∀ t9 : Nat, W p l e R s m args below meth c H locs cells slots Q (F0 m (pc + 3) ls (.ref t9 :: rest))) : W p l e R s m args below meth c H locs cells slots Q (F0 m pc ls rest) := by
  rcases hE.1.2.2 with hz | ⟨t9, hz⟩
  · exact va_gets hx hb hz hw.2.2 hown hlink (fun _ h => h) hdg k0
  · exact va_gets hx hb hz hw.2.2 hown hlink (fun _ h => h) hdg (k1 t9)
end TE
theorem wb_ch : ∀ i, i < 6 → ∀ k, k < wl i → (((wb i).getD k 0 &&& nI 255).toUInt32 % 65536).toInt32 = (wb i).getD k 0 := by decide +kernel
theorem wb_nar : ∀ i, i < 6 → ∀ k, k < wl i → narrow .char (.int ((wb i).getD k 0)) = .int ((wb i).getD k 0) := by decide +kernel
theorem wl_lt : ∀ i, i < 6 → wl i < 10 := by decide +kernel
theorem wl_sh : ∀ i, i < 6 → nI (wl i) >>> ((0 : Int32) &&& 31) = nI (wl i) := by decide +kernel
