/-! the law's helpers: frame -/
def Nx (U : State) : Prop := va_Nc eIA eIO U ∧ va_Nc eIS eIO U ∧ va_Nc eIS eIA U
theorem Nx.moved {u U : State} (hvm : u.vm.Alike U.vm) (h : Nx u) : Nx U := ⟨va_Nc.moved hvm h.1, va_Nc.moved hvm h.2.1, va_Nc.moved hvm h.2.2⟩
/-- all that stands beside the world -/
def Ev (sa ka va : Nat → Nat) (A : Nat → Prop) (U : State) (H : Heap) : Prop := Zx A U H ∧ Sx sa U ∧ Ee ka va A U H ∧ Nx U
abbrev CtPreH (sa ka va : Nat → Nat) (D : va_G) (cA : Nat → ClassId) (α : Nat → Nat) (n sz : Nat) (av : List Value) (S : Mem) : Array Value → State → Prop := va_Pc av (fun U => U.heap.size = sz ∧ Pw D cA α n S U ∧ Ev sa ka va (Aw α n sz) U U.heap)
abbrev XNo (α : Nat → Nat) (n sz : Nat) : String → State → State → Prop := vx_X (fun _ : Mem => False) (fun _ _ _ => True) (Aw α n sz)
/-- a contract of a helper of the law: it answers fr, the world behind it is fS, whatever the class threw -/
def CtH (sa ka va : Nat → Nat) (l : Launch) (y : MethodName) (ws : List Cond) (rm : Room) (D : va_G) (cA : Nat → ClassId) (α : Nat → Nat) (n sz : Nat) (av : List Value) (S : Mem) (fr : Int32) (fS : Mem) : Prop := vx_Met l y ws rm (CtPreH sa ka va D cA α n sz av S) (va_Qi (fun r u => r = fr ∧ u = fS) (Pw D cA α n) (Aw α n sz)) (XNo α n sz) 1 6 (Aw α n sz)
theorem cth_blind {sa ka va : Nat → Nat} {D : va_G} {cA : Nat → ClassId} {α : Nat → Nat} {n sz : Nat} {av : List Value} {S : Mem} : FrameBlind (CtPreH sa ka va D cA α n sz av S) := by
  intro a U g mk' q
  obtain ⟨q0, q1, qP, qZ, qS, qE, qN⟩ := q
  exact ⟨q0, q1, Pw.alike qP rfl (Vm.Alike.refl U.vm), Zx.moved (Vm.Alike.refl U.vm) qZ, Sx.warm (s := U) (State.WarmedH.refl U) qS, ⟨Ke.moved (Vm.Alike.refl U.vm) qE.1, Kr.warm (s := U) (State.WarmedH.refl U) qE.2⟩, Nx.moved (Vm.Alike.refl U.vm) qN⟩
section TH
variable {p : Program} {l : Launch} {e : Env} {R : Room} {s : State} {m : MethodId} {args : Array Value} {below : List Frame} {meth : Method} {c : Code} {H : Heap} {locs : List Loc} {cells slots : Nat} {Q : State → Prop}
variable {cc : ByteArray} {pc : Nat} {ls : Array Slot} {rest : List Value} {D : va_G} {cA : Nat → ClassId} {α : Nat → Nat} {n : Nat} {A : Nat → Prop} {H0 : Heap} {S : Mem} {sa ka va : Nat → Nat}
theorem ev_at {sz : Nat} (hw : Ws D cA α n (Aw α n sz) s.heap S H locs) (hsz : s.heap.size = sz) (hV : Ev sa ka va (Aw α n sz) s s.heap) {U : State} (hU : U.heap = H) (hW : s.WarmedH U.vm) : Ev sa ka va (Aw α n H.size) U U.heap :=
  ⟨zx_at hw hsz hV.1 hU hW, Sx.warm hW hV.2.1, ee_at hw hsz hV.2.2.1 hU hW, Nx.moved hW.alike hV.2.2.2⟩
theorem cth_enter {y : MethodName} {ws ws' : List Cond} {rm : Room} {sz : Nat} {av : List Value} {Qc : Array Value → State → Outcome → State → Prop} {XC : String → State → State → Prop} {hh : List (Nat × Nat × Nat × Nat)} (cc : ByteArray) (maxL : Nat) (ret : Option FieldType) (hy : plainName y.cls = true) (hw : ws = Cond.codeWith y cc maxL ret hh :: ws') (hlen : (lg_sl av).length ≤ maxL)
    (body : ∀ (p : Program) (e : Env) (s : State) (m : MethodId) (below : List Frame) (meth : Method) (c : Code), p.tables.exec = Jvm.exec → c.code = cc → meth.sig.returnType = ret → c.maxLocals = maxL → meth.locks = false → s.vm.findClass y.cls = some m.cls → (∀ w ∈ ws, w.before av.toArray s = true) → va_K D vwCl (tyl cA) s → s.heap.size = sz → Ws D cA α n (Aw α n sz) s.heap S s.heap [] → Ev sa ka va (Aw α n sz) s s.heap → c.exceptionTable.toList = tableOf hh →
      ∀ ls : Array Slot, lv_has ls maxL (lv_args 0 av) → W p l e rm s m av.toArray below meth c s.heap [] 0 0 (vx_MQ below Qc XC av.toArray s 1 6 (Aw α n sz)) (F0 m 0 ls [])) :
    vx_Met l y ws rm (CtPreH sa ka va D cA α n sz av S) Qc XC 1 6 (Aw α n sz) := by
  refine vx_ofWH (cc := cc) (maxL := maxL) (ret := ret) hy hw ?_
  intro p e s m args below meth c s₁ B hml hv
  obtain ⟨rfl, hsz, ⟨hP, hK, hD⟩, hV⟩ := hv
  have hl := lv_entry av (n := maxL) hlen
  rw [lg_entry_eq]
  have hts := atoms_spec (ws := ws) B.pre
  exact body p e s m below meth c B.exec B.bytes B.returns hml B.notSynchronized (findClass_of_methodNamed B.named) hts hK hsz ⟨hP, WL_D hD (fun k hk => Or.inl ⟨k, hk, rfl⟩), va_S.rf⟩ hV (vx_table (x := y) B (hts _ (by rw [hw]; exact List.mem_cons_self))) _ hl
/-- a call that throws, caught here -/
theorem x_callXC {y : MethodName} {bytes : ByteArray} {maxL nL k index sz : Nat} {ret : Option FieldType} {ws : List Cond} {rm : Room} {Ts : List Cond} {own C : String} {As : List Value} {q : Nat} {E : String} {st0 : List Value} (X : CallFix p m c cc nL s args Ts own) (hM : CtX sa l y ws rm D cA α n H.size (.ref (α q) :: As) S E) (cw : CallW R s args own C index y bytes maxL ret ws rm 1 6 k) (hK : va_K D vwCl (tyl cA) s) (hw : Ws D cA α n (Aw α n sz) s.heap S H locs) (hsz : s.heap.size = sz) (hV : Ev sa ka va (Aw α n sz) s s.heap) (hr : ∃ cell : Cell, H[α q]? = some cell ∧ cell.vm.isStatics = false ∧ s.vm.findClass C = some cell.cls)
    (hn : As.length = k) (hsize : ls.size = nL) (hstack : st0 = As.reverse ++ .ref (α q) :: rest) (hroom : (rest.map fun v => v.category).sum ≤ 8) (hdg : decode cc pc = .ok (.invokevirtual index, 3)) (hf : 0 + 1 ≤ R.cells ∧ 0 + 6 ≤ R.slots)
    (pre : List ExceptionTableEntry) (x : ExceptionTableEntry) (suf : List ExceptionTableEntry) (hsplit : c.exceptionTable.toList = pre ++ x :: suf) (hpass : ∀ z ∈ pre, covers z pc = false ∨ (z.catchType ≠ 0 ∧ ∃ nm : String, (Cond.classLink own z.catchType nm).before args s = true ∧ va_Nc E nm s)) (hx9 : covers x pc = true) (h0 : x.catchType ≠ 0) (hlink : (Cond.classLink own x.catchType E).before args s = true) (hcast : E ∈ xCas)
    (kk : ∀ (q9 : Nat) (H1 : Heap) (locs1 : List Loc), Ws D cA α n (Aw α n sz) s.heap S H1 locs1 → W p l e R s m args below meth c H1 locs1 (0 + 1) (0 + 6) Q (F0 m x.handlerPc ls [.ref q9])) : W p l e R s m args below meth c H locs 0 0 Q (F0 m pc ls st0) := by
  have hlift : ∀ z, Aw α n H.size z → Aw α n sz z := aw_lift (H0 := s.heap) (by rw [hsz]; exact fun _ h => h) hw.2.2.1
  have hown := X.2.2.2.1
  exact vx_callv (vx_runV (As := As) (rest := rest) X hM cw ⟨ctx_blind, hr, fun U hU hW => ⟨rfl, by rw [hU], ws_pw hK hw hU hW, zx_at hw hsz hV.1 hU hW, hV.2.1.warm hW⟩⟩ rfl hn hsize hstack (lv_room hroom) hdg hf) hw.2.2 (fun z _ h => hlift z h) hlift (fun z _ h => hlift z h)
    (fun E' ce q9 u t H1 locs1 ht hv hp hB hz hk hS1 hcell hcv hcl => by
      obtain ⟨hE, hB⟩ := hB
      subst hE
      subst hp
      exact vx_catch hown pre x suf hsplit hpass hx9 h0 hlink (va_Nw.use rfl (hV.2.1.2.2 _ hcast)) hcell hcv hcl (kk q9 H1 locs1 ⟨by rw [← ht]; exact hB.1, WL_D hw.2.1 (fun k hk => hlift _ (Or.inl ⟨k, hk, rfl⟩)), hS1⟩)) (fun u t H1 locs1 ht hv hp => hp.elim)
/-- a call of a helper -/
theorem x_callH {y : MethodName} {bytes : ByteArray} {maxL nL k index sz : Nat} {ret : Option FieldType} {hh : List (Nat × Nat × Nat × Nat)} {ws : List Cond} {rm : Room} {Ts : List Cond} {own : String} {As : List Value} {fr : Int32} {fS : Mem} {st0 : List Value} (X : CallFix p m c cc nL s args Ts own) (hM : CtH sa ka va l y ws rm D cA α n H.size As S fr fS) (cw : vx_CSW R s args own index y bytes maxL ret hh ws rm 1 6 k) (hK : va_K D vwCl (tyl cA) s) (hw : Ws D cA α n (Aw α n sz) s.heap S H locs) (hsz : s.heap.size = sz) (hV : Ev sa ka va (Aw α n sz) s s.heap)
    (hn : As.length = k) (hsize : ls.size = nL) (hstack : st0 = As.reverse ++ rest) (hroom : (rest.map fun v => v.category).sum ≤ 8) (hdg : decode cc pc = .ok (.invokestatic index, 3)) (hf : cells + 1 ≤ R.cells ∧ slots + 6 ≤ R.slots)
    (kk : ∀ S1 : Mem, S1 = fS → ∀ (H1 : Heap) (locs1 : List Loc), Ws D cA α n (Aw α n sz) s.heap S1 H1 locs1 → W p l e R s m args below meth c H1 locs1 (cells + 1) (slots + 6) Q (F0 m (pc + 3) ls (.int fr :: rest))) : W p l e R s m args below meth c H locs cells slots Q (F0 m pc ls st0) := by
  have hlift : ∀ z, Aw α n H.size z → Aw α n sz z := aw_lift (H0 := s.heap) (by rw [hsz]; exact fun _ h => h) hw.2.2.1
  refine vx_calli (vx_runSX (As := As) (rest := rest) X hM cw ⟨cth_blind, fun U hU hW => ⟨rfl, by rw [hU], ws_pw hK hw hU hW, ev_at hw hsz hV hU hW⟩⟩ rfl hn hsize hstack (lv_room hroom) hdg hf) hw.2.2 (fun z _ h => hlift z h) hlift (fun z _ h => hlift z h) (fun E' ce q9 u t H1 locs1 ht hv hp hB => hp.elim) (fun r u t H1 locs1 ht hvm hw1 hB hz hk hS => ?_)
  obtain ⟨rfl, rfl⟩ := hw1
  exact kk _ rfl H1 locs1 ⟨by rw [← ht]; exact hB.1, WL_D hw.2.1 (fun k hk => hlift _ (Or.inl ⟨k, hk, rfl⟩)), hS⟩
/-- a helper's end -/
theorem ret_h {sz : Nat} {v fr : Int32} {fS : Mem} (hx : p.tables.exec = Jvm.exec) (hb : c.code = cc) (hr : meth.sig.returnType = some .int) (hlocks : meth.locks = false) (hK : va_K D vwCl (tyl cA) s) (hw : Ws D cA α n (Aw α n sz) s.heap S H locs) (hdg : decode cc pc = .ok (.ireturn, 1)) (hc : cells ≤ 1) (hs : slots ≤ 6) (hv : v = fr) (hS : S = fS) {XC : String → State → State → Prop} :
    W p l e R s m args below meth c H locs cells slots (vx_MQ below (va_Qi (fun r u => r = fr ∧ u = fS) (Pw D cA α n) (Aw α n sz)) XC args s 1 6 (Aw α n sz)) (F0 m pc ls [.int v]) :=
  W.widen hc hs (vx_ret (ret_i hx hb hr hlocks hK hw hdg hv hS))
theorem x_dast (hx : p.tables.exec = Jvm.exec) (hb : c.code = cc) (hK : va_K D vwCl (tyl cA) s) (hw : Ws D cA α n A H0 S H locs) (hq : 192 < n) {x : UInt64} (hdg : decode cc pc = .ok (.dastore, 1))
    (kk : ∀ S1 : Mem, S1 = setJ S 192 0 x.toInt64 → ∀ (H1 : Heap) (locs1 : List Loc), Ws D cA α n A H0 S1 H1 locs1 → W p l e R s m args below meth c H1 locs1 cells slots Q (F0 m (pc + 1) ls rest)) : W p l e R s m args below meth c H locs cells slots Q (F0 m pc ls (.double x :: .int (nI 0) :: .ref (α 192) :: rest)) := by
  refine va_dast hx hb hK hw.1 hw.2.1 hw.2.2 192 4 (by rw [WL_get hq, mk_192]) rfl (vp_in_nI (Nat.le_of_ble_eq_true rfl) (Nat.le_of_ble_eq_true rfl)) hdg (fun H1 locs1 h1 h2 h3 => ?_)
  rw [nI_clamp (Nat.le_of_ble_eq_true rfl)] at h1 h2
  have e : (.inl (cA 4, 1, .inr (.inr (.inr (.inl (vf_upd (fun j => (S.2 192 j).toUInt64) 0 x))))) : va_E) = mk cA α 192 (S.1 192) (vp_updL (S.2 192) 0 x.toInt64) := by
    rw [mk_192]
    congr 7
    funext j
    unfold vf_upd vp_updL
    split
    · simp
    · rfl
  rw [e, WL_setL] at h1 h2
  exact kk _ rfl H1 locs1 ⟨h1, h2, h3⟩
end TH
