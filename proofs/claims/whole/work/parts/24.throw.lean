/-! methods of the class that throw: the frame -/
def Zx (A : Nat → Prop) (U : State) (H : Heap) : Prop := vx_Zq Bundle.tN "UNASSIGNED_STACK" Bundle.steD A U H ∧ vx_Zq Bundle.tN "SUPPRESSED_SENTINEL" Bundle.listD A U H
def msgs : List (Nat × String) := [(68, "length is out of range"), (117, "what is out of range"), (188, "the item is not paired"), (195, "the item is not an open receivable"), (272, "there is no such delivery"), (281, "the partner is the company"), (284, "there are 100 items"), (297, "the item is not open"), (302, "the item is neither matched nor disputed"), (307, "the item is not disputed"), (315, "the new amount is out of range"), (320, "there is no matched pair"), (325, "this company cannot get the pieces"), (328, "there are 100 deliveries"), (353, "there is no such currency"), (355, "there is no such company"), (357, "there is no such product"), (359, "there is no such item"), (361, "an argument is out of range"), (363, "the company has not so many pieces")]
/-- the messages, and where their strings lie -/
def xDec : List MethodName := [Bundle.initS "java/lang/RuntimeException", Bundle.initS "java/lang/Exception", Bundle.initS Bundle.tN]
def xCas : List String := ["java/lang/IndexOutOfBoundsException", "java/lang/IllegalArgumentException", "java/lang/IllegalStateException"]
def Sx (sa : Nat → Nat) (U : State) : Prop := (∀ q ∈ msgs, vk_R RX10 q.1 q.2 (sa q.1) U) ∧ (∀ x ∈ xDec, va_Nw (.declares x) U) ∧ ∀ X ∈ xCas, va_Nw (.castable X X) U
theorem Sx.warm {sa : Nat → Nat} {s U : State} (hW : s.WarmedH U.vm) (h : Sx sa s) : Sx sa U := ⟨fun q hq => vk_R.warm hW (h.1 q hq), fun x hx => va_Nw.warmD hW (h.2.1 x hx), fun X hX => va_Nw.warmC hW (h.2.2 X hX)⟩
theorem Sx.B {sa : Nat → Nat} {s : State} {args : Array Value} (h : Sx sa s) {X : String} (hX : X ∈ xCas) : ∀ w ∈ [Cond.declares (Bundle.initS "java/lang/RuntimeException"), Cond.declares (Bundle.initS "java/lang/Exception"), Cond.declares (Bundle.initS Bundle.tN), Cond.castable X X], w.before args s = true :=
  vx_c (va_Nw.use rfl (h.2.1 _ (by simp [xDec]))) (vx_c (va_Nw.use rfl (h.2.1 _ (by simp [xDec]))) (vx_c (va_Nw.use rfl (h.2.1 _ (by simp [xDec]))) (vx_c (va_Nw.use rfl (h.2.2 _ hX)) vx_n)))
theorem Zx.moved {A : Nat → Prop} {u U : State} {H : Heap} (hvm : u.vm.Alike U.vm) (h : Zx A u H) : Zx A U H := ⟨vx_Zq.moved hvm h.1, vx_Zq.moved hvm h.2⟩
theorem Zx.kept {A : Nat → Prop} {U : State} {H H1 : Heap} (h : Zx A U H) (hq : ∀ a : Nat, a < H.size → ¬ A a → H1[a]? = H[a]?) : Zx A U H1 := ⟨h.1.kept hq, h.2.kept hq⟩
theorem Zx.narrow {A B : Nat → Prop} {U : State} {H : Heap} (h : Zx A U H) (hAB : ∀ q, B q → A q) : Zx B U H := ⟨h.1.narrow hAB, h.2.narrow hAB⟩
abbrev CtPreX (sa : Nat → Nat) (D : va_G) (cA : Nat → ClassId) (α : Nat → Nat) (n sz : Nat) (av : List Value) (S : Mem) : Array Value → State → Prop := va_Pc av (fun U => U.heap.size = sz ∧ Pw D cA α n S U ∧ Zx (Aw α n sz) U U.heap ∧ Sx sa U)
abbrev XCt (D : va_G) (cA : Nat → ClassId) (α : Nat → Nat) (n sz : Nat) (S : Mem) (E : String) : String → State → State → Prop := vx_X (fun u : Mem => u = S) (fun E' u t => E' = E ∧ Pw D cA α n u t) (Aw α n sz)
abbrev QNo (D : va_G) (cA : Nat → ClassId) (α : Nat → Nat) (n sz : Nat) : Array Value → State → Outcome → State → Prop := va_Qv (fun _ : Mem => False) (Pw D cA α n) (Aw α n sz)
/-- a contract of a throw: E leaves the method, the world is as it was -/
def CtX (sa : Nat → Nat) (l : Launch) (y : MethodName) (ws : List Cond) (rm : Room) (D : va_G) (cA : Nat → ClassId) (α : Nat → Nat) (n sz : Nat) (av : List Value) (S : Mem) (E : String) : Prop := vx_Met l y ws rm (CtPreX sa D cA α n sz av S) (QNo D cA α n sz) (XCt D cA α n sz S E) 1 6 (Aw α n sz)
theorem ctx_blind {sa : Nat → Nat} {D : va_G} {cA : Nat → ClassId} {α : Nat → Nat} {n sz : Nat} {av : List Value} {S : Mem} : FrameBlind (CtPreX sa D cA α n sz av S) := by
  intro a U g mk' q
  obtain ⟨q0, q1, qP, qZ, qS⟩ := q
  exact ⟨q0, q1, Pw.alike qP rfl (Vm.Alike.refl U.vm), Zx.moved (Vm.Alike.refl U.vm) qZ, Sx.warm (s := U) (State.WarmedH.refl U) qS⟩
section TX
variable {p : Program} {l : Launch} {e : Env} {R : Room} {s : State} {m : MethodId} {args : Array Value} {below : List Frame} {meth : Method} {c : Code} {H : Heap} {locs : List Loc} {Q : State → Prop}
variable {cc : ByteArray} {pc : Nat} {ls : Array Slot} {rest : List Value} {D : va_G} {cA : Nat → ClassId} {α : Nat → Nat} {n : Nat} {A : Nat → Prop} {H0 : Heap} {S : Mem} {sa : Nat → Nat}
theorem ctx_enter {y : MethodName} {ws ws' : List Cond} {rm : Room} {sz : Nat} {av : List Value} {Qc : Array Value → State → Outcome → State → Prop} {XC : String → State → State → Prop} (cc : ByteArray) (maxL : Nat) (ret : Option FieldType) (hy : plainName y.cls = true) (hw : ws = Cond.code y cc maxL ret :: ws') (hlen : (lg_sl av).length ≤ maxL)
    (body : ∀ (p : Program) (e : Env) (s : State) (m : MethodId) (below : List Frame) (meth : Method) (c : Code), p.tables.exec = Jvm.exec → c.code = cc → meth.sig.returnType = ret → c.maxLocals = maxL → meth.locks = false → s.vm.findClass y.cls = some m.cls → (∀ w ∈ ws, w.before av.toArray s = true) → va_K D vwCl (tyl cA) s → s.heap.size = sz → Ws D cA α n (Aw α n sz) s.heap S s.heap [] → Zx (Aw α n sz) s s.heap → Sx sa s → (∀ x ∈ c.exceptionTable.toList, False) →
      ∀ ls : Array Slot, lv_has ls maxL (lv_args 0 av) → W p l e rm s m av.toArray below meth c s.heap [] 0 0 (vx_MQ below Qc XC av.toArray s 1 6 (Aw α n sz)) (F0 m 0 ls [])) :
    vx_Met l y ws rm (CtPreX sa D cA α n sz av S) Qc XC 1 6 (Aw α n sz) := by
  refine vx_ofW (cc := cc) (maxL := maxL) (ret := ret) hy hw ?_
  intro p e s m args below meth c s₁ B hml ht hv
  obtain ⟨rfl, hsz, ⟨hP, hK, hD⟩, hZ, hS⟩ := hv
  have hl := lv_entry av (n := maxL) hlen
  rw [lg_entry_eq]
  exact body p e s m below meth c B.exec B.bytes B.returns hml B.notSynchronized (findClass_of_methodNamed B.named) (atoms_spec (ws := ws) B.pre) hK hsz ⟨hP, WL_D hD (fun k hk => Or.inl ⟨k, hk, rfl⟩), va_S.rf⟩ hZ hS ht _ hl
theorem xc_of {sz : Nat} {E : String} {t : State} (hK : va_K D vwCl (tyl cA) s) (hw : Ws D cA α n (Aw α n sz) s.heap S H locs) (hv : s.vm.Alike t.vm) (hz : H.size ≤ t.heap.size) (hq : ∀ q : Nat, q < H.size → t.heap[q]? = H[q]?) : XCt D cA α n sz S E E s t :=
  ⟨S, rfl, ⟨rfl, hw.1.kept (fun k q hk => hq q.1 (vx_lt hw.1 hk)), va_K.moved hv hK, WL_D hw.2.1 (fun _ _ => trivial)⟩, Nat.le_trans hw.2.2.1 hz, fun q h1 h2 => (hq q (Nat.lt_of_lt_of_le h1 hw.2.2.1)).trans (hw.2.2.2.1 q h1 h2)⟩
/-- throw new E("text") -/
theorem x_throwS {own cls text : String} {names : List String} {ik is ic sz : Nat} {S0 : Mem} {Qc : Array Value → State → Outcome → State → Prop} {a9 : Nat} (hx : p.tables.exec = Jvm.exec) (hb : c.code = cc) (hst : l.stackTraces = false) (hown : s.vm.findClass own = some m.cls) (hcls : Bundle.fit cls = true) (hnames : ∀ n ∈ names, Bundle.fit n = true)
    (hk : (Cond.classLink own ik cls).before args s = true) (hini : (Cond.initialized cls).before args s = true) (hstr : vk_R own is text a9 s) (hat : ∀ w ∈ vx_atS own ic cls names, w.before args s = true)
    (hgood : ∀ w ∈ Cond.classLink own ik cls :: Cond.initialized cls :: vx_atS own ic cls names, vx_ot w = true) (hZ : Zx (Aw α n sz) s s.heap) (hK : va_K D vwCl (tyl cA) s) (hw : Ws D cA α n (Aw α n sz) s.heap S H locs) (hsize : ls.size = c.maxLocals)
    (d0 : decode cc pc = .ok (.new ik, 3)) (d3 : decode cc (pc + 3) = .ok (.dup, 1)) (d4 : decode cc (pc + 4) = .ok (.ldc is, 2)) (d6 : decode cc (pc + 6) = .ok (.invokespecial ic, 3)) (d9 : decode cc (pc + 9) = .ok (.athrow, 1))
    (hout : ∀ x ∈ c.exceptionTable.toList, False) (hRf : names.length + 3 < R.frames) (hRl : (rest.map fun v => v.category).sum + (13 * (names.length + 1) + 43) ≤ R.locals) (hRc : 0 + 1 ≤ R.cells) (hRs : 0 + 6 ≤ R.slots) (hlocks : meth.locks = false) (hS : S = S0) :
    W p l e R s m args below meth c H locs 0 0 (vx_MQ below Qc (XCt D cA α n sz S0 cls) args s 1 6 (Aw α n sz)) (F0 m pc ls rest) := by
  subst hS
  exact vx_throwS (A := Aw α n sz) hx hb hst hown hcls hnames hk hini hstr hat hgood hZ.1 hZ.2 hw.2.2 hsize d0 d3 d4 d6 d9 (fun x hx => (hout x hx).elim) hRf hRl hRc hRs hlocks (fun t hv hz hq => xc_of hK hw hv hz hq) hw.2.2.2.2 (Nat.le_refl _) (Nat.le_refl _)
theorem x_throwSW {own cls text : String} {names : List String} {ik is ic sz : Nat} {S0 : Mem} {Qc : Array Value → State → Outcome → State → Prop} {a9 : Nat} (hx : p.tables.exec = Jvm.exec) (hb : c.code = cc) (hst : l.stackTraces = false) (hown : s.vm.findClass own = some m.cls) (hcls : Bundle.fit cls = true) (hnames : ∀ n ∈ names, Bundle.fit n = true)
    (hk : (Cond.classLink own ik cls).before args s = true) (hini : (Cond.initialized cls).before args s = true) (hstr : vk_R own is text a9 s) (hat : ∀ w ∈ vx_atS own ic cls names, w.before args s = true)
    (hgood : ∀ w ∈ Cond.classLink own ik cls :: Cond.initialized cls :: vx_atS own ic cls names, vx_ot w = true) (hZ : Zx (Aw α n sz) s s.heap) (hK : va_K D vwCl (tyl cA) s) (hw : Ws D cA α n (Aw α n sz) s.heap S H locs) (hsize : ls.size = c.maxLocals)
    (d0 : decode cc pc = .ok (.new ik, 3)) (d3 : decode cc (pc + 3) = .ok (.dup, 1)) (d4 : decode cc (pc + 4) = .ok (.ldc_w is, 3)) (d7 : decode cc (pc + 7) = .ok (.invokespecial ic, 3)) (d10 : decode cc (pc + 10) = .ok (.athrow, 1))
    (hout : ∀ x ∈ c.exceptionTable.toList, False) (hRf : names.length + 3 < R.frames) (hRl : (rest.map fun v => v.category).sum + (13 * (names.length + 1) + 43) ≤ R.locals) (hRc : 0 + 1 ≤ R.cells) (hRs : 0 + 6 ≤ R.slots) (hlocks : meth.locks = false) (hS : S = S0) :
    W p l e R s m args below meth c H locs 0 0 (vx_MQ below Qc (XCt D cA α n sz S0 cls) args s 1 6 (Aw α n sz)) (F0 m pc ls rest) := by
  subst hS
  exact vx_throwSW (A := Aw α n sz) hx hb hst hown hcls hnames hk hini hstr hat hgood hZ.1 hZ.2 hw.2.2 hsize d0 d3 d4 d7 d10 (fun x hx => (hout x hx).elim) hRf hRl hRc hRs hlocks (fun t hv hz hq => xc_of hK hw hv hz hq) hw.2.2.2.2 (Nat.le_refl _) (Nat.le_refl _)
theorem zx_at {sz : Nat} (hw : Ws D cA α n (Aw α n sz) s.heap S H locs) (hsz : s.heap.size = sz) (hZ : Zx (Aw α n sz) s s.heap) {U : State} (hU : U.heap = H) (hW : s.WarmedH U.vm) : Zx (Aw α n H.size) U U.heap := by
  rw [hU]
  refine Zx.narrow (Zx.moved hW.alike (hZ.kept hw.2.2.2.1)) (fun q h => h.elim Or.inl (fun h => Or.inr (Nat.le_trans ?_ h)))
  rw [← hsz]; exact hw.2.2.1
theorem vx_leave {sz : Nat} {E E' : String} {ce : Cell} {q9 : Addr} {u : Mem} {t : State} {H1 : Heap} {locs1 : List Loc} {S0 : Mem} {Qc : Array Value → State → Outcome → State → Prop} (hK : va_K D vwCl (tyl cA) s) (hout : ∀ x ∈ c.exceptionTable.toList, False) (hlocks : meth.locks = false) (ht : t.heap = H1) (hu : u = S0) (hB : E' = E ∧ Pw D cA α n u t) (hS : va_S (Aw α n sz) s.heap H1 locs1) (hcell : H1[q9]? = some ce) (hcv : ce.vm = .none) (hcl : s.vm.findClass E' = some ce.cls) :
    vx_W p l e R s m args below meth c H1 locs1 (0 + 1) (0 + 6) (vx_MQ below Qc (XCt D cA α n sz S0 E) args s 1 6 (Aw α n sz)) (F0 m pc ls rest) q9 :=
  vx_out (fun x hx => (hout x hx).elim) hlocks hcell hcv hcl (fun t' ht' hv' => ⟨u, hu, ⟨hB.1, by rw [ht', ← ht]; exact hB.2.1, va_K.moved hv' hK, hB.2.2.2⟩, hS.F ht'⟩) hS.2.2 (Nat.le_refl _) (Nat.le_refl _)
/-- a call that throws, and nothing here catches it -/
theorem x_callXV {y : MethodName} {bytes : ByteArray} {maxL nL k index sz : Nat} {ret : Option FieldType} {ws : List Cond} {rm : Room} {Ts : List Cond} {own C : String} {As : List Value} {q : Nat} {E : String} {st0 : List Value} {S0 : Mem} {Qc : Array Value → State → Outcome → State → Prop} (X : CallFix p m c cc nL s args Ts own) (hM : CtX sa l y ws rm D cA α n H.size (.ref (α q) :: As) S E) (cw : CallW R s args own C index y bytes maxL ret ws rm 1 6 k) (hK : va_K D vwCl (tyl cA) s) (hw : Ws D cA α n (Aw α n sz) s.heap S H locs) (hsz : s.heap.size = sz) (hZ : Zx (Aw α n sz) s s.heap) (hSx : Sx sa s) (hr : ∃ cell : Cell, H[α q]? = some cell ∧ cell.vm.isStatics = false ∧ s.vm.findClass C = some cell.cls)
    (hn : As.length = k) (hsize : ls.size = nL) (hstack : st0 = As.reverse ++ .ref (α q) :: rest) (hroom : (rest.map fun v => v.category).sum ≤ 8) (hdg : decode cc pc = .ok (.invokevirtual index, 3)) (hf : 0 + 1 ≤ R.cells ∧ 0 + 6 ≤ R.slots) (hout : ∀ x ∈ c.exceptionTable.toList, False) (hlocks : meth.locks = false) (hS : S = S0) :
    W p l e R s m args below meth c H locs 0 0 (vx_MQ below Qc (XCt D cA α n sz S0 E) args s 1 6 (Aw α n sz)) (F0 m pc ls st0) := by
  have hlift : ∀ z, Aw α n H.size z → Aw α n sz z := aw_lift (H0 := s.heap) (by rw [hsz]; exact fun _ h => h) hw.2.2.1
  exact vx_callv (vx_runV (As := As) (rest := rest) X hM cw ⟨ctx_blind, hr, fun U hU hW => ⟨rfl, by rw [hU], ws_pw hK hw hU hW, zx_at hw hsz hZ hU hW, hSx.warm hW⟩⟩ rfl hn hsize hstack (lv_room hroom) hdg hf) hw.2.2 (fun z _ h => hlift z h) hlift (fun z _ h => hlift z h)
    (fun E' ce q9 u t H1 locs1 ht hv hp hB hz hk hS1 hcell hcv hcl => vx_leave hK hout hlocks ht (hp.trans hS) hB hS1 hcell hcv hcl) (fun u t H1 locs1 ht hv hp => hp.elim)
theorem x_callXS {y : MethodName} {bytes : ByteArray} {maxL nL k index sz : Nat} {ret : Option FieldType} {ws : List Cond} {rm : Room} {Ts : List Cond} {own : String} {As : List Value} {E : String} {st0 : List Value} {S0 : Mem} {Qc : Array Value → State → Outcome → State → Prop} (X : CallFix p m c cc nL s args Ts own) (hM : CtX sa l y ws rm D cA α n H.size As S E) (cw : CallB R s args own index y bytes maxL ret ws rm 1 6 k ∧ (Cond.static y).before args s = true) (hK : va_K D vwCl (tyl cA) s) (hw : Ws D cA α n (Aw α n sz) s.heap S H locs) (hsz : s.heap.size = sz) (hZ : Zx (Aw α n sz) s s.heap) (hSx : Sx sa s)
    (hn : As.length = k) (hsize : ls.size = nL) (hstack : st0 = As.reverse ++ rest) (hroom : (rest.map fun v => v.category).sum ≤ 8) (hdg : decode cc pc = .ok (.invokestatic index, 3)) (hf : 0 + 1 ≤ R.cells ∧ 0 + 6 ≤ R.slots) (hout : ∀ x ∈ c.exceptionTable.toList, False) (hlocks : meth.locks = false) (hS : S = S0) :
    W p l e R s m args below meth c H locs 0 0 (vx_MQ below Qc (XCt D cA α n sz S0 E) args s 1 6 (Aw α n sz)) (F0 m pc ls st0) := by
  have hlift : ∀ z, Aw α n H.size z → Aw α n sz z := aw_lift (H0 := s.heap) (by rw [hsz]; exact fun _ h => h) hw.2.2.1
  exact vx_callv (vx_runS (As := As) (rest := rest) X hM cw ⟨ctx_blind, fun U hU hW => ⟨rfl, by rw [hU], ws_pw hK hw hU hW, zx_at hw hsz hZ hU hW, hSx.warm hW⟩⟩ rfl hn hsize hstack (lv_room hroom) hdg hf) hw.2.2 (fun z _ h => hlift z h) hlift (fun z _ h => hlift z h)
    (fun E' ce q9 u t H1 locs1 ht hv hp hB hz hk hS1 hcell hcv hcl => vx_leave hK hout hlocks ht (hp.trans hS) hB hS1 hcell hcv hcl) (fun u t H1 locs1 ht hv hp => hp.elim)
end TX
abbrev eIO : String := "java/lang/IndexOutOfBoundsException"
abbrev eIA : String := "java/lang/IllegalArgumentException"
abbrev eIS : String := "java/lang/IllegalStateException"
abbrev eUp : List String := ["java/lang/RuntimeException", "java/lang/Exception"]
theorem at_IO {args : Array Value} {s : State} {sa : Nat → Nat} (hSx : Sx sa s) (h : ∀ w ∈ (vx_atS RX10 274 "java/lang/IndexOutOfBoundsException" ["java/lang/RuntimeException", "java/lang/Exception"]).filter goodWord, w.before args s = true) : ∀ w ∈ vx_atS RX10 274 eIO eUp, w.before args s = true :=
  vx_hat (B := [Cond.declares (Bundle.initS "java/lang/RuntimeException"), Cond.declares (Bundle.initS "java/lang/Exception"), Cond.declares (Bundle.initS Bundle.tN), Cond.castable eIO eIO]) h (fun w hw => of_decide_eq_true (List.all_eq_true.mp (show ((vx_atS RX10 274 eIO eUp).filter (fun w => !goodWord w)).all (fun w => decide (w ∈ [Cond.declares (Bundle.initS "java/lang/RuntimeException"), Cond.declares (Bundle.initS "java/lang/Exception"), Cond.declares (Bundle.initS Bundle.tN), Cond.castable eIO eIO])) = true by decide +kernel) w hw)) (hSx.B (X := eIO) (by simp [xCas]))
theorem at_IA {args : Array Value} {s : State} {sa : Nat → Nat} (hSx : Sx sa s) (h : ∀ w ∈ (vx_atS RX10 70 "java/lang/IllegalArgumentException" ["java/lang/RuntimeException", "java/lang/Exception"]).filter goodWord, w.before args s = true) : ∀ w ∈ vx_atS RX10 70 eIA eUp, w.before args s = true :=
  vx_hat (B := [Cond.declares (Bundle.initS "java/lang/RuntimeException"), Cond.declares (Bundle.initS "java/lang/Exception"), Cond.declares (Bundle.initS Bundle.tN), Cond.castable eIA eIA]) h (fun w hw => of_decide_eq_true (List.all_eq_true.mp (show ((vx_atS RX10 70 eIA eUp).filter (fun w => !goodWord w)).all (fun w => decide (w ∈ [Cond.declares (Bundle.initS "java/lang/RuntimeException"), Cond.declares (Bundle.initS "java/lang/Exception"), Cond.declares (Bundle.initS Bundle.tN), Cond.castable eIA eIA])) = true by decide +kernel) w hw)) (hSx.B (X := eIA) (by simp [xCas]))
theorem at_IS {args : Array Value} {s : State} {sa : Nat → Nat} (hSx : Sx sa s) (h : ∀ w ∈ (vx_atS RX10 190 "java/lang/IllegalStateException" ["java/lang/RuntimeException", "java/lang/Exception"]).filter goodWord, w.before args s = true) : ∀ w ∈ vx_atS RX10 190 eIS eUp, w.before args s = true :=
  vx_hat (B := [Cond.declares (Bundle.initS "java/lang/RuntimeException"), Cond.declares (Bundle.initS "java/lang/Exception"), Cond.declares (Bundle.initS Bundle.tN), Cond.castable eIS eIS]) h (fun w hw => of_decide_eq_true (List.all_eq_true.mp (show ((vx_atS RX10 190 eIS eUp).filter (fun w => !goodWord w)).all (fun w => decide (w ∈ [Cond.declares (Bundle.initS "java/lang/RuntimeException"), Cond.declares (Bundle.initS "java/lang/Exception"), Cond.declares (Bundle.initS Bundle.tN), Cond.castable eIS eIS])) = true by decide +kernel) w hw)) (hSx.B (X := eIS) (by simp [xCas]))
theorem ga_IO : ∀ w ∈ Cond.classLink RX10 270 eIO :: Cond.initialized eIO :: vx_atS RX10 274 eIO eUp, vx_ot w = true := List.all_eq_true.mp (by decide +kernel)
theorem ga_IA : ∀ w ∈ Cond.classLink RX10 66 eIA :: Cond.initialized eIA :: vx_atS RX10 70 eIA eUp, vx_ot w = true := List.all_eq_true.mp (by decide +kernel)
theorem ga_IS : ∀ w ∈ Cond.classLink RX10 186 eIS :: Cond.initialized eIS :: vx_atS RX10 190 eIS eUp, vx_ot w = true := List.all_eq_true.mp (by decide +kernel)
theorem fit_IO : Bundle.fit eIO = true := by decide +kernel
theorem fit_IA : Bundle.fit eIA = true := by decide +kernel
theorem fit_IS : Bundle.fit eIS = true := by decide +kernel
theorem fit_Up : ∀ n ∈ eUp, Bundle.fit n = true := by
  intro n h
  rcases List.mem_cons.mp h with rfl | h
  · decide +kernel
  · rcases List.mem_cons.mp h with rfl | h
    · decide +kernel
    · cases h
theorem in_ex {x : Int32} {N : Nat} (h1 : ¬ x < 0) (h2 : x < nI N) (hN : N < 1000000000) : ∃ i, i < N ∧ x = nI i := by
  have a1 : ¬ x.toInt < 0 := fun q => h1 (Int32.lt_iff_toInt_lt.mpr q)
  have a2 := Int32.lt_iff_toInt_lt.mp h2
  rw [nI_ti (by omega)] at a2
  exact nI_ex (by omega) a2 hN
theorem in_ex2 {x : Int32} {a b : Nat} (h1 : ¬ x < nI a) (h2 : x ≤ nI b) (hb : b < 999999999) (ha : a < 1000000000) : ∃ i, a ≤ i ∧ i ≤ b ∧ x = nI i := by
  have a1 : ¬ x.toInt < (nI a).toInt := fun q => h1 (Int32.lt_iff_toInt_lt.mpr q)
  have a2 := Int32.le_iff_toInt_le.mp h2
  rw [nI_ti (by omega)] at a1 a2
  obtain ⟨i, hi, e⟩ := nI_ex (x := x) (N := b + 1) (by omega) (by omega) (by omega)
  rw [e, nI_ti (by omega)] at a1
  exact ⟨i, by omega, by omega, e⟩
