/-! constructors: frame -/
def nLk : List (String × Nat × MethodName) := [(RX3, 11, yX2_init), (RX0, 11, yX2_init), (RX0, 20, yX7_init), (RX0, 27, yX9_init), (RX4, 17, yX9_init), (RX8, 9, yX7_init), (RX8, 18, yX9_init), (RX10, 9, yX3_init), (RX10, 18, yX0_init), (RX10, 25, yX5_init), (RX10, 32, yX6_init), (RX10, 39, yX1_init), (RX10, 57, yX8_init)]
def AOk (U : State) : Prop := va_AO "IntercompanyLedger$Standing" U ∧ va_AO "IntercompanyLedger$Snapshot" U ∧ ∀ q ∈ nLk, va_Nw (.methodLinkNest q.1 q.2.1 q.2.2 "IntercompanyLedger") U
theorem AOk.warm {s U : State} (hW : s.WarmedH U.vm) (h : AOk s) : AOk U := ⟨va_AO.moved hW.alike h.1, va_AO.moved hW.alike h.2.1, fun q hq => va_Nw.warmM hW (h.2.2 q hq)⟩
theorem AOk.same {s U : State} (hv : s.vm = U.vm) (h : AOk s) : AOk U := ⟨va_AO.moved (by rw [hv]; exact Vm.Alike.refl _) h.1, va_AO.moved (by rw [hv]; exact Vm.Alike.refl _) h.2.1, fun q hq => va_Nw.same rfl hv (h.2.2 q hq)⟩
abbrev PreN (D : va_G) (cA : Nat → ClassId) (a sz ci : Nat) (fs : List Value) : Array Value → State → Prop := va_Pc [.ref a] (fun U => U.heap.size = sz ∧ va_P D vwCl [(a, .inr (ci, fs))] U.heap ∧ va_K D vwCl (tyl cA) U ∧ va_D (fun _ => True) [(a, .inr (ci, fs))] ∧ AOk U)
abbrev QN (D : va_G) (cA : Nat → ClassId) (a sz ci : Nat) (fs : List Value) (Lc : (Nat → Nat) → va_W) : Array Value → State → Outcome → State → Prop := va_Qv (fun u : Nat → Nat => u 0 = a) (fun u t => va_P D vwCl (Lc u) t.heap ∧ va_K D vwCl (tyl cA) t ∧ va_D (va_A [(a, .inr (ci, fs))] sz) (Lc u)) (va_A [(a, .inr (ci, fs))] sz)
def CtN (l : Launch) (y : MethodName) (ws : List Cond) (rm : Room) (D : va_G) (cA : Nat → ClassId) (ci : Nat) (fs : List Value) (Lc : (Nat → Nat) → va_W) (mc ms : Nat) : Prop := ∀ a sz : Nat, Met l y ws rm (PreN D cA a sz ci fs) (QN D cA a sz ci fs Lc) mc ms (va_A [(a, .inr (ci, fs))] sz)
theorem ctn_blind {D : va_G} {cA : Nat → ClassId} {a sz ci : Nat} {fs : List Value} : FrameBlind (PreN D cA a sz ci fs) := by
  intro a' U g mk' q
  obtain ⟨q0, q1, qP, qK, qD, qA⟩ := q
  exact ⟨q0, q1, qP, va_K.moved (Vm.Alike.refl U.vm) qK, qD, AOk.same (s := U) rfl qA⟩
theorem nd_of : ∀ l : List Nat, l.Nodup → va_nd l = true
  | [], _ => rfl
  | a :: l, h => by
    have h2 := List.nodup_cons.mp h
    rw [va_nd, decide_eq_true h2.1, nd_of l h2.2]; rfl
section CN
variable {p : Program} {l : Launch} {e : Env} {R : Room} {s : State} {m : MethodId} {args : Array Value} {below : List Frame} {meth : Method} {c : Code} {H : Heap} {locs : List Loc} {cells slots : Nat} {Q : State → Prop}
variable {cc : ByteArray} {pc : Nat} {ls : Array Slot} {rest : List Value} {D : va_G} {cA : Nat → ClassId} {A : Nat → Prop} {H0 : Heap}
theorem ctn_enter {y : MethodName} {ws ws' : List Cond} {rm : Room} {ci : Nat} {fs : List Value} {Lc : (Nat → Nat) → va_W} {mc ms : Nat} (cc : ByteArray) (maxL : Nat) (hy : plainName y.cls = true) (hw : ws = Cond.code y cc maxL none :: ws') (h1 : 1 ≤ maxL) (hnm : y.name = "<init>")
    (body : ∀ (a : Nat) (p : Program) (e : Env) (s : State) (m : MethodId) (below : List Frame) (meth : Method) (c : Code), p.tables.exec = Jvm.exec → c.code = cc → meth.sig.returnType = none → c.maxLocals = maxL → meth.locks = false → s.vm.findClass y.cls = some m.cls → meth.name = "<init>" → (∀ w ∈ ws, w.before [Value.ref a].toArray s = true) → va_K D vwCl (tyl cA) s → AOk s → va_P D vwCl [(a, .inr (ci, fs))] s.heap → va_D (va_A [(a, .inr (ci, fs))] s.heap.size) [(a, .inr (ci, fs))] → va_S (va_A [(a, .inr (ci, fs))] s.heap.size) s.heap s.heap [] → (∀ q, s.heap.size ≤ q → va_A [(a, .inr (ci, fs))] s.heap.size q) →
      ∀ ls : Array Slot, lv_has ls maxL [(0, .ref a)] → W p l e rm s m [Value.ref a].toArray below meth c s.heap [] 0 0 (MQ below (QN D cA a s.heap.size ci fs Lc) [Value.ref a].toArray s mc ms (va_A [(a, .inr (ci, fs))] s.heap.size)) (F0 m 0 ls [])) : CtN l y ws rm D cA ci fs Lc mc ms := by
  intro a sz
  refine Met.ofW (cc := cc) (maxL := maxL) (ret := none) hy hw ?_
  intro p e s m args below meth c s₁ B hml hv
  obtain ⟨rfl, hsz, hP, hK, hD, hAO⟩ := hv
  subst hsz
  have hl := lv_entry [Value.ref a] (n := maxL) (show (lg_sl [Value.ref a]).length ≤ maxL from h1)
  rw [lg_entry_eq]
  exact body a p e s m below meth c B.exec B.bytes B.returns hml B.notSynchronized (findClass_of_methodNamed B.named) ((name_of_methodNamed B.named B.method).1.trans hnm) (atoms_spec (ws := ws) B.pre) hK hAO hP (hD.self (sz := s.heap.size)) va_S.rf (fun q h => Or.inr h) _ hl
theorem ret_n {a ci mc ms : Nat} {fs : List Value} {Lc : (Nat → Nat) → va_W} (u : Nat → Nat) (hx : p.tables.exec = Jvm.exec) (hb : c.code = cc) (hr : meth.sig.returnType = none) (hlocks : meth.locks = false) (hK : va_K D vwCl (tyl cA) s) {w : va_W} (hP : va_P D vwCl w H) (hD : va_D (va_A [(a, .inr (ci, fs))] s.heap.size) w) (hS : va_S (va_A [(a, .inr (ci, fs))] s.heap.size) s.heap H locs) (hu : u 0 = a) (he : w = Lc u) (hc : cells ≤ mc) (hs : slots ≤ ms) (hdg : decode cc pc = .ok (.return_, 1)) : W p l e R s m args below meth c H locs cells slots (MQ below (QN D cA a s.heap.size ci fs Lc) args s mc ms (va_A [(a, .inr (ci, fs))] s.heap.size)) (F0 m pc ls []) := by
  subst he
  exact W.widen hc hs (W.vret hx hb hr (fun t ht hW => ⟨⟨u, rfl, hu, by rw [ht]; exact hP, va_K.moved hW.alike hK, hD⟩, hS.F ht⟩) hS.2.2 hdg)
/-- a constructor's call, over the cell that came last -/
theorem x_initG {ci : Nat} {fs : List Value} {Lc : (Nat → Nat) → va_W} {mc ms q : Nat} {w : va_W} (hrun : PreS s H (PreN D cA q H.size ci fs) [Value.ref q] → va_Run p l e R s m args below meth c H locs cells slots mc ms (F0 m pc ls (.ref q :: rest)) rest (QN D cA q H.size ci fs Lc [Value.ref q].toArray) (va_A [(q, .inr (ci, fs))] H.size)) (hK : va_K D vwCl (tyl cA) s) (hAO : AOk s) (hP : va_P D vwCl (w ++ [(q, .inr (ci, fs))]) H) (hD : va_D A (w ++ [(q, .inr (ci, fs))])) (hS : va_S A H0 H locs) (hA : ∀ z, H0.size ≤ z → A z)
    (kk : ∀ (u : Nat → Nat) (H1 : Heap) (locs1 : List Loc), u 0 = q → va_P D vwCl (w ++ Lc u) H1 → va_D A (w ++ Lc u) → va_S A H0 H1 locs1 → W p l e R s m args below meth c H1 locs1 (cells + mc) (slots + ms) Q (F0 m (pc + 3) ls rest)) : W p l e R s m args below meth c H locs cells slots Q (F0 m pc ls (.ref q :: rest)) := by
  have gl : (w ++ [(q, (.inr (ci, fs) : va_E))])[w.length]? = some (q, .inr (ci, fs)) := by rw [List.getElem?_append_right (Nat.le_refl _), Nat.sub_self]; rfl
  have iC : [w.length].map (fun i => (w ++ [(q, (.inr (ci, fs) : va_E))])[i]?) = [(q, (.inr (ci, fs) : va_E))].map some := by rw [List.map_singleton, gl]; rfl
  have iR : (List.range w.length).map (fun i => (w ++ [(q, (.inr (ci, fs) : va_E))])[i]?) = w.map some := by
    refine List.ext_getElem? fun i => ?_
    rw [List.getElem?_map, List.getElem?_map]
    by_cases hi : i < w.length
    · rw [List.getElem?_range hi, Option.map_some, List.getElem?_append_left hi, List.getElem?_eq_getElem hi]; rfl
    · rw [List.getElem?_eq_none (by rw [List.length_range]; omega), List.getElem?_eq_none (by omega)]; rfl
  have hF := va_free (wc := [(q, .inr (ci, fs))]) hD hS hA [w.length] iC
  have hPc : va_P D vwCl [(q, .inr (ci, fs))] H := fun k z hk => by
    have h0 : k = 0 := by have := (List.getElem?_eq_some_iff.mp hk).1; simpa using this
    subst h0
    cases hk
    exact hP w.length _ gl
  have hDc : va_D (fun _ => True) [(q, (.inr (ci, fs) : va_E))] := ⟨fun i j x z h1 h2 _ => by
    have a1 : i = 0 := by have := (List.getElem?_eq_some_iff.mp h1).1; simpa using this
    have a2 : j = 0 := by have := (List.getElem?_eq_some_iff.mp h2).1; simpa using this
    rw [a1, a2], fun _ _ _ => trivial⟩
  refine va_callv (hrun ⟨ctn_blind, fun U hU hW => ⟨rfl, by rw [hU], by rw [hU]; exact hPc, va_K.moved hW.alike hK, hDc, AOk.warm hW hAO⟩⟩) hS (fun z _ h => hF z h) hF (fun u t H1 locs1 ht hvm hu hB hz1 hk1 hS1 => ?_)
  obtain ⟨hP1, hK1, hD1⟩ := hB
  rw [ht] at hP1
  obtain ⟨hP2, hD2⟩ := va_join (wr := w) (w1 := Lc u) hP hD [w.length] (List.range w.length) iC iR (nd_of _ List.nodup_range) (fun i hi => by have := List.mem_range.mp hi; simp; omega) hk1 hF hP1 hD1
  exact kk u H1 locs1 hu hP2 hD2 hS1
theorem x_init {y : MethodName} {ws9 : List Cond} {rm : Room} {ci : Nat} {fs : List Value} {Lc : (Nat → Nat) → va_W} {mc ms maxL nL index q : Nat} {bytes : ByteArray} {Ts : List Cond} {own : String} {w : va_W} (X : CallFix p m c cc nL s args Ts own) (hM : CtN l y ws9 rm D cA ci fs Lc mc ms) (cw : CallB R s args own index y bytes maxL none ws9 rm mc ms 0 ∧ y.name = "<init>" ∧ (Cond.instanceMethod y).before args s = true) (hK : va_K D vwCl (tyl cA) s) (hAO : AOk s) (hP : va_P D vwCl (w ++ [(q, .inr (ci, fs))]) H) (hD : va_D A (w ++ [(q, .inr (ci, fs))])) (hS : va_S A H0 H locs) (hA : ∀ z, H0.size ≤ z → A z) (hsize : ls.size = nL) (hroom : (rest.map fun v => v.category).sum ≤ 8) (hdg : decode cc pc = .ok (.invokespecial index, 3)) (hf : cells + mc ≤ R.cells ∧ slots + ms ≤ R.slots)
    (kk : ∀ (u : Nat → Nat) (H1 : Heap) (locs1 : List Loc), u 0 = q → va_P D vwCl (w ++ Lc u) H1 → va_D A (w ++ Lc u) → va_S A H0 H1 locs1 → W p l e R s m args below meth c H1 locs1 (cells + mc) (slots + ms) Q (F0 m (pc + 3) ls rest)) : W p l e R s m args below meth c H locs cells slots Q (F0 m pc ls (.ref q :: rest)) :=
  x_initG (fun hp => va_runI (As := []) (rest := rest) X (hM q H.size) cw hp rfl rfl hsize rfl (lv_room hroom) hdg hf) hK hAO hP hD hS hA kk
theorem x_initN {y : MethodName} {ws9 : List Cond} {rm : Room} {ci : Nat} {fs : List Value} {Lc : (Nat → Nat) → va_W} {mc ms maxL nL index q : Nat} {bytes : ByteArray} {Ts : List Cond} {own host : String} {w : va_W} (X : CallFix p m c cc nL s args Ts own) (hM : CtN l y ws9 rm D cA ci fs Lc mc ms) (cw : va_CN R s args own index y host bytes maxL none ws9 rm mc ms 0 ∧ y.name = "<init>" ∧ (Cond.instanceMethod y).before args s = true) (hK : va_K D vwCl (tyl cA) s) (hAO : AOk s) (hP : va_P D vwCl (w ++ [(q, .inr (ci, fs))]) H) (hD : va_D A (w ++ [(q, .inr (ci, fs))])) (hS : va_S A H0 H locs) (hA : ∀ z, H0.size ≤ z → A z) (hsize : ls.size = nL) (hroom : (rest.map fun v => v.category).sum ≤ 8) (hdg : decode cc pc = .ok (.invokespecial index, 3)) (hf : cells + mc ≤ R.cells ∧ slots + ms ≤ R.slots)
    (kk : ∀ (u : Nat → Nat) (H1 : Heap) (locs1 : List Loc), u 0 = q → va_P D vwCl (w ++ Lc u) H1 → va_D A (w ++ Lc u) → va_S A H0 H1 locs1 → W p l e R s m args below meth c H1 locs1 (cells + mc) (slots + ms) Q (F0 m (pc + 3) ls rest)) : W p l e R s m args below meth c H locs cells slots Q (F0 m pc ls (.ref q :: rest)) :=
  x_initG (fun hp => va_runIN (As := []) (rest := rest) X (hM q H.size) cw hp rfl rfl hsize rfl (lv_room hroom) hdg hf) hK hAO hP hD hS hA kk
/-- a new array, of a class that the tables' list names -/
theorem x_newa {t : Nat} {atype : ArrayType} {ty : FieldType} (a0 : vp_A) (hx : p.tables.exec = Jvm.exec) (hb : c.code = cc) (harr : (Cond.arrayClass (newarray.typeOf atype)).before args s = true) (hty : newarray.typeOf atype = ty) (ht : (tyl cA)[t]? = some (cA t, ty)) (hra : ∀ c1 c2, va_RA s c1 ty → va_RA s c2 ty → c1 = c2) (hK : va_K D vwCl (tyl cA) s) {w : va_W} (hP : va_P D vwCl w H) (hD : va_D A w) (hS : va_S A H0 H locs) (hA : ∀ z, H0.size ≤ z → A z)
    {n : Int32} {N' : Nat} (ha : ∀ c9 : ClassId, vp_cell c9 a0 = arrV c9 N' (fun _ => defaultValue ty)) (hn : ¬ n < 0) (hN : n.toNatClampNeg = N') (hbytes : N' * componentBytes ty ≤ 536870912) (hcells : cells + 1 ≤ R.cells) (hslots : slots + N' ≤ R.slots) (hdg : decode cc pc = .ok (.newarray atype, 2))
    (kk : ∀ (q : Nat) (H1 : Heap), va_P D vwCl (w ++ [(q, .inl (cA t, a0))]) H1 → va_D A (w ++ [(q, .inl (cA t, a0))]) → va_S A H0 H1 locs → W p l e R s m args below meth c H1 locs (cells + 1) (slots + N') Q (F0 m (pc + 2) ls (.ref q :: rest))) : W p l e R s m args below meth c H locs cells slots Q (F0 m pc ls (.int n :: rest)) := by
  refine va_newa (a0 := a0) hx hb harr hty hK hP hD hS hA ha hn hN hbytes hcells hslots hdg (fun q c9 H1 hK9 hP9 hD9 hS9 => ?_)
  have e9 : c9 = cA t := hra _ _ (hK9.2 7 (c9, ty) rfl).2 (hK.2 t _ ht).2
  subst e9
  exact kk q H1 hP9 hD9 hS9
theorem x_newq {t : Nat} {own C : String} {index : Nat} (hx : p.tables.exec = Jvm.exec) (hb : c.code = cc) (hown : s.vm.findClass own = some m.cls) (hclink : (Cond.classLink own index C).before args s = true) (hover : va_AO C s) (ht : (tyl cA)[t]? = some (cA t, .object C)) (hK : va_K D vwCl (tyl cA) s) {w : va_W} (hP : va_P D vwCl w H) (hD : va_D A w) (hS : va_S A H0 H locs) (hA : ∀ z, H0.size ≤ z → A z)
    {n : Int32} {N' : Nat} (hn : ¬ n < 0) (hN : n.toNatClampNeg = N') (hbytes : N' * 4 ≤ 536870912) (hcells : cells + 1 ≤ R.cells) (hslots : slots + N' ≤ R.slots) (hdg : decode cc pc = .ok (.anewarray index, 3))
    (kk : ∀ (q : Nat) (H1 : Heap), va_P D vwCl (w ++ [(q, .inl (cA t, N', .inr (.inr (.inr (.inr (fun _ => none))))))]) H1 → va_D A (w ++ [(q, .inl (cA t, N', .inr (.inr (.inr (.inr (fun _ => none))))))]) → va_S A H0 H1 locs → W p l e R s m args below meth c H1 locs (cells + 1) (slots + N') Q (F0 m (pc + 3) ls (.ref q :: rest))) : W p l e R s m args below meth c H locs cells slots Q (F0 m pc ls (.int n :: rest)) := by
  refine va_newq hx hb hown hclink hover hK hP hD hS hA hn hN hbytes hcells hslots hdg (fun q c9 H1 hK9 hP9 hD9 hS9 => ?_)
  have e9 : c9 = cA t := by
    obtain ⟨_, _, _, _, _, e1⟩ := (hK9.2 7 (c9, .object C) rfl).2
    obtain ⟨_, _, _, _, _, e2⟩ := (hK.2 t _ ht).2
    exact Option.some.inj (e1.symm.trans e2)
  subst e9
  exact kk q H1 hP9 hD9 hS9
end CN
/-! what constructors leave -/
abbrev iA (cA : Nat → ClassId) (n : Nat) : va_E := .inl (cA 0, n, .inl (fun _ => 0))
abbrev lA (cA : Nat → ClassId) (n : Nat) : va_E := .inl (cA 1, n, .inr (.inl (fun _ => 0)))
abbrev bA (cA : Nat → ClassId) (n : Nat) : va_E := .inl (cA 2, n, .inl (fun _ => 0))
abbrev zA (cA : Nat → ClassId) (n : Nat) : va_E := .inl (cA 3, n, .inl (fun _ => 0))
abbrev qA (cA : Nat → ClassId) (t n : Nat) (f : Nat → Option Nat) : va_E := .inl (cA t, n, .inr (.inr (.inr (.inr f))))
def L9 (cA : Nat → ClassId) (u : Nat → Nat) : va_W := [(u 0, .inr (9, [.int 0, .int 0, .int 0, .long 0, .long 0, .long 0, .ref (u 1), .ref (u 2), .ref (u 3), .ref (u 4), .ref (u 5), .ref (u 6), .ref (u 7), .ref (u 8)])), (u 1, iA cA 100), (u 2, iA cA 100), (u 3, iA cA 100), (u 4, lA cA 100), (u 5, lA cA 100), (u 6, iA cA 100), (u 7, iA cA 4), (u 8, lA cA 6)]
def L7 (cA : Nat → ClassId) (u : Nat → Nat) : va_W := [(u 0, .inr (7, [.ref (u 1), .ref (u 2), .ref (u 3), .ref (u 4), .ref (u 5), .ref (u 6), .ref (u 7), .ref (u 8), .ref (u 9)])), (u 1, iA cA 100), (u 2, iA cA 100), (u 3, iA cA 100), (u 4, iA cA 100), (u 5, iA cA 100), (u 6, iA cA 100), (u 7, iA cA 100), (u 8, iA cA 100), (u 9, iA cA 100)]
def L2 (cA : Nat → ClassId) (u : Nat → Nat) : va_W := [(u 0, .inr (2, [.int 0, .int 0, .int 0, .int 0, .int 0, .int 0, .ref (u 1), .ref (u 2), .ref (u 3), .ref (u 4), .ref (u 5), .ref (u 6)])), (u 1, iA cA 4), (u 2, iA cA 6), (u 3, iA cA 6), (u 4, iA cA 6), (u 5, iA cA 6), (u 6, iA cA 6)]
def L3 (cA : Nat → ClassId) (u : Nat → Nat) : va_W := (u 0, .inr (3, [.ref (u 1), .int 0, .ref (u 8), .int 0, .int 0, .int 0, .int 0, .int 0, .int 0, .int 0, .int 0])) :: (([] ++ L2 cA (fun c => u (1 + c))) ++ [(u 8, bA cA 600)])
def L0 (cA : Nat → ClassId) (u : Nat → Nat) : va_W := (u 0, .inr (0, [.ref (u 1), .ref (u 8), .ref (u 18)])) :: ((([] ++ L2 cA (fun c => u (1 + c))) ++ L7 cA (fun c => u (8 + c))) ++ L9 cA (fun c => u (18 + c)))
def L5 (cA : Nat → ClassId) (u : Nat → Nat) : va_W := [(u 0, .inr (5, [.ref (u 1)])), (u 1, iA cA 100)]
def L6 (cA : Nat → ClassId) (u : Nat → Nat) : va_W := [(u 0, .inr (6, [.ref (u 1), .ref (u 2), .ref (u 3)])), (u 1, lA cA 6), (u 2, lA cA 64), (u 3, iA cA 64)]
def L1 (u : Nat → Nat) : va_W := [(u 0, .inr (1, []))]
def L8 (cA : Nat → ClassId) (u : Nat → Nat) : va_W := (u 0, .inr (8, [.int 0, .ref (u 1), .ref (u 11)])) :: (([] ++ L7 cA (fun c => u (1 + c))) ++ L9 cA (fun c => u (11 + c)))
def fl9 (cA : Nat → ClassId) (uu : Nat → Nat → Nat) : Nat → va_W
  | 0 => []
  | j + 1 => fl9 cA uu j ++ L9 cA (uu j)
def fl8 (cA : Nat → ClassId) (uu : Nat → Nat → Nat) : Nat → va_W
  | 0 => []
  | j + 1 => fl8 cA uu j ++ L8 cA (uu j)
theorem L9_congr {cA : Nat → ClassId} {u v : Nat → Nat} (h : ∀ c, c < 9 → u c = v c) : L9 cA u = L9 cA v := by
  unfold L9; rw [h 0 (by decide), h 1 (by decide), h 2 (by decide), h 3 (by decide), h 4 (by decide), h 5 (by decide), h 6 (by decide), h 7 (by decide), h 8 (by decide)]
theorem L7_congr {cA : Nat → ClassId} {u v : Nat → Nat} (h : ∀ c, c < 10 → u c = v c) : L7 cA u = L7 cA v := by
  unfold L7; rw [h 0 (by decide), h 1 (by decide), h 2 (by decide), h 3 (by decide), h 4 (by decide), h 5 (by decide), h 6 (by decide), h 7 (by decide), h 8 (by decide), h 9 (by decide)]
theorem L2_congr {cA : Nat → ClassId} {u v : Nat → Nat} (h : ∀ c, c < 7 → u c = v c) : L2 cA u = L2 cA v := by
  unfold L2; rw [h 0 (by decide), h 1 (by decide), h 2 (by decide), h 3 (by decide), h 4 (by decide), h 5 (by decide), h 6 (by decide)]
theorem L3_congr {cA : Nat → ClassId} {u v : Nat → Nat} (h : ∀ c, c < 9 → u c = v c) : L3 cA u = L3 cA v := by
  unfold L3; rw [h 0 (by decide), h 1 (by decide), h 8 (by decide), L2_congr (u := fun c => u (1 + c)) (v := fun c => v (1 + c)) (fun c hc => h (1 + c) (by omega))]
theorem L0_congr {cA : Nat → ClassId} {u v : Nat → Nat} (h : ∀ c, c < 27 → u c = v c) : L0 cA u = L0 cA v := by
  unfold L0; rw [h 0 (by decide), h 1 (by decide), h 8 (by decide), h 18 (by decide), L2_congr (u := fun c => u (1 + c)) (v := fun c => v (1 + c)) (fun c hc => h (1 + c) (by omega)), L7_congr (u := fun c => u (8 + c)) (v := fun c => v (8 + c)) (fun c hc => h (8 + c) (by omega)), L9_congr (u := fun c => u (18 + c)) (v := fun c => v (18 + c)) (fun c hc => h (18 + c) (by omega))]
theorem L5_congr {cA : Nat → ClassId} {u v : Nat → Nat} (h : ∀ c, c < 2 → u c = v c) : L5 cA u = L5 cA v := by
  unfold L5; rw [h 0 (by decide), h 1 (by decide)]
theorem L6_congr {cA : Nat → ClassId} {u v : Nat → Nat} (h : ∀ c, c < 4 → u c = v c) : L6 cA u = L6 cA v := by
  unfold L6; rw [h 0 (by decide), h 1 (by decide), h 2 (by decide), h 3 (by decide)]
theorem L1_congr {u v : Nat → Nat} (h : ∀ c, c < 1 → u c = v c) : L1 u = L1 v := by
  unfold L1; rw [h 0 (by decide)]
theorem L8_congr {cA : Nat → ClassId} {u v : Nat → Nat} (h : ∀ c, c < 20 → u c = v c) : L8 cA u = L8 cA v := by
  unfold L8; rw [h 0 (by decide), h 1 (by decide), h 11 (by decide), L7_congr (u := fun c => u (1 + c)) (v := fun c => v (1 + c)) (fun c hc => h (1 + c) (by omega)), L9_congr (u := fun c => u (11 + c)) (v := fun c => v (11 + c)) (fun c hc => h (11 + c) (by omega))]
theorem fl9_congr {cA : Nat → ClassId} {uu vv : Nat → Nat → Nat} : ∀ j, (∀ k, k < j → ∀ c, c < 9 → uu k c = vv k c) → fl9 cA uu j = fl9 cA vv j
  | 0, _ => rfl
  | j + 1, h => by rw [fl9, fl9, fl9_congr j (fun k hk => h k (by omega)), L9_congr (h j (by omega))]
theorem fl8_congr {cA : Nat → ClassId} {uu vv : Nat → Nat → Nat} : ∀ j, (∀ k, k < j → ∀ c, c < 20 → uu k c = vv k c) → fl8 cA uu j = fl8 cA vv j
  | 0, _ => rfl
  | j + 1, h => by rw [fl8, fl8, fl8_congr j (fun k hk => h k (by omega)), L8_congr (h j (by omega))]
def rfs (uu : Nat → Nat → Nat) (j : Nat) : Nat → Option Nat := fun k => if k < j then some (uu k 0) else none
theorem rfs_s (uu : Nat → Nat → Nat) (j : Nat) : va_up (rfs uu j) j (some (uu j 0)) = rfs uu (j + 1) := by
  funext k
  unfold va_up rfs
  by_cases h : k = j
  · subst h; simp
  · by_cases h2 : k < j
    · simp [h, h2, Nat.lt_succ_of_lt h2]
    · have : ¬ k < j + 1 := by omega
      simp [h, h2, this]
theorem rfs_0 (uu : Nat → Nat → Nat) : rfs uu 0 = fun _ => none := by
  funext k; unfold rfs; rw [if_neg (Nat.not_lt_zero _)]
theorem rfs_congr {uu vv : Nat → Nat → Nat} {j : Nat} (h : ∀ k, k < j → uu k 0 = vv k 0) : rfs uu j = rfs vv j := by
  funext k; unfold rfs
  by_cases e : k < j
  · rw [if_pos e, if_pos e, h k e]
  · rw [if_neg e, if_neg e]
def L4 (cA : Nat → ClassId) (u : Nat → Nat) : va_W := [(u 0, .inr (4, [.int 0, .int 0, .ref (u 1)])), (u 1, qA cA 5 10 (rfs (fun k c => u (2 + 9 * k + c)) 10))] ++ fl9 cA (fun k c => u (2 + 9 * k + c)) 10
theorem L4_congr {cA : Nat → ClassId} {u v : Nat → Nat} (h : ∀ c, c < 92 → u c = v c) : L4 cA u = L4 cA v := by
  unfold L4
  rw [h 0 (by decide), h 1 (by decide), rfs_congr (uu := fun k c => u (2 + 9 * k + c)) (vv := fun k c => v (2 + 9 * k + c)) (fun k hk => h _ (by omega)), fl9_congr (uu := fun k c => u (2 + 9 * k + c)) (vv := fun k c => v (2 + 9 * k + c)) 10 (fun k hk c hc => h _ (by omega))]
theorem get_mid {α : Type} (Y Z : List α) (x : α) : ((Y ++ [x]) ++ Z)[Y.length]? = some x := by
  rw [List.append_assoc, List.getElem?_append_right (Nat.le_refl _), Nat.sub_self]; rfl
theorem set_mid {α : Type} (Y Z : List α) (x y : α) : ((Y ++ [x]) ++ Z).set Y.length y = (Y ++ [y]) ++ Z := by
  rw [List.append_assoc, List.set_append_right _ _ (Nat.le_refl _), Nat.sub_self, List.append_assoc]; rfl
theorem get_last {α : Type} (Y Z : List α) (x : α) : (Y ++ (x :: Z))[Y.length]? = some x := by
  rw [List.getElem?_append_right (Nat.le_refl _), Nat.sub_self]; rfl
def L10 (cA : Nat → ClassId) (u : Nat → Nat) : va_W := ((u 0, .inr (10, [.ref (u 1), .ref (u 10), .ref (u 37), .ref (u 39), .ref (u 43), .ref (u 44), .ref (u 136)])) :: ((((((([] ++ L3 cA (fun c => u (1 + c))) ++ L0 cA (fun c => u (10 + c))) ++ L5 cA (fun c => u (37 + c))) ++ L6 cA (fun c => u (39 + c))) ++ L1 (fun c => u (43 + c))) ++ L4 cA (fun c => u (44 + c))) ++ [(u 136, qA cA 6 2 (rfs (fun k c => u (137 + 20 * k + c)) 2))])) ++ fl8 cA (fun k c => u (137 + 20 * k + c)) 2
