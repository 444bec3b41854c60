/-! one call on both sides: the asking ones -/
section SP
variable (l : Launch) (sa ka va : Nat → Nat) (D : va_G) (cA : Nat → ClassId) (α : Nat → Nat) (yH : MethodName) (wsH : List Cond) (rH : Room) (yR : MethodName) (wsR : List Cond) (rR : Room) (avH avR : List Value) (S : Mem)
def SpI : Prop := ∃ (k : Int32) (S1 : Mem) (b : Int32) (S2 : Mem), (∀ z, CtH sa ka va l yH wsH rH D cA α 193 z avH S k S1) ∧ (∀ z, CtI l yR wsR rR D cA α 193 z avR S1 b S2) ∧ S2.1 30 0 = k ∧ (k = nI 0 → S2.2 191 0 = b.toInt64) ∧ Rel S2
def SpL : Prop := ∃ (k : Int32) (S1 : Mem) (b : Int64) (S2 : Mem), (∀ z, CtH sa ka va l yH wsH rH D cA α 193 z avH S k S1) ∧ (∀ z, CtL l yR wsR rR D cA α 193 z avR S1 b S2) ∧ S2.1 30 0 = k ∧ (k = nI 0 → S2.2 191 0 = b) ∧ Rel S2
def SpE : Prop := ∃ (k : Int32) (S1 : Mem) (b : Int32) (S2 : Mem), (∀ z, CtH sa ka va l yH wsH rH D cA α 193 z avH S k S1) ∧ (∀ z, CtIe ka va l yR wsR rR D cA α 193 z avR S1 b S2) ∧ S2.1 30 0 = k ∧ (k = nI 0 → S2.2 191 0 = b.toInt64) ∧ Rel S2
end SP
section SP2
variable {l : Launch} {sa ka va : Nat → Nat} {D : va_G} {cA : Nat → ClassId} {α : Nat → Nat} {yH : MethodName} {wsH : List Cond} {rH : Room} {yR : MethodName} {wsR : List Cond} {rR : Room} {avH avR : List Value} {S : Mem} {un cn pn N M : Nat}
theorem Rl.rel {S : Mem} {un cn pn N M : Nat} (h : Rl S un cn pn N M) : Rel S := ⟨un, cn, pn, N, M, h⟩
theorem j191 {fS : Mem} {v : Int64} : (setJ fS 191 0 v).2 191 0 = v := by rw [sJ_e]; unfold vp_updL; rw [if_pos rfl]
theorem k4_ne {k : Nat} (hk : 0 < k) (h4 : k < 4) : ¬ nI k = nI 0 := fun e => by
  have := (nI_eq (by omega) (by decide)).mp e
  omega
theorem spI_n (h : Rl S un cn pn N M) {fS T : Mem} {v b : Int32} (hs : Sm S fS) (hH : ∀ z, CtH sa ka va l yH wsH rH D cA α 193 z avH S (nI 0) (setJ fS 191 0 v.toInt64)) (hR : ∀ z, CtI l yR wsR rR D cA α 193 z avR (setJ fS 191 0 v.toInt64) b T) (hT : T = setI (setJ fS 191 0 v.toInt64) 30 0 (nI 0)) (hv : v = b) : SpI l sa ka va D cA α yH wsH rH yR wsR rR avH avR S := by
  subst hT
  exact ⟨_, _, _, _, hH, hR, by rw [sI_e, pk_us], fun _ => by rw [sI_2, j191, hv], (Rl_sm h ((hs.tr (Sm.J (by decide))).tr (Sm.M (by decide) (by decide)))).rel⟩
theorem spL_n (h : Rl S un cn pn N M) {fS T : Mem} {v b : Int64} (hs : Sm S fS) (hH : ∀ z, CtH sa ka va l yH wsH rH D cA α 193 z avH S (nI 0) (setJ fS 191 0 v)) (hR : ∀ z, CtL l yR wsR rR D cA α 193 z avR (setJ fS 191 0 v) b T) (hT : T = setI (setJ fS 191 0 v) 30 0 (nI 0)) (hv : v = b) : SpL l sa ka va D cA α yH wsH rH yR wsR rR avH avR S := by
  subst hT
  exact ⟨_, _, _, _, hH, hR, by rw [sI_e, pk_us], fun _ => by rw [sI_2, j191, hv], (Rl_sm h ((hs.tr (Sm.J (by decide))).tr (Sm.M (by decide) (by decide)))).rel⟩
theorem x_Sm {S T : Mem} {k : Nat} (hT : T = setI S 30 0 (nI k) ∨ T = setI (setI S 30 0 (nI 0)) 30 0 (nI k)) : Sm S T ∧ T.1 30 0 = nI k := by
  rcases hT with rfl | rfl
  · exact ⟨Sm.M (by decide) (by decide), by rw [sI_e, pk_us]⟩
  · exact ⟨(Sm.M (by decide) (by decide)).tr (Sm.M (by decide) (by decide)), by rw [sI_e, pk_us]⟩
theorem spI_x (h : Rl S un cn pn N M) {T : Mem} {b : Int32} (k : Nat) (hk : 0 < k ∧ k < 4) (hH : ∀ z, CtH sa ka va l yH wsH rH D cA α 193 z avH S (nI k) S) (hR : ∀ z, CtI l yR wsR rR D cA α 193 z avR S b T) (hT : T = setI S 30 0 (nI k) ∨ T = setI (setI S 30 0 (nI 0)) 30 0 (nI k)) : SpI l sa ka va D cA α yH wsH rH yR wsR rR avH avR S :=
  ⟨_, _, _, _, hH, hR, (x_Sm hT).2, fun e => absurd e (k4_ne hk.1 hk.2), (Rl_sm h (x_Sm hT).1).rel⟩
theorem spL_x (h : Rl S un cn pn N M) {T : Mem} {b : Int64} (k : Nat) (hk : 0 < k ∧ k < 4) (hH : ∀ z, CtH sa ka va l yH wsH rH D cA α 193 z avH S (nI k) S) (hR : ∀ z, CtL l yR wsR rR D cA α 193 z avR S b T) (hT : T = setI S 30 0 (nI k) ∨ T = setI (setI S 30 0 (nI 0)) 30 0 (nI k)) : SpL l sa ka va D cA α yH wsH rH yR wsR rR avH avR S :=
  ⟨_, _, _, _, hH, hR, (x_Sm hT).2, fun e => absurd e (k4_ne hk.1 hk.2), (Rl_sm h (x_Sm hT).1).rel⟩
theorem spE_x (h : Rl S un cn pn N M) {T : Mem} {b : Int32} (k : Nat) (hk : 0 < k ∧ k < 4) (hH : ∀ z, CtH sa ka va l yH wsH rH D cA α 193 z avH S (nI k) S) (hR : ∀ z, CtIe ka va l yR wsR rR D cA α 193 z avR S b T) (hT : T = setI S 30 0 (nI k) ∨ T = setI (setI S 30 0 (nI 0)) 30 0 (nI k)) : SpE l sa ka va D cA α yH wsH rH yR wsR rR avH avR S :=
  ⟨_, _, _, _, hH, hR, (x_Sm hT).2, fun e => absurd e (k4_ne hk.1 hk.2), (Rl_sm h (x_Sm hT).1).rel⟩
theorem ag_30 {X T : Mem} {k : Nat} (hA : AgR (K0 X k) T) : T.1 30 0 = nI 0 ∧ T.2 191 = X.2 191 := by
  refine ⟨?_, ?_⟩
  · rw [(hA 30 (by decide) (by decide) (by decide)).1]
    show (rKeep (setI X 30 0 (nI 0)) k).1 30 0 = _
    rw [rKeep_30 _ _ (by decide), sI_e, pk_us]
  · rw [(hA 191 (by decide) (by decide) (by decide)).2, K0_2 X k (by decide)]
theorem spI_c {X T : Mem} {v b : Int32} {k : Nat} (hH : ∀ z, CtH sa ka va l yH wsH rH D cA α 193 z avH S (nI 0) (setJ X 191 0 v.toInt64)) (hR : ∀ z, CtI l yR wsR rR D cA α 193 z avR (setJ X 191 0 v.toInt64) b T) (hA : AgR (K0 (setJ X 191 0 v.toInt64) k) T) (hv : v = b) (hr : Rel T) : SpI l sa ka va D cA α yH wsH rH yR wsR rR avH avR S :=
  ⟨_, _, _, _, hH, hR, (ag_30 hA).1, fun _ => by rw [(ag_30 hA).2, j191, hv], hr⟩
theorem spL_c {X T : Mem} {v b : Int64} {k : Nat} (hH : ∀ z, CtH sa ka va l yH wsH rH D cA α 193 z avH S (nI 0) (setJ X 191 0 v)) (hR : ∀ z, CtL l yR wsR rR D cA α 193 z avR (setJ X 191 0 v) b T) (hA : AgR (K0 (setJ X 191 0 v) k) T) (hv : v = b) (hr : Rel T) : SpL l sa ka va D cA α yH wsH rH yR wsR rR avH avR S :=
  ⟨_, _, _, _, hH, hR, (ag_30 hA).1, fun _ => by rw [(ag_30 hA).2, j191, hv], hr⟩
theorem rg_out {x : Int32} {b : Nat} (hb : b < 1000000) (h : ¬ ∃ i, 0 ≤ i ∧ i ≤ b ∧ x = nI i) : x.toInt < 0 ∨ (b : Int) < x.toInt := by
  by_cases h0 : x.toInt < 0
  · exact Or.inl h0
  · by_cases h1 : (b : Int) < x.toInt
    · exact Or.inr h1
    · obtain ⟨i, hi, e⟩ := nI_ex (x := x) (N := b + 1) (by omega) (by omega) (by omega)
      exact absurd ⟨i, Nat.zero_le _, by omega, e⟩ h
/-- the cells of the reference behind a change of the class -/
theorem AgC.at {S X : Mem} {t k N M : Nat} (hX : AgC (cRem S t k N M) X) {q : Nat} (h : 30 ≤ q ∧ q ≤ 43) : X.1 q = S.1 q ∧ X.2 q = S.2 q := by
  obtain ⟨a, b⟩ := hX q (by omega) (by omega) (by omega) (by omega) (by omega)
  exact ⟨by rw [a, cRem_1 (by omega) (by omega)], by rw [b, cRem_2 (by omega)]⟩
end SP2
section SQ
variable {l : Launch} {sa ka va : Nat → Nat} {D : va_G} {cA : Nat → ClassId} {α : Nat → Nat} {S : Mem}

theorem sp_size (hst : l.stackTraces = false) (h : Rel S) (a1 : Int32) : SpI l sa ka va D cA α yL_size wsL_size ({ frames := 7, cells := 1, slots := 6, locals := 121 }) yX11_size wsX11_size ({ frames := 1, cells := 0, slots := 0, locals := 21 }) [.ref (α 0), .int a1, .ref (α 191)] [.ref (α 30), .int a1] S := by
  obtain ⟨un, cn, pn, N, M, h⟩ := h
  have hw := h.nw
  by_cases e : ∃ i, 0 ≤ i ∧ i ≤ 4 ∧ a1 = nI i
  · obtain ⟨i, -, hi, rfl⟩ := e
    rcases (show i = 0 ∨ i = 1 ∨ i = 2 ∨ i = 3 ∨ i = 4 by omega) with rfl | rfl | rfl | rfl | rfl
    · exact spI_n h Sm.rfl (fun z => hN_size l sa ka va D cA α z S (nI 0) _ _ (fun z => ct_X10_size0 l D cA α 193 z (by decide) S )) (fun z => ct_X11_size0 l D cA α 193 z (by decide) _ ) rfl (hw.cU.trans hw.rU.symm)
    · exact spI_n h Sm.rfl (fun z => hN_size l sa ka va D cA α z S (nI 1) _ _ (fun z => ct_X10_size1 l D cA α 193 z (by decide) S )) (fun z => ct_X11_size1 l D cA α 193 z (by decide) _ ) rfl (hw.cC.trans hw.rC.symm)
    · exact spI_n h Sm.rfl (fun z => hN_size l sa ka va D cA α z S (nI 2) _ _ (fun z => ct_X10_size2 l D cA α 193 z (by decide) S )) (fun z => ct_X11_size2 l D cA α 193 z (by decide) _ ) rfl (hw.cP.trans hw.rP.symm)
    · exact spI_n h Sm.rfl (fun z => hN_size l sa ka va D cA α z S (nI 3) _ _ (fun z => ct_X10_size3 l D cA α 193 z (by decide) S )) (fun z => ct_X11_size3 l D cA α 193 z (by decide) _ ) rfl (hw.cN.trans hw.rN.symm)
    · exact spI_n h Sm.rfl (fun z => hN_size l sa ka va D cA α z S (nI 4) _ _ (fun z => ct_X10_size4 l D cA α 193 z (by decide) S )) (fun z => ct_X11_size4 l D cA α 193 z (by decide) _ ) rfl (hw.cM.trans hw.rM.symm)
  · exact spI_x h 1 (by decide) (fun z => hX_size_IA l sa ka va D cA α z S a1 (fun z => ct_X10_sizeX l hst sa D cA α 193 z (by decide) S a1 (rg_out (by decide) e))) (fun z => ct_X11_sizeX l D cA α 193 z (by decide) S a1 (rg_out (by decide) e)) (by first | exact Or.inl rfl | exact Or.inr rfl)

theorem sp_rate (hst : l.stackTraces = false) (h : Rel S) (a1 : Int32) : SpI l sa ka va D cA α yL_rate wsL_rate ({ frames := 8, cells := 1, slots := 6, locals := 142 }) yX11_rate wsX11_rate ({ frames := 1, cells := 0, slots := 0, locals := 25 }) [.ref (α 0), .int a1, .ref (α 191)] [.ref (α 30), .int a1] S := by
  obtain ⟨un, cn, pn, N, M, h⟩ := h
  have hw := h.nw
  by_cases e : ∃ i, i < un ∧ a1 = nI i
  · obtain ⟨i, hi, rfl⟩ := e
    exact spI_n h Sm.rfl (fun z => hN_rate l sa ka va D cA α z S (nI i) _ _ (fun z => ct_X10_rate l D cA α 193 z (by decide) S un hw.cU hw.u4 i hi)) (fun z => ct_X11_rate l D cA α 193 z (by decide) _ un (by exact hw.rU) hw.u4 i hi) rfl (hw.rate ⟨hi, by have := hw.u4; omega⟩).symm
  · exact spI_x h 1 (by decide) (fun z => hX_rate_IO l sa ka va D cA α z S a1 (fun z => ct_X10_rateX l hst sa D cA α 193 z (by decide) S un hw.cU hw.u4 a1 e)) (fun z => ct_X11_rateX l D cA α 193 z (by decide) S un (by exact hw.rU) hw.u4 a1 e) (by first | exact Or.inl rfl | exact Or.inr rfl)

theorem sp_currencyOf (hst : l.stackTraces = false) (h : Rel S) (a1 : Int32) : SpI l sa ka va D cA α yL_currencyOf wsL_currencyOf ({ frames := 8, cells := 1, slots := 6, locals := 142 }) yX11_currencyOf wsX11_currencyOf ({ frames := 2, cells := 0, slots := 0, locals := 46 }) [.ref (α 0), .int a1, .ref (α 191)] [.ref (α 30), .int a1] S := by
  obtain ⟨un, cn, pn, N, M, h⟩ := h
  have hw := h.nw
  by_cases e : ∃ i, i < cn ∧ a1 = nI i
  · obtain ⟨i, hi, rfl⟩ := e
    exact spI_n h Sm.rfl (fun z => hN_currencyOf l sa ka va D cA α z S (nI i) _ _ (fun z => ct_X10_currencyOf l D cA α 193 z (by decide) S cn hw.cC hw.c6 i hi)) (fun z => ct_X11_currencyOf l D cA α 193 z (by decide) _ cn (by exact hw.rC) hw.c6 i hi) rfl (hw.1.2.1 i hi).1.symm
  · exact spI_x h 1 (by decide) (fun z => hX_currencyOf_IO l sa ka va D cA α z S a1 (fun z => ct_X10_currencyOfX l hst sa D cA α 193 z (by decide) S cn hw.cC hw.c6 a1 e)) (fun z => ct_X11_currencyOfX l D cA α 193 z (by decide) S cn (by exact hw.rC) hw.c6 a1 e) (by first | exact Or.inl rfl | exact Or.inr rfl)

theorem sp_product (hst : l.stackTraces = false) (h : Rel S) (a1 a2 : Int32) : SpI l sa ka va D cA α yL_product wsL_product ({ frames := 8, cells := 1, slots := 6, locals := 143 }) yX11_product wsX11_product ({ frames := 2, cells := 0, slots := 0, locals := 46 }) [.ref (α 0), .int a1, .int a2, .ref (α 191)] [.ref (α 30), .int a1, .int a2] S := by
  obtain ⟨un, cn, pn, N, M, h⟩ := h
  have hw := h.nw
  by_cases e : ∃ i, i < pn ∧ a1 = nI i
  · obtain ⟨i, hi, rfl⟩ := e
    by_cases e2 : ∃ i, 0 ≤ i ∧ i ≤ 3 ∧ a2 = nI i
    · obtain ⟨w, -, hw3, rfl⟩ := e2
      obtain ⟨p1, p2, p3, p4⟩ := hw.1.2.2 i hi
      rcases (show w = 0 ∨ w = 1 ∨ w = 2 ∨ w = 3 by omega) with rfl | rfl | rfl | rfl
      · exact spI_n h Sm.rfl (fun z => hN_product l sa ka va D cA α z S (nI i) (nI 0) _ _ (fun z => ct_X10_product0 l D cA α 193 z (by decide) S pn hw.cP hw.p6 i hi)) (fun z => ct_X11_product0 l D cA α 193 z (by decide) _ pn (by exact hw.rP) hw.p6 i hi) rfl p1.symm
      · exact spI_n h Sm.rfl (fun z => hN_product l sa ka va D cA α z S (nI i) (nI 1) _ _ (fun z => ct_X10_product1 l D cA α 193 z (by decide) S pn hw.cP hw.p6 i hi)) (fun z => ct_X11_product1 l D cA α 193 z (by decide) _ pn (by exact hw.rP) hw.p6 i hi) rfl p2.symm
      · exact spI_n h Sm.rfl (fun z => hN_product l sa ka va D cA α z S (nI i) (nI 2) _ _ (fun z => ct_X10_product2 l D cA α 193 z (by decide) S pn hw.cP hw.p6 i hi)) (fun z => ct_X11_product2 l D cA α 193 z (by decide) _ pn (by exact hw.rP) hw.p6 i hi) rfl p3.symm
      · exact spI_n h Sm.rfl (fun z => hN_product l sa ka va D cA α z S (nI i) (nI 3) _ _ (fun z => ct_X10_product3 l D cA α 193 z (by decide) S pn hw.cP hw.p6 i hi)) (fun z => ct_X11_product3 l D cA α 193 z (by decide) _ pn (by exact hw.rP) hw.p6 i hi) rfl p4.symm
    · exact spI_x h 2 (by decide) (fun z => hX_product_IA l sa ka va D cA α z S (nI i) a2 (fun z => ct_X10_productY l hst sa D cA α 193 z (by decide) S pn hw.cP hw.p6 i hi a2 (rg_out (by decide) e2))) (fun z => ct_X11_productY l D cA α 193 z (by decide) S pn (by exact hw.rP) hw.p6 i hi a2 (rg_out (by decide) e2)) (by first | exact Or.inl rfl | exact Or.inr rfl)
  · exact spI_x h 1 (by decide) (fun z => hX_product_IO l sa ka va D cA α z S a1 a2 (fun z => ct_X10_productX l hst sa D cA α 193 z (by decide) S pn hw.cP hw.p6 a1 a2 e)) (fun z => ct_X11_productX l D cA α 193 z (by decide) S pn (by exact hw.rP) hw.p6 a1 a2 e) (by first | exact Or.inl rfl | exact Or.inr rfl)

theorem sp_item (hst : l.stackTraces = false) (h : Rel S) (a1 a2 : Int32) : SpI l sa ka va D cA α yL_item wsL_item ({ frames := 8, cells := 1, slots := 6, locals := 143 }) yX11_item wsX11_item ({ frames := 2, cells := 0, slots := 0, locals := 46 }) [.ref (α 0), .int a1, .int a2, .ref (α 191)] [.ref (α 30), .int a1, .int a2] S := by
  obtain ⟨un, cn, pn, N, M, h⟩ := h
  have hw := h.nw
  by_cases e : ∃ i, i < N ∧ a1 = nI i
  · obtain ⟨i, hi, rfl⟩ := e
    by_cases e2 : ∃ i, 0 ≤ i ∧ i ≤ 5 ∧ a2 = nI i
    · obtain ⟨w, -, hw5, rfl⟩ := e2
      rcases (show w = 0 ∨ w = 1 ∨ w = 2 ∨ w = 3 ∨ w = 4 ∨ w = 5 by omega) with rfl | rfl | rfl | rfl | rfl | rfl
      · exact spI_n h Sm.rfl (fun z => hN_item l sa ka va D cA α z S (nI i) (nI 0) _ _ (fun z => ct_X10_item0 l D cA α 193 z (by decide) S N hw.cN hw.N100 i hi)) (fun z => ct_X11_item l D cA α 193 z (by decide) _ N (by exact hw.rN) hw.N100 i hi 0 (by decide)) rfl (hw.e45 hi).symm
      · exact spI_n h Sm.rfl (fun z => hN_item l sa ka va D cA α z S (nI i) (nI 1) _ _ (fun z => ct_X10_item1 l D cA α 193 z (by decide) S N hw.cN hw.N100 i hi)) (fun z => ct_X11_item l D cA α 193 z (by decide) _ N (by exact hw.rN) hw.N100 i hi 1 (by decide)) rfl (hw.e46 hi).symm
      · exact spI_n h Sm.rfl (fun z => hN_item l sa ka va D cA α z S (nI i) (nI 2) _ _ (fun z => ct_X10_item2 l D cA α 193 z (by decide) S N hw.cN hw.N100 i hi)) (fun z => ct_X11_item l D cA α 193 z (by decide) _ N (by exact hw.rN) hw.N100 i hi 2 (by decide)) rfl (hw.e47 hi).symm
      · exact spI_n h Sm.rfl (fun z => hN_item l sa ka va D cA α z S (nI i) (nI 3) _ _ (fun z => ct_X10_item3 l D cA α 193 z (by decide) S N hw.cN hw.N100 i hi)) (fun z => ct_X11_item l D cA α 193 z (by decide) _ N (by exact hw.rN) hw.N100 i hi 3 (by decide)) rfl (hw.e48 hi).symm
      · exact spI_n h Sm.rfl (fun z => hN_item l sa ka va D cA α z S (nI i) (nI 4) _ _ (fun z => ct_X10_item4 l D cA α 193 z (by decide) S N hw.cN hw.N100 i hi)) (fun z => ct_X11_item l D cA α 193 z (by decide) _ N (by exact hw.rN) hw.N100 i hi 4 (by decide)) rfl (hw.e76 hi).symm
      · exact spI_n h Sm.rfl (fun z => hN_item l sa ka va D cA α z S (nI i) (nI 5) _ _ (fun z => ct_X10_item5 l D cA α 193 z (by decide) S N hw.cN hw.N100 i hi)) (fun z => ct_X11_item l D cA α 193 z (by decide) _ N (by exact hw.rN) hw.N100 i hi 5 (by decide)) rfl (hw.e77 hi).symm
    · exact spI_x h 2 (by decide) (fun z => hX_item_IA l sa ka va D cA α z S (nI i) a2 (fun z => ct_X10_itemY l hst sa D cA α 193 z (by decide) S N hw.cN hw.N100 i hi a2 (rg_out (by decide) e2))) (fun z => ct_X11_itemY l D cA α 193 z (by decide) S N (by exact hw.rN) hw.N100 i hi a2 e2) (by first | exact Or.inl rfl | exact Or.inr rfl)
  · exact spI_x h 1 (by decide) (fun z => hX_item_IO l sa ka va D cA α z S a1 a2 (fun z => ct_X10_itemX l hst sa D cA α 193 z (by decide) S N hw.cN hw.N100 a1 a2 e)) (fun z => ct_X11_itemX l D cA α 193 z (by decide) S N (by exact hw.rN) hw.N100 a1 a2 e) (by first | exact Or.inl rfl | exact Or.inr rfl)

theorem sp_amount (hst : l.stackTraces = false) (h : Rel S) (a1 : Int32) : SpL l sa ka va D cA α yL_amount wsL_amount ({ frames := 8, cells := 1, slots := 6, locals := 142 }) yX11_amount wsX11_amount ({ frames := 2, cells := 0, slots := 0, locals := 46 }) [.ref (α 0), .int a1, .ref (α 191)] [.ref (α 30), .int a1] S := by
  obtain ⟨un, cn, pn, N, M, h⟩ := h
  have hw := h.nw
  by_cases e : ∃ i, i < N ∧ a1 = nI i
  · obtain ⟨i, hi, rfl⟩ := e
    exact spL_n h Sm.rfl (fun z => hN_amount l sa ka va D cA α z S (nI i) _ _ (fun z => ct_X10_amount l D cA α 193 z (by decide) S N hw.cN hw.N100 i hi)) (fun z => ct_X11_amount l D cA α 193 z (by decide) _ N (by exact hw.rN) hw.N100 i hi) rfl (hw.e75 hi).symm
  · exact spL_x h 1 (by decide) (fun z => hX_amount_IO l sa ka va D cA α z S a1 (fun z => ct_X10_amountX l hst sa D cA α 193 z (by decide) S N hw.cN hw.N100 a1 e)) (fun z => ct_X11_amountX l D cA α 193 z (by decide) S N (by exact hw.rN) hw.N100 a1 e) (by first | exact Or.inl rfl | exact Or.inr rfl)

theorem sp_value (hst : l.stackTraces = false) (h : Rel S) (a1 : Int32) : SpL l sa ka va D cA α yL_value wsL_value ({ frames := 8, cells := 1, slots := 6, locals := 142 }) yX11_value wsX11_value ({ frames := 3, cells := 0, slots := 0, locals := 64 }) [.ref (α 0), .int a1, .ref (α 191)] [.ref (α 30), .int a1] S := by
  obtain ⟨un, cn, pn, N, M, h⟩ := h
  have hw := h.nw
  by_cases e : ∃ i, i < N ∧ a1 = nI i
  · obtain ⟨i, hi, rfl⟩ := e
    exact spL_n h Sm.rfl (fun z => hN_value l sa ka va D cA α z S (nI i) _ _ (fun z => ct_X10_value l D cA α 193 z (by decide) S N hw.cN hw.N100 i hi (hw.oC hi))) (fun z => ct_X11_value l D cA α 193 z (by decide) _ N (by exact hw.rN) hw.N100 i hi (by exact hw.oR hi)) rfl (hw.val hi).symm
  · exact spL_x h 1 (by decide) (fun z => hX_value_IO l sa ka va D cA α z S a1 (fun z => ct_X10_valueX l hst sa D cA α 193 z (by decide) S N hw.cN hw.N100 a1 e)) (fun z => ct_X11_valueX l D cA α 193 z (by decide) S N (by exact hw.rN) hw.N100 a1 e) (by first | exact Or.inl rfl | exact Or.inr rfl)

theorem sp_currencyDifference (hst : l.stackTraces = false) (h : Rel S) (a1 : Int32) : SpL l sa ka va D cA α yL_currencyDifference wsL_currencyDifference ({ frames := 8, cells := 1, slots := 6, locals := 142 }) yX11_currencyDifference wsX11_currencyDifference ({ frames := 3, cells := 0, slots := 0, locals := 64 }) [.ref (α 0), .int a1, .ref (α 191)] [.ref (α 30), .int a1] S := by
  obtain ⟨un, cn, pn, N, M, h⟩ := h
  have hw := h.nw
  by_cases e : ∃ i, i < N ∧ a1 = nI i
  · obtain ⟨i, hi, rfl⟩ := e
    exact spL_n h Sm.rfl (fun z => hN_currencyDifference l sa ka va D cA α z S (nI i) _ _ (fun z => ct_X10_currencyDifference l D cA α 193 z (by decide) S N hw.cN hw.N100 i hi (hw.oC hi))) (fun z => ct_X11_currencyDifference l D cA α 193 z (by decide) _ N (by exact hw.rN) hw.N100 i hi (by exact hw.oR hi)) rfl (hw.cdE hi).symm
  · exact spL_x h 1 (by decide) (fun z => hX_currencyDifference_IO l sa ka va D cA α z S a1 (fun z => ct_X10_currencyDifferenceX l hst sa D cA α 193 z (by decide) S N hw.cN hw.N100 a1 e)) (fun z => ct_X11_currencyDifferenceX l D cA α 193 z (by decide) S N (by exact hw.rN) hw.N100 a1 e) (by first | exact Or.inl rfl | exact Or.inr rfl)

theorem sp_pairDifference (hst : l.stackTraces = false) (h : Rel S) (a1 : Int32) : SpL l sa ka va D cA α yL_pairDifference wsL_pairDifference ({ frames := 8, cells := 1, slots := 6, locals := 145 }) yX11_pairDifference wsX11_pairDifference ({ frames := 4, cells := 0, slots := 0, locals := 85 }) [.ref (α 0), .int a1, .ref (α 191)] [.ref (α 30), .int a1] S := by
  obtain ⟨un, cn, pn, N, M, h⟩ := h
  have hw := h.nw
  by_cases e : ∃ i, i < N ∧ a1 = nI i
  · obtain ⟨i, hi, rfl⟩ := e
    rcases (hw.it hi).2.2.2.2.2 with ⟨-, hp⟩ | ⟨-, b, hb, e1, e2, -, -⟩
    · have hp : S.1 77 i = -1 := hp
      exact spL_x h 2 (by decide) (fun z => hX_pairDifference_IS l sa ka va D cA α z S (nI i) (fun z => ct_X10_pairDifferenceY l hst sa D cA α 193 z (by decide) S N hw.cN hw.N100 i hi (by rw [hp]; decide))) (fun z => ct_X11_pairDifferenceY l D cA α 193 z (by decide) S N (by exact hw.rN) hw.N100 i hi (by rw [hw.e77 hi, hp]; decide)) (by first | exact Or.inl rfl | exact Or.inr rfl)
    · have e1 : S.1 77 i = nI b := e1
      have e2 : S.1 77 b = nI i := e2
      exact spL_n h Sm.rfl (fun z => hN_pairDifference l sa ka va D cA α z S (nI i) _ _ (fun z => ct_X10_pairDifference l D cA α 193 z (by decide) S N hw.cN hw.N100 i hi b e1 (hw.oC hi) (hw.oC hb))) (fun z => ct_X11_pairDifference l D cA α 193 z (by decide) _ N (by exact hw.rN) hw.N100 i hi b (by exact (hw.e77 hi).trans e1) (by exact (hw.e77 hb).trans e2) (by exact hw.oR hi) (by exact hw.oR hb)) rfl (hw.pdE hi hb).symm
  · exact spL_x h 1 (by decide) (fun z => hX_pairDifference_IO l sa ka va D cA α z S a1 (fun z => ct_X10_pairDifferenceX l hst sa D cA α 193 z (by decide) S N hw.cN hw.N100 a1 e)) (fun z => ct_X11_pairDifferenceX l D cA α 193 z (by decide) S N (by exact hw.rN) hw.N100 a1 e) (by first | exact Or.inl rfl | exact Or.inr rfl)

theorem sp_candidates (hst : l.stackTraces = false) (h : Rel S) (a1 : Int32) : SpI l sa ka va D cA α yL_candidates wsL_candidates ({ frames := 8, cells := 1, slots := 6, locals := 142 }) yX11_candidates wsX11_candidates ({ frames := 2, cells := 0, slots := 0, locals := 46 }) [.ref (α 0), .int a1, .ref (α 191)] [.ref (α 30), .int a1] S := by
  obtain ⟨un, cn, pn, N, M, h⟩ := h
  have hw := h.nw
  by_cases e : ∃ i, i < N ∧ a1 = nI i
  · obtain ⟨i, hi, rfl⟩ := e
    exact spI_n h Sm.rfl (fun z => hN_candidates l sa ka va D cA α z S (nI i) _ _ (fun z => ct_X10_candidates l D cA α 193 z (by decide) S N hw.cN hw.N100 i hi)) (fun z => ct_X11_candidates l D cA α 193 z (by decide) _ N (by exact hw.rN) hw.N100 i hi) rfl (congrArg nI (hw.cndE hi).symm)
  · exact spI_x h 1 (by decide) (fun z => hX_candidates_IO l sa ka va D cA α z S a1 (fun z => ct_X10_candidatesX l hst sa D cA α 193 z (by decide) S N hw.cN hw.N100 a1 e)) (fun z => ct_X11_candidatesX l D cA α 193 z (by decide) S N (by exact hw.rN) hw.N100 a1 e) (by first | exact Or.inl rfl | exact Or.inr rfl)

theorem sp_wouldPair (hst : l.stackTraces = false) (h : Rel S) (a1 : Int32) : SpI l sa ka va D cA α yL_wouldPair wsL_wouldPair ({ frames := 8, cells := 1, slots := 6, locals := 154 }) yX11_wouldPair wsX11_wouldPair ({ frames := 5, cells := 0, slots := 0, locals := 109 }) [.ref (α 0), .int a1, .ref (α 191)] [.ref (α 30), .int a1] S := by
  obtain ⟨un, cn, pn, N, M, h⟩ := h
  have hw := h.nw
  by_cases e : ∃ i, i < N ∧ a1 = nI i
  · obtain ⟨i, hi, rfl⟩ := e
    by_cases hs : S.1 47 i = 0 ∧ S.1 76 i = 0
    · have hr : rIs S i (nI 0) (nI 0) = true := by unfold rIs; rw [hw.e47 hi, hw.e76 hi, hs.1, hs.2]; decide
      refine ⟨_, _, _, _, (fun z => hN_wouldPair l sa ka va D cA α z S (nI i) _ _ (fun z => ct_X10_wouldPair l D cA α 193 z (by decide) S N hw.cN hw.N100 i hi (fun j hj => hw.oC hj) hs.1 hs.2)), (fun z => ct_X11_wouldPair l D cA α 193 z (by decide) _ N (by exact hw.rN) hw.N100 i hi (by exact fun j hj => hw.oR hj) (by exact hr)), ?_, fun _ => ?_, (Rl_sm h ((((Sm.R (by decide)).tr (Sm.J (by decide))).tr (Sm.M (by decide) (by decide))).tr (Sm.R (by decide)))).rel⟩
      · rw [sR_1 (by decide), sI_e, pk_us]
      · rw [sR_2, sI_2, j191]
        congr 1
        rw [← (hw.plan N (Nat.le_refl _)).2 i hi]
        exact congrFun (rPlan_of (S := S) (by rw [sI_1 (by decide), sJ_1, sR_1 (by decide)]) (by rw [sI_1 (by decide), sJ_1, sR_1 (by decide)]) (by rw [sI_1 (by decide), sJ_1, sR_1 (by decide)]) (by rw [sI_2, sJ_2 (by decide), sR_2]) N N).symm i
    · have hr : rIs S i (nI 0) (nI 0) = false := by
        unfold rIs; rw [hw.e47 hi, hw.e76 hi, nI_0]
        by_cases h1 : S.1 47 i = 0
        · rw [decide_eq_false (fun h2 => hs ⟨h1, h2⟩), Bool.and_false]
        · rw [decide_eq_false h1, Bool.false_and]
      exact spI_x h 2 (by decide) (fun z => hX_wouldPair_IS l sa ka va D cA α z S (nI i) (fun z => ct_X10_wouldPairY l hst sa D cA α 193 z (by decide) S N hw.cN hw.N100 i hi hs)) (fun z => ct_X11_wouldPairY l D cA α 193 z (by decide) S N (by exact hw.rN) hw.N100 i hi hr) (by first | exact Or.inl rfl | exact Or.inr rfl)
  · exact spI_x h 1 (by decide) (fun z => hX_wouldPair_IO l sa ka va D cA α z S a1 (fun z => ct_X10_wouldPairX l hst sa D cA α 193 z (by decide) S N hw.cN hw.N100 a1 e)) (fun z => ct_X11_wouldPairX l D cA α 193 z (by decide) S N (by exact hw.rN) hw.N100 a1 e) (by first | exact Or.inl rfl | exact Or.inr rfl)

theorem sp_balance (hst : l.stackTraces = false) (h : Rel S) (a1 a2 : Int32) : SpL l sa ka va D cA α yL_balance wsL_balance ({ frames := 8, cells := 1, slots := 6, locals := 143 }) yX11_balance wsX11_balance ({ frames := 3, cells := 0, slots := 0, locals := 64 }) [.ref (α 0), .int a1, .int a2, .ref (α 191)] [.ref (α 30), .int a1, .int a2] S := by
  obtain ⟨un, cn, pn, N, M, h⟩ := h
  have hw := h.nw
  by_cases e : ∃ i, i < cn ∧ a1 = nI i
  · obtain ⟨a, ha, rfl⟩ := e
    by_cases e2 : ∃ i, i < cn ∧ a2 = nI i
    · obtain ⟨b, hb, rfl⟩ := e2
      by_cases hab : a = b
      · subst hab
        exact spL_n h Sm.rfl (fun z => hN_balance l sa ka va D cA α z S (nI a) (nI a) _ _ (fun z => ct_X10_balance l D cA α 193 z (by decide) S cn hw.cC hw.c6 a a ha ha N hw.cN hw.N100 (fun j hj => hw.oC hj))) (fun z => ct_X11_balanceS l D cA α 193 z (by decide) _ cn (by exact hw.rC) hw.c6 a ha) rfl (sumL_0 (fun j hj => hw.bal0 hj _))
      · exact spL_n h Sm.rfl (fun z => hN_balance l sa ka va D cA α z S (nI a) (nI b) _ _ (fun z => ct_X10_balance l D cA α 193 z (by decide) S cn hw.cC hw.c6 a b ha hb N hw.cN hw.N100 (fun j hj => hw.oC hj))) (fun z => ct_X11_balance l D cA α 193 z (by decide) _ cn (by exact hw.rC) hw.c6 a b ha hb hab N (by exact hw.rN) hw.N100 (by exact fun j hj => hw.oR hj)) rfl (sumL_congr (fun j hj => (hw.balE hj _ _).symm))
    · exact spL_x h 1 (by decide) (fun z => hX_balance_IO l sa ka va D cA α z S (nI a) a2 (fun z => ct_X10_balanceX2 l hst sa D cA α 193 z (by decide) S cn hw.cC hw.c6 a ha a2 e2)) (fun z => ct_X11_balanceX l D cA α 193 z (by decide) S cn (by exact hw.rC) hw.c6 (nI a) a2 (Or.inr e2)) (by first | exact Or.inl rfl | exact Or.inr rfl)
  · exact spL_x h 1 (by decide) (fun z => hX_balance_IO l sa ka va D cA α z S a1 a2 (fun z => ct_X10_balanceX l hst sa D cA α 193 z (by decide) S cn hw.cC hw.c6 a1 a2 e)) (fun z => ct_X11_balanceX l D cA α 193 z (by decide) S cn (by exact hw.rC) hw.c6 a1 a2 (Or.inl e)) (by first | exact Or.inl rfl | exact Or.inr rfl)

theorem sp_total (hst : l.stackTraces = false) (h : Rel S) (a1 : Int32) : SpL l sa ka va D cA α yL_total wsL_total ({ frames := 7, cells := 1, slots := 6, locals := 121 }) yX11_total wsX11_total ({ frames := 4, cells := 0, slots := 0, locals := 88 }) [.ref (α 0), .int a1, .ref (α 191)] [.ref (α 30), .int a1] S := by
  obtain ⟨un, cn, pn, N, M, h⟩ := h
  have hw := h.nw
  by_cases e : ∃ i, 0 ≤ i ∧ i ≤ 7 ∧ a1 = nI i
  · obtain ⟨i, -, hi, rfl⟩ := e
    rcases (show i = 0 ∨ i = 1 ∨ i = 2 ∨ i = 3 ∨ i = 4 ∨ i = 5 ∨ i = 6 ∨ i = 7 by omega) with rfl | rfl | rfl | rfl | rfl | rfl | rfl | rfl
    · exact spL_n h Sm.rfl (fun z => hN_total l sa ka va D cA α z S (nI 0) _ _ (fun z => ct_X10_total0 l D cA α 193 z (by decide) S N hw.cN hw.N100 (fun j hj => hw.oC hj))) (fun z => ct_X11_total0 l D cA α 193 z (by decide) _ N (by exact hw.rN) hw.N100 (by exact fun j hj => hw.oR hj)) rfl (sumL_congr (fun j hj => (hw.net0 hj).symm))
    · exact spL_n h Sm.rfl (fun z => hN_total l sa ka va D cA α z S (nI 1) _ _ (fun z => ct_X10_total1 l D cA α 193 z (by decide) S N hw.cN hw.N100 (fun j hj => hw.oC hj))) (fun z => ct_X11_total1 l D cA α 193 z (by decide) _ N (by exact hw.rN) hw.N100 (by exact fun j hj => hw.oR hj)) rfl (sumL_congr (fun j hj => (hw.net1 hj).symm))
    · exact spL_n h Sm.rfl (fun z => hN_total l sa ka va D cA α z S (nI 2) _ _ (fun z => ct_X10_total2 l D cA α 193 z (by decide) S N hw.cN hw.N100 (fun j hj => hw.oC hj))) (fun z => ct_X11_total2 l D cA α 193 z (by decide) _ N (by exact hw.rN) hw.N100 (by exact fun j hj => hw.oR hj)) rfl (sumL_congr (fun j hj => (hw.net2 hj).symm))
    · exact spL_n h Sm.rfl (fun z => hN_total l sa ka va D cA α z S (nI 3) _ _ (fun z => ct_X10_total3 l D cA α 193 z (by decide) S N hw.cN hw.N100 (fun j hj => hw.oC hj))) (fun z => ct_X11_total3 l D cA α 193 z (by decide) _ N (by exact hw.rN) hw.N100 (by exact fun j hj => hw.oR hj)) rfl (sumL_congr (fun j hj => (hw.net3 hj).symm))
    · exact spL_n h Sm.rfl (fun z => hN_total l sa ka va D cA α z S (nI 4) _ _ (fun z => ct_X10_total4 l D cA α 193 z (by decide) S )) (fun z => ct_X11_total4 l D cA α 193 z (by decide) _ ) rfl hw.s3.symm
    · exact spL_n h Sm.rfl (fun z => hN_total l sa ka va D cA α z S (nI 5) _ _ (fun z => ct_X10_total5 l D cA α 193 z (by decide) S )) (fun z => ct_X11_total5 l D cA α 193 z (by decide) _ ) rfl hw.s4.symm
    · exact spL_n h Sm.rfl (fun z => hN_total l sa ka va D cA α z S (nI 6) _ _ (fun z => ct_X10_total6 l D cA α 193 z (by decide) S )) (fun z => ct_X11_total6 l D cA α 193 z (by decide) _ ) rfl hw.s5.symm
    · exact spL_n h Sm.rfl (fun z => hN_total l sa ka va D cA α z S (nI 7) _ _ (fun z => ct_X10_total7 l D cA α 193 z (by decide) S M hw.cM hw.M100 (fun d hd => hw.ok49' hd))) (fun z => ct_X11_total7 l D cA α 193 z (by decide) _ (lts S M) (by exact hw.rL) hw.L100 (by exact fun j hj => hw.okL hj)) rfl hw.allP.symm
  · exact spL_x h 1 (by decide) (fun z => hX_total_IA l sa ka va D cA α z S a1 (fun z => ct_X10_totalX l hst sa D cA α 193 z (by decide) S a1 (rg_out (by decide) e))) (fun z => ct_X11_totalX l D cA α 193 z (by decide) S a1 e) (by first | exact Or.inl rfl | exact Or.inr rfl)

theorem sp_position (hst : l.stackTraces = false) (h : Rel S) (a1 : Int32) : SpL l sa ka va D cA α yL_position wsL_position ({ frames := 8, cells := 1, slots := 6, locals := 142 }) yX11_position wsX11_position ({ frames := 4, cells := 0, slots := 0, locals := 88 }) [.ref (α 0), .int a1, .ref (α 191)] [.ref (α 30), .int a1] S := by
  obtain ⟨un, cn, pn, N, M, h⟩ := h
  have hw := h.nw
  by_cases e : ∃ i, i < cn ∧ a1 = nI i
  · obtain ⟨i, hi, rfl⟩ := e
    exact spL_n h (Sm.L (by decide)) (fun z => hN_position l sa ka va D cA α z S (nI i) _ _ (fun z => ct_X10_position l D cA α 193 z (by decide) S cn hw.cC hw.c6 i hi N hw.cN hw.N100 (fun j hj => hw.oC hj) (fun j hj => okI_le (hw.it hj).2.2.1 hw.c6))) (fun z => ct_X11_position l D cA α 193 z (by decide) _ cn (by exact hw.rC) hw.c6 i hi N (by exact hw.rN) hw.N100 (by exact fun j hj => hw.oR hj)) rfl (hw.posE (by have := hw.c6; omega) N (Nat.le_refl _))
  · exact spL_x h 1 (by decide) (fun z => hX_position_IO l sa ka va D cA α z S a1 (fun z => ct_X10_positionX l hst sa D cA α 193 z (by decide) S cn hw.cC hw.c6 a1 e)) (fun z => ct_X11_positionX l D cA α 193 z (by decide) S cn (by exact hw.rC) hw.c6 a1 e) (by first | exact Or.inl rfl | exact Or.inr rfl)

theorem sp_settledPosition (hst : l.stackTraces = false) (h : Rel S) (a1 : Int32) : SpL l sa ka va D cA α yL_settledPosition wsL_settledPosition ({ frames := 8, cells := 1, slots := 6, locals := 142 }) yX11_settledPosition wsX11_settledPosition ({ frames := 2, cells := 0, slots := 0, locals := 46 }) [.ref (α 0), .int a1, .ref (α 191)] [.ref (α 30), .int a1] S := by
  obtain ⟨un, cn, pn, N, M, h⟩ := h
  have hw := h.nw
  by_cases e : ∃ i, i < cn ∧ a1 = nI i
  · obtain ⟨i, hi, rfl⟩ := e
    exact spL_n h Sm.rfl (fun z => hN_settledPosition l sa ka va D cA α z S (nI i) _ _ (fun z => ct_X10_settledPosition l D cA α 193 z (by decide) S cn hw.cC hw.c6 i hi)) (fun z => ct_X11_settledPosition l D cA α 193 z (by decide) _ cn (by exact hw.rC) hw.c6 i hi) rfl (hw.spos (by have := hw.c6; omega)).symm
  · exact spL_x h 1 (by decide) (fun z => hX_settledPosition_IO l sa ka va D cA α z S a1 (fun z => ct_X10_settledPositionX l hst sa D cA α 193 z (by decide) S cn hw.cC hw.c6 a1 e)) (fun z => ct_X11_settledPositionX l D cA α 193 z (by decide) S cn (by exact hw.rC) hw.c6 a1 e) (by first | exact Or.inl rfl | exact Or.inr rfl)

theorem sp_stock (hst : l.stackTraces = false) (h : Rel S) (a1 a2 : Int32) : SpI l sa ka va D cA α yL_stock wsL_stock ({ frames := 8, cells := 1, slots := 6, locals := 143 }) yX11_stock wsX11_stock ({ frames := 3, cells := 0, slots := 0, locals := 69 }) [.ref (α 0), .int a1, .int a2, .ref (α 191)] [.ref (α 30), .int a1, .int a2] S := by
  obtain ⟨un, cn, pn, N, M, h⟩ := h
  have hw := h.nw
  by_cases e : ∃ i, i < cn ∧ a1 = nI i
  · obtain ⟨a, ha, rfl⟩ := e
    by_cases e2 : ∃ i, i < pn ∧ a2 = nI i
    · obtain ⟨b, hb, rfl⟩ := e2
      exact spI_n h Sm.rfl (fun z => hN_stock l sa ka va D cA α z S (nI a) (nI b) _ _ (fun z => ct_X10_stock l D cA α 193 z (by decide) S cn hw.cC hw.c6 pn hw.cP hw.p6 a b ha hb M hw.cM hw.M100)) (fun z => ct_X11_stock l D cA α 193 z (by decide) _ cn (by exact hw.rC) hw.c6 pn (by exact hw.rP) hw.p6 a b ha hb (lts S M) (by exact hw.rL) hw.L100) rfl (hw.stkE _ _).symm
    · exact spI_x h 1 (by decide) (fun z => hX_stock_IO l sa ka va D cA α z S (nI a) a2 (fun z => ct_X10_stockX2 l hst sa D cA α 193 z (by decide) S cn hw.cC hw.c6 pn hw.cP hw.p6 a ha a2 e2)) (fun z => ct_X11_stockX l D cA α 193 z (by decide) S cn (by exact hw.rC) hw.c6 pn (by exact hw.rP) hw.p6 (nI a) a2 (Or.inr e2)) (by first | exact Or.inl rfl | exact Or.inr rfl)
  · exact spI_x h 1 (by decide) (fun z => hX_stock_IO l sa ka va D cA α z S a1 a2 (fun z => ct_X10_stockX l hst sa D cA α 193 z (by decide) S cn hw.cC hw.c6 a1 a2 e)) (fun z => ct_X11_stockX l D cA α 193 z (by decide) S cn (by exact hw.rC) hw.c6 pn (by exact hw.rP) hw.p6 a1 a2 (Or.inl e)) (by first | exact Or.inl rfl | exact Or.inr rfl)

theorem sp_oldestPrice (hst : l.stackTraces = false) (h : Rel S) (a1 a2 : Int32) : SpI l sa ka va D cA α yL_oldestPrice wsL_oldestPrice ({ frames := 8, cells := 1, slots := 6, locals := 143 }) yX11_oldestPrice wsX11_oldestPrice ({ frames := 3, cells := 0, slots := 0, locals := 68 }) [.ref (α 0), .int a1, .int a2, .ref (α 191)] [.ref (α 30), .int a1, .int a2] S := by
  obtain ⟨un, cn, pn, N, M, h⟩ := h
  have hw := h.nw
  by_cases e : ∃ i, i < cn ∧ a1 = nI i
  · obtain ⟨a, ha, rfl⟩ := e
    by_cases e2 : ∃ i, i < pn ∧ a2 = nI i
    · obtain ⟨b, hb, rfl⟩ := e2
      exact spI_n h Sm.rfl (fun z => hN_oldestPrice l sa ka va D cA α z S (nI a) (nI b) _ _ (fun z => ct_X10_oldestPrice l D cA α 193 z (by decide) S cn hw.cC hw.c6 pn hw.cP hw.p6 a b ha hb M hw.cM hw.M100)) (fun z => ct_X11_oldestPrice l D cA α 193 z (by decide) _ cn (by exact hw.rC) hw.c6 pn (by exact hw.rP) hw.p6 a b ha hb (lts S M) (by exact hw.rL) hw.L100) rfl (hw.oldE _ _).symm
    · exact spI_x h 1 (by decide) (fun z => hX_oldestPrice_IO l sa ka va D cA α z S (nI a) a2 (fun z => ct_X10_oldestPriceX2 l hst sa D cA α 193 z (by decide) S cn hw.cC hw.c6 pn hw.cP hw.p6 a ha a2 e2)) (fun z => ct_X11_oldestPriceX l D cA α 193 z (by decide) S cn (by exact hw.rC) hw.c6 pn (by exact hw.rP) hw.p6 (nI a) a2 (Or.inr e2)) (by first | exact Or.inl rfl | exact Or.inr rfl)
  · exact spI_x h 1 (by decide) (fun z => hX_oldestPrice_IO l sa ka va D cA α z S a1 a2 (fun z => ct_X10_oldestPriceX l hst sa D cA α 193 z (by decide) S cn hw.cC hw.c6 a1 a2 e)) (fun z => ct_X11_oldestPriceX l D cA α 193 z (by decide) S cn (by exact hw.rC) hw.c6 pn (by exact hw.rP) hw.p6 a1 a2 (Or.inl e)) (by first | exact Or.inl rfl | exact Or.inr rfl)

theorem sp_unrealized (hst : l.stackTraces = false) (h : Rel S) (a1 : Int32) : SpL l sa ka va D cA α yL_unrealized wsL_unrealized ({ frames := 8, cells := 1, slots := 6, locals := 142 }) yX11_unrealized wsX11_unrealized ({ frames := 3, cells := 0, slots := 0, locals := 67 }) [.ref (α 0), .int a1, .ref (α 191)] [.ref (α 30), .int a1] S := by
  obtain ⟨un, cn, pn, N, M, h⟩ := h
  have hw := h.nw
  by_cases e : ∃ i, i < cn ∧ a1 = nI i
  · obtain ⟨i, hi, rfl⟩ := e
    exact spL_n h Sm.rfl (fun z => hN_unrealized l sa ka va D cA α z S (nI i) _ _ (fun z => ct_X10_unrealized l D cA α 193 z (by decide) S cn hw.cC hw.c6 i hi M hw.cM hw.M100 (fun d hd => hw.ok49' hd))) (fun z => ct_X11_unrealized l D cA α 193 z (by decide) _ cn (by exact hw.rC) hw.c6 i hi (lts S M) (by exact hw.rL) hw.L100 (by exact fun j hj => hw.okL hj)) rfl (hw.unrE (by have := hw.c6; omega)).symm
  · exact spL_x h 1 (by decide) (fun z => hX_unrealized_IO l sa ka va D cA α z S a1 (fun z => ct_X10_unrealizedX l hst sa D cA α 193 z (by decide) S cn hw.cC hw.c6 a1 e)) (fun z => ct_X11_unrealizedX l D cA α 193 z (by decide) S cn (by exact hw.rC) hw.c6 a1 e) (by first | exact Or.inl rfl | exact Or.inr rfl)

theorem rUA_J (S : Mem) (w : Int64) (a b q : Int32) (v : Int64) : ∀ n, rUA (setJ S 191 0 w) a b q v n = rUA S a b q v n
  | 0 => rfl
  | n + 1 => by rw [rUA, rUA, rUA_J S w a b q v n]; rfl

theorem sp_unrealizedAfterSale (hst : l.stackTraces = false) (h : Rel S) (a1 a2 a3 : Int32) : SpL l sa ka va D cA α yL_unrealizedAfterSale wsL_unrealizedAfterSale ({ frames := 8, cells := 1, slots := 6, locals := 146 }) yX11_unrealizedAfterSale wsX11_unrealizedAfterSale ({ frames := 4, cells := 0, slots := 0, locals := 92 }) [.ref (α 0), .int a1, .int a2, .int a3, .ref (α 191)] [.ref (α 30), .int a1, .int a2, .int a3] S := by
  obtain ⟨un, cn, pn, N, M, h⟩ := h
  have hw := h.nw
  by_cases e : ∃ i, i < cn ∧ a1 = nI i
  · obtain ⟨a, ha, rfl⟩ := e
    by_cases e2 : ∃ i, i < pn ∧ a2 = nI i
    · obtain ⟨b, hb, rfl⟩ := e2
      by_cases e3 : ∃ i, 0 ≤ i ∧ i ≤ 9999 ∧ a3 = nI i
      · cases hct : cCan S (nI a) b a3 M with
        | true =>
          have hq : 0 ≤ a3 := by obtain ⟨i, -, hi, rfl⟩ := e3; exact nI_pos' (by omega)
          exact spL_n h Sm.rfl (fun z => hN_unrealizedAfterSale l sa ka va D cA α z S (nI a) (nI b) a3 _ _ (fun z => ct_X10_unrealizedAfterSale l D cA α 193 z (by decide) S cn hw.cC hw.c6 pn hw.cP hw.p6 a b ha hb a3 e3 M hw.cM hw.M100 (fun d hd => hw.ok49' hd) hct)) (fun z => ct_X11_unrealizedAfterSale l D cA α 193 z (by decide) _ cn (by exact hw.rC) hw.c6 pn (by exact hw.rP) hw.p6 a b ha hb a3 e3 (lts S M) (by exact hw.rL) hw.L100 (by exact fun j hj => hw.okL hj) (by exact (hw.canE (nI a) hb a3).trans hct)) rfl ((hw.uaE (Nat.lt_of_lt_of_le ha (Nat.le_trans hw.c6 (by decide))) hq).symm.trans (congrArg Prod.fst (rUA_J S _ _ _ _ _ _).symm))
        | false =>
          exact spL_x h 3 (by decide) (fun z => hX_unrealizedAfterSale_IS l sa ka va D cA α z S (nI a) (nI b) a3 (fun z => ct_X10_unrealizedAfterSaleZ l hst sa D cA α 193 z (by decide) S cn hw.cC hw.c6 pn hw.cP hw.p6 a b ha hb a3 e3 M hw.cM hw.M100 hct)) (fun z => ct_X11_unrealizedAfterSaleZ l D cA α 193 z (by decide) S cn (by exact hw.rC) hw.c6 pn (by exact hw.rP) hw.p6 a b ha hb a3 e3 (lts S M) (by exact hw.rL) hw.L100 (by exact (hw.canE (nI a) hb a3).trans hct)) (by first | exact Or.inl rfl | exact Or.inr rfl)
      · exact spL_x h 2 (by decide) (fun z => hX_unrealizedAfterSale_IA l sa ka va D cA α z S (nI a) (nI b) a3 (fun z => ct_X10_unrealizedAfterSaleY l hst sa D cA α 193 z (by decide) S cn hw.cC hw.c6 pn hw.cP hw.p6 a b ha hb a3 e3)) (fun z => ct_X11_unrealizedAfterSaleY l D cA α 193 z (by decide) S cn (by exact hw.rC) hw.c6 pn (by exact hw.rP) hw.p6 a b ha hb a3 e3) (by first | exact Or.inl rfl | exact Or.inr rfl)
    · exact spL_x h 1 (by decide) (fun z => hX_unrealizedAfterSale_IO l sa ka va D cA α z S (nI a) a2 a3 (fun z => ct_X10_unrealizedAfterSaleX2 l hst sa D cA α 193 z (by decide) S cn hw.cC hw.c6 pn hw.cP hw.p6 a ha a2 e2 a3)) (fun z => ct_X11_unrealizedAfterSaleX l D cA α 193 z (by decide) S cn (by exact hw.rC) hw.c6 pn (by exact hw.rP) hw.p6 (nI a) a2 (Or.inr e2) a3) (by first | exact Or.inl rfl | exact Or.inr rfl)
  · exact spL_x h 1 (by decide) (fun z => hX_unrealizedAfterSale_IO l sa ka va D cA α z S a1 a2 a3 (fun z => ct_X10_unrealizedAfterSaleX l hst sa D cA α 193 z (by decide) S cn hw.cC hw.c6 a1 a2 e a3)) (fun z => ct_X11_unrealizedAfterSaleX l D cA α 193 z (by decide) S cn (by exact hw.rC) hw.c6 pn (by exact hw.rP) hw.p6 a1 a2 (Or.inl e) a3) (by first | exact Or.inl rfl | exact Or.inr rfl)

theorem sp_gap (hst : l.stackTraces = false) (h : Rel S) (a1 : Int32) : SpL l sa ka va D cA α yL_gap wsL_gap ({ frames := 7, cells := 1, slots := 6, locals := 121 }) yX11_gap wsX11_gap ({ frames := 2, cells := 0, slots := 0, locals := 48 }) [.ref (α 0), .int a1, .ref (α 191)] [.ref (α 30), .int a1] S := by
  obtain ⟨un, cn, pn, N, M, h⟩ := h
  have hw := h.nw
  by_cases e : ∃ i, i < M ∧ a1 = nI i
  · obtain ⟨i, hi, rfl⟩ := e
    exact spL_n h Sm.rfl (fun z => hN_gap l sa ka va D cA α z S (nI i) _ _ (fun z => ct_X10_gap l D cA α 193 z (by decide) S M hw.cM hw.M100 i hi (hw.ok49' hi))) (fun z => ct_X11_gap l D cA α 193 z (by decide) _ M (by exact hw.rM) hw.M100 i hi (by exact hw.okD hi)) rfl (hw.gapE hi).symm
  · exact spL_x h 1 (by decide) (fun z => hX_gap_IO l sa ka va D cA α z S a1 (fun z => ct_X10_gapX l hst sa D cA α 193 z (by decide) S M hw.cM hw.M100 a1 e)) (fun z => ct_X11_gapX l D cA α 193 z (by decide) S M (by exact hw.rM) hw.M100 a1 e) (by first | exact Or.inl rfl | exact Or.inr rfl)

theorem sp_gapsOf (hst : l.stackTraces = false) (h : Rel S) (a1 : Int32) : SpL l sa ka va D cA α yL_gapsOf wsL_gapsOf ({ frames := 8, cells := 1, slots := 6, locals := 142 }) yX11_gapsOf wsX11_gapsOf ({ frames := 2, cells := 0, slots := 0, locals := 48 }) [.ref (α 0), .int a1, .ref (α 191)] [.ref (α 30), .int a1] S := by
  obtain ⟨un, cn, pn, N, M, h⟩ := h
  have hw := h.nw
  by_cases e : ∃ i, i < cn ∧ a1 = nI i
  · obtain ⟨i, hi, rfl⟩ := e
    exact spL_n h Sm.rfl (fun z => hN_gapsOf l sa ka va D cA α z S (nI i) _ _ (fun z => ct_X10_gapsOf l D cA α 193 z (by decide) S cn hw.cC hw.c6 i hi M hw.cM hw.M100 (fun d hd => hw.ok49' hd))) (fun z => ct_X11_gapsOf l D cA α 193 z (by decide) _ cn (by exact hw.rC) hw.c6 i hi M (by exact hw.rM) hw.M100 (by exact fun d hd => hw.okD hd)) rfl (hw.gapsE _).symm
  · exact spL_x h 1 (by decide) (fun z => hX_gapsOf_IO l sa ka va D cA α z S a1 (fun z => ct_X10_gapsOfX l hst sa D cA α 193 z (by decide) S cn hw.cC hw.c6 a1 e)) (fun z => ct_X11_gapsOfX l D cA α 193 z (by decide) S cn (by exact hw.rC) hw.c6 a1 e M (by exact hw.rM) hw.M100) (by first | exact Or.inl rfl | exact Or.inr rfl)

end SQ
