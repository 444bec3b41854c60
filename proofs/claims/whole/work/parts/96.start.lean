/-! the start -/
theorem rDf_0 (z j : Nat) : (rDf Z0).1 z j = 0 := by
  unfold rDf
  by_cases h : z = 30
  · subst h
    rw [sI_e, updE]
    split
    · rfl
    · rw [sR_1 (by decide)]; rfl
  · rw [sI_1 h]
    by_cases h2 : z = 32
    · subst h2
      rw [sR_e]; unfold zI; split <;> rfl
    · rw [sR_1 h2]; rfl
theorem S0_1 (z j : Nat) (h30 : z ≠ 30) (h33 : z ≠ 33) (h34 : z ≠ 34) (h40 : z ≠ 40) : S0.1 z j = 0 := by
  unfold S0; rw [rTD_k _ h33 h34 h30 h40]; exact rDf_0 z j
theorem S0_2 (z j : Nat) (h : z ≠ 35) : S0.2 z j = 0 := by
  unfold S0; rw [rTD_2 _ h]; rfl
theorem S0_33 {j : Nat} (h : j < 40) : S0.1 33 j = 0 := by
  unfold S0; rw [rTD_33 _ h]; exact rDf_0 32 j
theorem rel_S0 : Rel S0 := by
  have hz := S0_1
  have n0 : nI 0 = (0 : Int32) := rfl
  refine ⟨0, 0, 0, 0, 0, ⟨⟨by decide, by decide, by decide, hz 23 0 (by decide) (by decide) (by decide) (by decide), hz 23 1 (by decide) (by decide) (by decide) (by decide), hz 23 2 (by decide) (by decide) (by decide) (by decide), S0_33 (by decide), S0_33 (by decide), S0_33 (by decide), (S0_33 (by decide)).trans (hz 23 4 (by decide) (by decide) (by decide) (by decide)).symm, (S0_33 (by decide)).trans (hz 23 5 (by decide) (by decide) (by decide) (by decide)).symm⟩, fun c hc => absurd hc (Nat.not_lt_zero _), fun p hp => absurd hp (Nat.not_lt_zero _)⟩, ⟨⟨by decide, by decide, hz 74 0 (by decide) (by decide) (by decide) (by decide), hz 74 1 (by decide) (by decide) (by decide) (by decide), rTD_34z _ (by decide), rTD_34z _ (by decide)⟩, ⟨?_, ?_, ?_, ?_⟩, fun c hc => absurd hc.1 (Nat.not_lt_zero _), fun c hc => ?_, fun u hu => absurd hu (Nat.not_lt_zero _), fun i hi => absurd hi (Nat.not_lt_zero _), fun d hd => absurd hd (Nat.not_lt_zero _), rTD_34z _ (by decide), fun d hd => absurd hd (Nat.not_lt_zero _)⟩, ⟨0, 0, fun _ => 0, fun _ => 0, ⟨by decide, by decide, hz 11 0 (by decide) (by decide) (by decide) (by decide), hz 11 1 (by decide) (by decide) (by decide) (by decide), rTD_17 _⟩, fun d hd => absurd hd (Nat.not_lt_zero _), rfl, rfl, fun d hd => absurd hd (Nat.not_lt_zero _)⟩, ⟨?_, fun h9 => absurd (hz (14 + 0) 0 (by decide) (by decide) (by decide) (by decide)) h9⟩, ⟨?_, fun h9 => absurd (hz (14 + 1) 0 (by decide) (by decide) (by decide) (by decide)) h9⟩, 0, by decide, hz 1 1 (by decide) (by decide) (by decide) (by decide), ?_, fun k hk => absurd hk (Nat.not_lt_zero _), fun k hk => ⟨128, by decide, ?_⟩⟩
  · exact (rTD_343 (rDf Z0)).trans ((rDf_0 32 3).trans (hz 74 2 (by decide) (by decide) (by decide) (by decide)).symm)
  · exact (rTD_35 (rDf Z0) (by decide)).trans (S0_2 74 3 (by decide)).symm
  · exact (rTD_35 (rDf Z0) (by decide)).trans (S0_2 74 4 (by decide)).symm
  · exact (rTD_35 (rDf Z0) (by decide)).trans (S0_2 74 5 (by decide)).symm
  · exact (rTD_35 (rDf Z0) (by omega)).trans (S0_2 (74 + 8) c (by decide)).symm
  · exact (rTD_40 (rDf Z0) (by decide)).trans (hz (14 + 0) 0 (by decide) (by decide) (by decide) (by decide)).symm
  · exact (rTD_40 (rDf Z0) (by decide)).trans (hz (14 + 1) 0 (by decide) (by decide) (by decide) (by decide)).symm
  · exact (rTD_30 (rDf Z0) (by decide)).trans (rDf_0 30 2)
  · rw [hz 31 k (by decide) (by decide) (by decide) (by decide)]; decide
def al2 (α : Nat → Nat) (q q2 : Nat) : Nat → Nat := fun k => if k = 191 then q else if k = 192 then q2 else α k
theorem al2_k (α : Nat → Nat) (q q2 : Nat) : ∀ z, z < 191 → al2 α q q2 z = α z := fun z hz => by
  unfold al2; rw [if_neg (by omega), if_neg (by omega)]
theorem WL_len {cA : Nat → ClassId} {α : Nat → Nat} {n : Nat} {S : Mem} : (WL cA α n S).length = n := by unfold WL; rw [List.length_map, List.length_range]
theorem WL_two {A : Nat → Prop} {cA : Nat → ClassId} {α : Nat → Nat} {q q2 : Nat} {e1 e2 : va_E} {S : Mem} (hD : va_D A ((WL cA α 191 S ++ [(q, e1)]) ++ [(q2, e2)])) : va_D A (WL cA (al2 α q q2) 193 S) := by
  have key : ∀ k, k < 193 → ∃ e, ((WL cA α 191 S ++ [(q, e1)]) ++ [(q2, e2)])[k]? = some (al2 α q q2 k, e) := fun k hk => by
    by_cases h1 : k < 191
    · refine ⟨mk cA α k (S.1 k) (S.2 k), ?_⟩
      rw [List.append_assoc, List.getElem?_append_left (by rw [WL_len]; exact h1), WL_get h1, al2_k α q q2 k h1]
    · rw [List.append_assoc, List.getElem?_append_right (by rw [WL_len]; omega), WL_len]
      by_cases h2 : k = 191
      · subst h2; exact ⟨e1, rfl⟩
      · have h3 : k = 192 := by omega
        subst h3; exact ⟨e2, rfl⟩
  refine ⟨fun i j p9 q9 hi hj hpq => ?_, fun k q9 hk => ?_⟩
  · obtain ⟨h1, f1⟩ := WL_at hi
    obtain ⟨h2, f2⟩ := WL_at hj
    obtain ⟨x, k1⟩ := key i h1
    obtain ⟨y, k2⟩ := key j h2
    exact hD.1 _ _ _ _ k1 k2 (by rw [← f1, ← f2]; exact hpq)
  · obtain ⟨h1, f1⟩ := WL_at hk
    obtain ⟨x, k1⟩ := key k h1
    rw [f1]
    exact hD.2 _ _ k1
theorem WL_twoP {D : va_G} {cA : Nat → ClassId} {α : Nat → Nat} {q q2 : Nat} {H : Heap} (hP : va_P D vwCl ((WL cA α 191 S0 ++ [(q, .inl (cA 1, (1, .inr (.inl (fun _ => 0)))))]) ++ [(q2, .inl (cA 4, (1, .inr (.inr (.inr (.inl (fun _ => 0)))))))]) H) : va_P D vwCl (WL cA (al2 α q q2) 193 S0) H := by
  obtain ⟨h1, h2⟩ := P_app hP
  obtain ⟨h3, h4⟩ := P_app h1
  refine WL_of (fun k hk => ?_)
  by_cases e : k < 191
  · exact at_c (al2_k α q q2) e (WL_to h3 e)
  · by_cases e1 : k = 191
    · subst e1
      rw [mk_191, show S0.2 191 = fun _ => 0 from funext fun j => S0_2 191 j (by decide)]
      exact h4 0 _ rfl
    · have e2 : k = 192 := by omega
      subst e2
      rw [mk_192, show (fun j => (S0.2 192 j).toUInt64) = fun _ => 0 from funext fun j => by rw [S0_2 192 j (by decide)]; rfl]
      exact h2 0 _ rfl
set_option maxRecDepth 100000 in
set_option maxHeartbeats 4000000 in
/-- from the entry, for every script of at most 3072 ints, the law comes to its end with true -/
theorem whole_start {p : Program} {e : Env} {s : State} {m : MethodId} {below : List Frame} {meth : Method} {c : Code} (l : Launch) (hflags : l.flags = flags0) {b L : Nat} {xs : Nat → Int32} (hL : L ≤ 3072) (C0 : lw_At p s m meth c b L xs) : W p l e room_1 s m #[Value.ref b] below meth c s.heap [] 0 0 (lw_Z below #[Value.ref b] s) (entryFrame m ([Value.ref b] : List Value).toArray 10) := by
  obtain ⟨hx, hb, hr, hml, hown, hts, hX, hbl, hlocks, hgv⟩ := id C0
  have hown : s.vm.findClass RL = some m.cls := hown
  have hst : l.stackTraces = false := by unfold Launch.stackTraces; rw [hflags]; decide +kernel
  have hA : ∀ q : Nat, s.heap.size ≤ q → (fun q : Nat => s.heap.size ≤ q) q := fun _ h => h
  obtain ⟨D, cA, hK⟩ := k_start hts
  have hAO := ao_start hts
  obtain ⟨sa, ka, va, hV⟩ := ev_start (A := fun q : Nat => s.heap.size ≤ q) hts hgv (fun a h => Nat.not_le.mpr h)
  have hS : va_S (fun q : Nat => s.heap.size ≤ q) s.heap s.heap [] := va_S.rf
  have hP : va_P D vwCl ([] : va_W) s.heap := fun k q h => by simp at h
  have hD : va_D (fun q : Nat => s.heap.size ≤ q) ([] : va_W) := ⟨fun i j p q h => by simp at h, fun k q h => by simp at h⟩
  have hl := lv_entry ([.ref b]) (n := 10) (by exact Nat.le_of_ble_eq_true rfl)
  rw [lg_entry_eq]
  generalize (lg_sl ([.ref b]) ++ List.replicate (10 - (lg_sl ([.ref b])).length) Slot.unset).toArray = ls at hl ⊢
  have hl : lv_has ls 10 [(0, .ref b)] := hl
  refine va_new (ci := 10) (fs := [.null, .null, .null, .null, .null, .null, .null]) (C := RX10) (T := TX10) (N := 7) hx hb hts in_X10 tyX10 tyX10_ok hown (hts (.classLink RL 8 RX10) (tbw 1 25 rfl)) (hts (.instantiable RX10 7) (tbw 1 26 rfl)) (hts (.initialized RX10) (tbw 1 1 rfl)) hK hP hD hS hA rfl (fun j hj => by rcases (show j = 0 ∨ j = 1 ∨ j = 2 ∨ j = 3 ∨ j = 4 ∨ j = 5 ∨ j = 6 by omega) with rfl | rfl | rfl | rfl | rfl | rfl | rfl <;> rfl) (by exact Nat.le_of_ble_eq_true rfl) (by exact Nat.le_of_ble_eq_true rfl) dL_law_0 (fun q0 H hP hD hS => ?_)
  refine lv_dup hx hb dL_law_3 rfl ?_
  refine x_init (w := ([] : va_W)) ⟨hx, hb, hml, hown, hts⟩ (cn_X10_init l D cA) (cwI 0 hts gL_law_X10_init rfl rfl rfl (hts (.initialized RX10) (tbw 1 1 rfl)) (hts (.methodLink RL 120 yX10_init) (tbw 1 27 rfl)) (hts (.instanceMethod yX10_init) (tbw 1 28 rfl)) rfl (by decide +kernel) ⟨(by exact Nat.le_of_ble_eq_true rfl), (by exact Nat.le_of_ble_eq_true rfl)⟩) hK hAO hP hD hS hA hl.1 (by exact Nat.le_of_ble_eq_true rfl) dL_law_4 ⟨(by exact Nat.le_of_ble_eq_true rfl), (by exact Nat.le_of_ble_eq_true rfl)⟩ (fun u H locs eu hP9 hD9 hS9 => ?_)
  subst eu
  have hP : va_P D vwCl (L10 cA u) H := hP9
  have hD : va_D (fun q : Nat => s.heap.size ≤ q) (L10 cA u) := hD9
  have hS := hS9
  refine lv_astore_n (lv' := [(1, .ref (u 0)), (0, .ref b)]) hx hb dL_law_7 rfl hl (by decide) rfl (fun ls hl => ?_)
  refine va_new (ci := 11) (fs := [.int 0, .null, .int 0, .int 0, .int 0, .int 0, .int 0, .int 0, .int 0, .int 0, .null, .null, .int 0, .null, .null, .null, .null, .int 0, .null, .null, .null, .null, .null, .null]) (C := RX11) (T := TX11) (N := 24) hx hb hts in_X11 tyX11 tyX11_ok hown (hts (.classLink RL 121 RX11) (tbw 5 194 rfl)) (hts (.instantiable RX11 24) (tbw 5 195 rfl)) (hts (.initialized RX11) (tbw 1 12 rfl)) hK hP hD hS hA rfl (fun j hj => by rcases (show j = 0 ∨ j = 1 ∨ j = 2 ∨ j = 3 ∨ j = 4 ∨ j = 5 ∨ j = 6 ∨ j = 7 ∨ j = 8 ∨ j = 9 ∨ j = 10 ∨ j = 11 ∨ j = 12 ∨ j = 13 ∨ j = 14 ∨ j = 15 ∨ j = 16 ∨ j = 17 ∨ j = 18 ∨ j = 19 ∨ j = 20 ∨ j = 21 ∨ j = 22 ∨ j = 23 by omega) with rfl | rfl | rfl | rfl | rfl | rfl | rfl | rfl | rfl | rfl | rfl | rfl | rfl | rfl | rfl | rfl | rfl | rfl | rfl | rfl | rfl | rfl | rfl | rfl <;> rfl) (by exact Nat.le_of_ble_eq_true rfl) (by exact Nat.le_of_ble_eq_true rfl) dL_law_8 (fun a H hP hD hS => ?_)
  refine lv_dup hx hb dL_law_11 rfl ?_
  have hF : ∀ q, va_A (w11 cA u a) H.size q → s.heap.size ≤ q := fun q h => h.elim (fun ⟨k, e, hk⟩ => hD.2 k _ hk) (fun h => Nat.le_trans hS.1 h)
  refine va_callv (va_runI (As := []) (rest := [.ref a]) ⟨hx, hb, hml, hown, hts⟩ (cn_X11_init l D cA u a H.size) (cwI 0 hts gL_law_X11_init rfl rfl rfl (hts (.initialized RX11) (tbw 1 12 rfl)) (hts (.methodLink RL 123 yX11_init) (tbw 5 196 rfl)) (hts (.instanceMethod yX11_init) (tbw 5 197 rfl)) rfl (by decide +kernel) ⟨(by exact Nat.le_of_ble_eq_true rfl), (by exact Nat.le_of_ble_eq_true rfl)⟩) ⟨fun a' U g mk' q => by obtain ⟨q0, q1, qP, qK, qD⟩ := q; exact ⟨q0, q1, qP, va_K.moved (Vm.Alike.refl U.vm) qK, qD⟩, fun U hU hW => ⟨rfl, by rw [hU], by rw [hU]; exact hP, va_K.moved hW.alike hK, hD.weaken (fun _ _ _ _ => trivial)⟩⟩ rfl rfl hl.1 rfl (lv_room (by exact Nat.le_of_ble_eq_true rfl)) dL_law_12 ⟨(by exact Nat.le_of_ble_eq_true rfl), (by exact Nat.le_of_ble_eq_true rfl)⟩) hS (fun q _ h => hF q h) hF (fun mo t H1 locs1 ht hvm hmo hB hz1 hk1 hS1 => ?_)
  obtain ⟨hP1, hD1⟩ := hB
  rw [ht] at hP1
  have hD1 : va_D (fun q : Nat => s.heap.size ≤ q) (WL cA (alf u mo) 191 S0) := hD1.weaken (fun k q _ h => hF q.1 h)
  refine lv_astore_n (lv' := [(2, .ref a), (1, .ref (u 0)), (0, .ref b)]) hx hb dL_law_15 rfl hl (by decide) rfl (fun ls hl => ?_)
  refine lv_iconst (v := nI 1) hx hb dL_law_16 (by decide) ?_
  refine x_newa (t := 1) (ty := .long) (atype := .long) (N' := 1) (1, .inr (.inl (fun _ => 0))) hx hb (hts (.arrayClass .long) (tbw 2 45 rfl)) rfl rfl (fun _ _ h1 h2 => Option.some.inj (h1.symm.trans h2)) hK hP1 hD1 hS1 hA (fun _ => rfl) (nI_pos (by exact Nat.le_of_ble_eq_true rfl)) (nI_clamp (by exact Nat.le_of_ble_eq_true rfl)) (by exact Nat.le_of_ble_eq_true rfl) (by exact Nat.le_of_ble_eq_true rfl) (by exact Nat.le_of_ble_eq_true rfl) dL_law_17 (fun q1 H2 hP2 hD2 hS2 => ?_)
  refine lv_astore_n (lv' := [(3, .ref q1), (2, .ref a), (1, .ref (u 0)), (0, .ref b)]) hx hb dL_law_19 rfl hl (by decide) rfl (fun ls hl => ?_)
  refine lv_iconst (v := nI 1) hx hb dL_law_20 (by decide) ?_
  refine x_newa (t := 4) (ty := .double) (atype := .double) (N' := 1) (1, .inr (.inr (.inr (.inl (fun _ => 0))))) hx hb (hts (.arrayClass .double) (tbw 7 169 rfl)) rfl rfl (fun _ _ h1 h2 => Option.some.inj (h1.symm.trans h2)) hK hP2 hD2 hS2 hA (fun _ => rfl) (nI_pos (by exact Nat.le_of_ble_eq_true rfl)) (nI_clamp (by exact Nat.le_of_ble_eq_true rfl)) (by exact Nat.le_of_ble_eq_true rfl) (by exact Nat.le_of_ble_eq_true rfl) (by exact Nat.le_of_ble_eq_true rfl) dL_law_21 (fun q2 H3 hP3 hD3 hS3 => ?_)
  refine lv_astore (lv' := [(4, .ref q2), (3, .ref q1), (2, .ref a), (1, .ref (u 0)), (0, .ref b)]) hx hb dL_law_23 hl (by decide) rfl (fun ls hl => ?_)
  refine lv_iconst (v := nI 0) hx hb dL_law_25 (by decide) ?_
  refine lv_istore (lv' := [(5, .int (nI 0)), (4, .ref q2), (3, .ref q1), (2, .ref a), (1, .ref (u 0)), (0, .ref b)]) hx hb dL_law_26 hl (by decide) rfl (fun ls hl => ?_)
  have hP := WL_twoP hP3
  have hD := WL_two hD3
  obtain ⟨α, hα⟩ : ∃ α, α = al2 (alf u mo) q1 q2 := ⟨_, rfl⟩
  have e0 : α 0 = u 0 := by rw [hα]; rfl
  have e30 : α 30 = a := by rw [hα, ← hmo]; rfl
  have e191 : α 191 = q1 := by rw [hα]; rfl
  have e192 : α 192 = q2 := by rw [hα]; rfl
  rw [← hα] at hP hD
  have hge : ∀ k, k < 193 → s.heap.size ≤ α k := fun k hk => hD.2 k _ (WL_get hk)
  have hAw : ∀ q, Aw α 193 s.heap.size q → s.heap.size ≤ q := fun q h => h.elim (fun ⟨k, hk, e9⟩ => by rw [e9]; exact hge k hk) (fun h => h)
  have C : LX p l s m meth c b L xs sa ka va D cA α := ⟨C0, hst, hK, hV.narrow hAw, fun h => absurd (hAw b h) (Nat.not_le.mpr hbl), hL⟩
  have hw : Ws D cA α 193 (Aw α 193 s.heap.size) s.heap S0 H3 locs1 := ⟨hP, WL_D hD (fun k hk => Or.inl ⟨k, hk, rfl⟩), hS3.1, fun q hq hn => hS3.2.1 q hq (fun h => hn (Or.inr h)), fun l hl => Or.inr (hS3.2.2 l hl)⟩
  have hl : lv_has ls 10 [(0, .ref b), (1, .ref (α 0)), (2, .ref (α 30)), (3, .ref (α 191)), (4, .ref (α 192)), (5, .int (nI 0))] := by
    rw [e0, e30, e191, e192]; exact lv_sub hl [5, 4, 3, 2, 1, 0] rfl
  refine W.widen (k := 193) (n := 36368) (by exact Nat.le_of_ble_eq_true rfl) (by exact Nat.le_of_ble_eq_true rfl) ?_
  exact law_loop C hge (L + 7) 0 S0 H3 locs1 ls 193 36368 (by omega) (by decide) rel_S0 hw hl (by omega) (by omega)
