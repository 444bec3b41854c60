/-! the start: the classes, and what stands beside the world -/
theorem in_X0 : ∀ w ∈ u_ws RX0 TX0 3, w ∈ lw_tbl := fun w h => (gL_law_X10_init w (List.mem_cons_of_mem _ (List.mem_append_left _ (List.mem_append_left _ (List.mem_append_left _ (List.mem_append_left _ (List.mem_append_left _ (List.mem_append_left _ (List.mem_append_left _ (List.mem_append_left _ (List.mem_append_right _ h))))))))))).1
theorem in_X1 : ∀ w ∈ u_ws RX1 TX1 0, w ∈ lw_tbl := fun w h => (gL_law_X10_init w (List.mem_cons_of_mem _ (List.mem_append_left _ (List.mem_append_left _ (List.mem_append_left _ (List.mem_append_left _ (List.mem_append_left _ (List.mem_append_right _ h)))))))).1
theorem in_X2 : ∀ w ∈ u_ws RX2 TX2 12, w ∈ lw_tbl := fun w h => (gL_law_X10_init w (List.mem_cons_of_mem _ (List.mem_append_left _ (List.mem_append_left _ (List.mem_append_right _ h))))).1
theorem in_X3 : ∀ w ∈ u_ws RX3 TX3 11, w ∈ lw_tbl := fun w h => (gL_law_X10_init w (List.mem_cons_of_mem _ (List.mem_append_left _ (List.mem_append_left _ (List.mem_append_left _ (List.mem_append_left _ (List.mem_append_left _ (List.mem_append_left _ (List.mem_append_left _ (List.mem_append_left _ (List.mem_append_left _ (List.mem_append_left _ (List.mem_append_right _ h))))))))))))).1
theorem in_X4 : ∀ w ∈ u_ws RX4 TX4 3, w ∈ lw_tbl := fun w h => (gL_law_X10_init w (List.mem_cons_of_mem _ (List.mem_append_left _ (List.mem_append_left _ (List.mem_append_left _ (List.mem_append_left _ (List.mem_append_right _ h))))))).1
theorem in_X5 : ∀ w ∈ u_ws RX5 TX5 1, w ∈ lw_tbl := fun w h => (gL_law_X10_init w (List.mem_cons_of_mem _ (List.mem_append_left _ (List.mem_append_left _ (List.mem_append_left _ (List.mem_append_left _ (List.mem_append_left _ (List.mem_append_left _ (List.mem_append_left _ (List.mem_append_right _ h)))))))))).1
theorem in_X6 : ∀ w ∈ u_ws RX6 TX6 3, w ∈ lw_tbl := fun w h => (gL_law_X10_init w (List.mem_cons_of_mem _ (List.mem_append_left _ (List.mem_append_left _ (List.mem_append_left _ (List.mem_append_left _ (List.mem_append_left _ (List.mem_append_left _ (List.mem_append_right _ h))))))))).1
theorem in_X7 : ∀ w ∈ u_ws RX7 TX7 9, w ∈ lw_tbl := fun w h => (gL_law_X10_init w (List.mem_cons_of_mem _ (List.mem_append_left _ (List.mem_append_right _ h)))).1
theorem in_X8 : ∀ w ∈ u_ws RX8 TX8 3, w ∈ lw_tbl := fun w h => (gL_law_X10_init w (List.mem_cons_of_mem _ (List.mem_append_left _ (List.mem_append_left _ (List.mem_append_left _ (List.mem_append_right _ h)))))).1
theorem in_X9 : ∀ w ∈ u_ws RX9 TX9 14, w ∈ lw_tbl := fun w h => (gL_law_X10_init w (List.mem_cons_of_mem _ (List.mem_append_right _ h))).1
theorem in_X10 : ∀ w ∈ u_ws RX10 TX10 7, w ∈ lw_tbl := fun w h => (gL_law_X10_init w (List.mem_cons_of_mem _ (List.mem_append_left _ (List.mem_append_left _ (List.mem_append_left _ (List.mem_append_left _ (List.mem_append_left _ (List.mem_append_left _ (List.mem_append_left _ (List.mem_append_left _ (List.mem_append_left _ (List.mem_append_right _ h)))))))))))).1
theorem in_X11 : ∀ w ∈ u_ws RX11 TX11 24, w ∈ lw_tbl := fun w h => (gL_law_X11_init w (List.mem_cons_of_mem _ (List.mem_append_right _ h))).1
theorem arr_p {s : State} {args : Array Value} {ty : FieldType} (hty : ∀ C, ty ≠ .object C) (h : (Cond.arrayClass ty).before args s = true) : ∃ c : ClassId, ArrOfT s c ty ∧ va_RA s c ty := by
  obtain ⟨c, kA, comp, h1, h2, h3⟩ := Cond.arrayClass_spec (args := args) (first := s) (o := none) (s := s) (idx := []) h
  refine ⟨c, fun n z => ⟨fun k h => (by cases h), kA, h2, comp, h3⟩, ?_⟩
  cases ty with
  | object C => exact absurd rfl (hty C)
  | _ => exact h1
theorem arr_q {s : State} {args : Array Value} {C : String} (h : (Cond.arrayOver (.object C)).before args s = true) : ∃ c : ClassId, ArrOfT s c (.object C) ∧ va_RA s c (.object C) := by
  obtain ⟨comp, c, kA, h1, -, h2, h3, h4⟩ := Cond.arrayOver_spec (args := args) (first := s) (o := none) (s := s) (idx := []) h
  exact ⟨c, fun n z => ⟨fun k h => (by cases h), kA, h2, comp, h3⟩, kA, comp, h2, h3, h1, h4⟩
theorem k_start {s : State} {args : Array Value} (hts : ∀ w ∈ lw_tbl, w.before args s = true) : ∃ (D : va_G) (cA : Nat → ClassId), va_K D vwCl (tyl cA) s := by
  obtain ⟨c0, i0, h0⟩ := u_known (C := RX0) (T := TX0) (N := 3) (n := 3) hts in_X0 (hts (.instantiable RX0 3) (tbw 1 144 rfl))
  obtain ⟨c1, i1, h1⟩ := u_known (C := RX1) (T := TX1) (N := 0) (n := 0) hts in_X1 (hts (.instantiable RX1 0) (tbw 2 98 rfl))
  obtain ⟨c2, i2, h2⟩ := u_known (C := RX2) (T := TX2) (N := 12) (n := 12) hts in_X2 (hts (.instantiable RX2 12) (tbw 1 40 rfl))
  obtain ⟨c3, i3, h3⟩ := u_known (C := RX3) (T := TX3) (N := 11) (n := 11) hts in_X3 (hts (.instantiable RX3 11) (tbw 1 34 rfl))
  obtain ⟨c4, i4, h4⟩ := u_known (C := RX4) (T := TX4) (N := 3) (n := 3) hts in_X4 (hts (.instantiable RX4 3) (tbw 2 105 rfl))
  obtain ⟨c5, i5, h5⟩ := u_known (C := RX5) (T := TX5) (N := 1) (n := 1) hts in_X5 (hts (.instantiable RX5 1) (tbw 2 70 rfl))
  obtain ⟨c6, i6, h6⟩ := u_known (C := RX6) (T := TX6) (N := 3) (n := 3) hts in_X6 (hts (.instantiable RX6 3) (tbw 2 81 rfl))
  obtain ⟨c7, i7, h7⟩ := u_known (C := RX7) (T := TX7) (N := 9) (n := 9) hts in_X7 (hts (.instantiable RX7 9) (tbw 1 152 rfl))
  obtain ⟨c8, i8, h8⟩ := u_known (C := RX8) (T := TX8) (N := 3) (n := 3) hts in_X8 (hts (.instantiable RX8 3) (tbw 2 126 rfl))
  obtain ⟨c9, i9, h9⟩ := u_known (C := RX9) (T := TX9) (N := 14) (n := 14) hts in_X9 (hts (.instantiable RX9 14) (tbw 1 205 rfl))
  obtain ⟨c10, i10, h10⟩ := u_known (C := RX10) (T := TX10) (N := 7) (n := 7) hts in_X10 (hts (.instantiable RX10 7) (tbw 1 26 rfl))
  obtain ⟨c11, i11, h11⟩ := u_known (C := RX11) (T := TX11) (N := 24) (n := 24) hts in_X11 (hts (.instantiable RX11 24) (tbw 5 195 rfl))
  obtain ⟨a0, g0⟩ := arr_p (ty := .int) (fun C h => by cases h) (hts (.arrayClass .int) (tbw 1 105 rfl))
  obtain ⟨a1, g1⟩ := arr_p (ty := .long) (fun C h => by cases h) (hts (.arrayClass .long) (tbw 2 45 rfl))
  obtain ⟨a2, g2⟩ := arr_p (ty := .byte) (fun C h => by cases h) (hts (.arrayClass .byte) (tbw 1 142 rfl))
  obtain ⟨a3, g3⟩ := arr_p (ty := .boolean) (fun C h => by cases h) (hts (.arrayClass .boolean) (tbw 6 41 rfl))
  obtain ⟨a4, g4⟩ := arr_p (ty := .double) (fun C h => by cases h) (hts (.arrayClass .double) (tbw 7 169 rfl))
  obtain ⟨a5, g5⟩ := arr_q (hts (.arrayOver (.object "IntercompanyLedger$Standing")) (tbw 2 111 rfl))
  obtain ⟨a6, g6⟩ := arr_q (hts (.arrayOver (.object "IntercompanyLedger$Snapshot")) (tbw 2 125 rfl))
  refine ⟨(fun k => match k with
    | 0 => c0
    | 1 => c1
    | 2 => c2
    | 3 => c3
    | 4 => c4
    | 5 => c5
    | 6 => c6
    | 7 => c7
    | 8 => c8
    | 9 => c9
    | 10 => c10
    | _ => c11, fun k => match k with
    | 0 => i0
    | 1 => i1
    | 2 => i2
    | 3 => i3
    | 4 => i4
    | 5 => i5
    | 6 => i6
    | 7 => i7
    | 8 => i8
    | 9 => i9
    | 10 => i10
    | _ => i11), fun k => match k with
    | 0 => a0
    | 1 => a1
    | 2 => a2
    | 3 => a3
    | 4 => a4
    | 5 => a5
    | _ => a6, ⟨fun k q hq => ?_, fun k q hq => ?_⟩⟩
  · match k, hq with
    | 0, hq => cases hq; exact h0
    | 1, hq => cases hq; exact h1
    | 2, hq => cases hq; exact h2
    | 3, hq => cases hq; exact h3
    | 4, hq => cases hq; exact h4
    | 5, hq => cases hq; exact h5
    | 6, hq => cases hq; exact h6
    | 7, hq => cases hq; exact h7
    | 8, hq => cases hq; exact h8
    | 9, hq => cases hq; exact h9
    | 10, hq => cases hq; exact h10
    | 11, hq => cases hq; exact h11
    | k + 12, hq => simp [vwCl] at hq
  · match k, hq with
    | 0, hq => cases hq; exact g0
    | 1, hq => cases hq; exact g1
    | 2, hq => cases hq; exact g2
    | 3, hq => cases hq; exact g3
    | 4, hq => cases hq; exact g4
    | 5, hq => cases hq; exact g5
    | 6, hq => cases hq; exact g6
    | k + 7, hq => simp [tyl] at hq
theorem ao_start {s : State} {args : Array Value} (hts : ∀ w ∈ lw_tbl, w.before args s = true) : AOk s :=
  ⟨va_AO.of (hts (.arrayOver (.object "IntercompanyLedger$Standing")) (tbw 2 111 rfl)), va_AO.of (hts (.arrayOver (.object "IntercompanyLedger$Snapshot")) (tbw 2 125 rfl)),
   List.forall_mem_cons.mpr ⟨va_Nw.of rfl (hts (.methodLinkNest RX3 11 yX2_init "IntercompanyLedger") (tbw 1 41 rfl)), List.forall_mem_cons.mpr ⟨va_Nw.of rfl (hts (.methodLinkNest RX0 11 yX2_init "IntercompanyLedger") (tbw 1 150 rfl)), List.forall_mem_cons.mpr ⟨va_Nw.of rfl (hts (.methodLinkNest RX0 20 yX7_init "IntercompanyLedger") (tbw 1 153 rfl)), List.forall_mem_cons.mpr ⟨va_Nw.of rfl (hts (.methodLinkNest RX0 27 yX9_init "IntercompanyLedger") (tbw 1 206 rfl)), List.forall_mem_cons.mpr ⟨va_Nw.of rfl (hts (.methodLinkNest RX4 17 yX9_init "IntercompanyLedger") (tbw 2 112 rfl)), List.forall_mem_cons.mpr ⟨va_Nw.of rfl (hts (.methodLinkNest RX8 9 yX7_init "IntercompanyLedger") (tbw 2 132 rfl)), List.forall_mem_cons.mpr ⟨va_Nw.of rfl (hts (.methodLinkNest RX8 18 yX9_init "IntercompanyLedger") (tbw 2 134 rfl)), List.forall_mem_cons.mpr ⟨va_Nw.of rfl (hts (.methodLinkNest RX10 9 yX3_init "IntercompanyLedger") (tbw 1 35 rfl)), List.forall_mem_cons.mpr ⟨va_Nw.of rfl (hts (.methodLinkNest RX10 18 yX0_init "IntercompanyLedger") (tbw 1 145 rfl)), List.forall_mem_cons.mpr ⟨va_Nw.of rfl (hts (.methodLinkNest RX10 25 yX5_init "IntercompanyLedger") (tbw 2 71 rfl)), List.forall_mem_cons.mpr ⟨va_Nw.of rfl (hts (.methodLinkNest RX10 32 yX6_init "IntercompanyLedger") (tbw 2 82 rfl)), List.forall_mem_cons.mpr ⟨va_Nw.of rfl (hts (.methodLinkNest RX10 39 yX1_init "IntercompanyLedger") (tbw 2 99 rfl)), List.forall_mem_cons.mpr ⟨va_Nw.of rfl (hts (.methodLinkNest RX10 57 yX8_init "IntercompanyLedger") (tbw 2 127 rfl)), fun _ h => absurd h List.not_mem_nil⟩⟩⟩⟩⟩⟩⟩⟩⟩⟩⟩⟩⟩⟩
theorem gvw {args : Array Value} {s : State} (h : (Jvm.Cond.and given_1 narrow_1).before args s = true) (k : Nat) {w : Cond} (e : (flatC (Jvm.Cond.and given_1 narrow_1))[k]? = some w) : w.before args s = true := flat_of_before _ h w (List.mem_of_getElem? e)
def sadr (own : String) (s : State) (k : Nat) : Nat := match (Term.string own k).eval #[] s none [] s with
  | some (.ref a) => a
  | _ => 0
theorem vkR_at {own tx : String} {k : Nat} {args : Array Value} {s : State} (h1 : (Cond.stringRef own k tx).before args s = true) (h2 : (Cond.exactly (.string own k) "java/lang/String").before args s = true) : vk_R own k tx (sadr own s k) s := by
  obtain ⟨a, c, cA, kA, q1, -⟩ := Cond.exactly_spec (args := args) (first := s) (o := none) (s := s) (idx := []) (t := .string own k) (cls := "java/lang/String") h2
  have q1 : (Term.string own k).eval #[] s none [] s = some (.ref a) := q1
  refine vk_R.of (A := args) h1 ?_
  show (Term.string own k).eval #[] s none [] s = some (.ref (sadr own s k))
  rw [sadr, q1]
theorem ka_eq {t u : Term} {args : Array Value} {s : State} {a : Nat} (h : (Cond.eq t u).before args s = true) (h2 : (Cond.exactly u "java/lang/String").before args s = true) (ht : t.eval args s none [] s = some (.ref a)) : u.eval args s none [] s = some (.ref a) := by
  obtain ⟨a2, c, cA, kA, q1, -⟩ := Cond.exactly_spec (args := args) (first := s) (o := none) (s := s) (idx := []) (t := u) (cls := "java/lang/String") h2
  have h3 : a = a2 := by
    have h9 := h
    simp [Cond.before, Cond.holds, Cond.value, ht, q1] at h9
    exact h9
  rw [h3]; exact q1
set_option maxRecDepth 100000 in
theorem sx_start {s : State} {args : Array Value} (hts : ∀ w ∈ lw_tbl, w.before args s = true) (hgv : (Jvm.Cond.and given_1 narrow_1).before args s = true) : Sx (sadr RX10 s) s := by
  refine ⟨?_, ?_, ?_⟩
  · exact List.forall_mem_cons.mpr ⟨vkR_at (k := 68) (tx := "length is out of range") (hts (.stringRef RX10 68 "length is out of range") (tbw 3 128 rfl)) (gvw hgv 85 (by decide +kernel)), List.forall_mem_cons.mpr ⟨vkR_at (k := 117) (tx := "what is out of range") (hts (.stringRef RX10 117 "what is out of range") (tbw 4 64 rfl)) (gvw hgv 175 (by decide +kernel)), List.forall_mem_cons.mpr ⟨vkR_at (k := 188) (tx := "the item is not paired") (hts (.stringRef RX10 188 "the item is not paired") (tbw 4 168 rfl)) (gvw hgv 309 (by decide +kernel)), List.forall_mem_cons.mpr ⟨vkR_at (k := 195) (tx := "the item is not an open receivable") (hts (.stringRef RX10 195 "the item is not an open receivable") (tbw 4 193 rfl)) (gvw hgv 335 (by decide +kernel)), List.forall_mem_cons.mpr ⟨vkR_at (k := 272) (tx := "there is no such delivery") (hts (.stringRef RX10 272 "there is no such delivery") (tbw 5 73 rfl)) (gvw hgv 442 (by decide +kernel)), List.forall_mem_cons.mpr ⟨vkR_at (k := 281) (tx := "the partner is the company") (hts (.stringRef RX10 281 "the partner is the company") (tbw 5 97 rfl)) (gvw hgv 471 (by decide +kernel)), List.forall_mem_cons.mpr ⟨vkR_at (k := 284) (tx := "there are 100 items") (hts (.stringRef RX10 284 "there are 100 items") (tbw 5 99 rfl)) (gvw hgv 501 (by decide +kernel)), List.forall_mem_cons.mpr ⟨vkR_at (k := 297) (tx := "the item is not open") (hts (.stringRef RX10 297 "the item is not open") (tbw 5 116 rfl)) (gvw hgv 524 (by decide +kernel)), List.forall_mem_cons.mpr ⟨vkR_at (k := 302) (tx := "the item is neither matched nor disputed") (hts (.stringRef RX10 302 "the item is neither matched nor disputed") (tbw 5 124 rfl)) (gvw hgv 548 (by decide +kernel)), List.forall_mem_cons.mpr ⟨vkR_at (k := 307) (tx := "the item is not disputed") (hts (.stringRef RX10 307 "the item is not disputed") (tbw 5 133 rfl)) (gvw hgv 592 (by decide +kernel)), List.forall_mem_cons.mpr ⟨vkR_at (k := 315) (tx := "the new amount is out of range") (hts (.stringRef RX10 315 "the new amount is out of range") (tbw 5 139 rfl)) (gvw hgv 620 (by decide +kernel)), List.forall_mem_cons.mpr ⟨vkR_at (k := 320) (tx := "there is no matched pair") (hts (.stringRef RX10 320 "there is no matched pair") (tbw 5 161 rfl)) (gvw hgv 654 (by decide +kernel)), List.forall_mem_cons.mpr ⟨vkR_at (k := 325) (tx := "this company cannot get the pieces") (hts (.stringRef RX10 325 "this company cannot get the pieces") (tbw 5 176 rfl)) (gvw hgv 682 (by decide +kernel)), List.forall_mem_cons.mpr ⟨vkR_at (k := 328) (tx := "there are 100 deliveries") (hts (.stringRef RX10 328 "there are 100 deliveries") (tbw 5 178 rfl)) (gvw hgv 720 (by decide +kernel)), List.forall_mem_cons.mpr ⟨vkR_at (k := 353) (tx := "there is no such currency") (hts (.stringRef RX10 353 "there is no such currency") (tbw 4 86 rfl)) (gvw hgv 199 (by decide +kernel)), List.forall_mem_cons.mpr ⟨vkR_at (k := 355) (tx := "there is no such company") (hts (.stringRef RX10 355 "there is no such company") (tbw 4 104 rfl)) (gvw hgv 228 (by decide +kernel)), List.forall_mem_cons.mpr ⟨vkR_at (k := 357) (tx := "there is no such product") (hts (.stringRef RX10 357 "there is no such product") (tbw 4 116 rfl)) (gvw hgv 256 (by decide +kernel)), List.forall_mem_cons.mpr ⟨vkR_at (k := 359) (tx := "there is no such item") (hts (.stringRef RX10 359 "there is no such item") (tbw 4 128 rfl)) (gvw hgv 284 (by decide +kernel)), List.forall_mem_cons.mpr ⟨vkR_at (k := 361) (tx := "an argument is out of range") (hts (.stringRef RX10 361 "an argument is out of range") (tbw 5 48 rfl)) (gvw hgv 373 (by decide +kernel)), List.forall_mem_cons.mpr ⟨vkR_at (k := 363) (tx := "the company has not so many pieces") (hts (.stringRef RX10 363 "the company has not so many pieces") (tbw 5 53 rfl)) (gvw hgv 404 (by decide +kernel)), fun _ h => absurd h List.not_mem_nil⟩⟩⟩⟩⟩⟩⟩⟩⟩⟩⟩⟩⟩⟩⟩⟩⟩⟩⟩⟩
  · exact List.forall_mem_cons.mpr ⟨va_Nw.of rfl (hts _ (tbw 3 91 rfl)), List.forall_mem_cons.mpr ⟨va_Nw.of rfl (hts _ (tbw 3 93 rfl)), List.forall_mem_cons.mpr ⟨va_Nw.of rfl (hts _ (tbw 3 95 rfl)), fun _ h => absurd h List.not_mem_nil⟩⟩⟩
  · exact List.forall_mem_cons.mpr ⟨va_Nw.of rfl (hts (.castable "java/lang/IndexOutOfBoundsException" "java/lang/IndexOutOfBoundsException") (tbw 4 79 rfl)), List.forall_mem_cons.mpr ⟨va_Nw.of rfl (hts (.castable "java/lang/IllegalArgumentException" "java/lang/IllegalArgumentException") (tbw 3 89 rfl)), List.forall_mem_cons.mpr ⟨va_Nw.of rfl (hts (.castable "java/lang/IllegalStateException" "java/lang/IllegalStateException") (tbw 4 161 rfl)), fun _ h => absurd h List.not_mem_nil⟩⟩⟩
set_option maxRecDepth 100000 in
theorem zx_start {s : State} {args : Array Value} {A : Nat → Prop} (hts : ∀ w ∈ lw_tbl, w.before args s = true) (hgv : (Jvm.Cond.and given_1 narrow_1).before args s = true) (hA : ∀ a : Nat, a < s.heap.size → ¬ A a) : Zx A s s.heap :=
  ⟨vx_Zqof (hts _ (tbw 3 114 rfl)) (hts _ (tbw 1 13 rfl)) (gvw hgv 4 (by decide +kernel)) hA, vx_Zqof (hts _ (tbw 3 116 rfl)) (hts _ (tbw 1 13 rfl)) (gvw hgv 5 (by decide +kernel)) hA⟩
set_option maxRecDepth 100000 in
theorem nx_start {s : State} {args : Array Value} (hgv : (Jvm.Cond.and given_1 narrow_1).before args s = true) : Nx s :=
  ⟨va_Nc.of (gvw hgv 37 (by decide +kernel)), va_Nc.of (gvw hgv 38 (by decide +kernel)), va_Nc.of (gvw hgv 24 (by decide +kernel))⟩
set_option maxRecDepth 100000 in
theorem ke_el0 : ∀ j, j < 8 → (flatC (Jvm.Cond.and given_1 narrow_1))[115 + j]? = some (Cond.eq (.elem (.field (.string "IntercompanyLedger$GroupReader" 61) "java/lang/String" "value" "[B") (.int (Int32.ofNat j))) (.int ((wb 0).getD j 0))) := by decide +kernel
set_option maxRecDepth 100000 in
theorem ke_at0 {s : State} {args : Array Value} {A : Nat → Prop} (hgv : (Jvm.Cond.and given_1 narrow_1).before args s = true) (hA : ∀ a : Nat, a < s.heap.size → ¬ A a) : ∃ q : Nat × Nat, (Term.string "IntercompanyLedger$GroupReader" 61).eval args s none [] s = some (.ref q.1) ∧ va_O "java/lang/String" q.1 A s s.heap ∧ va_OF "java/lang/String" "coder" "B" (.int 0) q.1 A s s.heap ∧ va_OF "java/lang/String" "value" "[B" (.ref q.2) q.1 A s s.heap ∧ va_T .byte q.2 (wl 0) (fun j => .int ((wb 0).getD j 0)) A s s.heap := by
  have one : ∀ i : Nat, i < 1 → i = 0 := fun i h => by omega
  obtain ⟨adK, adV, h1, h2⟩ := vk_Sof (args := args) (s := s) (N := 1) (tm := fun _ => .string "IntercompanyLedger$GroupReader" 61) (len := [8]) (byt := [wb 0]) (A := A)
    (fun i hi => by rw [one i hi]; decide)
    (fun i hi => gvw hgv 111 (by decide +kernel))
    (fun i hi => gvw hgv 112 (by decide +kernel))
    (fun i hi => gvw hgv 113 (by decide +kernel))
    (fun i hi => by rw [one i hi]; exact gvw hgv 114 (by decide +kernel))
    (fun i hi j hj => by rw [one i hi] at hj ⊢; exact gvw hgv (115 + j) (ke_el0 j hj))
    (fun i j hi hj h => absurd ((one i hi).trans (one j hj).symm) h) hA
  exact ⟨(adK 0, adV 0), h2 0 (Nat.le_of_ble_eq_true rfl), (h1.1 0 (Nat.le_of_ble_eq_true rfl))⟩
set_option maxRecDepth 100000 in
theorem ke_el1 : ∀ j, j < 7 → (flatC (Jvm.Cond.and given_1 narrow_1))[127 + j]? = some (Cond.eq (.elem (.field (.string "IntercompanyLedger$GroupReader" 70) "java/lang/String" "value" "[B") (.int (Int32.ofNat j))) (.int ((wb 1).getD j 0))) := by decide +kernel
set_option maxRecDepth 100000 in
theorem ke_at1 {s : State} {args : Array Value} {A : Nat → Prop} (hgv : (Jvm.Cond.and given_1 narrow_1).before args s = true) (hA : ∀ a : Nat, a < s.heap.size → ¬ A a) : ∃ q : Nat × Nat, (Term.string "IntercompanyLedger$GroupReader" 70).eval args s none [] s = some (.ref q.1) ∧ va_O "java/lang/String" q.1 A s s.heap ∧ va_OF "java/lang/String" "coder" "B" (.int 0) q.1 A s s.heap ∧ va_OF "java/lang/String" "value" "[B" (.ref q.2) q.1 A s s.heap ∧ va_T .byte q.2 (wl 1) (fun j => .int ((wb 1).getD j 0)) A s s.heap := by
  have one : ∀ i : Nat, i < 1 → i = 0 := fun i h => by omega
  obtain ⟨adK, adV, h1, h2⟩ := vk_Sof (args := args) (s := s) (N := 1) (tm := fun _ => .string "IntercompanyLedger$GroupReader" 70) (len := [7]) (byt := [wb 1]) (A := A)
    (fun i hi => by rw [one i hi]; decide)
    (fun i hi => gvw hgv 123 (by decide +kernel))
    (fun i hi => gvw hgv 124 (by decide +kernel))
    (fun i hi => gvw hgv 125 (by decide +kernel))
    (fun i hi => by rw [one i hi]; exact gvw hgv 126 (by decide +kernel))
    (fun i hi j hj => by rw [one i hi] at hj ⊢; exact gvw hgv (127 + j) (ke_el1 j hj))
    (fun i j hi hj h => absurd ((one i hi).trans (one j hj).symm) h) hA
  exact ⟨(adK 0, adV 0), h2 0 (Nat.le_of_ble_eq_true rfl), (h1.1 0 (Nat.le_of_ble_eq_true rfl))⟩
set_option maxRecDepth 100000 in
theorem ke_el2 : ∀ j, j < 7 → (flatC (Jvm.Cond.and given_1 narrow_1))[138 + j]? = some (Cond.eq (.elem (.field (.string "IntercompanyLedger$GroupReader" 75) "java/lang/String" "value" "[B") (.int (Int32.ofNat j))) (.int ((wb 2).getD j 0))) := by decide +kernel
set_option maxRecDepth 100000 in
theorem ke_at2 {s : State} {args : Array Value} {A : Nat → Prop} (hgv : (Jvm.Cond.and given_1 narrow_1).before args s = true) (hA : ∀ a : Nat, a < s.heap.size → ¬ A a) : ∃ q : Nat × Nat, (Term.string "IntercompanyLedger$GroupReader" 75).eval args s none [] s = some (.ref q.1) ∧ va_O "java/lang/String" q.1 A s s.heap ∧ va_OF "java/lang/String" "coder" "B" (.int 0) q.1 A s s.heap ∧ va_OF "java/lang/String" "value" "[B" (.ref q.2) q.1 A s s.heap ∧ va_T .byte q.2 (wl 2) (fun j => .int ((wb 2).getD j 0)) A s s.heap := by
  have one : ∀ i : Nat, i < 1 → i = 0 := fun i h => by omega
  obtain ⟨adK, adV, h1, h2⟩ := vk_Sof (args := args) (s := s) (N := 1) (tm := fun _ => .string "IntercompanyLedger$GroupReader" 75) (len := [7]) (byt := [wb 2]) (A := A)
    (fun i hi => by rw [one i hi]; decide)
    (fun i hi => gvw hgv 134 (by decide +kernel))
    (fun i hi => gvw hgv 135 (by decide +kernel))
    (fun i hi => gvw hgv 136 (by decide +kernel))
    (fun i hi => by rw [one i hi]; exact gvw hgv 137 (by decide +kernel))
    (fun i hi j hj => by rw [one i hi] at hj ⊢; exact gvw hgv (138 + j) (ke_el2 j hj))
    (fun i j hi hj h => absurd ((one i hi).trans (one j hj).symm) h) hA
  exact ⟨(adK 0, adV 0), h2 0 (Nat.le_of_ble_eq_true rfl), (h1.1 0 (Nat.le_of_ble_eq_true rfl))⟩
set_option maxRecDepth 100000 in
theorem ke_el3 : ∀ j, j < 9 → (flatC (Jvm.Cond.and given_1 narrow_1))[149 + j]? = some (Cond.eq (.elem (.field (.string "IntercompanyLedger$GroupReader" 80) "java/lang/String" "value" "[B") (.int (Int32.ofNat j))) (.int ((wb 3).getD j 0))) := by decide +kernel
set_option maxRecDepth 100000 in
theorem ke_at3 {s : State} {args : Array Value} {A : Nat → Prop} (hgv : (Jvm.Cond.and given_1 narrow_1).before args s = true) (hA : ∀ a : Nat, a < s.heap.size → ¬ A a) : ∃ q : Nat × Nat, (Term.string "IntercompanyLedger$GroupReader" 80).eval args s none [] s = some (.ref q.1) ∧ va_O "java/lang/String" q.1 A s s.heap ∧ va_OF "java/lang/String" "coder" "B" (.int 0) q.1 A s s.heap ∧ va_OF "java/lang/String" "value" "[B" (.ref q.2) q.1 A s s.heap ∧ va_T .byte q.2 (wl 3) (fun j => .int ((wb 3).getD j 0)) A s s.heap := by
  have one : ∀ i : Nat, i < 1 → i = 0 := fun i h => by omega
  obtain ⟨adK, adV, h1, h2⟩ := vk_Sof (args := args) (s := s) (N := 1) (tm := fun _ => .string "IntercompanyLedger$GroupReader" 80) (len := [9]) (byt := [wb 3]) (A := A)
    (fun i hi => by rw [one i hi]; decide)
    (fun i hi => gvw hgv 145 (by decide +kernel))
    (fun i hi => gvw hgv 146 (by decide +kernel))
    (fun i hi => gvw hgv 147 (by decide +kernel))
    (fun i hi => by rw [one i hi]; exact gvw hgv 148 (by decide +kernel))
    (fun i hi j hj => by rw [one i hi] at hj ⊢; exact gvw hgv (149 + j) (ke_el3 j hj))
    (fun i j hi hj h => absurd ((one i hi).trans (one j hj).symm) h) hA
  exact ⟨(adK 0, adV 0), h2 0 (Nat.le_of_ble_eq_true rfl), (h1.1 0 (Nat.le_of_ble_eq_true rfl))⟩
set_option maxRecDepth 100000 in
theorem ke_el4 : ∀ j, j < 6 → (flatC (Jvm.Cond.and given_1 narrow_1))[162 + j]? = some (Cond.eq (.elem (.field (.string "IntercompanyLedger$GroupReader" 85) "java/lang/String" "value" "[B") (.int (Int32.ofNat j))) (.int ((wb 4).getD j 0))) := by decide +kernel
set_option maxRecDepth 100000 in
theorem ke_at4 {s : State} {args : Array Value} {A : Nat → Prop} (hgv : (Jvm.Cond.and given_1 narrow_1).before args s = true) (hA : ∀ a : Nat, a < s.heap.size → ¬ A a) : ∃ q : Nat × Nat, (Term.string "IntercompanyLedger$GroupReader" 85).eval args s none [] s = some (.ref q.1) ∧ va_O "java/lang/String" q.1 A s s.heap ∧ va_OF "java/lang/String" "coder" "B" (.int 0) q.1 A s s.heap ∧ va_OF "java/lang/String" "value" "[B" (.ref q.2) q.1 A s s.heap ∧ va_T .byte q.2 (wl 4) (fun j => .int ((wb 4).getD j 0)) A s s.heap := by
  have one : ∀ i : Nat, i < 1 → i = 0 := fun i h => by omega
  obtain ⟨adK, adV, h1, h2⟩ := vk_Sof (args := args) (s := s) (N := 1) (tm := fun _ => .string "IntercompanyLedger$GroupReader" 85) (len := [6]) (byt := [wb 4]) (A := A)
    (fun i hi => by rw [one i hi]; decide)
    (fun i hi => gvw hgv 158 (by decide +kernel))
    (fun i hi => gvw hgv 159 (by decide +kernel))
    (fun i hi => gvw hgv 160 (by decide +kernel))
    (fun i hi => by rw [one i hi]; exact gvw hgv 161 (by decide +kernel))
    (fun i hi j hj => by rw [one i hi] at hj ⊢; exact gvw hgv (162 + j) (ke_el4 j hj))
    (fun i j hi hj h => absurd ((one i hi).trans (one j hj).symm) h) hA
  exact ⟨(adK 0, adV 0), h2 0 (Nat.le_of_ble_eq_true rfl), (h1.1 0 (Nat.le_of_ble_eq_true rfl))⟩
set_option maxRecDepth 100000 in
theorem ke_el5 : ∀ j, j < 3 → (flatC (Jvm.Cond.and given_1 narrow_1))[172 + j]? = some (Cond.eq (.elem (.field (.string "IntercompanyLedger$GroupReader" 90) "java/lang/String" "value" "[B") (.int (Int32.ofNat j))) (.int ((wb 5).getD j 0))) := by decide +kernel
set_option maxRecDepth 100000 in
theorem ke_at5 {s : State} {args : Array Value} {A : Nat → Prop} (hgv : (Jvm.Cond.and given_1 narrow_1).before args s = true) (hA : ∀ a : Nat, a < s.heap.size → ¬ A a) : ∃ q : Nat × Nat, (Term.string "IntercompanyLedger$GroupReader" 90).eval args s none [] s = some (.ref q.1) ∧ va_O "java/lang/String" q.1 A s s.heap ∧ va_OF "java/lang/String" "coder" "B" (.int 0) q.1 A s s.heap ∧ va_OF "java/lang/String" "value" "[B" (.ref q.2) q.1 A s s.heap ∧ va_T .byte q.2 (wl 5) (fun j => .int ((wb 5).getD j 0)) A s s.heap := by
  have one : ∀ i : Nat, i < 1 → i = 0 := fun i h => by omega
  obtain ⟨adK, adV, h1, h2⟩ := vk_Sof (args := args) (s := s) (N := 1) (tm := fun _ => .string "IntercompanyLedger$GroupReader" 90) (len := [3]) (byt := [wb 5]) (A := A)
    (fun i hi => by rw [one i hi]; decide)
    (fun i hi => gvw hgv 168 (by decide +kernel))
    (fun i hi => gvw hgv 169 (by decide +kernel))
    (fun i hi => gvw hgv 170 (by decide +kernel))
    (fun i hi => by rw [one i hi]; exact gvw hgv 171 (by decide +kernel))
    (fun i hi j hj => by rw [one i hi] at hj ⊢; exact gvw hgv (172 + j) (ke_el5 j hj))
    (fun i j hi hj h => absurd ((one i hi).trans (one j hj).symm) h) hA
  exact ⟨(adK 0, adV 0), h2 0 (Nat.le_of_ble_eq_true rfl), (h1.1 0 (Nat.le_of_ble_eq_true rfl))⟩
set_option maxRecDepth 100000 in
theorem ee_start {s : State} {args : Array Value} {A : Nat → Prop} (hts : ∀ w ∈ lw_tbl, w.before args s = true) (hgv : (Jvm.Cond.and given_1 narrow_1).before args s = true) (hA : ∀ a : Nat, a < s.heap.size → ¬ A a) : ∃ ka va : Nat → Nat, Ee ka va A s s.heap := by
  obtain ⟨⟨k0, v0⟩, e0, f0⟩ := ke_at0 (A := A) hgv hA
  obtain ⟨⟨k1, v1⟩, e1, f1⟩ := ke_at1 (A := A) hgv hA
  obtain ⟨⟨k2, v2⟩, e2, f2⟩ := ke_at2 (A := A) hgv hA
  obtain ⟨⟨k3, v3⟩, e3, f3⟩ := ke_at3 (A := A) hgv hA
  obtain ⟨⟨k4, v4⟩, e4, f4⟩ := ke_at4 (A := A) hgv hA
  obtain ⟨⟨k5, v5⟩, e5, f5⟩ := ke_at5 (A := A) hgv hA
  refine ⟨fun k => match k with
    | 0 => k0
    | 1 => k1
    | 2 => k2
    | 3 => k3
    | 4 => k4
    | _ => k5, fun k => match k with
    | 0 => v0
    | 1 => v1
    | 2 => v2
    | 3 => v3
    | 4 => v4
    | _ => v5, ⟨fun i hi => ?_, ?_, ?_⟩, ?_⟩
  · match i, hi with
    | 0, _ => exact f0
    | 1, _ => exact f1
    | 2, _ => exact f2
    | 3, _ => exact f3
    | 4, _ => exact f4
    | 5, _ => exact f5
    | i + 6, hi => omega
  · exact va_Zof (hts _ (tbw 3 188 rfl)) (hts _ (tbw 1 17 rfl)) (va_eqt (gvw hgv 6 (by decide +kernel))) hA
  · exact va_Zqof (hts _ (tbw 3 204 rfl)) (hts _ (tbw 1 19 rfl)) (gvw hgv 7 (by decide +kernel)) hA
  · exact List.forall_mem_cons.mpr ⟨vk_R.of (hts _ (tbw 3 174 rfl)) e0, List.forall_mem_cons.mpr ⟨vk_R.of (hts _ (tbw 4 11 rfl)) e1, List.forall_mem_cons.mpr ⟨vk_R.of (hts _ (tbw 4 20 rfl)) e2, List.forall_mem_cons.mpr ⟨vk_R.of (hts _ (tbw 4 29 rfl)) e3, List.forall_mem_cons.mpr ⟨vk_R.of (hts _ (tbw 4 34 rfl)) e4, List.forall_mem_cons.mpr ⟨vk_R.of (hts _ (tbw 4 39 rfl)) e5, List.forall_mem_cons.mpr ⟨vk_R.of (hts _ (tbw 6 81 rfl)) (ka_eq (t := .string "IntercompanyLedger$GroupReader" 61) (gvw hgv 760 (by decide +kernel)) (gvw hgv 748 (by decide +kernel)) e0), List.forall_mem_cons.mpr ⟨vk_R.of (hts _ (tbw 6 100 rfl)) (ka_eq (t := .string "IntercompanyLedger$GroupReader" 70) (gvw hgv 772 (by decide +kernel)) (gvw hgv 761 (by decide +kernel)) e1), List.forall_mem_cons.mpr ⟨vk_R.of (hts _ (tbw 6 101 rfl)) (ka_eq (t := .string "IntercompanyLedger$GroupReader" 75) (gvw hgv 784 (by decide +kernel)) (gvw hgv 773 (by decide +kernel)) e2), List.forall_mem_cons.mpr ⟨vk_R.of (hts _ (tbw 6 106 rfl)) (ka_eq (t := .string "IntercompanyLedger$GroupReader" 80) (gvw hgv 798 (by decide +kernel)) (gvw hgv 785 (by decide +kernel)) e3), List.forall_mem_cons.mpr ⟨vk_R.of (hts _ (tbw 6 111 rfl)) (ka_eq (t := .string "IntercompanyLedger$GroupReader" 85) (gvw hgv 809 (by decide +kernel)) (gvw hgv 799 (by decide +kernel)) e4), List.forall_mem_cons.mpr ⟨vk_R.of (hts _ (tbw 6 112 rfl)) (ka_eq (t := .string "IntercompanyLedger$GroupReader" 90) (gvw hgv 817 (by decide +kernel)) (gvw hgv 810 (by decide +kernel)) e5), fun _ h => absurd h List.not_mem_nil⟩⟩⟩⟩⟩⟩⟩⟩⟩⟩⟩⟩
theorem Ev.narrow {sa ka va : Nat → Nat} {A B : Nat → Prop} {U : State} {H : Heap} (h : Ev sa ka va A U H) (hAB : ∀ q, B q → A q) : Ev sa ka va B U H := ⟨h.1.narrow hAB, h.2.1, ⟨h.2.2.1.1.narrow hAB, h.2.2.1.2⟩, h.2.2.2⟩
theorem ev_start {s : State} {args : Array Value} {A : Nat → Prop} (hts : ∀ w ∈ lw_tbl, w.before args s = true) (hgv : (Jvm.Cond.and given_1 narrow_1).before args s = true) (hA : ∀ a : Nat, a < s.heap.size → ¬ A a) : ∃ sa ka va : Nat → Nat, Ev sa ka va A s s.heap := by
  obtain ⟨ka, va, h⟩ := ee_start hts hgv hA
  exact ⟨_, ka, va, zx_start hts hgv hA, sx_start hts hgv, h, nx_start hgv⟩
