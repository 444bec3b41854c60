/-! snapshots, bytes on both sides -/
theorem nar_b1 : vp_nar .boolean (nI 1) = nI 1 := by decide
section SN
variable {S : Mem} {un cn pn N M : Nat}
theorem chg_save (h : Rl S un cn pn N M) (s : Nat) (hs : s < 2) : Rl (setI (cpBl (setI (setI (cpRw (cpSt S (11 + s) 0 N M) (1 + s) 0 N M) (14 + s) 0 (nI 1)) 30 0 (nI 0)) 34 35 0 38 39 s) 40 s (vp_nar .boolean (nI 1))) un cn pn N M := by
  obtain ⟨hG, hS, ⟨k, t, nn, mm, hH⟩, hs0, hs1, hB⟩ := h
  have hun := hG.1.1
  obtain ⟨⟨k1, ht, k3, k4, k5⟩, b1, b2, b3, b4⟩ := hH
  rw [nar_b1]
  generalize hY : cpSt S (11 + s) 0 N M = Y
  generalize hX : cpRw Y (1 + s) 0 N M = X
  generalize hT : setI (cpBl (setI (setI X (14 + s) 0 (nI 1)) 30 0 (nI 0)) 34 35 0 38 39 s) 40 s (nI 1) = T
  have Yo : ∀ q, (q < 173 + 9 * s ∨ 181 + 9 * s < q) → Y.1 q = S.1 q ∧ Y.2 q = S.2 q := fun q a => by rw [← hY]; exact cpSt_o S (11 + s) 0 N M (by omega)
  have XY : ∀ q, (q < 54 + 10 * s ∨ 63 + 10 * s < q) → X.1 q = Y.1 q ∧ X.2 q = Y.2 q := fun q a => by rw [← hX]; exact cpRw_agr Y (1 + s) 0 N M q (by omega)
  have T1 : ∀ q, q ≠ 14 + s → q ≠ 30 → q ≠ 38 → q ≠ 40 → T.1 q = X.1 q := fun q a b c d => by rw [← hT]; unfold cpBl; rw [sI_1 d, sL_1, sR_1 c, sI_1 b, sI_1 a]
  have T2 : ∀ q, q ≠ 39 → T.2 q = X.2 q := fun q a => by rw [← hT]; unfold cpBl; rw [sI_2, sL_2 a, sR_2, sI_2, sI_2]
  have E1 : ∀ q, q ≠ 14 + s → q ≠ 30 → q ≠ 38 → q ≠ 40 → (q < 173 + 9 * s ∨ 181 + 9 * s < q) → (q < 54 + 10 * s ∨ 63 + 10 * s < q) → T.1 q = S.1 q := fun q a b c d e f => by rw [T1 q a b c d, (XY q f).1, (Yo q e).1]
  have E2 : ∀ q, q ≠ 39 → (q < 173 + 9 * s ∨ 181 + 9 * s < q) → (q < 54 + 10 * s ∨ 63 + 10 * s < q) → T.2 q = S.2 q := fun q a e f => by rw [T2 q a, (XY q f).2, (Yo q e).2]
  have T30 : T.1 30 = upd (S.1 30) 0 (nI 0) := by rw [← hT]; unfold cpBl; rw [sI_1 (by decide), sL_1, sR_1 (by decide), sI_e, sI_1 (by omega), (XY 30 (by omega)).1, (Yo 30 (by omega)).1]
  have T14 : T.1 (14 + s) 0 = nI 1 := by rw [← hT]; unfold cpBl; rw [sI_1 (by omega), sL_1, sR_1 (by omega), sI_1 (by omega), sI_e, pk_us]
  have T40 : T.1 40 = upd (S.1 40) s (nI 1) := by rw [← hT]; unfold cpBl; rw [sI_e, sL_1, sR_1 (by decide), sI_1 (by decide), sI_1 (by omega), (XY 40 (by omega)).1, (Yo 40 (by omega)).1]
  have T38 : ∀ d j, j < 1508 → T.1 38 (1508 * d + j) = if d = s then S.1 34 j else S.1 38 (1508 * d + j) := fun d j hj => by
    rw [← hT, sI_1 (by decide), cpBl_36 _ _ _ _ _ hj, sI_1 (by decide), sI_1 (by omega), sI_1 (by decide), sI_1 (by omega), (XY 34 (by omega)).1, (Yo 34 (by omega)).1, (XY 38 (by omega)).1, (Yo 38 (by omega)).1, Nat.mul_zero, Nat.zero_add]
  have T39 : ∀ d j, j < 309 → T.2 39 (309 * d + j) = if d = s then S.2 35 j else S.2 39 (309 * d + j) := fun d j hj => by
    rw [← hT, sI_2, cpBl_37 _ _ _ _ _ hj, sI_2, sI_2, (XY 35 (by omega)).2, (Yo 35 (by omega)).2, (XY 39 (by omega)).2, (Yo 39 (by omega)).2, Nat.mul_zero, Nat.zero_add]
  have e26 := E1 26 (by omega) (by decide) (by decide) (by decide) (by omega) (by omega)
  have hot : ∀ d, d < 2 → d ≠ s → SR S un cn pn d → SR T un cn pn d := fun d hd hne hR => by
    refine SR_fr hR hun e26 (E1 _ (by omega) (by omega) (by omega) (by omega) (by omega) (by omega)) (by rw [T40, pk_un hne]) (fun z a b => ⟨E1 z (by omega) (by omega) (by omega) (by omega) (by omega) (by omega), E2 z (by omega) (by omega) (by omega)⟩) (fun c a b => E1 _ (by omega) (by omega) (by omega) (by omega) (by omega) (by omega)) (fun j hj => ?_) (fun j hj => ?_)
    · rw [T38 d j hj, if_neg hne]
    · rw [T39 d j hj, if_neg hne]
  have hse : SR T un cn pn s := by
    refine ⟨by rw [T40, pk_us, T14], fun _ => ⟨N, M, ?_⟩⟩
    refine St_mv hS e26 (fun j hj => ?_) (fun j h3 hj => ?_) (fun i hi => ⟨fun c a b => ?_, ?_, ?_, fun c a b => ?_⟩) (fun d hd => ⟨?_, fun c a b => ?_⟩) (fun c hc => ?_) (fun c hc => ?_) hun (fun j hj => by rw [T38 s j hj, if_pos rfl]) (fun j hj => by rw [T39 s j hj, if_pos rfl])
    · rw [T1 _ (by omega) (by omega) (by omega) (by omega), (XY _ (by omega)).1, ← hY, show 173 + 9 * s = 74 + 9 * (11 + s) by omega]; exact cpSt_0 S (11 + s) 0 N M hj
    · rw [T2 _ (by omega), (XY _ (by omega)).2, ← hY, show 173 + 9 * s = 74 + 9 * (11 + s) by omega]; exact cpSt_L S (11 + s) 0 N M h3 hj
    · rw [T1 _ (by omega) (by omega) (by omega) (by omega), (XY _ (by omega)).1, ← hY, show 173 + 9 * s = 74 + 9 * (11 + s) by omega]
      rcases (show c = 1 ∨ c = 2 ∨ c = 3 by omega) with rfl | rfl | rfl
      · exact cpSt_1 S (11 + s) 0 N M hi
      · exact cpSt_2 S (11 + s) 0 N M hi
      · exact cpSt_3 S (11 + s) 0 N M hi
    · rw [T2 _ (by omega), (XY _ (by omega)).2, ← hY, show 173 + 9 * s = 74 + 9 * (11 + s) by omega]; exact cpSt_4 S (11 + s) 0 N M hi
    · rw [T2 _ (by omega), (XY _ (by omega)).2, ← hY, show 173 + 9 * s = 74 + 9 * (11 + s) by omega]; exact cpSt_5 S (11 + s) 0 N M hi
    · rw [T1 _ (by omega) (by omega) (by omega) (by omega), ← hX, show 54 + 10 * s = 44 + 10 * (1 + s) by omega, cpRw_i Y (1 + s) 0 N M a b hi, (Yo _ (by omega)).1]
    · rw [T1 _ (by omega) (by omega) (by omega) (by omega), (XY _ (by omega)).1, ← hY, show 173 + 9 * s = 74 + 9 * (11 + s) by omega]; exact cpSt_6 S (11 + s) 0 N M hd
    · rw [T1 _ (by omega) (by omega) (by omega) (by omega), ← hX, show 54 + 10 * s = 44 + 10 * (1 + s) by omega, cpRw_d Y (1 + s) 0 N M a b hd, (Yo _ (by omega)).1]
    · rw [T1 _ (by omega) (by omega) (by omega) (by omega), (XY _ (by omega)).1, ← hY, show 173 + 9 * s = 74 + 9 * (11 + s) by omega]; exact cpSt_7 S (11 + s) 0 N M hc
    · rw [T2 _ (by omega), (XY _ (by omega)).2, ← hY, show 173 + 9 * s = 74 + 9 * (11 + s) by omega]; exact cpSt_8 S (11 + s) 0 N M hc
  have hany : ∀ d, d < 2 → SR S un cn pn d → SR T un cn pn d := fun d hd hR => by
    by_cases e : d = s
    · rw [e]; exact hse
    · exact hot d hd e hR
  refine ⟨WG_fr hG (fun q hq => E1 q (by omega) (by omega) (by omega) (by omega) (by omega) (by omega)), ?_, ⟨k, t, nn, mm, ⟨k1, ht, ?_, ?_, ?_⟩, fun d hd => ?_, b2, b3, b4⟩, hany 0 (by decide) hs0, hany 1 (by decide) hs1, ?_⟩
  · exact St_st hS hun e26 (fun z a b => ⟨E1 z (by omega) (by omega) (by omega) (by omega) (by omega) (by omega), E2 z (by omega) (by omega) (by omega)⟩) (fun c a b => E1 _ (by omega) (by omega) (by omega) (by omega) (by omega) (by omega)) (fun j _ => by rw [E1 34 (by omega) (by decide) (by decide) (by decide) (by omega) (by omega)]) (fun j _ => by rw [E2 35 (by decide) (by omega) (by omega)])
  · rw [E1 11 (by omega) (by decide) (by decide) (by decide) (by omega) (by omega)]; exact k3
  · rw [E1 11 (by omega) (by decide) (by decide) (by decide) (by omega) (by omega)]; exact k4
  · rw [T30, pk_un (by decide)]; exact k5
  · have hlo := hqn_lo (t := t) (k := k) (d := d)
    exact St_st (b1 d hd) hun e26 (fun z a b => ⟨E1 z (by omega) (by omega) (by omega) (by omega) (by omega) (by omega), E2 z (by omega) (by omega) (by omega)⟩) (fun c a b => E1 _ (by omega) (by omega) (by omega) (by omega) (by omega) (by omega)) (fun j _ => by rw [E1 36 (by omega) (by decide) (by decide) (by decide) (by omega) (by omega)]) (fun j _ => by rw [E2 37 (by decide) (by omega) (by omega)])
  · exact BR_fr hB (by rw [E1 1 (by omega) (by decide) (by decide) (by decide) (by omega) (by omega)]) (by rw [T30, pk_un (by decide)]) (E1 31 (by omega) (by decide) (by decide) (by decide) (by omega) (by omega)) (E1 2 (by omega) (by decide) (by decide) (by decide) (by omega) (by omega))
theorem chg_rest (h : Rl S un cn pn N M) (s : Nat) (hs : s < 2) {K L : Nat} (hQ : St S un cn pn (173 + 9 * s) (54 + 10 * s) (fun j => S.1 38 (1508 * s + j)) (fun j => S.2 39 (309 * s + j)) K L) : Rl (setI (cpBl (setI (setI (cpRw (cpSt S 0 (11 + s) K L) 0 (1 + s) K L) 11 0 (nI 0)) 30 0 (nI 0)) 38 39 s 34 35 0) 30 17 (nI 0)) un cn pn K L := by
  obtain ⟨hG, hS, ⟨k, t, nn, mm, hH⟩, hs0, hs1, hB⟩ := h
  have hun := hG.1.1
  obtain ⟨⟨k1, ht, k3, k4, k5⟩, -, -, -, -⟩ := hH
  generalize hY : cpSt S 0 (11 + s) K L = Y
  generalize hX : cpRw Y 0 (1 + s) K L = X
  generalize hT : setI (cpBl (setI (setI X 11 0 (nI 0)) 30 0 (nI 0)) 38 39 s 34 35 0) 30 17 (nI 0) = T
  have Yo : ∀ q, (q < 74 ∨ 82 < q) → Y.1 q = S.1 q ∧ Y.2 q = S.2 q := fun q a => by rw [← hY]; exact cpSt_o S 0 (11 + s) K L (by omega)
  have XY : ∀ q, (q < 44 ∨ 53 < q) → X.1 q = Y.1 q ∧ X.2 q = Y.2 q := fun q a => by rw [← hX]; exact cpRw_agr Y 0 (1 + s) K L q (by omega)
  have T1 : ∀ q, q ≠ 11 → q ≠ 30 → q ≠ 34 → T.1 q = X.1 q := fun q a b c => by rw [← hT]; unfold cpBl; rw [sI_1 b, sL_1, sR_1 c, sI_1 b, sI_1 a]
  have T2 : ∀ q, q ≠ 35 → T.2 q = X.2 q := fun q a => by rw [← hT]; unfold cpBl; rw [sI_2, sL_2 a, sR_2, sI_2, sI_2]
  have E1 : ∀ q, q ≠ 11 → q ≠ 30 → q ≠ 34 → (q < 74 ∨ 82 < q) → (q < 44 ∨ 53 < q) → T.1 q = S.1 q := fun q a b c e f => by rw [T1 q a b c, (XY q f).1, (Yo q e).1]
  have E2 : ∀ q, q ≠ 35 → (q < 74 ∨ 82 < q) → (q < 44 ∨ 53 < q) → T.2 q = S.2 q := fun q a e f => by rw [T2 q a, (XY q f).2, (Yo q e).2]
  have T30 : T.1 30 = upd (upd (S.1 30) 0 (nI 0)) 17 (nI 0) := by rw [← hT]; unfold cpBl; rw [sI_e, sL_1, sR_1 (by decide), sI_e, sI_1 (by decide), (XY 30 (by decide)).1, (Yo 30 (by decide)).1]
  have T11 : T.1 11 = upd (S.1 11) 0 (nI 0) := by rw [← hT]; unfold cpBl; rw [sI_1 (by decide), sL_1, sR_1 (by decide), sI_1 (by decide), sI_e, (XY 11 (by decide)).1, (Yo 11 (by decide)).1]
  have T34 : ∀ j, j < 1508 → T.1 34 j = S.1 38 (1508 * s + j) := fun j hj => by
    have := cpBl_36 (setI (setI X 11 0 (nI 0)) 30 0 (nI 0)) 38 39 s 0 (c := 34) (d0 := 35) (d := 0) hj
    rw [if_pos rfl, Nat.mul_zero, Nat.zero_add, sI_1 (by decide), sI_1 (by decide), (XY 38 (by decide)).1, (Yo 38 (by decide)).1] at this
    rw [← hT, sI_1 (by decide)]; exact this
  have T35 : ∀ j, j < 309 → T.2 35 j = S.2 39 (309 * s + j) := fun j hj => by
    have := cpBl_37 (setI (setI X 11 0 (nI 0)) 30 0 (nI 0)) 38 39 s 0 (c := 34) (d0 := 35) (d := 0) hj
    rw [if_pos rfl, Nat.mul_zero, Nat.zero_add, sI_2, sI_2, (XY 39 (by decide)).2, (Yo 39 (by decide)).2] at this
    rw [← hT, sI_2]; exact this
  have e26 := E1 26 (by decide) (by decide) (by decide) (by decide) (by decide)
  have hany : ∀ d, d < 2 → SR S un cn pn d → SR T un cn pn d := fun d hd hR =>
    SR_fr hR hun e26 (E1 _ (by omega) (by omega) (by omega) (by omega) (by omega)) (by rw [E1 40 (by decide) (by decide) (by decide) (by decide) (by decide)]) (fun z a b => ⟨E1 z (by omega) (by omega) (by omega) (by omega) (by omega), E2 z (by omega) (by omega) (by omega)⟩) (fun c a b => E1 _ (by omega) (by omega) (by omega) (by omega) (by omega)) (fun j _ => by rw [E1 38 (by decide) (by decide) (by decide) (by decide) (by decide)]) (fun j _ => by rw [E2 39 (by decide) (by decide) (by decide)])
  refine ⟨WG_fr hG (fun q hq => E1 q (by omega) (by omega) (by omega) (by omega) (by omega)), ?_, ⟨0, t, fun _ => K, fun _ => L, ⟨by decide, ht, ?_, ?_, ?_⟩, fun d hd => absurd hd (Nat.not_lt_zero _), rfl, rfl, fun d hd => absurd hd (Nat.not_lt_zero _)⟩, hany 0 (by decide) hs0, hany 1 (by decide) hs1, ?_⟩
  · refine St_mv hQ e26 (fun j hj => ?_) (fun j h3 hj => ?_) (fun i hi => ⟨fun c a b => ?_, ?_, ?_, fun c a b => ?_⟩) (fun d hd => ⟨?_, fun c a b => ?_⟩) (fun c hc => ?_) (fun c hc => ?_) hun T34 T35
    · rw [T1 _ (by omega) (by omega) (by omega), (XY _ (by omega)).1, ← hY, show 173 + 9 * s = 74 + 9 * (11 + s) by omega]; exact cpSt_0 S 0 (11 + s) K L hj
    · rw [T2 _ (by omega), (XY _ (by omega)).2, ← hY, show 173 + 9 * s = 74 + 9 * (11 + s) by omega]; exact cpSt_L S 0 (11 + s) K L h3 hj
    · rw [T1 _ (by omega) (by omega) (by omega), (XY _ (by omega)).1, ← hY, show 173 + 9 * s = 74 + 9 * (11 + s) by omega]
      rcases (show c = 1 ∨ c = 2 ∨ c = 3 by omega) with rfl | rfl | rfl
      · exact cpSt_1 S 0 (11 + s) K L hi
      · exact cpSt_2 S 0 (11 + s) K L hi
      · exact cpSt_3 S 0 (11 + s) K L hi
    · rw [T2 _ (by omega), (XY _ (by omega)).2, ← hY, show 173 + 9 * s = 74 + 9 * (11 + s) by omega]; exact cpSt_4 S 0 (11 + s) K L hi
    · rw [T2 _ (by omega), (XY _ (by omega)).2, ← hY, show 173 + 9 * s = 74 + 9 * (11 + s) by omega]; exact cpSt_5 S 0 (11 + s) K L hi
    · have := cpRw_i Y 0 (1 + s) K L a b hi
      rw [show 44 + 10 * (1 + s) = 54 + 10 * s by omega, (Yo _ (by omega)).1, hX] at this
      rw [T1 _ (by omega) (by omega) (by omega)]; exact this
    · rw [T1 _ (by omega) (by omega) (by omega), (XY _ (by omega)).1, ← hY, show 173 + 9 * s = 74 + 9 * (11 + s) by omega]; exact cpSt_6 S 0 (11 + s) K L hd
    · have := cpRw_d Y 0 (1 + s) K L a b hd
      rw [show 44 + 10 * (1 + s) = 54 + 10 * s by omega, (Yo _ (by omega)).1, hX] at this
      rw [T1 _ (by omega) (by omega) (by omega)]; exact this
    · rw [T1 _ (by omega) (by omega) (by omega), (XY _ (by omega)).1, ← hY, show 173 + 9 * s = 74 + 9 * (11 + s) by omega]; exact cpSt_7 S 0 (11 + s) K L hc
    · rw [T2 _ (by omega), (XY _ (by omega)).2, ← hY, show 173 + 9 * s = 74 + 9 * (11 + s) by omega]; exact cpSt_8 S 0 (11 + s) K L hc
  · rw [T11, pk_us]
  · rw [T11, pk_un (by decide)]; exact k4
  · rw [T30, pk_us]
  · exact BR_fr hB (by rw [E1 1 (by decide) (by decide) (by decide) (by decide) (by decide)]) (by rw [T30, pk_un (by decide), pk_un (by decide)]) (E1 31 (by decide) (by decide) (by decide) (by decide) (by decide)) (E1 2 (by decide) (by decide) (by decide) (by decide) (by decide))
end SN
/-! bytes -/
theorem by4_2 (S : Mem) (q r j : Nat) (x : Int32) (k : Nat) : ∀ t, (by4 S q r j x k t).2 = S.2
  | 0 => rfl
  | t + 1 => by rw [by4, sI_2, sI_2]; exact by4_2 S q r j x k t
theorem by4_r (S : Mem) (q r j : Nat) (x : Int32) (k : Nat) {z : Nat} (hz : z ≠ j) (hr : r ≠ q) : ∀ t, (by4 S q r j x k t).1 r z = S.1 r z
  | 0 => rfl
  | t + 1 => by rw [by4, sI_e, pk_un hz, sI_1 hr]; exact by4_r S q r j x k hz hr t
theorem by4_e {S S' : Mem} {q r j q' r' j' : Nat} {x : Int32} {k : Nat} (hr : q ≠ r) (hr' : q' ≠ r') (h : ∀ i, i < k → S.1 q i = S'.1 q' i) : ∀ t i, i < k + t → (by4 S q r j x k t).1 q i = (by4 S' q' r' j' x k t).1 q' i
  | 0, i, hi => h i hi
  | t + 1, i, hi => by
    rw [by4, by4, sI_1 hr, sI_1 hr', sI_e, sI_e]
    by_cases e : i = k + t
    · rw [e, pk_us, pk_us]
    · rw [pk_un e, pk_un e]; exact by4_e hr hr' h t i (by omega)
theorem byt_nar (y : Int32) : byt (vp_nar .byte y) := by
  have h : vp_nar .byte y = y.toInt8.toInt32 := rfl
  rw [h]
  have h1 := Int8.le_toInt y.toInt8
  have h2 := Int8.toInt_lt y.toInt8
  refine ⟨(y.toInt8.toInt + 128).toNat, by omega, ?_⟩
  have e1 : y.toInt8.toInt32 = Int32.ofInt y.toInt8.toInt := (Int32.ofInt_toInt _).symm.trans (congrArg Int32.ofInt (Int8.toInt_toInt32 _))
  rw [e1]
  show _ = Int32.ofNat _ - Int32.ofNat 128
  rw [← Int32.ofInt_eq_ofNat, ← Int32.ofInt_eq_ofNat, ← Int32.ofInt_sub]
  congr 1
  omega
theorem by4_b {S : Mem} {q r j : Nat} {x : Int32} {k : Nat} (hr : q ≠ r) (h : ∀ i, i < 600 → byt (S.1 q i)) : ∀ t i, i < 600 → byt ((by4 S q r j x k t).1 q i)
  | 0, i, hi => h i hi
  | t + 1, i, hi => by
    rw [by4, sI_1 hr, sI_e]
    by_cases e : i = k + t
    · rw [e, pk_us]; exact byt_nar _
    · rw [pk_un e]; exact by4_b hr h t i hi
theorem by20_k (S : Mem) (q r j : Nat) (a b c d e : Int32) (k : Nat) {z : Nat} (h1 : z ≠ q) (h2 : z ≠ r) : (by20 S q r j a b c d e k).1 z = S.1 z := by
  unfold by20; rw [by4_k _ _ _ _ _ _ h1 h2, by4_k _ _ _ _ _ _ h1 h2, by4_k _ _ _ _ _ _ h1 h2, by4_k _ _ _ _ _ _ h1 h2, by4_k _ _ _ _ _ _ h1 h2]
theorem by20_2 (S : Mem) (q r j : Nat) (a b c d e : Int32) (k : Nat) : (by20 S q r j a b c d e k).2 = S.2 := by
  unfold by20; rw [by4_2, by4_2, by4_2, by4_2, by4_2]
theorem by20_r (S : Mem) (q r j : Nat) (a b c d e : Int32) (k : Nat) {z : Nat} (hz : z ≠ j) (hr : r ≠ q) : (by20 S q r j a b c d e k).1 r z = S.1 r z := by
  unfold by20; rw [by4_r _ _ _ _ _ _ hz hr, by4_r _ _ _ _ _ _ hz hr, by4_r _ _ _ _ _ _ hz hr, by4_r _ _ _ _ _ _ hz hr, by4_r _ _ _ _ _ _ hz hr]
theorem by20_n (S : Mem) (q r j : Nat) (a b c d e : Int32) (k : Nat) : (by20 S q r j a b c d e k).1 r j = nI (k + 20) := by
  unfold by20
  rw [by4, sI_e, pk_us]
theorem by20_e {S S' : Mem} {q r j q' r' j' : Nat} {a b c d e : Int32} {k : Nat} (hr : q ≠ r) (hr' : q' ≠ r') (h : ∀ i, i < k → S.1 q i = S'.1 q' i) : ∀ i, i < k + 20 → (by20 S q r j a b c d e k).1 q i = (by20 S' q' r' j' a b c d e k).1 q' i := by
  intro i hi
  unfold by20
  exact by4_e hr hr' (by4_e hr hr' (by4_e hr hr' (by4_e hr hr' (by4_e hr hr' h 4) 4) 4) 4) 4 i (by omega)
theorem by20_b {S : Mem} {q r j : Nat} {a b c d e : Int32} {k : Nat} (hr : q ≠ r) (h : ∀ i, i < 600 → byt (S.1 q i)) : ∀ i, i < 600 → byt ((by20 S q r j a b c d e k).1 q i) := by
  unfold by20
  exact by4_b hr (by4_b hr (by4_b hr (by4_b hr (by4_b hr h 4) 4) 4) 4) 4
theorem chg_app {S : Mem} {un cn pn N M k : Nat} (h : Rl S un cn pn N M) (h1 : S.1 1 1 = nI k) (h2 : S.1 30 2 = nI k) (hk : k ≤ 580) (a b c d e : Int32) : Rl (by20 (setI (by20 S 2 1 1 a b c d e k) 30 0 (nI 0)) 31 30 2 a b c d e k) un cn pn N M := by
  obtain ⟨hG, hS, ⟨k9, t, nn, mm, hH⟩, hs0, hs1, F, f1, f2, f3, f4, f5⟩ := h
  have hun := hG.1.1
  obtain ⟨⟨k1, ht, k3, k4, k5⟩, b1, b2, b3, b4⟩ := hH
  have hF : F = k := by
    have : nI F = nI k := f2.symm.trans h1
    have h := congrArg gN this
    rw [gN_nI (by omega), gN_nI (by omega)] at h
    exact h
  subst hF
  generalize hX : by20 S 2 1 1 a b c d e F = X
  generalize hT : by20 (setI X 30 0 (nI 0)) 31 30 2 a b c d e F = T
  have Xo : ∀ q, q ≠ 2 → q ≠ 1 → X.1 q = S.1 q := fun q a b => by rw [← hX]; exact by20_k _ _ _ _ _ _ _ _ _ _ a b
  have X2 : X.2 = S.2 := by rw [← hX]; exact by20_2 _ _ _ _ _ _ _ _ _ _
  have T2 : T.2 = S.2 := by rw [← hT, by20_2, sI_2, X2]
  have T1 : ∀ q, q ≠ 31 → q ≠ 30 → T.1 q = X.1 q := fun q a b => by rw [← hT, by20_k _ _ _ _ _ _ _ _ _ _ a b, sI_1 b]
  have E1 : ∀ q, q ≠ 1 → q ≠ 2 → q ≠ 30 → q ≠ 31 → T.1 q = S.1 q := fun q a b c d => by rw [T1 q d c, Xo q b a]
  have E2 : ∀ q, T.2 q = S.2 q := fun q => by rw [T2]
  have T17 : T.1 30 17 = S.1 30 17 := by rw [← hT, by20_r _ _ _ _ _ _ _ _ _ _ (by decide) (by decide), sI_e, pk_un (by decide), Xo 30 (by decide) (by decide)]
  have e26 := E1 26 (by decide) (by decide) (by decide) (by decide)
  have hany : ∀ s, s < 2 → SR S un cn pn s → SR T un cn pn s := fun s hs hR =>
    SR_fr hR hun e26 (E1 _ (by omega) (by omega) (by omega) (by omega)) (by rw [E1 40 (by decide) (by decide) (by decide) (by decide)]) (fun z a b => ⟨E1 z (by omega) (by omega) (by omega) (by omega), E2 z⟩) (fun c a b => E1 _ (by omega) (by omega) (by omega) (by omega)) (fun j _ => by rw [E1 38 (by decide) (by decide) (by decide) (by decide)]) (fun j _ => by rw [E2 39])
  refine ⟨WG_fr hG (fun q hq => E1 q (by omega) (by omega) (by omega) (by omega)), ?_, ⟨k9, t, nn, mm, ⟨k1, ht, ?_, ?_, ?_⟩, fun d hd => ?_, b2, b3, b4⟩, hany 0 (by decide) hs0, hany 1 (by decide) hs1, F + 20, by omega, ?_, ?_, ?_, ?_⟩
  · exact St_st hS hun e26 (fun z a b => ⟨E1 z (by omega) (by omega) (by omega) (by omega), E2 z⟩) (fun c a b => E1 _ (by omega) (by omega) (by omega) (by omega)) (fun j _ => by rw [E1 34 (by decide) (by decide) (by decide) (by decide)]) (fun j _ => by rw [E2 35])
  · rw [E1 11 (by decide) (by decide) (by decide) (by decide)]; exact k3
  · rw [E1 11 (by decide) (by decide) (by decide) (by decide)]; exact k4
  · rw [T17]; exact k5
  · have hlo := hqn_lo (t := t) (k := k9) (d := d)
    exact St_st (b1 d hd) hun e26 (fun z a b => ⟨E1 z (by omega) (by omega) (by omega) (by omega), E2 z⟩) (fun c a b => E1 _ (by omega) (by omega) (by omega) (by omega)) (fun j _ => by rw [E1 36 (by decide) (by decide) (by decide) (by decide)]) (fun j _ => by rw [E2 37])
  · rw [T1 1 (by decide) (by decide), ← hX]; exact by20_n _ _ _ _ _ _ _ _ _ _
  · rw [← hT]; exact by20_n _ _ _ _ _ _ _ _ _ _
  · intro i hi
    rw [T1 2 (by decide) (by decide), ← hX, ← hT]
    refine by20_e (by decide) (by decide) (fun j hj => ?_) i hi
    rw [sI_1 (by decide), Xo 31 (by decide) (by decide)]; exact f4 j hj
  · intro i hi
    rw [← hT]
    refine by20_b (by decide) (fun j hj => ?_) i hi
    rw [sI_1 (by decide), Xo 31 (by decide) (by decide)]; exact f5 j hj
