/-! undo, snapshots, bytes on both sides -/
theorem St_st {S T : Mem} {un cn pn q r N M : Nat} {f f' : Nat → Int32} {g g' : Nat → Int64} (h : St S un cn pn q r f g N M) (hun : un ≤ 4) (e26 : T.1 26 = S.1 26) (e1 : ∀ z, q ≤ z → z ≤ q + 8 → T.1 z = S.1 z ∧ T.2 z = S.2 z) (e2 : ∀ c, 1 ≤ c → c ≤ 9 → T.1 (r + c) = S.1 (r + c)) (ef : ∀ j, j < 1508 → f' j = f j) (eg : ∀ j, j < 309 → g' j = g j) : St T un cn pn q r f' g' N M :=
  St_mv h e26 (fun j _ => by rw [(e1 q (by omega) (by omega)).1]) (fun j _ _ => by rw [(e1 q (by omega) (by omega)).2]) (fun i _ => ⟨fun c _ _ => by rw [(e1 (q + c) (by omega) (by omega)).1], by rw [(e1 (q + 4) (by omega) (by omega)).2], by rw [(e1 (q + 5) (by omega) (by omega)).2], fun c _ _ => by rw [e2 c (by omega) (by omega)]⟩) (fun d _ => ⟨by rw [(e1 (q + 6) (by omega) (by omega)).1], fun c _ _ => by rw [e2 c (by omega) (by omega)]⟩) (fun c _ => by rw [(e1 (q + 7) (by omega) (by omega)).1]) (fun c _ => by rw [(e1 (q + 8) (by omega) (by omega)).2]) hun ef eg
theorem WG_fr {S T : Mem} {un cn pn : Nat} (h : WG S un cn pn) (e : ∀ q, (23 ≤ q ∧ q ≤ 29) ∨ q = 33 → T.1 q = S.1 q) : WG T un cn pn := by
  unfold WG
  have e33 := e 33 (by decide)
  rw [e 23 (by decide), e33, e 25 (by decide), e 26 (by decide), e 27 (by decide), e 28 (by decide), e 29 (by decide)]
  refine ⟨h.1, h.2.1, fun p hp => ?_⟩
  rw [rBnd_of e33, rBnd_of e33]
  exact h.2.2 p hp
theorem SR_fr {S T : Mem} {un cn pn s : Nat} (h : SR S un cn pn s) (hun : un ≤ 4) (e26 : T.1 26 = S.1 26) (e14 : T.1 (14 + s) = S.1 (14 + s)) (e40 : T.1 40 s = S.1 40 s) (e1 : ∀ z, 173 + 9 * s ≤ z → z ≤ 173 + 9 * s + 8 → T.1 z = S.1 z ∧ T.2 z = S.2 z) (e2 : ∀ c, 1 ≤ c → c ≤ 9 → T.1 (54 + 10 * s + c) = S.1 (54 + 10 * s + c)) (ef : ∀ j, j < 1508 → T.1 38 (1508 * s + j) = S.1 38 (1508 * s + j)) (eg : ∀ j, j < 309 → T.2 39 (309 * s + j) = S.2 39 (309 * s + j)) : SR T un cn pn s := by
  refine ⟨by rw [e40, e14]; exact h.1, fun hq => ?_⟩
  rw [e14] at hq
  obtain ⟨n, m, h3⟩ := h.2 hq
  exact ⟨n, m, St_st h3 hun e26 e1 e2 ef eg⟩
theorem BR_fr {S T : Mem} (h : BR S) (e1 : T.1 1 1 = S.1 1 1) (e2 : T.1 30 2 = S.1 30 2) (e3 : T.1 31 = S.1 31) (e4 : T.1 2 = S.1 2) : BR T := by
  obtain ⟨F, h1, h2, h3, h4, h5⟩ := h
  exact ⟨F, h1, by rw [e1]; exact h2, by rw [e2]; exact h3, fun k hk => by rw [e3, e4]; exact h4 k hk, okB_of h5 e3⟩
theorem prv_e {t : Nat} (h : t < 10) : prv t = (t + 9) % 10 := by unfold prv; split <;> omega
section UN
variable {S : Mem} {un cn pn N M k t : Nat} {nn mm : Nat → Nat}
theorem hqn_p (ht : t < 10) : hqn t (k + 1) k = 74 + 9 * (prv t + 1) ∨ 10 ≤ k := by
  unfold hqn; rw [prv_e ht]; omega
theorem hqn_u (ht : t < 10) (hk : k < 10) {d : Nat} (hd : d < k) : hqn (prv t) k d = hqn t (k + 1) d := by
  unfold hqn; rw [prv_e ht]; omega
/-- what undo asks of the class's cells -/
theorem HR.und (hh : HR S un cn pn N M (k + 1) t nn mm) : S.1 (74 + 9 * (prv t + 1)) 0 = nI (nn k) ∧ nn k ≤ 100 ∧ S.1 (74 + 9 * (prv t + 1)) 1 = nI (mm k) ∧ mm k ≤ 100 := by
  have hk := hh.1.1
  have e := (hqn_p (k := k) hh.1.2.1).resolve_right (by omega)
  have h1 := hh.2.1 k (by omega)
  rw [e] at h1
  exact ⟨h1.1.2.2.1, h1.1.1, h1.1.2.2.2.1, h1.1.2.1⟩
theorem chg_undo (h : Rl S un cn pn N M) (hh : HR S un cn pn N M (k + 1) t nn mm) : Rl (cpBl (setI (setI (cBack S t (k + 1) (nn k) (mm k)) 30 0 (nI 0)) 30 17 (nI k)) 36 37 k 34 35 0) un cn pn (nn k) (mm k) := by
  obtain ⟨hG, hS, -, hs0, hs1, hB⟩ := h
  have hun := hG.1.1
  obtain ⟨⟨k1, ht, k3, k4, k5⟩, b1, b2, b3, b4⟩ := hh
  have eq9 := (hqn_p (k := k) ht).resolve_right (by omega)
  have hp : prv t < 10 := by rw [prv_e ht]; omega
  generalize hX : cBack S t (k + 1) (nn k) (mm k) = X
  generalize hT : cpBl (setI (setI X 30 0 (nI 0)) 30 17 (nI k)) 36 37 k 34 35 0 = T
  have Xo : ∀ q, q ≠ 11 → (q < 74 ∨ 82 < q) → X.1 q = S.1 q ∧ X.2 q = S.2 q := fun q a b => by
    have := cpSt_o (setI (setI S 11 1 (nI (prv t))) 11 0 (nI (k + 1 - 1))) 0 (prv t + 1) (nn k) (mm k) (q := q) (by omega)
    rw [sI_1 a, sI_1 a, sI_2, sI_2] at this
    rw [← hX]; exact this
  have X11 : X.1 11 = upd (upd (S.1 11) 1 (nI (prv t))) 0 (nI k) := by
    rw [← hX]
    show (cpSt _ _ _ _ _).1 11 = _
    rw [(cpSt_o _ _ _ _ _ (by omega)).1, sI_e, sI_e]; rfl
  have T1 : ∀ q, q ≠ 30 → q ≠ 34 → T.1 q = X.1 q := fun q a b => by rw [← hT]; unfold cpBl; rw [sL_1, sR_1 b, sI_1 a, sI_1 a]
  have T2 : ∀ q, q ≠ 35 → T.2 q = X.2 q := fun q a => by rw [← hT]; unfold cpBl; rw [sL_2 a, sR_2, sI_2, sI_2]
  have T30 : T.1 30 = upd (upd (S.1 30) 0 (nI 0)) 17 (nI k) := by rw [← hT]; unfold cpBl; rw [sL_1, sR_1 (by decide), sI_e, sI_e, (Xo 30 (by decide) (by decide)).1]
  have T34 : ∀ j, j < 1508 → T.1 34 j = S.1 36 (1508 * k + j) := fun j hj => by
    rw [← hT]; unfold cpBl
    rw [sL_1, sR_e]
    have := cpyI (f := (setI (setI X 30 0 (nI 0)) 30 17 (nI k)).1 36) (g := (setI (setI X 30 0 (nI 0)) 30 17 (nI k)).1 34) (sp := 1508 * k) (dp := 1508 * 0) hj
    rw [show 1508 * 0 + j = j by omega] at this
    rw [this, sI_1 (by decide), sI_1 (by decide), (Xo 36 (by decide) (by decide)).1]
  have T35 : ∀ j, j < 309 → T.2 35 j = S.2 37 (309 * k + j) := fun j hj => by
    rw [← hT]; unfold cpBl
    rw [sL_e, sI_2, sI_2]
    have := cpyI (f := X.2 37) (g := X.2 35) (sp := 309 * k) (dp := 309 * 0) hj
    rw [show 309 * 0 + j = j by omega] at this
    rw [this, (Xo 37 (by decide) (by decide)).2]
  have E1 : ∀ q, q ≠ 11 → q ≠ 30 → q ≠ 34 → (q < 74 ∨ 82 < q) → T.1 q = S.1 q := fun q a b c d => by rw [T1 q b c, (Xo q a d).1]
  have E2 : ∀ q, q ≠ 11 → q ≠ 35 → (q < 74 ∨ 82 < q) → T.2 q = S.2 q := fun q a b c => by rw [T2 q b, (Xo q a c).2]
  have e26 := E1 26 (by decide) (by decide) (by decide) (by decide)
  refine ⟨WG_fr hG (fun q hq => E1 q (by omega) (by omega) (by omega) (by omega)), ?_, ⟨k, prv t, nn, mm, ⟨by omega, hp, ?_, ?_, ?_⟩, fun d hd => ?_, rfl, rfl, fun d hd => b4 d (by omega)⟩, ?_, ?_, ?_⟩
  · have h1 := b1 k (by omega)
    rw [eq9] at h1
    have c1 : ∀ q, 74 ≤ q → q ≤ 82 → T.1 q = (cpSt (setI (setI S 11 1 (nI (prv t))) 11 0 (nI (k + 1 - 1))) 0 (prv t + 1) (nn k) (mm k)).1 q := fun q a b => by rw [T1 q (by omega) (by omega), ← hX]; rfl
    have c2 : ∀ q, 74 ≤ q → q ≤ 82 → T.2 q = (cpSt (setI (setI S 11 1 (nI (prv t))) 11 0 (nI (k + 1 - 1))) 0 (prv t + 1) (nn k) (mm k)).2 q := fun q a b => by rw [T2 q (by omega), ← hX]; rfl
    have o1 : ∀ q, 12 ≤ q → (setI (setI S 11 1 (nI (prv t))) 11 0 (nI (k + 1 - 1))).1 q = S.1 q := fun q a => by rw [sI_1 (by omega), sI_1 (by omega)]
    have o2 : (setI (setI S 11 1 (nI (prv t))) 11 0 (nI (k + 1 - 1))).2 = S.2 := by rw [sI_2, sI_2]
    refine St_mv h1 e26 (fun j hj => ?_) (fun j h3 hj => ?_) (fun i hi => ⟨fun c a b => ?_, ?_, ?_, fun c a b => by rw [E1 _ (by omega) (by omega) (by omega) (by omega)]⟩) (fun d hd => ⟨?_, fun c a b => by rw [E1 _ (by omega) (by omega) (by omega) (by omega)]⟩) (fun c hc => ?_) (fun c hc => ?_) hun T34 T35
    · rw [c1 74 (by decide) (by decide), ← o1 _ (by omega)]; exact cpSt_0 _ 0 _ _ _ hj
    · rw [c2 74 (by decide) (by decide), ← o2]; exact cpSt_L _ 0 _ _ _ h3 hj
    · rw [c1 _ (by omega) (by omega), ← o1 _ (by omega)]
      rcases (show c = 1 ∨ c = 2 ∨ c = 3 by omega) with rfl | rfl | rfl
      · exact cpSt_1 _ 0 _ _ _ hi
      · exact cpSt_2 _ 0 _ _ _ hi
      · exact cpSt_3 _ 0 _ _ _ hi
    · rw [c2 _ (by omega) (by omega), ← o2]; exact cpSt_4 _ 0 _ _ _ hi
    · rw [c2 _ (by omega) (by omega), ← o2]; exact cpSt_5 _ 0 _ _ _ hi
    · rw [c1 _ (by omega) (by omega), ← o1 _ (by omega)]; exact cpSt_6 _ 0 _ _ _ hd
    · rw [c1 _ (by omega) (by omega), ← o1 _ (by omega)]; exact cpSt_7 _ 0 _ _ _ hc
    · rw [c2 _ (by omega) (by omega), ← o2]; exact cpSt_8 _ 0 _ _ _ hc
  · rw [T1 11 (by decide) (by decide), X11, pk_us]
  · rw [T1 11 (by decide) (by decide), X11, pk_un (by decide), pk_us]
  · rw [T30, pk_us]
  · rw [hqn_u ht (by omega) hd]
    have hlo := hqn_lo (t := t) (k := k + 1) (d := d)
    exact St_st (b1 d (by omega)) hun e26 (fun z a b => ⟨E1 z (by omega) (by omega) (by omega) (by omega), E2 z (by omega) (by omega) (by omega)⟩) (fun c a b => E1 _ (by omega) (by omega) (by omega) (by omega)) (fun j _ => by rw [E1 36 (by decide) (by decide) (by decide) (by decide)]) (fun j _ => by rw [E2 37 (by decide) (by decide) (by decide)])
  · exact SR_fr hs0 hun e26 (E1 _ (by decide) (by decide) (by decide) (by decide)) (by rw [E1 40 (by decide) (by decide) (by decide) (by decide)]) (fun z a b => ⟨E1 z (by omega) (by omega) (by omega) (by omega), E2 z (by omega) (by omega) (by omega)⟩) (fun c a b => E1 _ (by omega) (by omega) (by omega) (by omega)) (fun j _ => by rw [E1 38 (by decide) (by decide) (by decide) (by decide)]) (fun j _ => by rw [E2 39 (by decide) (by decide) (by decide)])
  · exact SR_fr hs1 hun e26 (E1 _ (by decide) (by decide) (by decide) (by decide)) (by rw [E1 40 (by decide) (by decide) (by decide) (by decide)]) (fun z a b => ⟨E1 z (by omega) (by omega) (by omega) (by omega), E2 z (by omega) (by omega) (by omega)⟩) (fun c a b => E1 _ (by omega) (by omega) (by omega) (by omega)) (fun j _ => by rw [E1 38 (by decide) (by decide) (by decide) (by decide)]) (fun j _ => by rw [E2 39 (by decide) (by decide) (by decide)])
  · exact BR_fr hB (by rw [E1 1 (by decide) (by decide) (by decide) (by decide)]) (by rw [T30, pk_un (by decide), pk_un (by decide)]) (E1 31 (by decide) (by decide) (by decide) (by decide)) (E1 2 (by decide) (by decide) (by decide) (by decide))
end UN
