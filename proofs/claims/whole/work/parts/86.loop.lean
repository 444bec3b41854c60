/-! the law's loop -/
theorem nI_sub6 {N : Nat} (h : N < 1000000000) : (nI N - nI 6).toInt = (N : Int) - 6 := by
  rw [Int32.toInt_sub, nI_ti (by omega), nI_ti (by decide)]
  exact Int.bmod_eq_of_le (by omega) (by omega)
theorem and63 (x : Int32) : ∃ k, k < 64 ∧ x &&& nI 63 = nI k := by
  refine ⟨(x &&& nI 63).toBitVec.toNat, ?_, ?_⟩
  · rw [Int32.toBitVec_and, BitVec.toNat_and]
    exact Nat.lt_of_le_of_lt Nat.and_le_right (by decide)
  · refine Int32.toBitVec.inj ?_
    show _ = BitVec.ofNat 32 _
    rw [BitVec.ofNat_toNat, BitVec.setWidth_eq]
section LOOP
variable {p : Program} {l : Launch} {e : Env} {s : State} {m : MethodId} {below : List Frame} {meth : Method} {c : Code} {b L : Nat} {xs : Nat → Int32} {sa ka va : Nat → Nat} {D : va_G} {cA : Nat → ClassId} {α : Nat → Nat}
set_option maxRecDepth 100000 in
set_option maxHeartbeats 1000000 in
theorem law_sw (C : LX p l s m meth c b L xs sa ka va D cA α) {S : Mem} {i k cells slots : Nat} {H : Heap} {locs : List Loc} {ls : Array Slot} (hk : k < 64) (hi : i + 6 ≤ L) (hR : Rel S) (hcs : cells + 1 ≤ 601024 ∧ slots + 6 ≤ 7293034) (hw : Ws D cA α 193 (Aw α 193 s.heap.size) s.heap S H locs) (hl : lv_has ls 10 [(0, .ref b), (1, .ref (α 0)), (2, .ref (α 30)), (3, .ref (α 191)), (4, .ref (α 192)), (5, .int (nI i))]) (kk : Kk p l e s m below meth c b D cA α i cells slots) : W p l e room_1 s m #[Value.ref b] below meth c H locs cells slots (lw_Z below #[Value.ref b] s) (F0 m 45 ls [.int (nI k)]) := by
  obtain ⟨hx, hb, -⟩ := id C.1
  by_cases h40 : k ≤ 40
  · rcases (show k = 0 ∨ k = 1 ∨ k = 2 ∨ k = 3 ∨ k = 4 ∨ k = 5 ∨ k = 6 ∨ k = 7 ∨ k = 8 ∨ k = 9 ∨ k = 10 ∨ k = 11 ∨ k = 12 ∨ k = 13 ∨ k = 14 ∨ k = 15 ∨ k = 16 ∨ k = 17 ∨ k = 18 ∨ k = 19 ∨ k = 20 ∨ k = 21 ∨ k = 22 ∨ k = 23 ∨ k = 24 ∨ k = 25 ∨ k = 26 ∨ k = 27 ∨ k = 28 ∨ k = 29 ∨ k = 30 ∨ k = 31 ∨ k = 32 ∨ k = 33 ∨ k = 34 ∨ k = 35 ∨ k = 36 ∨ k = 37 ∨ k = 38 ∨ k = 39 ∨ k = 40 by omega) with rfl | rfl | rfl | rfl | rfl | rfl | rfl | rfl | rfl | rfl | rfl | rfl | rfl | rfl | rfl | rfl | rfl | rfl | rfl | rfl | rfl | rfl | rfl | rfl | rfl | rfl | rfl | rfl | rfl | rfl | rfl | rfl | rfl | rfl | rfl | rfl | rfl | rfl | rfl | rfl | rfl
    · exact lv_tableIn (tgt := 224) (off := 179) hx hb dL_law_45 (by decide) (by decide) (by decide) (by decide) (lc_0 C hi hR hcs hw hl kk)
    · exact lv_tableIn (tgt := 297) (off := 252) hx hb dL_law_45 (by decide) (by decide) (by decide) (by decide) (lc_1 C hi hR hcs hw hl kk)
    · exact lv_tableIn (tgt := 353) (off := 308) hx hb dL_law_45 (by decide) (by decide) (by decide) (by decide) (lc_2 C hi hR hcs hw hl kk)
    · exact lv_tableIn (tgt := 409) (off := 364) hx hb dL_law_45 (by decide) (by decide) (by decide) (by decide) (lc_3 C hi hR hcs hw hl kk)
    · exact lv_tableIn (tgt := 465) (off := 420) hx hb dL_law_45 (by decide) (by decide) (by decide) (by decide) (lc_4 C hi hR hcs hw hl kk)
    · exact lv_tableIn (tgt := 521) (off := 476) hx hb dL_law_45 (by decide) (by decide) (by decide) (by decide) (lc_5 C hi hR hcs hw hl kk)
    · exact lv_tableIn (tgt := 589) (off := 544) hx hb dL_law_45 (by decide) (by decide) (by decide) (by decide) (lc_6 C hi hR hcs hw hl kk)
    · exact lv_tableIn (tgt := 657) (off := 612) hx hb dL_law_45 (by decide) (by decide) (by decide) (by decide) (lc_7 C hi hR hcs hw hl kk)
    · exact lv_tableIn (tgt := 712) (off := 667) hx hb dL_law_45 (by decide) (by decide) (by decide) (by decide) (lc_8 C hi hR hcs hw hl kk)
    · exact lv_tableIn (tgt := 767) (off := 722) hx hb dL_law_45 (by decide) (by decide) (by decide) (by decide) (lc_9 C hi hR hcs hw hl kk)
    · exact lv_tableIn (tgt := 822) (off := 777) hx hb dL_law_45 (by decide) (by decide) (by decide) (by decide) (lc_10 C hi hR hcs hw hl kk)
    · exact lv_tableIn (tgt := 877) (off := 832) hx hb dL_law_45 (by decide) (by decide) (by decide) (by decide) (lc_11 C hi hR hcs hw hl kk)
    · exact lv_tableIn (tgt := 933) (off := 888) hx hb dL_law_45 (by decide) (by decide) (by decide) (by decide) (lc_12 C hi hR hcs hw hl kk)
    · exact lv_tableIn (tgt := 989) (off := 944) hx hb dL_law_45 (by decide) (by decide) (by decide) (by decide) (lc_13 C hi hR hcs hw hl kk)
    · exact lv_tableIn (tgt := 1003) (off := 958) hx hb dL_law_45 (by decide) (by decide) (by decide) (by decide) (lc_14 C hi hR hcs hw hl kk)
    · exact lv_tableIn (tgt := 1046) (off := 1001) hx hb dL_law_45 (by decide) (by decide) (by decide) (by decide) (lc_15 C hi hR hcs hw hl kk)
    · exact lv_tableIn (tgt := 1113) (off := 1068) hx hb dL_law_45 (by decide) (by decide) (by decide) (by decide) (lc_16 C hi hR hcs hw hl kk)
    · exact lv_tableIn (tgt := 1168) (off := 1123) hx hb dL_law_45 (by decide) (by decide) (by decide) (by decide) (lc_17 C hi hR hcs hw hl kk)
    · exact lv_tableIn (tgt := 1223) (off := 1178) hx hb dL_law_45 (by decide) (by decide) (by decide) (by decide) (lc_18 C hi hR hcs hw hl kk)
    · exact lv_tableIn (tgt := 1278) (off := 1233) hx hb dL_law_45 (by decide) (by decide) (by decide) (by decide) (lc_19 C hi hR hcs hw hl kk)
    · exact lv_tableIn (tgt := 1291) (off := 1246) hx hb dL_law_45 (by decide) (by decide) (by decide) (by decide) (lc_20 C hi hR hcs hw hl kk)
    · exact lv_tableIn (tgt := 1304) (off := 1259) hx hb dL_law_45 (by decide) (by decide) (by decide) (by decide) (lc_21 C hi hR hcs hw hl kk)
    · exact lv_tableIn (tgt := 1372) (off := 1327) hx hb dL_law_45 (by decide) (by decide) (by decide) (by decide) (lc_22 C hi hR hcs hw hl kk)
    · exact lv_tableIn (tgt := 1440) (off := 1395) hx hb dL_law_45 (by decide) (by decide) (by decide) (by decide) (lc_23 C hi hR hcs hw hl kk)
    · exact lv_tableIn (tgt := 1495) (off := 1450) hx hb dL_law_45 (by decide) (by decide) (by decide) (by decide) (lc_24 C hi hR hcs hw hl kk)
    · exact lv_tableIn (tgt := 1574) (off := 1529) hx hb dL_law_45 (by decide) (by decide) (by decide) (by decide) (lc_25 C hi hR hcs hw hl kk)
    · exact lv_tableIn (tgt := 1652) (off := 1607) hx hb dL_law_45 (by decide) (by decide) (by decide) (by decide) (lc_26 C hi hR hcs hw hl kk)
    · exact lv_tableIn (tgt := 1707) (off := 1662) hx hb dL_law_45 (by decide) (by decide) (by decide) (by decide) (lc_27 C hi hR hcs hw hl kk)
    · exact lv_tableIn (tgt := 1762) (off := 1717) hx hb dL_law_45 (by decide) (by decide) (by decide) (by decide) (lc_28 C hi hR hcs hw hl kk)
    · exact lv_tableIn (tgt := 1866) (off := 1821) hx hb dL_law_45 (by decide) (by decide) (by decide) (by decide) (lc_29 C hi hR hcs hw hl kk)
    · exact lv_tableIn (tgt := 1921) (off := 1876) hx hb dL_law_45 (by decide) (by decide) (by decide) (by decide) (lc_30 C hi hR hcs hw hl kk)
    · exact lv_tableIn (tgt := 1934) (off := 1889) hx hb dL_law_45 (by decide) (by decide) (by decide) (by decide) (lc_31 C hi hR hcs hw hl kk)
    · exact lv_tableIn (tgt := 1990) (off := 1945) hx hb dL_law_45 (by decide) (by decide) (by decide) (by decide) (lc_32 C hi hR hcs hw hl kk)
    · exact lv_tableIn (tgt := 2045) (off := 2000) hx hb dL_law_45 (by decide) (by decide) (by decide) (by decide) (lc_33 C hi hR hcs hw hl kk)
    · exact lv_tableIn (tgt := 2113) (off := 2068) hx hb dL_law_45 (by decide) (by decide) (by decide) (by decide) (lc_34 C hi hR hcs hw hl kk)
    · exact lv_tableIn (tgt := 2169) (off := 2124) hx hb dL_law_45 (by decide) (by decide) (by decide) (by decide) (lc_35 C hi hR hcs hw hl kk)
    · exact lv_tableIn (tgt := 2213) (off := 2168) hx hb dL_law_45 (by decide) (by decide) (by decide) (by decide) (lc_36 C hi hR hcs hw hl kk)
    · exact lv_tableIn (tgt := 2317) (off := 2272) hx hb dL_law_45 (by decide) (by decide) (by decide) (by decide) (lc_37 C hi hR hcs hw hl kk)
    · exact lv_tableIn (tgt := 2408) (off := 2363) hx hb dL_law_45 (by decide) (by decide) (by decide) (by decide) (lc_38 C hi hR hcs hw hl kk)
    · exact lv_tableIn (tgt := 2421) (off := 2376) hx hb dL_law_45 (by decide) (by decide) (by decide) (by decide) (lc_39 C hi hR hcs hw hl kk)
    · exact lv_tableIn (tgt := 2446) (off := 2401) hx hb dL_law_45 (by decide) (by decide) (by decide) (by decide) (lc_40 C hi hR hcs hw hl kk)
  · exact lv_tableOut (tgt := 2471) hx hb dL_law_45 (Or.inr (by rw [nI_ti (by omega)]; omega)) (by decide) (kk S H locs ls cells slots hR hw hl (Nat.le_succ _) (Nat.le_add_right _ _))
set_option maxRecDepth 100000 in
set_option maxHeartbeats 1000000 in
theorem law_loop (C : LX p l s m meth c b L xs sa ka va D cA α) (hα : ∀ k, k < 193 → s.heap.size ≤ α k) : ∀ (t i : Nat) (S : Mem) (H : Heap) (locs : List Loc) (ls : Array Slot) (cells slots : Nat), L + 6 - i < t → i ≤ 3078 → Rel S → Ws D cA α 193 (Aw α 193 s.heap.size) s.heap S H locs → lv_has ls 10 [(0, .ref b), (1, .ref (α 0)), (2, .ref (α 30)), (3, .ref (α 191)), (4, .ref (α 192)), (5, .int (nI i))] → cells + (L - i) ≤ 601024 → slots + 6 * (L - i) ≤ 7293034 → W p l e room_1 s m #[Value.ref b] below meth c H locs cells slots (lw_Z below #[Value.ref b] s) (F0 m 28 ls []) := by
  intro t
  induction t with
  | zero => intro i S H locs ls cells slots ht; exact absurd ht (Nat.not_lt_zero _)
  | succ t ih =>
    intro i S H locs ls cells slots ht hi9 hR hw hl hc1 hc2
    obtain ⟨⟨hx, hb, hr, hml, hown, hts, hX, hbl, hlocks, hgv⟩, hst, hK, hV, hbA, hL⟩ := id C
    refine lv_iload hx hb dL_law_28 (lv_at hl 5 rfl) ?_
    refine lv_aload_n hx hb dL_law_30 rfl (lv_at hl 0 rfl) ?_
    refine va_slen hx hb hX hbl hbA hw.2.2 dL_law_31 ?_
    refine x_topN (k := L) rfl ?_
    refine lv_bipush (v := nI 6) hx hb dL_law_32 (by decide) ?_
    refine lv_isub hx hb dL_law_34 ?_
    refine lv_icmp_gt (tgt := 2477) hx hb dL_law_35 (by decide) (fun c1 => ?_) (fun c1 => ?_)
    · refine lv_iconst (v := 1) hx hb dL_law_2477 (by decide) ?_
      refine va_forget (fun q hq => ?_) ?_
      · rcases hw.2.2.2.2 q hq with ⟨k, hk, e9⟩ | h9
        · rw [e9]; exact hα k hk
        · exact h9
      · refine W.widen (k := 601024) (n := 7293034) (by omega) (by omega) ?_
        exact lw_ret (d0 := s.drawn) (Drawn.sameBut.refl s.drawn lw_cs) hx hb hr hlocks dL_law_2478
    · have hi : i + 6 ≤ L := by
        have h1 : ¬ (nI L - nI 6).toInt < (nI i).toInt := fun z => c1 (Int32.lt_iff_toInt_lt.mpr z)
        rw [nI_sub6 (by omega), nI_ti (by omega)] at h1
        omega
      refine lv_aload_n hx hb dL_law_38 rfl (lv_at hl 0 rfl) ?_
      refine lv_iload hx hb dL_law_39 (lv_at hl 5 rfl) ?_
      refine x_sld (k := i) hx hb hX hbl hbA hw.2.2 (by omega) hL dL_law_41 ?_
      refine lv_bipush (v := nI 63) hx hb dL_law_42 (by decide) ?_
      refine lv_iand hx hb dL_law_44 ?_
      obtain ⟨k, hk, ek⟩ := and63 (xs i)
      refine x_topN (k := k) ek ?_
      refine law_sw C hk hi hR (by omega) hw hl ?_
      intro S1 H1 locs1 ls1 c1' s1' hR1 hw1 hl1 hd1 hd2
      refine lv_iinc (v := nI (i + 6)) (lv' := [(5, .int (nI (i + 6))), (0, .ref b), (1, .ref (α 0)), (2, .ref (α 30)), (3, .ref (α 191)), (4, .ref (α 192))]) hx hb dL_law_2471 hl1 (k := 5) rfl (by rw [show Int32.ofInt 6 = nI 6 by decide, nI_add]) (by decide) rfl (fun ls2 hl2 => ?_)
      refine lv_goto (tgt := 28) hx hb dL_law_2474 (by decide) ?_
      exact ih (i + 6) S1 H1 locs1 ls2 c1' s1' (by omega) (by omega) hR1 hw1 (lv_sub hl2 [1, 2, 3, 4, 5, 0] rfl) (by omega) (by omega)
end LOOP
