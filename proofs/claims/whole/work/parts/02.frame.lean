/-- the state: what the int-like and the long cells hold, by cell number and place -/
abbrev Mem : Type := (Nat → Nat → Int32) × (Nat → Nat → Int64)
/-- the shape of the cells: (kind, length): 0 int[], 1 long[], 2 byte[], 3 boolean[], 4 double[], 5 Standing[], 6 Snapshot[], 10 + class -/
def shpA (q : Nat) : Nat × Nat := match q with
  | 0 => (20, 0)
  | 1 => (13, 0)
  | 2 => (2, 600)
  | 3 => (10, 0)
  | 4 => (15, 0)
  | 5 => (0, 100)
  | 6 => (16, 0)
  | 7 => (1, 6)
  | 8 => (1, 64)
  | 9 => (0, 64)
  | 10 => (11, 0)
  | 11 => (14, 0)
  | 12 => (5, 10)
  | 13 => (6, 2)
  | 14 => (18, 0)
  | 15 => (18, 0)
  | 16 => (12, 0)
  | 17 => (0, 4)
  | 18 => (0, 6)
  | 19 => (0, 6)
  | 20 => (0, 6)
  | 21 => (0, 6)
  | 22 => (0, 6)
  | 23 => (12, 0)
  | 24 => (0, 4)
  | 25 => (0, 6)
  | 26 => (0, 6)
  | 27 => (0, 6)
  | 28 => (0, 6)
  | 29 => (0, 6)
  | 30 => (21, 0)
  | 31 => (2, 600)
  | 32 => (0, 40)
  | 33 => (0, 40)
  | 34 => (0, 1508)
  | 35 => (1, 309)
  | 36 => (0, 15080)
  | 37 => (1, 3090)
  | 38 => (0, 3016)
  | 39 => (1, 618)
  | 40 => (3, 2)
  | 41 => (0, 100)
  | 42 => (1, 64)
  | _ => (0, 64)
def shpR (c : Nat) : Nat × Nat := match c with
  | 0 => (17, 0)
  | _ => (0, 100)
def shpS (c : Nat) : Nat × Nat := match c with
  | 0 => (19, 0)
  | 1 => (0, 100)
  | 2 => (0, 100)
  | 3 => (0, 100)
  | 4 => (1, 100)
  | 5 => (1, 100)
  | 6 => (0, 100)
  | 7 => (0, 4)
  | _ => (1, 6)
def shp (q : Nat) : Nat × Nat := if q < 44 then shpA q else if q < 74 then shpR ((q - 44) % 10) else if q < 191 then shpS ((q - 74) % 9) else if q = 191 then (1, 1) else (4, 1)
def objF (c : Nat) (α : Nat → Nat) (q : Nat) (f : Nat → Int32) (g : Nat → Int64) : List Value := match c with
  | 0 => [.ref (α 23), .ref (α 44), .ref (α 74)]
  | 1 => []
  | 2 => [.int (f 0), .int (f 1), .int (f 2), .int (f 3), .int (f 4), .int (f 5), .ref (α (q + 1)), .ref (α (q + 2)), .ref (α (q + 3)), .ref (α (q + 4)), .ref (α (q + 5)), .ref (α (q + 6))]
  | 3 => [.ref (α 16), .int (f 1), .ref (α 2), .int (f 3), .int (f 4), .int (f 5), .int (f 6), .int (f 7), .int (f 8), .int (f 9), .int (f 10)]
  | 4 => [.int (f 0), .int (f 1), .ref (α 12)]
  | 5 => [.ref (α 5)]
  | 6 => [.ref (α 7), .ref (α 8), .ref (α 9)]
  | 7 => [.ref (α (q + 1)), .ref (α (q + 2)), .ref (α (q + 3)), .ref (α (q + 4)), .ref (α (q + 5)), .ref (α (q + 6)), .ref (α (q + 7)), .ref (α (q + 8)), .ref (α (q + 9))]
  | 8 => [.int (f 0), .ref (α (44 + 10 * (q - 13))), .ref (α (74 + 9 * (q - 3)))]
  | 9 => [.int (f 0), .int (f 1), .int (f 2), .long (g 3), .long (g 4), .long (g 5), .ref (α (q + 1)), .ref (α (q + 2)), .ref (α (q + 3)), .ref (α (q + 4)), .ref (α (q + 5)), .ref (α (q + 6)), .ref (α (q + 7)), .ref (α (q + 8))]
  | 10 => [.ref (α 1), .ref (α 3), .ref (α 4), .ref (α 6), .ref (α 10), .ref (α 11), .ref (α 13)]
  | _ => [.int (f 0), .ref (α 31), .int (f 2), .int (f 3), .int (f 4), .int (f 5), .int (f 6), .int (f 7), .int (f 8), .int (f 9), .ref (α 32), .ref (α 33), .int (f 12), .ref (α 34), .ref (α 35), .ref (α 36), .ref (α 37), .int (f 17), .ref (α 38), .ref (α 39), .ref (α 40), .ref (α 41), .ref (α 42), .ref (α 43)]
def mkE (z : Nat × Nat) (cA : Nat → ClassId) (α : Nat → Nat) (q : Nat) (f : Nat → Int32) (g : Nat → Int64) : va_E := match z.1 with
  | 0 => .inl (cA 0, z.2, .inl f)
  | 1 => .inl (cA 1, z.2, .inr (.inl g))
  | 2 => .inl (cA 2, z.2, .inl f)
  | 3 => .inl (cA 3, z.2, .inl f)
  | 4 => .inl (cA 4, z.2, .inr (.inr (.inr (.inl (fun j => (g j).toUInt64)))))
  | 5 => .inl (cA 5, z.2, .inr (.inr (.inr (.inr (fun j => some (α (83 + 9 * j)))))))
  | 6 => .inl (cA 6, z.2, .inr (.inr (.inr (.inr (fun j => some (α (14 + j)))))))
  | k => .inr (k - 10, objF (k - 10) α q f g)
def mk (cA : Nat → ClassId) (α : Nat → Nat) (q : Nat) (f : Nat → Int32) (g : Nat → Int64) : va_E := mkE (shp q) cA α q f g
/-- the world of n cells -/
def WL (cA : Nat → ClassId) (α : Nat → Nat) (n : Nat) (S : Mem) : va_W := (List.range n).map (fun q => (α q, mk cA α q (S.1 q) (S.2 q)))
theorem WL_get {cA : Nat → ClassId} {α : Nat → Nat} {n : Nat} {S : Mem} {q : Nat} (h : q < n) : (WL cA α n S)[q]? = some (α q, mk cA α q (S.1 q) (S.2 q)) := by
  simp [WL, List.getElem?_map, List.getElem?_range h]
def setR (S : Mem) (q : Nat) (f : Nat → Int32) : Mem := (va_up S.1 q f, S.2)
def setL (S : Mem) (q : Nat) (g : Nat → Int64) : Mem := (S.1, va_up S.2 q g)
def setI (S : Mem) (q j : Nat) (x : Int32) : Mem := setR S q (upd (S.1 q) j x)
def setJ (S : Mem) (q j : Nat) (x : Int64) : Mem := setL S q (vp_updL (S.2 q) j x)
theorem WL_setR {cA : Nat → ClassId} {α : Nat → Nat} {n : Nat} {S : Mem} {q : Nat} (f : Nat → Int32) : (WL cA α n S).set q (α q, mk cA α q f (S.2 q)) = WL cA α n (setR S q f) := by
  refine List.ext_getElem? fun i => ?_
  by_cases hi : i < n
  · rw [WL_get hi]
    by_cases e : i = q
    · subst e
      rw [List.getElem?_set_self (by simpa [WL] using hi)]
      simp [setR, va_up]
    · rw [List.getElem?_set_ne (Ne.symm e), WL_get hi]
      simp [setR, va_up, e]
  · rw [List.getElem?_eq_none (by simpa [WL] using hi), List.getElem?_eq_none (by simpa [WL] using hi)]
theorem WL_setL {cA : Nat → ClassId} {α : Nat → Nat} {n : Nat} {S : Mem} {q : Nat} (g : Nat → Int64) : (WL cA α n S).set q (α q, mk cA α q (S.1 q) g) = WL cA α n (setL S q g) := by
  refine List.ext_getElem? fun i => ?_
  by_cases hi : i < n
  · rw [WL_get hi]
    by_cases e : i = q
    · subst e
      rw [List.getElem?_set_self (by simpa [WL] using hi)]
      simp [setL, va_up]
    · rw [List.getElem?_set_ne (Ne.symm e), WL_get hi]
      simp [setL, va_up, e]
  · rw [List.getElem?_eq_none (by simpa [WL] using hi), List.getElem?_eq_none (by simpa [WL] using hi)]

theorem mk_0 (cA : Nat → ClassId) (α : Nat → Nat) (f : Nat → Int32) (g : Nat → Int64) : mk cA α 0 f g = .inr (10, objF 10 α 0 f g) := rfl
theorem mk_1 (cA : Nat → ClassId) (α : Nat → Nat) (f : Nat → Int32) (g : Nat → Int64) : mk cA α 1 f g = .inr (3, objF 3 α 1 f g) := rfl
theorem mk_2 (cA : Nat → ClassId) (α : Nat → Nat) (f : Nat → Int32) (g : Nat → Int64) : mk cA α 2 f g = .inl (cA 2, 600, .inl f) := rfl
theorem mk_3 (cA : Nat → ClassId) (α : Nat → Nat) (f : Nat → Int32) (g : Nat → Int64) : mk cA α 3 f g = .inr (0, objF 0 α 3 f g) := rfl
theorem mk_4 (cA : Nat → ClassId) (α : Nat → Nat) (f : Nat → Int32) (g : Nat → Int64) : mk cA α 4 f g = .inr (5, objF 5 α 4 f g) := rfl
theorem mk_5 (cA : Nat → ClassId) (α : Nat → Nat) (f : Nat → Int32) (g : Nat → Int64) : mk cA α 5 f g = .inl (cA 0, 100, .inl f) := rfl
theorem mk_6 (cA : Nat → ClassId) (α : Nat → Nat) (f : Nat → Int32) (g : Nat → Int64) : mk cA α 6 f g = .inr (6, objF 6 α 6 f g) := rfl
theorem mk_7 (cA : Nat → ClassId) (α : Nat → Nat) (f : Nat → Int32) (g : Nat → Int64) : mk cA α 7 f g = .inl (cA 1, 6, .inr (.inl g)) := rfl
theorem mk_8 (cA : Nat → ClassId) (α : Nat → Nat) (f : Nat → Int32) (g : Nat → Int64) : mk cA α 8 f g = .inl (cA 1, 64, .inr (.inl g)) := rfl
theorem mk_9 (cA : Nat → ClassId) (α : Nat → Nat) (f : Nat → Int32) (g : Nat → Int64) : mk cA α 9 f g = .inl (cA 0, 64, .inl f) := rfl
theorem mk_10 (cA : Nat → ClassId) (α : Nat → Nat) (f : Nat → Int32) (g : Nat → Int64) : mk cA α 10 f g = .inr (1, objF 1 α 10 f g) := rfl
theorem mk_11 (cA : Nat → ClassId) (α : Nat → Nat) (f : Nat → Int32) (g : Nat → Int64) : mk cA α 11 f g = .inr (4, objF 4 α 11 f g) := rfl
theorem mk_12 (cA : Nat → ClassId) (α : Nat → Nat) (f : Nat → Int32) (g : Nat → Int64) : mk cA α 12 f g = .inl (cA 5, 10, .inr (.inr (.inr (.inr (fun j => some (α (83 + 9 * j))))))) := rfl
theorem mk_13 (cA : Nat → ClassId) (α : Nat → Nat) (f : Nat → Int32) (g : Nat → Int64) : mk cA α 13 f g = .inl (cA 6, 2, .inr (.inr (.inr (.inr (fun j => some (α (14 + j))))))) := rfl
theorem mk_14 (cA : Nat → ClassId) (α : Nat → Nat) (f : Nat → Int32) (g : Nat → Int64) : mk cA α 14 f g = .inr (8, objF 8 α 14 f g) := rfl
theorem mk_15 (cA : Nat → ClassId) (α : Nat → Nat) (f : Nat → Int32) (g : Nat → Int64) : mk cA α 15 f g = .inr (8, objF 8 α 15 f g) := rfl
theorem mk_16 (cA : Nat → ClassId) (α : Nat → Nat) (f : Nat → Int32) (g : Nat → Int64) : mk cA α 16 f g = .inr (2, objF 2 α 16 f g) := rfl
theorem mk_17 (cA : Nat → ClassId) (α : Nat → Nat) (f : Nat → Int32) (g : Nat → Int64) : mk cA α 17 f g = .inl (cA 0, 4, .inl f) := rfl
theorem mk_18 (cA : Nat → ClassId) (α : Nat → Nat) (f : Nat → Int32) (g : Nat → Int64) : mk cA α 18 f g = .inl (cA 0, 6, .inl f) := rfl
theorem mk_19 (cA : Nat → ClassId) (α : Nat → Nat) (f : Nat → Int32) (g : Nat → Int64) : mk cA α 19 f g = .inl (cA 0, 6, .inl f) := rfl
theorem mk_20 (cA : Nat → ClassId) (α : Nat → Nat) (f : Nat → Int32) (g : Nat → Int64) : mk cA α 20 f g = .inl (cA 0, 6, .inl f) := rfl
theorem mk_21 (cA : Nat → ClassId) (α : Nat → Nat) (f : Nat → Int32) (g : Nat → Int64) : mk cA α 21 f g = .inl (cA 0, 6, .inl f) := rfl
theorem mk_22 (cA : Nat → ClassId) (α : Nat → Nat) (f : Nat → Int32) (g : Nat → Int64) : mk cA α 22 f g = .inl (cA 0, 6, .inl f) := rfl
theorem mk_23 (cA : Nat → ClassId) (α : Nat → Nat) (f : Nat → Int32) (g : Nat → Int64) : mk cA α 23 f g = .inr (2, objF 2 α 23 f g) := rfl
theorem mk_24 (cA : Nat → ClassId) (α : Nat → Nat) (f : Nat → Int32) (g : Nat → Int64) : mk cA α 24 f g = .inl (cA 0, 4, .inl f) := rfl
theorem mk_25 (cA : Nat → ClassId) (α : Nat → Nat) (f : Nat → Int32) (g : Nat → Int64) : mk cA α 25 f g = .inl (cA 0, 6, .inl f) := rfl
theorem mk_26 (cA : Nat → ClassId) (α : Nat → Nat) (f : Nat → Int32) (g : Nat → Int64) : mk cA α 26 f g = .inl (cA 0, 6, .inl f) := rfl
theorem mk_27 (cA : Nat → ClassId) (α : Nat → Nat) (f : Nat → Int32) (g : Nat → Int64) : mk cA α 27 f g = .inl (cA 0, 6, .inl f) := rfl
theorem mk_28 (cA : Nat → ClassId) (α : Nat → Nat) (f : Nat → Int32) (g : Nat → Int64) : mk cA α 28 f g = .inl (cA 0, 6, .inl f) := rfl
theorem mk_29 (cA : Nat → ClassId) (α : Nat → Nat) (f : Nat → Int32) (g : Nat → Int64) : mk cA α 29 f g = .inl (cA 0, 6, .inl f) := rfl
theorem mk_30 (cA : Nat → ClassId) (α : Nat → Nat) (f : Nat → Int32) (g : Nat → Int64) : mk cA α 30 f g = .inr (11, objF 11 α 30 f g) := rfl
theorem mk_31 (cA : Nat → ClassId) (α : Nat → Nat) (f : Nat → Int32) (g : Nat → Int64) : mk cA α 31 f g = .inl (cA 2, 600, .inl f) := rfl
theorem mk_32 (cA : Nat → ClassId) (α : Nat → Nat) (f : Nat → Int32) (g : Nat → Int64) : mk cA α 32 f g = .inl (cA 0, 40, .inl f) := rfl
theorem mk_33 (cA : Nat → ClassId) (α : Nat → Nat) (f : Nat → Int32) (g : Nat → Int64) : mk cA α 33 f g = .inl (cA 0, 40, .inl f) := rfl
theorem mk_34 (cA : Nat → ClassId) (α : Nat → Nat) (f : Nat → Int32) (g : Nat → Int64) : mk cA α 34 f g = .inl (cA 0, 1508, .inl f) := rfl
theorem mk_35 (cA : Nat → ClassId) (α : Nat → Nat) (f : Nat → Int32) (g : Nat → Int64) : mk cA α 35 f g = .inl (cA 1, 309, .inr (.inl g)) := rfl
theorem mk_36 (cA : Nat → ClassId) (α : Nat → Nat) (f : Nat → Int32) (g : Nat → Int64) : mk cA α 36 f g = .inl (cA 0, 15080, .inl f) := rfl
theorem mk_37 (cA : Nat → ClassId) (α : Nat → Nat) (f : Nat → Int32) (g : Nat → Int64) : mk cA α 37 f g = .inl (cA 1, 3090, .inr (.inl g)) := rfl
theorem mk_38 (cA : Nat → ClassId) (α : Nat → Nat) (f : Nat → Int32) (g : Nat → Int64) : mk cA α 38 f g = .inl (cA 0, 3016, .inl f) := rfl
theorem mk_39 (cA : Nat → ClassId) (α : Nat → Nat) (f : Nat → Int32) (g : Nat → Int64) : mk cA α 39 f g = .inl (cA 1, 618, .inr (.inl g)) := rfl
theorem mk_40 (cA : Nat → ClassId) (α : Nat → Nat) (f : Nat → Int32) (g : Nat → Int64) : mk cA α 40 f g = .inl (cA 3, 2, .inl f) := rfl
theorem mk_41 (cA : Nat → ClassId) (α : Nat → Nat) (f : Nat → Int32) (g : Nat → Int64) : mk cA α 41 f g = .inl (cA 0, 100, .inl f) := rfl
theorem mk_42 (cA : Nat → ClassId) (α : Nat → Nat) (f : Nat → Int32) (g : Nat → Int64) : mk cA α 42 f g = .inl (cA 1, 64, .inr (.inl g)) := rfl
theorem mk_43 (cA : Nat → ClassId) (α : Nat → Nat) (f : Nat → Int32) (g : Nat → Int64) : mk cA α 43 f g = .inl (cA 0, 64, .inl f) := rfl
theorem mk_44 (cA : Nat → ClassId) (α : Nat → Nat) (f : Nat → Int32) (g : Nat → Int64) : mk cA α 44 f g = .inr (7, objF 7 α 44 f g) := rfl
theorem mk_45 (cA : Nat → ClassId) (α : Nat → Nat) (f : Nat → Int32) (g : Nat → Int64) : mk cA α 45 f g = .inl (cA 0, 100, .inl f) := rfl
theorem mk_46 (cA : Nat → ClassId) (α : Nat → Nat) (f : Nat → Int32) (g : Nat → Int64) : mk cA α 46 f g = .inl (cA 0, 100, .inl f) := rfl
theorem mk_47 (cA : Nat → ClassId) (α : Nat → Nat) (f : Nat → Int32) (g : Nat → Int64) : mk cA α 47 f g = .inl (cA 0, 100, .inl f) := rfl
theorem mk_48 (cA : Nat → ClassId) (α : Nat → Nat) (f : Nat → Int32) (g : Nat → Int64) : mk cA α 48 f g = .inl (cA 0, 100, .inl f) := rfl
theorem mk_49 (cA : Nat → ClassId) (α : Nat → Nat) (f : Nat → Int32) (g : Nat → Int64) : mk cA α 49 f g = .inl (cA 0, 100, .inl f) := rfl
theorem mk_50 (cA : Nat → ClassId) (α : Nat → Nat) (f : Nat → Int32) (g : Nat → Int64) : mk cA α 50 f g = .inl (cA 0, 100, .inl f) := rfl
theorem mk_51 (cA : Nat → ClassId) (α : Nat → Nat) (f : Nat → Int32) (g : Nat → Int64) : mk cA α 51 f g = .inl (cA 0, 100, .inl f) := rfl
theorem mk_52 (cA : Nat → ClassId) (α : Nat → Nat) (f : Nat → Int32) (g : Nat → Int64) : mk cA α 52 f g = .inl (cA 0, 100, .inl f) := rfl
theorem mk_53 (cA : Nat → ClassId) (α : Nat → Nat) (f : Nat → Int32) (g : Nat → Int64) : mk cA α 53 f g = .inl (cA 0, 100, .inl f) := rfl
theorem mk_74 (cA : Nat → ClassId) (α : Nat → Nat) (f : Nat → Int32) (g : Nat → Int64) : mk cA α 74 f g = .inr (9, objF 9 α 74 f g) := rfl
theorem mk_75 (cA : Nat → ClassId) (α : Nat → Nat) (f : Nat → Int32) (g : Nat → Int64) : mk cA α 75 f g = .inl (cA 0, 100, .inl f) := rfl
theorem mk_76 (cA : Nat → ClassId) (α : Nat → Nat) (f : Nat → Int32) (g : Nat → Int64) : mk cA α 76 f g = .inl (cA 0, 100, .inl f) := rfl
theorem mk_77 (cA : Nat → ClassId) (α : Nat → Nat) (f : Nat → Int32) (g : Nat → Int64) : mk cA α 77 f g = .inl (cA 0, 100, .inl f) := rfl
theorem mk_78 (cA : Nat → ClassId) (α : Nat → Nat) (f : Nat → Int32) (g : Nat → Int64) : mk cA α 78 f g = .inl (cA 1, 100, .inr (.inl g)) := rfl
theorem mk_79 (cA : Nat → ClassId) (α : Nat → Nat) (f : Nat → Int32) (g : Nat → Int64) : mk cA α 79 f g = .inl (cA 1, 100, .inr (.inl g)) := rfl
theorem mk_80 (cA : Nat → ClassId) (α : Nat → Nat) (f : Nat → Int32) (g : Nat → Int64) : mk cA α 80 f g = .inl (cA 0, 100, .inl f) := rfl
theorem mk_81 (cA : Nat → ClassId) (α : Nat → Nat) (f : Nat → Int32) (g : Nat → Int64) : mk cA α 81 f g = .inl (cA 0, 4, .inl f) := rfl
theorem mk_82 (cA : Nat → ClassId) (α : Nat → Nat) (f : Nat → Int32) (g : Nat → Int64) : mk cA α 82 f g = .inl (cA 1, 6, .inr (.inl g)) := rfl
theorem mk_191 (cA : Nat → ClassId) (α : Nat → Nat) (f : Nat → Int32) (g : Nat → Int64) : mk cA α 191 f g = .inl (cA 1, 1, .inr (.inl g)) := rfl
theorem mk_192 (cA : Nat → ClassId) (α : Nat → Nat) (f : Nat → Int32) (g : Nat → Int64) : mk cA α 192 f g = .inl (cA 4, 1, .inr (.inr (.inr (.inl (fun j => (g j).toUInt64))))) := rfl
theorem shR_0 : ∀ i, i < 3 → shp (44 + 10 * i) = (17, 0) := by decide
theorem mkR_0 (cA : Nat → ClassId) (α : Nat → Nat) {i : Nat} (hi : i < 3) (f : Nat → Int32) (g : Nat → Int64) : mk cA α (44 + 10 * i) f g = .inr (7, objF 7 α (44 + 10 * i) f g) := by unfold mk; rw [shR_0 i hi]; rfl
theorem shR_1 : ∀ i, i < 3 → shp (44 + 10 * i + 1) = (0, 100) := by decide
theorem mkR_1 (cA : Nat → ClassId) (α : Nat → Nat) {i : Nat} (hi : i < 3) (f : Nat → Int32) (g : Nat → Int64) : mk cA α (44 + 10 * i + 1) f g = .inl (cA 0, 100, .inl f) := by unfold mk; rw [shR_1 i hi]; rfl
theorem shR_2 : ∀ i, i < 3 → shp (44 + 10 * i + 2) = (0, 100) := by decide
theorem mkR_2 (cA : Nat → ClassId) (α : Nat → Nat) {i : Nat} (hi : i < 3) (f : Nat → Int32) (g : Nat → Int64) : mk cA α (44 + 10 * i + 2) f g = .inl (cA 0, 100, .inl f) := by unfold mk; rw [shR_2 i hi]; rfl
theorem shR_3 : ∀ i, i < 3 → shp (44 + 10 * i + 3) = (0, 100) := by decide
theorem mkR_3 (cA : Nat → ClassId) (α : Nat → Nat) {i : Nat} (hi : i < 3) (f : Nat → Int32) (g : Nat → Int64) : mk cA α (44 + 10 * i + 3) f g = .inl (cA 0, 100, .inl f) := by unfold mk; rw [shR_3 i hi]; rfl
theorem shR_4 : ∀ i, i < 3 → shp (44 + 10 * i + 4) = (0, 100) := by decide
theorem mkR_4 (cA : Nat → ClassId) (α : Nat → Nat) {i : Nat} (hi : i < 3) (f : Nat → Int32) (g : Nat → Int64) : mk cA α (44 + 10 * i + 4) f g = .inl (cA 0, 100, .inl f) := by unfold mk; rw [shR_4 i hi]; rfl
theorem shR_5 : ∀ i, i < 3 → shp (44 + 10 * i + 5) = (0, 100) := by decide
theorem mkR_5 (cA : Nat → ClassId) (α : Nat → Nat) {i : Nat} (hi : i < 3) (f : Nat → Int32) (g : Nat → Int64) : mk cA α (44 + 10 * i + 5) f g = .inl (cA 0, 100, .inl f) := by unfold mk; rw [shR_5 i hi]; rfl
theorem shR_6 : ∀ i, i < 3 → shp (44 + 10 * i + 6) = (0, 100) := by decide
theorem mkR_6 (cA : Nat → ClassId) (α : Nat → Nat) {i : Nat} (hi : i < 3) (f : Nat → Int32) (g : Nat → Int64) : mk cA α (44 + 10 * i + 6) f g = .inl (cA 0, 100, .inl f) := by unfold mk; rw [shR_6 i hi]; rfl
theorem shR_7 : ∀ i, i < 3 → shp (44 + 10 * i + 7) = (0, 100) := by decide
theorem mkR_7 (cA : Nat → ClassId) (α : Nat → Nat) {i : Nat} (hi : i < 3) (f : Nat → Int32) (g : Nat → Int64) : mk cA α (44 + 10 * i + 7) f g = .inl (cA 0, 100, .inl f) := by unfold mk; rw [shR_7 i hi]; rfl
theorem shR_8 : ∀ i, i < 3 → shp (44 + 10 * i + 8) = (0, 100) := by decide
theorem mkR_8 (cA : Nat → ClassId) (α : Nat → Nat) {i : Nat} (hi : i < 3) (f : Nat → Int32) (g : Nat → Int64) : mk cA α (44 + 10 * i + 8) f g = .inl (cA 0, 100, .inl f) := by unfold mk; rw [shR_8 i hi]; rfl
theorem shR_9 : ∀ i, i < 3 → shp (44 + 10 * i + 9) = (0, 100) := by decide
theorem mkR_9 (cA : Nat → ClassId) (α : Nat → Nat) {i : Nat} (hi : i < 3) (f : Nat → Int32) (g : Nat → Int64) : mk cA α (44 + 10 * i + 9) f g = .inl (cA 0, 100, .inl f) := by unfold mk; rw [shR_9 i hi]; rfl
theorem shS_0 : ∀ i, i < 13 → shp (74 + 9 * i) = (19, 0) := by decide
theorem mkS_0 (cA : Nat → ClassId) (α : Nat → Nat) {i : Nat} (hi : i < 13) (f : Nat → Int32) (g : Nat → Int64) : mk cA α (74 + 9 * i) f g = .inr (9, objF 9 α (74 + 9 * i) f g) := by unfold mk; rw [shS_0 i hi]; rfl
theorem shS_1 : ∀ i, i < 13 → shp (74 + 9 * i + 1) = (0, 100) := by decide
theorem mkS_1 (cA : Nat → ClassId) (α : Nat → Nat) {i : Nat} (hi : i < 13) (f : Nat → Int32) (g : Nat → Int64) : mk cA α (74 + 9 * i + 1) f g = .inl (cA 0, 100, .inl f) := by unfold mk; rw [shS_1 i hi]; rfl
theorem shS_2 : ∀ i, i < 13 → shp (74 + 9 * i + 2) = (0, 100) := by decide
theorem mkS_2 (cA : Nat → ClassId) (α : Nat → Nat) {i : Nat} (hi : i < 13) (f : Nat → Int32) (g : Nat → Int64) : mk cA α (74 + 9 * i + 2) f g = .inl (cA 0, 100, .inl f) := by unfold mk; rw [shS_2 i hi]; rfl
theorem shS_3 : ∀ i, i < 13 → shp (74 + 9 * i + 3) = (0, 100) := by decide
theorem mkS_3 (cA : Nat → ClassId) (α : Nat → Nat) {i : Nat} (hi : i < 13) (f : Nat → Int32) (g : Nat → Int64) : mk cA α (74 + 9 * i + 3) f g = .inl (cA 0, 100, .inl f) := by unfold mk; rw [shS_3 i hi]; rfl
theorem shS_4 : ∀ i, i < 13 → shp (74 + 9 * i + 4) = (1, 100) := by decide
theorem mkS_4 (cA : Nat → ClassId) (α : Nat → Nat) {i : Nat} (hi : i < 13) (f : Nat → Int32) (g : Nat → Int64) : mk cA α (74 + 9 * i + 4) f g = .inl (cA 1, 100, .inr (.inl g)) := by unfold mk; rw [shS_4 i hi]; rfl
theorem shS_5 : ∀ i, i < 13 → shp (74 + 9 * i + 5) = (1, 100) := by decide
theorem mkS_5 (cA : Nat → ClassId) (α : Nat → Nat) {i : Nat} (hi : i < 13) (f : Nat → Int32) (g : Nat → Int64) : mk cA α (74 + 9 * i + 5) f g = .inl (cA 1, 100, .inr (.inl g)) := by unfold mk; rw [shS_5 i hi]; rfl
theorem shS_6 : ∀ i, i < 13 → shp (74 + 9 * i + 6) = (0, 100) := by decide
theorem mkS_6 (cA : Nat → ClassId) (α : Nat → Nat) {i : Nat} (hi : i < 13) (f : Nat → Int32) (g : Nat → Int64) : mk cA α (74 + 9 * i + 6) f g = .inl (cA 0, 100, .inl f) := by unfold mk; rw [shS_6 i hi]; rfl
theorem shS_7 : ∀ i, i < 13 → shp (74 + 9 * i + 7) = (0, 4) := by decide
theorem mkS_7 (cA : Nat → ClassId) (α : Nat → Nat) {i : Nat} (hi : i < 13) (f : Nat → Int32) (g : Nat → Int64) : mk cA α (74 + 9 * i + 7) f g = .inl (cA 0, 4, .inl f) := by unfold mk; rw [shS_7 i hi]; rfl
theorem shS_8 : ∀ i, i < 13 → shp (74 + 9 * i + 8) = (1, 6) := by decide
theorem mkS_8 (cA : Nat → ClassId) (α : Nat → Nat) {i : Nat} (hi : i < 13) (f : Nat → Int32) (g : Nat → Int64) : mk cA α (74 + 9 * i + 8) f g = .inl (cA 1, 6, .inr (.inl g)) := by unfold mk; rw [shS_8 i hi]; rfl
theorem shP : ∀ k, k < 2 → shp (14 + k) = (18, 0) := by decide
theorem mkP (cA : Nat → ClassId) (α : Nat → Nat) {i : Nat} (hi : i < 2) (f : Nat → Int32) (g : Nat → Int64) : mk cA α (14 + i) f g = .inr (8, objF 8 α (14 + i) f g) := by unfold mk; rw [shP i hi]; rfl
abbrev tyl (cA : Nat → ClassId) : List (ClassId × FieldType) := [(cA 0, .int), (cA 1, .long), (cA 2, .byte), (cA 3, .boolean), (cA 4, .double), (cA 5, .object "IntercompanyLedger$Standing"), (cA 6, .object "IntercompanyLedger$Snapshot")]
/-- the cells that a method may change: the world's, and those that it makes -/
def Aw (α : Nat → Nat) (n sz : Nat) : Nat → Prop := fun q => (∃ k, k < n ∧ q = α k) ∨ sz ≤ q
/-- the world at a state -/
def Pw (D : va_G) (cA : Nat → ClassId) (α : Nat → Nat) (n : Nat) (S : Mem) (U : State) : Prop := va_P D vwCl (WL cA α n S) U.heap ∧ va_K D vwCl (tyl cA) U ∧ va_D (fun _ => True) (WL cA α n S)
/-- the world along a walk -/
def Ws (D : va_G) (cA : Nat → ClassId) (α : Nat → Nat) (n : Nat) (A : Nat → Prop) (H0 : Heap) (S : Mem) (H : Heap) (locs : List Loc) : Prop := va_P D vwCl (WL cA α n S) H ∧ va_D A (WL cA α n S) ∧ va_S A H0 H locs
theorem WL_at {cA : Nat → ClassId} {α : Nat → Nat} {n : Nat} {S : Mem} {k : Nat} {q : Nat × va_E} (h : (WL cA α n S)[k]? = some q) : k < n ∧ q.1 = α k := by
  have hk : k < n := by
    have := (List.getElem?_eq_some_iff.mp h).1
    simpa [WL] using this
  rw [WL_get hk] at h
  cases h
  exact ⟨hk, rfl⟩
theorem WL_D {A B : Nat → Prop} {cA : Nat → ClassId} {α : Nat → Nat} {n : Nat} {S S' : Mem} (h : va_D A (WL cA α n S)) (hB : ∀ k, k < n → B (α k)) : va_D B (WL cA α n S') := by
  refine ⟨fun i j p q hi hj hpq => ?_, fun k q hk => ?_⟩
  · obtain ⟨h1, e1⟩ := WL_at hi
    obtain ⟨h2, e2⟩ := WL_at hj
    exact h.1 i j _ _ (WL_get h1) (WL_get h2) (by rw [← e1, ← e2]; exact hpq)
  · obtain ⟨h1, e1⟩ := WL_at hk
    rw [e1]
    exact hB k h1
theorem Pw.alike {D : va_G} {cA : Nat → ClassId} {α : Nat → Nat} {n : Nat} {S : Mem} {U V : State} (h : Pw D cA α n S U) (hh : V.heap = U.heap) (hv : U.vm.Alike V.vm) : Pw D cA α n S V := ⟨by rw [hh]; exact h.1, va_K.moved hv h.2.1, h.2.2⟩
abbrev CtPre (D : va_G) (cA : Nat → ClassId) (α : Nat → Nat) (n sz : Nat) (av : List Value) (S : Mem) : Array Value → State → Prop := va_Pc av (fun U => U.heap.size = sz ∧ Pw D cA α n S U)
/-- contracts over the world: the answer is fr, the world behind it fS -/
def CtI (l : Launch) (y : MethodName) (ws : List Cond) (rm : Room) (D : va_G) (cA : Nat → ClassId) (α : Nat → Nat) (n sz : Nat) (av : List Value) (S : Mem) (fr : Int32) (fS : Mem) : Prop := Met l y ws rm (CtPre D cA α n sz av S) (va_Qi (fun r u => r = fr ∧ u = fS) (Pw D cA α n) (Aw α n sz)) 0 0 (Aw α n sz)
def CtL (l : Launch) (y : MethodName) (ws : List Cond) (rm : Room) (D : va_G) (cA : Nat → ClassId) (α : Nat → Nat) (n sz : Nat) (av : List Value) (S : Mem) (fr : Int64) (fS : Mem) : Prop := Met l y ws rm (CtPre D cA α n sz av S) (va_Ql (fun r u => r = fr ∧ u = fS) (Pw D cA α n) (Aw α n sz)) 0 0 (Aw α n sz)
def CtV (l : Launch) (y : MethodName) (ws : List Cond) (rm : Room) (D : va_G) (cA : Nat → ClassId) (α : Nat → Nat) (n sz : Nat) (av : List Value) (S : Mem) (fS : Mem) : Prop := Met l y ws rm (CtPre D cA α n sz av S) (va_Qv (fun u => u = fS) (Pw D cA α n) (Aw α n sz)) 0 0 (Aw α n sz)
theorem ct_blind {D : va_G} {cA : Nat → ClassId} {α : Nat → Nat} {n sz : Nat} {av : List Value} {S : Mem} : FrameBlind (CtPre D cA α n sz av S) := by
  intro a U g mk' q
  obtain ⟨q0, q1, qP⟩ := q
  exact ⟨q0, q1, Pw.alike qP rfl (Vm.Alike.refl U.vm)⟩

section FR
variable {p : Program} {l : Launch} {e : Env} {R : Room} {s : State} {m : MethodId} {args : Array Value} {below : List Frame} {meth : Method} {c : Code} {H : Heap} {locs : List Loc} {cells slots : Nat} {Q : State → Prop}
variable {cc : ByteArray} {pc : Nat} {ls : Array Slot} {rest : List Value} {D : va_G} {cA : Nat → ClassId} {α : Nat → Nat} {n : Nat} {A : Nat → Prop} {H0 : Heap} {S : Mem}
/-- a contract's entry -/
theorem ct_enter {y : MethodName} {ws ws' : List Cond} {rm : Room} {sz : Nat} {av : List Value} {Qc : Array Value → State → Outcome → State → Prop} (cc : ByteArray) (maxL : Nat) (ret : Option FieldType) (hy : plainName y.cls = true) (hw : ws = Cond.code y cc maxL ret :: ws') (hlen : (lg_sl av).length ≤ maxL)
    (body : ∀ (p : Program) (e : Env) (s : State) (m : MethodId) (below : List Frame) (meth : Method) (c : Code), p.tables.exec = Jvm.exec → c.code = cc → meth.sig.returnType = ret → c.maxLocals = maxL → meth.locks = false → s.vm.findClass y.cls = some m.cls → (∀ w ∈ ws, w.before av.toArray s = true) → va_K D vwCl (tyl cA) s → s.heap.size = sz → Ws D cA α n (Aw α n sz) s.heap S s.heap [] →
      ∀ ls : Array Slot, lv_has ls maxL (lv_args 0 av) → W p l e rm s m av.toArray below meth c s.heap [] 0 0 (MQ below Qc av.toArray s 0 0 (Aw α n sz)) (F0 m 0 ls [])) :
    Met l y ws rm (CtPre D cA α n sz av S) Qc 0 0 (Aw α n sz) := by
  refine Met.ofW (cc := cc) (maxL := maxL) (ret := ret) hy hw ?_
  intro p e s m args below meth c s₁ B hml hv
  obtain ⟨rfl, hsz, hP, hK, hD⟩ := hv
  have hl := lv_entry av (n := maxL) hlen
  rw [lg_entry_eq]
  exact body p e s m below meth c B.exec B.bytes B.returns hml B.notSynchronized (findClass_of_methodNamed B.named) (atoms_spec (ws := ws) B.pre) hK hsz ⟨hP, WL_D hD (fun k hk => Or.inl ⟨k, hk, rfl⟩), va_S.rf⟩ _ hl
theorem ret_i {sz : Nat} {v fr : Int32} {fS : Mem} (hx : p.tables.exec = Jvm.exec) (hb : c.code = cc) (hr : meth.sig.returnType = some .int) (hlocks : meth.locks = false) (hK : va_K D vwCl (tyl cA) s) (hw : Ws D cA α n (Aw α n sz) s.heap S H locs) (hdg : decode cc pc = .ok (.ireturn, 1)) (hv : v = fr) (hS : S = fS) :
    W p l e R s m args below meth c H locs cells slots (MQ below (va_Qi (fun r u => r = fr ∧ u = fS) (Pw D cA α n) (Aw α n sz)) args s cells slots (Aw α n sz)) (F0 m pc ls [.int v]) :=
  W.iret hx hb hr (fun t ht hW => ⟨⟨v, S, rfl, ⟨hv, hS⟩, by rw [ht]; exact hw.1, va_K.moved hW.alike hK, WL_D hw.2.1 (fun _ _ => trivial)⟩, hw.2.2.F ht⟩) hw.2.2.2.2 hdg
theorem ret_z {sz : Nat} {v fr : Int32} {fS : Mem} {ty : FieldType} (hx : p.tables.exec = Jvm.exec) (hb : c.code = cc) (hr : meth.sig.returnType = some ty) (hn : narrow ty (.int v) = .int v) (hlocks : meth.locks = false) (hK : va_K D vwCl (tyl cA) s) (hw : Ws D cA α n (Aw α n sz) s.heap S H locs) (hdg : decode cc pc = .ok (.ireturn, 1)) (hv : v = fr) (hS : S = fS) :
    W p l e R s m args below meth c H locs cells slots (MQ below (va_Qi (fun r u => r = fr ∧ u = fS) (Pw D cA α n) (Aw α n sz)) args s cells slots (Aw α n sz)) (F0 m pc ls [.int v]) :=
  W.zret hx hb hr hn (fun t ht hW => ⟨⟨v, S, rfl, ⟨hv, hS⟩, by rw [ht]; exact hw.1, va_K.moved hW.alike hK, WL_D hw.2.1 (fun _ _ => trivial)⟩, hw.2.2.F ht⟩) hw.2.2.2.2 hdg
theorem ret_l {sz : Nat} {v fr : Int64} {fS : Mem} (hx : p.tables.exec = Jvm.exec) (hb : c.code = cc) (hr : meth.sig.returnType = some .long) (hlocks : meth.locks = false) (hK : va_K D vwCl (tyl cA) s) (hw : Ws D cA α n (Aw α n sz) s.heap S H locs) (hdg : decode cc pc = .ok (.lreturn, 1)) (hv : v = fr) (hS : S = fS) :
    W p l e R s m args below meth c H locs cells slots (MQ below (va_Ql (fun r u => r = fr ∧ u = fS) (Pw D cA α n) (Aw α n sz)) args s cells slots (Aw α n sz)) (F0 m pc ls [.long v]) :=
  W.lret hx hb hr (fun t ht hW => ⟨⟨v, S, rfl, ⟨hv, hS⟩, by rw [ht]; exact hw.1, va_K.moved hW.alike hK, WL_D hw.2.1 (fun _ _ => trivial)⟩, hw.2.2.F ht⟩) hw.2.2.2.2 hdg
theorem ret_v {sz : Nat} {fS : Mem} (hx : p.tables.exec = Jvm.exec) (hb : c.code = cc) (hr : meth.sig.returnType = none) (hlocks : meth.locks = false) (hK : va_K D vwCl (tyl cA) s) (hw : Ws D cA α n (Aw α n sz) s.heap S H locs) (hdg : decode cc pc = .ok (.return_, 1)) (hS : S = fS) :
    W p l e R s m args below meth c H locs cells slots (MQ below (va_Qv (fun u => u = fS) (Pw D cA α n) (Aw α n sz)) args s cells slots (Aw α n sz)) (F0 m pc ls []) :=
  W.vret hx hb hr (fun t ht hW => ⟨⟨S, rfl, hS, by rw [ht]; exact hw.1, va_K.moved hW.alike hK, WL_D hw.2.1 (fun _ _ => trivial)⟩, hw.2.2.F ht⟩) hw.2.2.2.2 hdg
/-- getfield -/
theorem x_get {own ref C : String} {T : u_T} {N ci index : Nat} {Ts : List Cond} (hx : p.tables.exec = Jvm.exec) (hb : c.code = cc) (hts : ∀ w ∈ Ts, w.before args s = true) (hin : ∀ w ∈ u_ws C T N, w ∈ Ts) (hown : s.vm.findClass own = some m.cls) (hK : va_K D vwCl (tyl cA) s) (hw : Ws D cA α n A H0 S H locs) (q : Nat) (hq : q < n) (he : ∀ f g, mk cA α q f g = .inr (ci, objF ci α q f g)) (hc : vwCl[ci]? = some (C, T, N)) (k : Nat) (hk : k < N) (hlink : (Cond.fieldLink own index ref (T k).2.1 (T k).2.2.1).before args s = true) (hsame : ∀ x, s.fieldFound? (T k).1 (T k).2.1 (T k).2.2.1 = some x → s.fieldFound? ref (T k).2.1 (T k).2.2.1 = some x) {v : Value} (hv : (objF ci α q (S.1 q) (S.2 q))[k]? = some v) (hdg : decode cc pc = .ok (.getfield index, 3))
    (kk : W p l e R s m args below meth c H locs cells slots Q (F0 m (pc + 3) ls (v :: rest))) : W p l e R s m args below meth c H locs cells slots Q (F0 m pc ls (.ref (α q) :: rest)) :=
  va_get hx hb hts hin hown hK hw.1 q (by rw [WL_get hq, he]) hc k hk hlink hsame hv hdg kk

/-- putfield of an int (or boolean) field -/
theorem x_putI {own ref C : String} {T : u_T} {N ci index : Nat} {Ts : List Cond} (hx : p.tables.exec = Jvm.exec) (hb : c.code = cc) (hts : ∀ w ∈ Ts, w.before args s = true) (hin : ∀ w ∈ u_ws C T N, w ∈ Ts) (ty0 : Nat → FieldType) (hty : ∀ k, k < N → parseFieldDescriptor (T k).2.2.1 = some (ty0 k)) (hnm : ∀ a, a < N → ∀ b, b < N → a ≠ b → (T a).2.1 ≠ (T b).2.1) (hown : s.vm.findClass own = some m.cls) (hK : va_K D vwCl (tyl cA) s) (hw : Ws D cA α n A H0 S H locs) (q : Nat) (hq : q < n) (he : ∀ f g, mk cA α q f g = .inr (ci, objF ci α q f g)) (hc : vwCl[ci]? = some (C, T, N)) (k : Nat) (hk : k < N) (hlink : (Cond.fieldLink own index ref (T k).2.1 (T k).2.2.1).before args s = true) (hsame : ∀ x, s.fieldFound? (T k).1 (T k).2.1 (T k).2.2.1 = some x → s.fieldFound? ref (T k).2.1 (T k).2.2.1 = some x) (hfin : (T k).2.2.2 = false) {ty : FieldType} {x : Int32} (hd : parseFieldDescriptor (T k).2.2.1 = some ty) (hn : narrow ty (.int x) = .int x) (hfit : fits ty (.int x) = true) (hl : k < (objF ci α q (S.1 q) (S.2 q)).length) (hset : (objF ci α q (S.1 q) (S.2 q)).set k (.int x) = objF ci α q (upd (S.1 q) k x) (S.2 q)) (hdg : decode cc pc = .ok (.putfield index, 3))
    (kk : ∀ S1 : Mem, S1 = setI S q k x → ∀ (H1 : Heap) (locs1 : List Loc), Ws D cA α n A H0 S1 H1 locs1 → W p l e R s m args below meth c H1 locs1 cells slots Q (F0 m (pc + 3) ls rest)) : W p l e R s m args below meth c H locs cells slots Q (F0 m pc ls (.int x :: .ref (α q) :: rest)) := by
  refine va_put hx hb hts hin ty0 hty hnm hown hK hw.1 hw.2.1 hw.2.2 q (by rw [WL_get hq, he]) hc k hk hlink hsame hfin hd hn hfit hl hdg (fun H1 locs1 h1 h2 h3 => ?_)
  rw [hset, ← he, WL_setR] at h1 h2
  exact kk _ rfl H1 locs1 ⟨h1, h2, h3⟩
theorem x_putL {own ref C : String} {T : u_T} {N ci index : Nat} {Ts : List Cond} (hx : p.tables.exec = Jvm.exec) (hb : c.code = cc) (hts : ∀ w ∈ Ts, w.before args s = true) (hin : ∀ w ∈ u_ws C T N, w ∈ Ts) (ty0 : Nat → FieldType) (hty : ∀ k, k < N → parseFieldDescriptor (T k).2.2.1 = some (ty0 k)) (hnm : ∀ a, a < N → ∀ b, b < N → a ≠ b → (T a).2.1 ≠ (T b).2.1) (hown : s.vm.findClass own = some m.cls) (hK : va_K D vwCl (tyl cA) s) (hw : Ws D cA α n A H0 S H locs) (q : Nat) (hq : q < n) (he : ∀ f g, mk cA α q f g = .inr (ci, objF ci α q f g)) (hc : vwCl[ci]? = some (C, T, N)) (k : Nat) (hk : k < N) (hlink : (Cond.fieldLink own index ref (T k).2.1 (T k).2.2.1).before args s = true) (hsame : ∀ x, s.fieldFound? (T k).1 (T k).2.1 (T k).2.2.1 = some x → s.fieldFound? ref (T k).2.1 (T k).2.2.1 = some x) (hfin : (T k).2.2.2 = false) {ty : FieldType} {x : Int64} (hd : parseFieldDescriptor (T k).2.2.1 = some ty) (hn : narrow ty (.long x) = .long x) (hfit : fits ty (.long x) = true) (hl : k < (objF ci α q (S.1 q) (S.2 q)).length) (hset : (objF ci α q (S.1 q) (S.2 q)).set k (.long x) = objF ci α q (S.1 q) (vp_updL (S.2 q) k x)) (hdg : decode cc pc = .ok (.putfield index, 3))
    (kk : ∀ S1 : Mem, S1 = setJ S q k x → ∀ (H1 : Heap) (locs1 : List Loc), Ws D cA α n A H0 S1 H1 locs1 → W p l e R s m args below meth c H1 locs1 cells slots Q (F0 m (pc + 3) ls rest)) : W p l e R s m args below meth c H locs cells slots Q (F0 m pc ls (.long x :: .ref (α q) :: rest)) := by
  refine va_put hx hb hts hin ty0 hty hnm hown hK hw.1 hw.2.1 hw.2.2 q (by rw [WL_get hq, he]) hc k hk hlink hsame hfin hd hn hfit hl hdg (fun H1 locs1 h1 h2 h3 => ?_)
  rw [hset, ← he, WL_setL] at h1 h2
  exact kk _ rfl H1 locs1 ⟨h1, h2, h3⟩

theorem x_iald (hx : p.tables.exec = Jvm.exec) (hb : c.code = cc) (hK : va_K D vwCl (tyl cA) s) (hw : Ws D cA α n A H0 S H locs) (q N : Nat) (hq : q < n) (he : ∀ f g, mk cA α q f g = .inl (cA 0, N, .inl f)) {i : Int32} (j : Nat) (hj : i = nI j) (hjN : j < N) (hN : N < 2147483648) (hdg : decode cc pc = .ok (.iaload, 1))
    (kk : W p l e R s m args below meth c H locs cells slots Q (F0 m (pc + 1) ls (.int (S.1 q j) :: rest))) : W p l e R s m args below meth c H locs cells slots Q (F0 m pc ls (.int i :: .ref (α q) :: rest)) := by
  subst hj
  refine va_iald hx hb hK hw.1 q 0 (by rw [WL_get hq, he]) rfl (vp_in_nI hjN hN) hdg ?_
  rw [nI_clamp (Nat.lt_trans hjN hN)]
  exact kk
theorem x_bald (hx : p.tables.exec = Jvm.exec) (hb : c.code = cc) (hK : va_K D vwCl (tyl cA) s) (hw : Ws D cA α n A H0 S H locs) (q N : Nat) (hq : q < n) (he : ∀ f g, mk cA α q f g = .inl (cA 2, N, .inl f)) {i : Int32} (j : Nat) (hj : i = nI j) (hjN : j < N) (hN : N < 2147483648) (hdg : decode cc pc = .ok (.baload, 1))
    (kk : W p l e R s m args below meth c H locs cells slots Q (F0 m (pc + 1) ls (.int (S.1 q j) :: rest))) : W p l e R s m args below meth c H locs cells slots Q (F0 m pc ls (.int i :: .ref (α q) :: rest)) := by
  subst hj
  refine va_bald hx hb hK hw.1 q 2 (by rw [WL_get hq, he]) rfl (vp_in_nI hjN hN) hdg ?_
  rw [nI_clamp (Nat.lt_trans hjN hN)]
  exact kk
theorem x_zald (hx : p.tables.exec = Jvm.exec) (hb : c.code = cc) (hK : va_K D vwCl (tyl cA) s) (hw : Ws D cA α n A H0 S H locs) (q N : Nat) (hq : q < n) (he : ∀ f g, mk cA α q f g = .inl (cA 3, N, .inl f)) {i : Int32} (j : Nat) (hj : i = nI j) (hjN : j < N) (hN : N < 2147483648) (hdg : decode cc pc = .ok (.baload, 1))
    (kk : W p l e R s m args below meth c H locs cells slots Q (F0 m (pc + 1) ls (.int (S.1 q j) :: rest))) : W p l e R s m args below meth c H locs cells slots Q (F0 m pc ls (.int i :: .ref (α q) :: rest)) := by
  subst hj
  refine va_zald hx hb hK hw.1 q 3 (by rw [WL_get hq, he]) rfl (vp_in_nI hjN hN) hdg ?_
  rw [nI_clamp (Nat.lt_trans hjN hN)]
  exact kk
theorem x_lald (hx : p.tables.exec = Jvm.exec) (hb : c.code = cc) (hK : va_K D vwCl (tyl cA) s) (hw : Ws D cA α n A H0 S H locs) (q N : Nat) (hq : q < n) (he : ∀ f g, mk cA α q f g = .inl (cA 1, N, .inr (.inl g))) {i : Int32} (j : Nat) (hj : i = nI j) (hjN : j < N) (hN : N < 2147483648) (hdg : decode cc pc = .ok (.laload, 1))
    (kk : W p l e R s m args below meth c H locs cells slots Q (F0 m (pc + 1) ls (.long (S.2 q j) :: rest))) : W p l e R s m args below meth c H locs cells slots Q (F0 m pc ls (.int i :: .ref (α q) :: rest)) := by
  subst hj
  refine va_lald hx hb hK hw.1 q 1 (by rw [WL_get hq, he]) rfl (vp_in_nI hjN hN) hdg ?_
  rw [nI_clamp (Nat.lt_trans hjN hN)]
  exact kk
theorem x_dald (hx : p.tables.exec = Jvm.exec) (hb : c.code = cc) (hK : va_K D vwCl (tyl cA) s) (hw : Ws D cA α n A H0 S H locs) (q N : Nat) (hq : q < n) (he : ∀ f g, mk cA α q f g = .inl (cA 4, N, .inr (.inr (.inr (.inl (fun j => (g j).toUInt64)))))) {i : Int32} (j : Nat) (hj : i = nI j) (hjN : j < N) (hN : N < 2147483648) (hdg : decode cc pc = .ok (.daload, 1))
    (kk : W p l e R s m args below meth c H locs cells slots Q (F0 m (pc + 1) ls (.double (S.2 q j).toUInt64 :: rest))) : W p l e R s m args below meth c H locs cells slots Q (F0 m pc ls (.int i :: .ref (α q) :: rest)) := by
  subst hj
  refine va_dald hx hb hK hw.1 q 4 (by rw [WL_get hq, he]) rfl (vp_in_nI hjN hN) hdg ?_
  rw [nI_clamp (Nat.lt_trans hjN hN)]
  exact kk
theorem x_iast (hx : p.tables.exec = Jvm.exec) (hb : c.code = cc) (hK : va_K D vwCl (tyl cA) s) (hw : Ws D cA α n A H0 S H locs) (q N : Nat) (hq : q < n) (he : ∀ f g, mk cA α q f g = .inl (cA 0, N, .inl f)) {i : Int32} {x : Int32} (j : Nat) (hj : i = nI j) (hjN : j < N) (hN : N < 2147483648) (hdg : decode cc pc = .ok (.iastore, 1))
    (kk : ∀ S1 : Mem, S1 = setI S q j (x) → ∀ (H1 : Heap) (locs1 : List Loc), Ws D cA α n A H0 S1 H1 locs1 → W p l e R s m args below meth c H1 locs1 cells slots Q (F0 m (pc + 1) ls rest)) : W p l e R s m args below meth c H locs cells slots Q (F0 m pc ls (.int x :: .int i :: .ref (α q) :: rest)) := by
  subst hj
  refine va_iast hx hb hK hw.1 hw.2.1 hw.2.2 q 0 (by rw [WL_get hq, he]) rfl (vp_in_nI hjN hN) hdg (fun H1 locs1 h1 h2 h3 => ?_)
  rw [nI_clamp (Nat.lt_trans hjN hN), ← he _ (S.2 q), WL_setR] at h1 h2
  exact kk _ rfl H1 locs1 ⟨h1, h2, h3⟩
theorem x_bast (hx : p.tables.exec = Jvm.exec) (hb : c.code = cc) (hK : va_K D vwCl (tyl cA) s) (hw : Ws D cA α n A H0 S H locs) (q N : Nat) (hq : q < n) (he : ∀ f g, mk cA α q f g = .inl (cA 2, N, .inl f)) {i : Int32} {x : Int32} (j : Nat) (hj : i = nI j) (hjN : j < N) (hN : N < 2147483648) (hdg : decode cc pc = .ok (.bastore, 1))
    (kk : ∀ S1 : Mem, S1 = setI S q j (vp_nar .byte x) → ∀ (H1 : Heap) (locs1 : List Loc), Ws D cA α n A H0 S1 H1 locs1 → W p l e R s m args below meth c H1 locs1 cells slots Q (F0 m (pc + 1) ls rest)) : W p l e R s m args below meth c H locs cells slots Q (F0 m pc ls (.int x :: .int i :: .ref (α q) :: rest)) := by
  subst hj
  refine va_bast hx hb hK hw.1 hw.2.1 hw.2.2 q 2 (by rw [WL_get hq, he]) rfl (vp_in_nI hjN hN) hdg (fun H1 locs1 h1 h2 h3 => ?_)
  rw [nI_clamp (Nat.lt_trans hjN hN), ← he _ (S.2 q), WL_setR] at h1 h2
  exact kk _ rfl H1 locs1 ⟨h1, h2, h3⟩
theorem x_zast (hx : p.tables.exec = Jvm.exec) (hb : c.code = cc) (hK : va_K D vwCl (tyl cA) s) (hw : Ws D cA α n A H0 S H locs) (q N : Nat) (hq : q < n) (he : ∀ f g, mk cA α q f g = .inl (cA 3, N, .inl f)) {i : Int32} {x : Int32} (j : Nat) (hj : i = nI j) (hjN : j < N) (hN : N < 2147483648) (hdg : decode cc pc = .ok (.bastore, 1))
    (kk : ∀ S1 : Mem, S1 = setI S q j (vp_nar .boolean x) → ∀ (H1 : Heap) (locs1 : List Loc), Ws D cA α n A H0 S1 H1 locs1 → W p l e R s m args below meth c H1 locs1 cells slots Q (F0 m (pc + 1) ls rest)) : W p l e R s m args below meth c H locs cells slots Q (F0 m pc ls (.int x :: .int i :: .ref (α q) :: rest)) := by
  subst hj
  refine va_zast hx hb hK hw.1 hw.2.1 hw.2.2 q 3 (by rw [WL_get hq, he]) rfl (vp_in_nI hjN hN) hdg (fun H1 locs1 h1 h2 h3 => ?_)
  rw [nI_clamp (Nat.lt_trans hjN hN), ← he _ (S.2 q), WL_setR] at h1 h2
  exact kk _ rfl H1 locs1 ⟨h1, h2, h3⟩
theorem x_last (hx : p.tables.exec = Jvm.exec) (hb : c.code = cc) (hK : va_K D vwCl (tyl cA) s) (hw : Ws D cA α n A H0 S H locs) (q N : Nat) (hq : q < n) (he : ∀ f g, mk cA α q f g = .inl (cA 1, N, .inr (.inl g))) {i : Int32} {x : Int64} (j : Nat) (hj : i = nI j) (hjN : j < N) (hN : N < 2147483648) (hdg : decode cc pc = .ok (.lastore, 1))
    (kk : ∀ S1 : Mem, S1 = setJ S q j (x) → ∀ (H1 : Heap) (locs1 : List Loc), Ws D cA α n A H0 S1 H1 locs1 → W p l e R s m args below meth c H1 locs1 cells slots Q (F0 m (pc + 1) ls rest)) : W p l e R s m args below meth c H locs cells slots Q (F0 m pc ls (.long x :: .int i :: .ref (α q) :: rest)) := by
  subst hj
  refine va_last hx hb hK hw.1 hw.2.1 hw.2.2 q 1 (by rw [WL_get hq, he]) rfl (vp_in_nI hjN hN) hdg (fun H1 locs1 h1 h2 h3 => ?_)
  rw [nI_clamp (Nat.lt_trans hjN hN), ← he (S.1 q), WL_setL] at h1 h2
  exact kk _ rfl H1 locs1 ⟨h1, h2, h3⟩
/-- a reference out of an array of references -/
theorem x_aald (hx : p.tables.exec = Jvm.exec) (hb : c.code = cc) (hK : va_K D vwCl (tyl cA) s) (hw : Ws D cA α n A H0 S H locs) (q N t : Nat) (hq : q < n) {C : String} {h : Nat → Nat} (he : ∀ f g, mk cA α q f g = .inl (cA t, N, .inr (.inr (.inr (.inr (fun j => some (h j))))))) (ht : (tyl cA)[t]? = some (cA t, .object C)) {i : Int32} (j : Nat) (hj : i = nI j) (hjN : j < N) (hN : N < 2147483648) (hdg : decode cc pc = .ok (.aaload, 1))
    (kk : W p l e R s m args below meth c H locs cells slots Q (F0 m (pc + 1) ls (.ref (h j) :: rest))) : W p l e R s m args below meth c H locs cells slots Q (F0 m pc ls (.int i :: .ref (α q) :: rest)) := by
  subst hj
  refine va_aldq hx hb hK hw.1 q t (by rw [WL_get hq, he]) ht (vp_in_nI hjN hN) hdg ?_
  rw [nI_clamp (Nat.lt_trans hjN hN)]
  exact kk
/-- System.arraycopy between two cells of the world, of ints -/
theorem x_copyI {own : String} {index : Nat} (hx : p.tables.exec = Jvm.exec) (hb : c.code = cc) (hml : c.maxLocals = ls.size) (hown : s.vm.findClass own = some m.cls) (hlink : (Cond.methodLink own index arraycopyName).before args s = true) (hnat : (Cond.native arraycopyName).before args s = true) (hstat : (Cond.static arraycopyName).before args s = true) (hini : (Cond.initialized "java/lang/System").before args s = true)
    (hK : va_K D vwCl (tyl cA) s) (hw : Ws D cA α n A H0 S H locs) (q0 q1 N0 N1 : Nat) (hq0 : q0 < n) (hq1 : q1 < n) (he0 : ∀ f g, mk cA α q0 f g = .inl (cA 0, N0, .inl f)) (he1 : ∀ f g, mk cA α q1 f g = .inl (cA 0, N1, .inl f)) {i : Int32} (k : Nat) (hk : i = nI k) (h0 : k ≤ N0) (h1 : k ≤ N1) (hN : k < 2147483648)
    (hframes : 1 ≤ R.frames) (hlocals : (rest.map fun v => v.category).sum + (nativeFrameWords "java/lang/System" "arraycopy" 5 + 11) ≤ R.locals) (hdg : decode cc pc = .ok (.invokestatic index, 3))
    (kk : ∀ S1 : Mem, S1 = setR S q1 (va_cpy (S.1 q0) (S.1 q1) 0 0 k) → ∀ (H1 : Heap) (locs1 : List Loc), Ws D cA α n A H0 S1 H1 locs1 → W p l e R s m args below meth c H1 locs1 cells slots Q (F0 m (pc + 3) ls rest)) : W p l e R s m args below meth c H locs cells slots Q (F0 m pc ls (.int i :: .int 0 :: .ref (α q1) :: .int 0 :: .ref (α q0) :: rest)) := by
  subst hk
  refine va_copyi hx hb hml hown hlink hnat hstat hini hK hw.1 hw.2.1 hw.2.2 q0 q1 0 0 (by rw [WL_get hq0, he0]) (by rw [WL_get hq1, he1]) rfl rfl rfl (by decide) (by decide) (nI_pos hN) (by rw [nI_clamp hN]; exact Nat.le_trans (Nat.le_of_eq (Nat.zero_add _)) h0) (by rw [nI_clamp hN]; exact Nat.le_trans (Nat.le_of_eq (Nat.zero_add _)) h1) (fun _ _ => rfl) hframes hlocals hdg (fun H1 locs1 h1 h2 h3 => ?_)
  rw [nI_clamp hN, ← he1 _ (S.2 q1), WL_setR] at h1 h2
  exact kk _ rfl H1 locs1 ⟨h1, h2, h3⟩
theorem x_copyL {own : String} {index : Nat} (hx : p.tables.exec = Jvm.exec) (hb : c.code = cc) (hml : c.maxLocals = ls.size) (hown : s.vm.findClass own = some m.cls) (hlink : (Cond.methodLink own index arraycopyName).before args s = true) (hnat : (Cond.native arraycopyName).before args s = true) (hstat : (Cond.static arraycopyName).before args s = true) (hini : (Cond.initialized "java/lang/System").before args s = true)
    (hK : va_K D vwCl (tyl cA) s) (hw : Ws D cA α n A H0 S H locs) (q0 q1 N0 N1 : Nat) (hq0 : q0 < n) (hq1 : q1 < n) (he0 : ∀ f g, mk cA α q0 f g = .inl (cA 1, N0, .inr (.inl g))) (he1 : ∀ f g, mk cA α q1 f g = .inl (cA 1, N1, .inr (.inl g))) {i : Int32} (k : Nat) (hk : i = nI k) (h0 : k ≤ N0) (h1 : k ≤ N1) (hN : k < 2147483648)
    (hframes : 1 ≤ R.frames) (hlocals : (rest.map fun v => v.category).sum + (nativeFrameWords "java/lang/System" "arraycopy" 5 + 11) ≤ R.locals) (hdg : decode cc pc = .ok (.invokestatic index, 3))
    (kk : ∀ S1 : Mem, S1 = setL S q1 (va_cpy (S.2 q0) (S.2 q1) 0 0 k) → ∀ (H1 : Heap) (locs1 : List Loc), Ws D cA α n A H0 S1 H1 locs1 → W p l e R s m args below meth c H1 locs1 cells slots Q (F0 m (pc + 3) ls rest)) : W p l e R s m args below meth c H locs cells slots Q (F0 m pc ls (.int i :: .int 0 :: .ref (α q1) :: .int 0 :: .ref (α q0) :: rest)) := by
  subst hk
  refine va_copyl hx hb hml hown hlink hnat hstat hini hK hw.1 hw.2.1 hw.2.2 q0 q1 1 1 (by rw [WL_get hq0, he0]) (by rw [WL_get hq1, he1]) rfl rfl rfl (by decide) (by decide) (nI_pos hN) (by rw [nI_clamp hN]; exact Nat.le_trans (Nat.le_of_eq (Nat.zero_add _)) h0) (by rw [nI_clamp hN]; exact Nat.le_trans (Nat.le_of_eq (Nat.zero_add _)) h1) (fun _ _ => rfl) hframes hlocals hdg (fun H1 locs1 h1 h2 h3 => ?_)
  rw [nI_clamp hN, ← he1 (S.1 q1), WL_setL] at h1 h2
  exact kk _ rfl H1 locs1 ⟨h1, h2, h3⟩
theorem aw_lift {α : Nat → Nat} {n : Nat} {A : Nat → Prop} {H0 H : Heap} (hAw : ∀ z, Aw α n H0.size z → A z) (hs : H0.size ≤ H.size) : ∀ z, Aw α n H.size z → A z := fun z h => hAw z (h.elim Or.inl (fun h => Or.inr (Nat.le_trans hs h)))
theorem ws_pw (hK : va_K D vwCl (tyl cA) s) (hw : Ws D cA α n A H0 S H locs) {U : State} (hU : U.heap = H) (hW : s.WarmedH U.vm) : Pw D cA α n S U := ⟨by rw [hU]; exact hw.1, va_K.moved hW.alike hK, WL_D hw.2.1 (fun _ _ => trivial)⟩
theorem ws_recv (hK : va_K D vwCl (tyl cA) s) (hw : Ws D cA α n A H0 S H locs) {q ci : Nat} {z : vw_C} (hq : q < n) (he : ∀ f g, mk cA α q f g = .inr (ci, objF ci α q f g)) (hc : vwCl[ci]? = some z) : ∃ cell : Cell, H[α q]? = some cell ∧ cell.vm.isStatics = false ∧ s.vm.findClass z.1 = some cell.cls := va_recv hK hw.1 hc (q0 := q) (by rw [WL_get hq, he])

theorem x_callVI {y : MethodName} {bytes : ByteArray} {maxL nL k index : Nat} {ret : Option FieldType} {ws : List Cond} {rm : Room} {Ts : List Cond} {own C : String} {As : List Value} {q : Nat} {fr : Int32} {fS : Mem} {st0 : List Value} (X : CallFix p m c cc nL s args Ts own) (hM : CtI l y ws rm D cA α n H.size (.ref (α q) :: As) S fr fS) (cw : CallW R s args own C index y bytes maxL ret ws rm 0 0 k) (hK : va_K D vwCl (tyl cA) s) (hw : Ws D cA α n A H0 S H locs) (hAw : ∀ z, Aw α n H0.size z → A z) (hr : ∃ cell : Cell, H[α q]? = some cell ∧ cell.vm.isStatics = false ∧ s.vm.findClass C = some cell.cls)
    (hn : As.length = k) (hsize : ls.size = nL) (hstack : st0 = As.reverse ++ .ref (α q) :: rest) (hroom : (rest.map fun v => v.category).sum ≤ 8) (hdg : decode cc pc = .ok (.invokevirtual index, 3)) (hf : cells ≤ R.cells ∧ slots ≤ R.slots)
    (kk : ∀ S1 : Mem, S1 = fS → ∀ (H1 : Heap) (locs1 : List Loc), Ws D cA α n A H0 S1 H1 locs1 → W p l e R s m args below meth c H1 locs1 cells slots Q (F0 m (pc + 3) ls (.int fr :: rest))) : W p l e R s m args below meth c H locs cells slots Q (F0 m pc ls st0) := by
  have hlift := aw_lift hAw hw.2.2.1
  refine va_calli (va_runV (As := As) (rest := rest) X hM cw ⟨ct_blind, hr, fun U hU hW => ⟨rfl, by rw [hU], ws_pw hK hw hU hW⟩⟩ rfl hn hsize hstack (lv_room hroom) hdg hf) hw.2.2 (fun z _ h => hlift z h) hlift (fun r u t H1 locs1 ht hvm hw1 hB hz hk hS => ?_)
  obtain ⟨rfl, rfl⟩ := hw1
  exact kk _ rfl H1 locs1 ⟨by rw [← ht]; exact hB.1, WL_D hw.2.1 (fun k hk => hlift _ (Or.inl ⟨k, hk, rfl⟩)), hS⟩
theorem x_callVIr {y : MethodName} {bytes : ByteArray} {maxL nL k index : Nat} {ret : Option FieldType} {ws : List Cond} {rm : Room} {Ts : List Cond} {own C : String} {As : List Value} {q : Nat} {fr : Int32} {st0 : List Value} (X : CallFix p m c cc nL s args Ts own) (hM : CtI l y ws rm D cA α n H.size (.ref (α q) :: As) S fr S) (cw : CallW R s args own C index y bytes maxL ret ws rm 0 0 k) (hK : va_K D vwCl (tyl cA) s) (hw : Ws D cA α n A H0 S H locs) (hAw : ∀ z, Aw α n H0.size z → A z) (hr : ∃ cell : Cell, H[α q]? = some cell ∧ cell.vm.isStatics = false ∧ s.vm.findClass C = some cell.cls)
    (hn : As.length = k) (hsize : ls.size = nL) (hstack : st0 = As.reverse ++ .ref (α q) :: rest) (hroom : (rest.map fun v => v.category).sum ≤ 8) (hdg : decode cc pc = .ok (.invokevirtual index, 3)) (hf : cells ≤ R.cells ∧ slots ≤ R.slots)
    (kk : ∀ (H1 : Heap) (locs1 : List Loc), Ws D cA α n A H0 S H1 locs1 → W p l e R s m args below meth c H1 locs1 cells slots Q (F0 m (pc + 3) ls (.int fr :: rest))) : W p l e R s m args below meth c H locs cells slots Q (F0 m pc ls st0) := by
  have hlift := aw_lift hAw hw.2.2.1
  refine va_calli (va_runV (As := As) (rest := rest) X hM cw ⟨ct_blind, hr, fun U hU hW => ⟨rfl, by rw [hU], ws_pw hK hw hU hW⟩⟩ rfl hn hsize hstack (lv_room hroom) hdg hf) hw.2.2 (fun z _ h => hlift z h) hlift (fun r u t H1 locs1 ht hvm hw1 hB hz hk hS => ?_)
  obtain ⟨rfl, rfl⟩ := hw1
  exact kk H1 locs1 ⟨by rw [← ht]; exact hB.1, WL_D hw.2.1 (fun k hk => hlift _ (Or.inl ⟨k, hk, rfl⟩)), hS⟩
theorem x_callVL {y : MethodName} {bytes : ByteArray} {maxL nL k index : Nat} {ret : Option FieldType} {ws : List Cond} {rm : Room} {Ts : List Cond} {own C : String} {As : List Value} {q : Nat} {fr : Int64} {fS : Mem} {st0 : List Value} (X : CallFix p m c cc nL s args Ts own) (hM : CtL l y ws rm D cA α n H.size (.ref (α q) :: As) S fr fS) (cw : CallW R s args own C index y bytes maxL ret ws rm 0 0 k) (hK : va_K D vwCl (tyl cA) s) (hw : Ws D cA α n A H0 S H locs) (hAw : ∀ z, Aw α n H0.size z → A z) (hr : ∃ cell : Cell, H[α q]? = some cell ∧ cell.vm.isStatics = false ∧ s.vm.findClass C = some cell.cls)
    (hn : As.length = k) (hsize : ls.size = nL) (hstack : st0 = As.reverse ++ .ref (α q) :: rest) (hroom : (rest.map fun v => v.category).sum ≤ 8) (hdg : decode cc pc = .ok (.invokevirtual index, 3)) (hf : cells ≤ R.cells ∧ slots ≤ R.slots)
    (kk : ∀ S1 : Mem, S1 = fS → ∀ (H1 : Heap) (locs1 : List Loc), Ws D cA α n A H0 S1 H1 locs1 → W p l e R s m args below meth c H1 locs1 cells slots Q (F0 m (pc + 3) ls (.long fr :: rest))) : W p l e R s m args below meth c H locs cells slots Q (F0 m pc ls st0) := by
  have hlift := aw_lift hAw hw.2.2.1
  refine va_calll (va_runV (As := As) (rest := rest) X hM cw ⟨ct_blind, hr, fun U hU hW => ⟨rfl, by rw [hU], ws_pw hK hw hU hW⟩⟩ rfl hn hsize hstack (lv_room hroom) hdg hf) hw.2.2 (fun z _ h => hlift z h) hlift (fun r u t H1 locs1 ht hvm hw1 hB hz hk hS => ?_)
  obtain ⟨rfl, rfl⟩ := hw1
  exact kk _ rfl H1 locs1 ⟨by rw [← ht]; exact hB.1, WL_D hw.2.1 (fun k hk => hlift _ (Or.inl ⟨k, hk, rfl⟩)), hS⟩
theorem x_callVLr {y : MethodName} {bytes : ByteArray} {maxL nL k index : Nat} {ret : Option FieldType} {ws : List Cond} {rm : Room} {Ts : List Cond} {own C : String} {As : List Value} {q : Nat} {fr : Int64} {st0 : List Value} (X : CallFix p m c cc nL s args Ts own) (hM : CtL l y ws rm D cA α n H.size (.ref (α q) :: As) S fr S) (cw : CallW R s args own C index y bytes maxL ret ws rm 0 0 k) (hK : va_K D vwCl (tyl cA) s) (hw : Ws D cA α n A H0 S H locs) (hAw : ∀ z, Aw α n H0.size z → A z) (hr : ∃ cell : Cell, H[α q]? = some cell ∧ cell.vm.isStatics = false ∧ s.vm.findClass C = some cell.cls)
    (hn : As.length = k) (hsize : ls.size = nL) (hstack : st0 = As.reverse ++ .ref (α q) :: rest) (hroom : (rest.map fun v => v.category).sum ≤ 8) (hdg : decode cc pc = .ok (.invokevirtual index, 3)) (hf : cells ≤ R.cells ∧ slots ≤ R.slots)
    (kk : ∀ (H1 : Heap) (locs1 : List Loc), Ws D cA α n A H0 S H1 locs1 → W p l e R s m args below meth c H1 locs1 cells slots Q (F0 m (pc + 3) ls (.long fr :: rest))) : W p l e R s m args below meth c H locs cells slots Q (F0 m pc ls st0) := by
  have hlift := aw_lift hAw hw.2.2.1
  refine va_calll (va_runV (As := As) (rest := rest) X hM cw ⟨ct_blind, hr, fun U hU hW => ⟨rfl, by rw [hU], ws_pw hK hw hU hW⟩⟩ rfl hn hsize hstack (lv_room hroom) hdg hf) hw.2.2 (fun z _ h => hlift z h) hlift (fun r u t H1 locs1 ht hvm hw1 hB hz hk hS => ?_)
  obtain ⟨rfl, rfl⟩ := hw1
  exact kk H1 locs1 ⟨by rw [← ht]; exact hB.1, WL_D hw.2.1 (fun k hk => hlift _ (Or.inl ⟨k, hk, rfl⟩)), hS⟩
theorem x_callVV {y : MethodName} {bytes : ByteArray} {maxL nL k index : Nat} {ret : Option FieldType} {ws : List Cond} {rm : Room} {Ts : List Cond} {own C : String} {As : List Value} {q : Nat} {fS : Mem} {st0 : List Value} (X : CallFix p m c cc nL s args Ts own) (hM : CtV l y ws rm D cA α n H.size (.ref (α q) :: As) S fS) (cw : CallW R s args own C index y bytes maxL ret ws rm 0 0 k) (hK : va_K D vwCl (tyl cA) s) (hw : Ws D cA α n A H0 S H locs) (hAw : ∀ z, Aw α n H0.size z → A z) (hr : ∃ cell : Cell, H[α q]? = some cell ∧ cell.vm.isStatics = false ∧ s.vm.findClass C = some cell.cls)
    (hn : As.length = k) (hsize : ls.size = nL) (hstack : st0 = As.reverse ++ .ref (α q) :: rest) (hroom : (rest.map fun v => v.category).sum ≤ 8) (hdg : decode cc pc = .ok (.invokevirtual index, 3)) (hf : cells ≤ R.cells ∧ slots ≤ R.slots)
    (kk : ∀ S1 : Mem, S1 = fS → ∀ (H1 : Heap) (locs1 : List Loc), Ws D cA α n A H0 S1 H1 locs1 → W p l e R s m args below meth c H1 locs1 cells slots Q (F0 m (pc + 3) ls rest)) : W p l e R s m args below meth c H locs cells slots Q (F0 m pc ls st0) := by
  have hlift := aw_lift hAw hw.2.2.1
  refine va_callv (va_runV (As := As) (rest := rest) X hM cw ⟨ct_blind, hr, fun U hU hW => ⟨rfl, by rw [hU], ws_pw hK hw hU hW⟩⟩ rfl hn hsize hstack (lv_room hroom) hdg hf) hw.2.2 (fun z _ h => hlift z h) hlift (fun u t H1 locs1 ht hvm hw1 hB hz hk hS => ?_)
  obtain rfl := hw1
  exact kk _ rfl H1 locs1 ⟨by rw [← ht]; exact hB.1, WL_D hw.2.1 (fun k hk => hlift _ (Or.inl ⟨k, hk, rfl⟩)), hS⟩
theorem x_callVVr {y : MethodName} {bytes : ByteArray} {maxL nL k index : Nat} {ret : Option FieldType} {ws : List Cond} {rm : Room} {Ts : List Cond} {own C : String} {As : List Value} {q : Nat} {st0 : List Value} (X : CallFix p m c cc nL s args Ts own) (hM : CtV l y ws rm D cA α n H.size (.ref (α q) :: As) S S) (cw : CallW R s args own C index y bytes maxL ret ws rm 0 0 k) (hK : va_K D vwCl (tyl cA) s) (hw : Ws D cA α n A H0 S H locs) (hAw : ∀ z, Aw α n H0.size z → A z) (hr : ∃ cell : Cell, H[α q]? = some cell ∧ cell.vm.isStatics = false ∧ s.vm.findClass C = some cell.cls)
    (hn : As.length = k) (hsize : ls.size = nL) (hstack : st0 = As.reverse ++ .ref (α q) :: rest) (hroom : (rest.map fun v => v.category).sum ≤ 8) (hdg : decode cc pc = .ok (.invokevirtual index, 3)) (hf : cells ≤ R.cells ∧ slots ≤ R.slots)
    (kk : ∀ (H1 : Heap) (locs1 : List Loc), Ws D cA α n A H0 S H1 locs1 → W p l e R s m args below meth c H1 locs1 cells slots Q (F0 m (pc + 3) ls rest)) : W p l e R s m args below meth c H locs cells slots Q (F0 m pc ls st0) := by
  have hlift := aw_lift hAw hw.2.2.1
  refine va_callv (va_runV (As := As) (rest := rest) X hM cw ⟨ct_blind, hr, fun U hU hW => ⟨rfl, by rw [hU], ws_pw hK hw hU hW⟩⟩ rfl hn hsize hstack (lv_room hroom) hdg hf) hw.2.2 (fun z _ h => hlift z h) hlift (fun u t H1 locs1 ht hvm hw1 hB hz hk hS => ?_)
  obtain rfl := hw1
  exact kk H1 locs1 ⟨by rw [← ht]; exact hB.1, WL_D hw.2.1 (fun k hk => hlift _ (Or.inl ⟨k, hk, rfl⟩)), hS⟩
theorem x_callSI {y : MethodName} {bytes : ByteArray} {maxL nL k index : Nat} {ret : Option FieldType} {ws : List Cond} {rm : Room} {Ts : List Cond} {own C : String} {As : List Value} {q : Nat} {fr : Int32} {fS : Mem} {st0 : List Value} (X : CallFix p m c cc nL s args Ts own) (hM : CtI l y ws rm D cA α n H.size As S fr fS) (cw : CallB R s args own index y bytes maxL ret ws rm 0 0 k ∧ (Cond.static y).before args s = true) (hK : va_K D vwCl (tyl cA) s) (hw : Ws D cA α n A H0 S H locs) (hAw : ∀ z, Aw α n H0.size z → A z)
    (hn : As.length = k) (hsize : ls.size = nL) (hstack : st0 = As.reverse ++ rest) (hroom : (rest.map fun v => v.category).sum ≤ 8) (hdg : decode cc pc = .ok (.invokestatic index, 3)) (hf : cells ≤ R.cells ∧ slots ≤ R.slots)
    (kk : ∀ S1 : Mem, S1 = fS → ∀ (H1 : Heap) (locs1 : List Loc), Ws D cA α n A H0 S1 H1 locs1 → W p l e R s m args below meth c H1 locs1 cells slots Q (F0 m (pc + 3) ls (.int fr :: rest))) : W p l e R s m args below meth c H locs cells slots Q (F0 m pc ls st0) := by
  have hlift := aw_lift hAw hw.2.2.1
  refine va_calli (va_runS (As := As) (rest := rest) X hM cw ⟨ct_blind, fun U hU hW => ⟨rfl, by rw [hU], ws_pw hK hw hU hW⟩⟩ rfl hn hsize hstack (lv_room hroom) hdg hf) hw.2.2 (fun z _ h => hlift z h) hlift (fun r u t H1 locs1 ht hvm hw1 hB hz hk hS => ?_)
  obtain ⟨rfl, rfl⟩ := hw1
  exact kk _ rfl H1 locs1 ⟨by rw [← ht]; exact hB.1, WL_D hw.2.1 (fun k hk => hlift _ (Or.inl ⟨k, hk, rfl⟩)), hS⟩
theorem x_callSIr {y : MethodName} {bytes : ByteArray} {maxL nL k index : Nat} {ret : Option FieldType} {ws : List Cond} {rm : Room} {Ts : List Cond} {own C : String} {As : List Value} {q : Nat} {fr : Int32} {st0 : List Value} (X : CallFix p m c cc nL s args Ts own) (hM : CtI l y ws rm D cA α n H.size As S fr S) (cw : CallB R s args own index y bytes maxL ret ws rm 0 0 k ∧ (Cond.static y).before args s = true) (hK : va_K D vwCl (tyl cA) s) (hw : Ws D cA α n A H0 S H locs) (hAw : ∀ z, Aw α n H0.size z → A z)
    (hn : As.length = k) (hsize : ls.size = nL) (hstack : st0 = As.reverse ++ rest) (hroom : (rest.map fun v => v.category).sum ≤ 8) (hdg : decode cc pc = .ok (.invokestatic index, 3)) (hf : cells ≤ R.cells ∧ slots ≤ R.slots)
    (kk : ∀ (H1 : Heap) (locs1 : List Loc), Ws D cA α n A H0 S H1 locs1 → W p l e R s m args below meth c H1 locs1 cells slots Q (F0 m (pc + 3) ls (.int fr :: rest))) : W p l e R s m args below meth c H locs cells slots Q (F0 m pc ls st0) := by
  have hlift := aw_lift hAw hw.2.2.1
  refine va_calli (va_runS (As := As) (rest := rest) X hM cw ⟨ct_blind, fun U hU hW => ⟨rfl, by rw [hU], ws_pw hK hw hU hW⟩⟩ rfl hn hsize hstack (lv_room hroom) hdg hf) hw.2.2 (fun z _ h => hlift z h) hlift (fun r u t H1 locs1 ht hvm hw1 hB hz hk hS => ?_)
  obtain ⟨rfl, rfl⟩ := hw1
  exact kk H1 locs1 ⟨by rw [← ht]; exact hB.1, WL_D hw.2.1 (fun k hk => hlift _ (Or.inl ⟨k, hk, rfl⟩)), hS⟩
theorem x_callSL {y : MethodName} {bytes : ByteArray} {maxL nL k index : Nat} {ret : Option FieldType} {ws : List Cond} {rm : Room} {Ts : List Cond} {own C : String} {As : List Value} {q : Nat} {fr : Int64} {fS : Mem} {st0 : List Value} (X : CallFix p m c cc nL s args Ts own) (hM : CtL l y ws rm D cA α n H.size As S fr fS) (cw : CallB R s args own index y bytes maxL ret ws rm 0 0 k ∧ (Cond.static y).before args s = true) (hK : va_K D vwCl (tyl cA) s) (hw : Ws D cA α n A H0 S H locs) (hAw : ∀ z, Aw α n H0.size z → A z)
    (hn : As.length = k) (hsize : ls.size = nL) (hstack : st0 = As.reverse ++ rest) (hroom : (rest.map fun v => v.category).sum ≤ 8) (hdg : decode cc pc = .ok (.invokestatic index, 3)) (hf : cells ≤ R.cells ∧ slots ≤ R.slots)
    (kk : ∀ S1 : Mem, S1 = fS → ∀ (H1 : Heap) (locs1 : List Loc), Ws D cA α n A H0 S1 H1 locs1 → W p l e R s m args below meth c H1 locs1 cells slots Q (F0 m (pc + 3) ls (.long fr :: rest))) : W p l e R s m args below meth c H locs cells slots Q (F0 m pc ls st0) := by
  have hlift := aw_lift hAw hw.2.2.1
  refine va_calll (va_runS (As := As) (rest := rest) X hM cw ⟨ct_blind, fun U hU hW => ⟨rfl, by rw [hU], ws_pw hK hw hU hW⟩⟩ rfl hn hsize hstack (lv_room hroom) hdg hf) hw.2.2 (fun z _ h => hlift z h) hlift (fun r u t H1 locs1 ht hvm hw1 hB hz hk hS => ?_)
  obtain ⟨rfl, rfl⟩ := hw1
  exact kk _ rfl H1 locs1 ⟨by rw [← ht]; exact hB.1, WL_D hw.2.1 (fun k hk => hlift _ (Or.inl ⟨k, hk, rfl⟩)), hS⟩
theorem x_callSLr {y : MethodName} {bytes : ByteArray} {maxL nL k index : Nat} {ret : Option FieldType} {ws : List Cond} {rm : Room} {Ts : List Cond} {own C : String} {As : List Value} {q : Nat} {fr : Int64} {st0 : List Value} (X : CallFix p m c cc nL s args Ts own) (hM : CtL l y ws rm D cA α n H.size As S fr S) (cw : CallB R s args own index y bytes maxL ret ws rm 0 0 k ∧ (Cond.static y).before args s = true) (hK : va_K D vwCl (tyl cA) s) (hw : Ws D cA α n A H0 S H locs) (hAw : ∀ z, Aw α n H0.size z → A z)
    (hn : As.length = k) (hsize : ls.size = nL) (hstack : st0 = As.reverse ++ rest) (hroom : (rest.map fun v => v.category).sum ≤ 8) (hdg : decode cc pc = .ok (.invokestatic index, 3)) (hf : cells ≤ R.cells ∧ slots ≤ R.slots)
    (kk : ∀ (H1 : Heap) (locs1 : List Loc), Ws D cA α n A H0 S H1 locs1 → W p l e R s m args below meth c H1 locs1 cells slots Q (F0 m (pc + 3) ls (.long fr :: rest))) : W p l e R s m args below meth c H locs cells slots Q (F0 m pc ls st0) := by
  have hlift := aw_lift hAw hw.2.2.1
  refine va_calll (va_runS (As := As) (rest := rest) X hM cw ⟨ct_blind, fun U hU hW => ⟨rfl, by rw [hU], ws_pw hK hw hU hW⟩⟩ rfl hn hsize hstack (lv_room hroom) hdg hf) hw.2.2 (fun z _ h => hlift z h) hlift (fun r u t H1 locs1 ht hvm hw1 hB hz hk hS => ?_)
  obtain ⟨rfl, rfl⟩ := hw1
  exact kk H1 locs1 ⟨by rw [← ht]; exact hB.1, WL_D hw.2.1 (fun k hk => hlift _ (Or.inl ⟨k, hk, rfl⟩)), hS⟩
theorem x_callSV {y : MethodName} {bytes : ByteArray} {maxL nL k index : Nat} {ret : Option FieldType} {ws : List Cond} {rm : Room} {Ts : List Cond} {own C : String} {As : List Value} {q : Nat} {fS : Mem} {st0 : List Value} (X : CallFix p m c cc nL s args Ts own) (hM : CtV l y ws rm D cA α n H.size As S fS) (cw : CallB R s args own index y bytes maxL ret ws rm 0 0 k ∧ (Cond.static y).before args s = true) (hK : va_K D vwCl (tyl cA) s) (hw : Ws D cA α n A H0 S H locs) (hAw : ∀ z, Aw α n H0.size z → A z)
    (hn : As.length = k) (hsize : ls.size = nL) (hstack : st0 = As.reverse ++ rest) (hroom : (rest.map fun v => v.category).sum ≤ 8) (hdg : decode cc pc = .ok (.invokestatic index, 3)) (hf : cells ≤ R.cells ∧ slots ≤ R.slots)
    (kk : ∀ S1 : Mem, S1 = fS → ∀ (H1 : Heap) (locs1 : List Loc), Ws D cA α n A H0 S1 H1 locs1 → W p l e R s m args below meth c H1 locs1 cells slots Q (F0 m (pc + 3) ls rest)) : W p l e R s m args below meth c H locs cells slots Q (F0 m pc ls st0) := by
  have hlift := aw_lift hAw hw.2.2.1
  refine va_callv (va_runS (As := As) (rest := rest) X hM cw ⟨ct_blind, fun U hU hW => ⟨rfl, by rw [hU], ws_pw hK hw hU hW⟩⟩ rfl hn hsize hstack (lv_room hroom) hdg hf) hw.2.2 (fun z _ h => hlift z h) hlift (fun u t H1 locs1 ht hvm hw1 hB hz hk hS => ?_)
  obtain rfl := hw1
  exact kk _ rfl H1 locs1 ⟨by rw [← ht]; exact hB.1, WL_D hw.2.1 (fun k hk => hlift _ (Or.inl ⟨k, hk, rfl⟩)), hS⟩
theorem x_callSVr {y : MethodName} {bytes : ByteArray} {maxL nL k index : Nat} {ret : Option FieldType} {ws : List Cond} {rm : Room} {Ts : List Cond} {own C : String} {As : List Value} {q : Nat} {st0 : List Value} (X : CallFix p m c cc nL s args Ts own) (hM : CtV l y ws rm D cA α n H.size As S S) (cw : CallB R s args own index y bytes maxL ret ws rm 0 0 k ∧ (Cond.static y).before args s = true) (hK : va_K D vwCl (tyl cA) s) (hw : Ws D cA α n A H0 S H locs) (hAw : ∀ z, Aw α n H0.size z → A z)
    (hn : As.length = k) (hsize : ls.size = nL) (hstack : st0 = As.reverse ++ rest) (hroom : (rest.map fun v => v.category).sum ≤ 8) (hdg : decode cc pc = .ok (.invokestatic index, 3)) (hf : cells ≤ R.cells ∧ slots ≤ R.slots)
    (kk : ∀ (H1 : Heap) (locs1 : List Loc), Ws D cA α n A H0 S H1 locs1 → W p l e R s m args below meth c H1 locs1 cells slots Q (F0 m (pc + 3) ls rest)) : W p l e R s m args below meth c H locs cells slots Q (F0 m pc ls st0) := by
  have hlift := aw_lift hAw hw.2.2.1
  refine va_callv (va_runS (As := As) (rest := rest) X hM cw ⟨ct_blind, fun U hU hW => ⟨rfl, by rw [hU], ws_pw hK hw hU hW⟩⟩ rfl hn hsize hstack (lv_room hroom) hdg hf) hw.2.2 (fun z _ h => hlift z h) hlift (fun u t H1 locs1 ht hvm hw1 hB hz hk hS => ?_)
  obtain rfl := hw1
  exact kk H1 locs1 ⟨by rw [← ht]; exact hB.1, WL_D hw.2.1 (fun k hk => hlift _ (Or.inl ⟨k, hk, rfl⟩)), hS⟩
end FR
def b2i (b : Bool) : Int32 := if b then 1 else 0
theorem b2i_0 (b : Bool) : b2i b = 0 ↔ b = false := by cases b <;> simp [b2i]
def gN (x : Int32) : Nat := x.toNatClampNeg
def okI (x : Int32) (n : Nat) : Prop := x = nI (gN x) ∧ gN x < n
section FR2
variable {p : Program} {l : Launch} {e : Env} {R : Room} {s : State} {m : MethodId} {args : Array Value} {below : List Frame} {meth : Method} {c : Code} {H : Heap} {locs : List Loc} {cells slots : Nat} {Q : State → Prop}
variable {cc : ByteArray} {pc : Nat} {ls : Array Slot} {rest : List Value}
theorem x_lcmp_lt (hx : p.tables.exec = Jvm.exec) (hb : c.code = cc) {x y : Int64} {off : Int} {tgt : Nat} (hd1 : decode cc pc = .ok (.lcmp, 1)) (hdg : decode cc (pc + 1) = .ok (.ifCond .lt off, 3)) (ht : ((pc + 1 : Nat) : Int) + off = (tgt : Int)) (kt : x < y → W p l e R s m args below meth c H locs cells slots Q (F0 m tgt ls rest)) (kf : ¬ x < y → W p l e R s m args below meth c H locs cells slots Q (F0 m (pc + 1 + 3) ls rest)) : W p l e R s m args below meth c H locs cells slots Q (F0 m pc ls (.long y :: .long x :: rest)) :=
  W.lcmp hx hb hd1 (lv_if_lt hx hb hdg ht (fun h => kt ((lg_cmp_lt x y).mp h)) (fun h => kf (fun h2 => h ((lg_cmp_lt x y).mpr h2))))
theorem x_lcmp_eq (hx : p.tables.exec = Jvm.exec) (hb : c.code = cc) {x y : Int64} {off : Int} {tgt : Nat} (hd1 : decode cc pc = .ok (.lcmp, 1)) (hdg : decode cc (pc + 1) = .ok (.ifCond .eq off, 3)) (ht : ((pc + 1 : Nat) : Int) + off = (tgt : Int)) (kt : x = y → W p l e R s m args below meth c H locs cells slots Q (F0 m tgt ls rest)) (kf : ¬ x = y → W p l e R s m args below meth c H locs cells slots Q (F0 m (pc + 1 + 3) ls rest)) : W p l e R s m args below meth c H locs cells slots Q (F0 m pc ls (.long y :: .long x :: rest)) :=
  W.lcmp hx hb hd1 (lv_if_eq hx hb hdg ht (fun h => kt ((lg_cmp_eq x y).mp h)) (fun h => kf (fun h2 => h ((lg_cmp_eq x y).mpr h2))))
theorem x_lcmp_gt (hx : p.tables.exec = Jvm.exec) (hb : c.code = cc) {x y : Int64} {off : Int} {tgt : Nat} (hd1 : decode cc pc = .ok (.lcmp, 1)) (hdg : decode cc (pc + 1) = .ok (.ifCond .gt off, 3)) (ht : ((pc + 1 : Nat) : Int) + off = (tgt : Int)) (kt : y < x → W p l e R s m args below meth c H locs cells slots Q (F0 m tgt ls rest)) (kf : ¬ y < x → W p l e R s m args below meth c H locs cells slots Q (F0 m (pc + 1 + 3) ls rest)) : W p l e R s m args below meth c H locs cells slots Q (F0 m pc ls (.long y :: .long x :: rest)) :=
  W.lcmp hx hb hd1 (lv_if_gt hx hb hdg ht (fun h => kt ((lg_cmp_gt x y).mp h)) (fun h => kf (fun h2 => h ((lg_cmp_gt x y).mpr h2))))
theorem x_lcmp_ge (hx : p.tables.exec = Jvm.exec) (hb : c.code = cc) {x y : Int64} {off : Int} {tgt : Nat} (hd1 : decode cc pc = .ok (.lcmp, 1)) (hdg : decode cc (pc + 1) = .ok (.ifCond .ge off, 3)) (ht : ((pc + 1 : Nat) : Int) + off = (tgt : Int)) (kt : y ≤ x → W p l e R s m args below meth c H locs cells slots Q (F0 m tgt ls rest)) (kf : ¬ y ≤ x → W p l e R s m args below meth c H locs cells slots Q (F0 m (pc + 1 + 3) ls rest)) : W p l e R s m args below meth c H locs cells slots Q (F0 m pc ls (.long y :: .long x :: rest)) :=
  W.lcmp hx hb hd1 (lv_if_ge hx hb hdg ht (fun h => kt ((lg_cmp_ge x y).mp h)) (fun h => kf (fun h2 => h ((lg_cmp_ge x y).mpr h2))))
theorem x_lcmp_le (hx : p.tables.exec = Jvm.exec) (hb : c.code = cc) {x y : Int64} {off : Int} {tgt : Nat} (hd1 : decode cc pc = .ok (.lcmp, 1)) (hdg : decode cc (pc + 1) = .ok (.ifCond .le off, 3)) (ht : ((pc + 1 : Nat) : Int) + off = (tgt : Int)) (kt : x ≤ y → W p l e R s m args below meth c H locs cells slots Q (F0 m tgt ls rest)) (kf : ¬ x ≤ y → W p l e R s m args below meth c H locs cells slots Q (F0 m (pc + 1 + 3) ls rest)) : W p l e R s m args below meth c H locs cells slots Q (F0 m pc ls (.long y :: .long x :: rest)) :=
  W.lcmp hx hb hd1 (lv_if_le hx hb hdg ht (fun h => kt ((lg_cmp_le x y).mp h)) (fun h => kf (fun h2 => h ((lg_cmp_le x y).mpr h2))))
theorem x_lcmp_ne (hx : p.tables.exec = Jvm.exec) (hb : c.code = cc) {x y : Int64} {off : Int} {tgt : Nat} (hd1 : decode cc pc = .ok (.lcmp, 1)) (hdg : decode cc (pc + 1) = .ok (.ifCond .ne off, 3)) (ht : ((pc + 1 : Nat) : Int) + off = (tgt : Int)) (kt : ¬ x = y → W p l e R s m args below meth c H locs cells slots Q (F0 m tgt ls rest)) (kf : x = y → W p l e R s m args below meth c H locs cells slots Q (F0 m (pc + 1 + 3) ls rest)) : W p l e R s m args below meth c H locs cells slots Q (F0 m pc ls (.long y :: .long x :: rest)) :=
  W.lcmp hx hb hd1 (lv_if_ne hx hb hdg ht (fun h => kt (fun h2 => h ((lg_cmp_eq x y).mpr h2))) (fun h => kf ((lg_cmp_eq x y).mp h)))
theorem xb_eq (hx : p.tables.exec = Jvm.exec) (hb : c.code = cc) {b : Bool} {off : Int} {tgt : Nat} (hdg : decode cc pc = .ok (.ifCond .eq off, 3)) (ht : (pc : Int) + off = (tgt : Int)) (kt : b = false → W p l e R s m args below meth c H locs cells slots Q (F0 m tgt ls rest)) (kf : b = true → W p l e R s m args below meth c H locs cells slots Q (F0 m (pc + 3) ls rest)) : W p l e R s m args below meth c H locs cells slots Q (F0 m pc ls (.int (b2i b) :: rest)) :=
  lv_if_eq hx hb hdg ht (fun h => kt ((b2i_0 b).mp h)) (fun h => kf (by cases b with | true => rfl | false => exact absurd rfl h))
theorem xb_ne (hx : p.tables.exec = Jvm.exec) (hb : c.code = cc) {b : Bool} {off : Int} {tgt : Nat} (hdg : decode cc pc = .ok (.ifCond .ne off, 3)) (ht : (pc : Int) + off = (tgt : Int)) (kt : b = true → W p l e R s m args below meth c H locs cells slots Q (F0 m tgt ls rest)) (kf : b = false → W p l e R s m args below meth c H locs cells slots Q (F0 m (pc + 3) ls rest)) : W p l e R s m args below meth c H locs cells slots Q (F0 m pc ls (.int (b2i b) :: rest)) :=
  lv_if_ne hx hb hdg ht (fun h => kt (by cases b with | true => rfl | false => exact absurd rfl h)) (fun h => kf ((b2i_0 b).mp h))
theorem xn_iadd (hx : p.tables.exec = Jvm.exec) (hb : c.code = cc) {a b : Nat} (hdg : decode cc pc = .ok (.iadd, 1)) (k : W p l e R s m args below meth c H locs cells slots Q (F0 m (pc + 1) ls (.int (nI (a + b)) :: rest))) : W p l e R s m args below meth c H locs cells slots Q (F0 m pc ls (.int (nI b) :: .int (nI a) :: rest)) :=
  lv_iadd hx hb hdg (by rw [nI_add]; exact k)
theorem xn_imul (hx : p.tables.exec = Jvm.exec) (hb : c.code = cc) {a b : Nat} (hdg : decode cc pc = .ok (.imul, 1)) (k : W p l e R s m args below meth c H locs cells slots Q (F0 m (pc + 1) ls (.int (nI (a * b)) :: rest))) : W p l e R s m args below meth c H locs cells slots Q (F0 m pc ls (.int (nI b) :: .int (nI a) :: rest)) :=
  lv_imul hx hb hdg (by rw [pk_mul]; exact k)
theorem xn_isub (hx : p.tables.exec = Jvm.exec) (hb : c.code = cc) {a b : Nat} (h : b ≤ a) (hdg : decode cc pc = .ok (.isub, 1)) (k : W p l e R s m args below meth c H locs cells slots Q (F0 m (pc + 1) ls (.int (nI (a - b)) :: rest))) : W p l e R s m args below meth c H locs cells slots Q (F0 m pc ls (.int (nI b) :: .int (nI a) :: rest)) :=
  lv_isub hx hb hdg (by rw [pk_sub h]; exact k)
theorem x_topN {x : Int32} {k : Nat} (h : x = nI k) (kk : W p l e R s m args below meth c H locs cells slots Q (F0 m pc ls (.int (nI k) :: rest))) : W p l e R s m args below meth c H locs cells slots Q (F0 m pc ls (.int x :: rest)) := by
  rw [h]; exact kk
theorem x_topE {x y : Int32} (h : x = y) (kk : W p l e R s m args below meth c H locs cells slots Q (F0 m pc ls (.int y :: rest))) : W p l e R s m args below meth c H locs cells slots Q (F0 m pc ls (.int x :: rest)) := by
  rw [h]; exact kk
theorem x_topEL {x y : Int64} (h : x = y) (kk : W p l e R s m args below meth c H locs cells slots Q (F0 m pc ls (.long y :: rest))) : W p l e R s m args below meth c H locs cells slots Q (F0 m pc ls (.long x :: rest)) := by
  rw [h]; exact kk
end FR2
