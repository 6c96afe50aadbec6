/-! THE WORLD: one memory for the class and the reference: int arrays (booleans too), long arrays, int fields, long fields; 48 cells at the addresses ad 0 .. ad 47 -/
abbrev gE : Type := (Nat → ClassId) × (Nat → Nat → Nat) × ClassId × ClassId × ClassId
abbrev gD (g : gE) : va_G := (g.1, g.2.1)
abbrev gtys (g : gE) : List (ClassId × FieldType) := [(g.2.2.1, .int), (g.2.2.2.1, .long), (g.2.2.2.2, .boolean)]
abbrev Me : Type := (Nat → Nat → Int32) × (Nat → Nat → Int64) × (Nat → Int32) × (Nat → Int64)
def mA (u : Me) (c : Nat) : Nat → Int32 := u.1 c
def mJ (u : Me) (c : Nat) : Nat → Int64 := u.2.1 c
def mI (u : Me) (k : Nat) : Int32 := u.2.2.1 k
def mL (u : Me) (k : Nat) : Int64 := u.2.2.2 k
def sA (u : Me) (c : Nat) (f : Nat → Int32) : Me := (va_up u.1 c f, u.2.1, u.2.2.1, u.2.2.2)
def sJ (u : Me) (c : Nat) (f : Nat → Int64) : Me := (u.1, va_up u.2.1 c f, u.2.2.1, u.2.2.2)
def sI (u : Me) (k : Nat) (v : Int32) : Me := (u.1, u.2.1, va_up u.2.2.1 k v, u.2.2.2)
def sL (u : Me) (k : Nat) (v : Int64) : Me := (u.1, u.2.1, u.2.2.1, va_up u.2.2.2 k v)
theorem mA_sA (u : Me) (c : Nat) (f : Nat → Int32) (d : Nat) : mA (sA u c f) d = if d = c then f else mA u d := rfl
theorem mA_sA_self (u : Me) (c : Nat) (f : Nat → Int32) : mA (sA u c f) c = f := if_pos rfl
theorem mA_sA_ne (u : Me) {c : Nat} (f : Nat → Int32) {d : Nat} (h : ¬ d = c) : mA (sA u c f) d = mA u d := if_neg h
theorem mA_sJ (u : Me) (c : Nat) (f : Nat → Int64) (d : Nat) : mA (sJ u c f) d = mA u d := rfl
theorem mA_sI (u : Me) (c : Nat) (f : Int32) (d : Nat) : mA (sI u c f) d = mA u d := rfl
theorem mA_sL (u : Me) (c : Nat) (f : Int64) (d : Nat) : mA (sL u c f) d = mA u d := rfl
theorem mJ_sA (u : Me) (c : Nat) (f : Nat → Int32) (d : Nat) : mJ (sA u c f) d = mJ u d := rfl
theorem mJ_sJ (u : Me) (c : Nat) (f : Nat → Int64) (d : Nat) : mJ (sJ u c f) d = if d = c then f else mJ u d := rfl
theorem mJ_sJ_self (u : Me) (c : Nat) (f : Nat → Int64) : mJ (sJ u c f) c = f := if_pos rfl
theorem mJ_sJ_ne (u : Me) {c : Nat} (f : Nat → Int64) {d : Nat} (h : ¬ d = c) : mJ (sJ u c f) d = mJ u d := if_neg h
theorem mJ_sI (u : Me) (c : Nat) (f : Int32) (d : Nat) : mJ (sI u c f) d = mJ u d := rfl
theorem mJ_sL (u : Me) (c : Nat) (f : Int64) (d : Nat) : mJ (sL u c f) d = mJ u d := rfl
theorem mI_sA (u : Me) (c : Nat) (f : Nat → Int32) (d : Nat) : mI (sA u c f) d = mI u d := rfl
theorem mI_sJ (u : Me) (c : Nat) (f : Nat → Int64) (d : Nat) : mI (sJ u c f) d = mI u d := rfl
theorem mI_sI (u : Me) (c : Nat) (f : Int32) (d : Nat) : mI (sI u c f) d = if d = c then f else mI u d := rfl
theorem mI_sI_self (u : Me) (c : Nat) (f : Int32) : mI (sI u c f) c = f := if_pos rfl
theorem mI_sI_ne (u : Me) {c : Nat} (f : Int32) {d : Nat} (h : ¬ d = c) : mI (sI u c f) d = mI u d := if_neg h
theorem mI_sL (u : Me) (c : Nat) (f : Int64) (d : Nat) : mI (sL u c f) d = mI u d := rfl
theorem mL_sA (u : Me) (c : Nat) (f : Nat → Int32) (d : Nat) : mL (sA u c f) d = mL u d := rfl
theorem mL_sJ (u : Me) (c : Nat) (f : Nat → Int64) (d : Nat) : mL (sJ u c f) d = mL u d := rfl
theorem mL_sI (u : Me) (c : Nat) (f : Int32) (d : Nat) : mL (sI u c f) d = mL u d := rfl
theorem mL_sL (u : Me) (c : Nat) (f : Int64) (d : Nat) : mL (sL u c f) d = if d = c then f else mL u d := rfl
theorem mL_sL_self (u : Me) (c : Nat) (f : Int64) : mL (sL u c f) c = f := if_pos rfl
theorem mL_sL_ne (u : Me) {c : Nat} (f : Int64) {d : Nat} (h : ¬ d = c) : mL (sL u c f) d = mL u d := if_neg h
def cW (g : gE) (ad : Nat → Nat) (u : Me) : Nat → Nat × va_E
  | 0 => (ad 0, .inr (7, [.ref (ad 1), .ref (ad 3), .ref (ad 7), .ref (ad 11), .ref (ad 13), .ref (ad 22), .ref (ad 27), .ref (ad 33), .ref (ad 34), .ref (ad 35)]))
  | 1 => (ad 1, .inr (0, [.ref (ad 2), .long (mL u 0), .long (mL u 1)]))
  | 2 => (ad 2, .inl (g.2.2.1, 9, .inl (mA u 2)))
  | 3 => (ad 3, .inr (2, [.ref (ad 4), .ref (ad 5), .ref (ad 6), .int (mI u 0)]))
  | 4 => (ad 4, .inl (g.2.2.1, 12, .inl (mA u 4)))
  | 5 => (ad 5, .inl (g.2.2.1, 48, .inl (mA u 5)))
  | 6 => (ad 6, .inl (g.2.2.1, 144, .inl (mA u 6)))
  | 7 => (ad 7, .inr (5, [.ref (ad 8), .ref (ad 9), .ref (ad 10)]))
  | 8 => (ad 8, .inl (g.2.2.1, 4, .inl (mA u 8)))
  | 9 => (ad 9, .inl (g.2.2.1, 4, .inl (mA u 9)))
  | 10 => (ad 10, .inl (g.2.2.1, 240, .inl (mA u 10)))
  | 11 => (ad 11, .inr (1, [.ref (ad 12)]))
  | 12 => (ad 12, .inl (g.2.2.1, 16, .inl (mA u 12)))
  | 13 => (ad 13, .inr (3, [.ref (ad 14), .ref (ad 15), .ref (ad 16), .ref (ad 17), .ref (ad 32)]))
  | 14 => (ad 14, .inl (g.2.2.1, 48, .inl (mA u 14)))
  | 15 => (ad 15, .inl (g.2.2.2.1, 48, .inr (.inl (mJ u 15))))
  | 16 => (ad 16, .inl (g.2.2.2.1, 48, .inr (.inl (mJ u 16))))
  | 17 => (ad 17, .inr (6, [.ref (ad 18), .ref (ad 19), .ref (ad 20), .ref (ad 21), .int (mI u 1), .int (mI u 2)]))
  | 18 => (ad 18, .inl (g.2.2.1, 16, .inl (mA u 18)))
  | 19 => (ad 19, .inl (g.2.2.1, 16, .inl (mA u 19)))
  | 20 => (ad 20, .inl (g.2.2.1, 16, .inl (mA u 20)))
  | 21 => (ad 21, .inl (g.2.2.1, 16, .inl (mA u 21)))
  | 22 => (ad 22, .inr (6, [.ref (ad 23), .ref (ad 24), .ref (ad 25), .ref (ad 26), .int (mI u 3), .int (mI u 4)]))
  | 23 => (ad 23, .inl (g.2.2.1, 16, .inl (mA u 23)))
  | 24 => (ad 24, .inl (g.2.2.1, 16, .inl (mA u 24)))
  | 25 => (ad 25, .inl (g.2.2.1, 16, .inl (mA u 25)))
  | 26 => (ad 26, .inl (g.2.2.1, 16, .inl (mA u 26)))
  | 27 => (ad 27, .inr (6, [.ref (ad 28), .ref (ad 29), .ref (ad 30), .ref (ad 31), .int (mI u 5), .int (mI u 6)]))
  | 28 => (ad 28, .inl (g.2.2.1, 16, .inl (mA u 28)))
  | 29 => (ad 29, .inl (g.2.2.1, 16, .inl (mA u 29)))
  | 30 => (ad 30, .inl (g.2.2.1, 16, .inl (mA u 30)))
  | 31 => (ad 31, .inl (g.2.2.1, 16, .inl (mA u 31)))
  | 32 => (ad 32, .inr (4, [.long (mL u 2), .long (mL u 3)]))
  | 33 => (ad 33, .inr (4, [.long (mL u 4), .long (mL u 5)]))
  | 34 => (ad 34, .inr (4, [.long (mL u 6), .long (mL u 7)]))
  | 35 => (ad 35, .inl (g.2.2.1, 12, .inl (mA u 35)))
  | 36 => (ad 36, .inr (8, [.ref (ad 37), .int (mI u 7), .int (mI u 8), .int (mI u 9), .ref (ad 38), .ref (ad 39), .ref (ad 40), .ref (ad 41), .ref (ad 42), .ref (ad 43), .ref (ad 44), .ref (ad 45), .int (mI u 10), .int (mI u 11), .long (mL u 8), .long (mL u 9), .ref (ad 46), .int (mI u 12), .long (mL u 10), .long (mL u 11), .ref (ad 47)]))
  | 37 => (ad 37, .inl (g.2.2.1, 9, .inl (mA u 37)))
  | 38 => (ad 38, .inl (g.2.2.1, 12, .inl (mA u 38)))
  | 39 => (ad 39, .inl (g.2.2.1, 48, .inl (mA u 39)))
  | 40 => (ad 40, .inl (g.2.2.1, 144, .inl (mA u 40)))
  | 41 => (ad 41, .inl (g.2.2.1, 4, .inl (mA u 41)))
  | 42 => (ad 42, .inl (g.2.2.1, 4, .inl (mA u 42)))
  | 43 => (ad 43, .inl (g.2.2.1, 240, .inl (mA u 43)))
  | 44 => (ad 44, .inl (g.2.2.1, 17, .inl (mA u 44)))
  | 45 => (ad 45, .inl (g.2.2.1, 16, .inl (mA u 45)))
  | 46 => (ad 46, .inl (g.2.2.2.2, 16, .inl (mA u 46)))
  | 47 => (ad 47, .inl (g.2.2.1, 12, .inl (mA u 47)))
  | c + 48 => (ad c, .inr (0, []))
def WW (g : gE) (ad : Nat → Nat) (u : Me) : va_W := (List.range 48).map (cW g ad u)
theorem WW_get {g : gE} {ad : Nat → Nat} {u : Me} {c : Nat} (h : c < 48) : (WW g ad u)[c]? = some (cW g ad u c) := by
  unfold WW; rw [List.getElem?_map, List.getElem?_range h]; rfl
theorem WW_set {g : gE} {ad : Nat → Nat} {u v : Me} {c : Nat} {q : Nat × va_E} (hq : cW g ad v c = q) (hne : ∀ d, ¬ d = c → cW g ad v d = cW g ad u d) : (WW g ad u).set c q = WW g ad v := by
  apply List.ext_getElem?
  intro i
  rw [List.getElem?_set]
  unfold WW
  simp only [List.getElem?_map, List.length_map, List.length_range]
  by_cases hi : i < 48
  · rw [List.getElem?_range hi]
    by_cases hc : c = i
    · subst hc; simp [hi, hq]
    · rw [if_neg hc]; simp only [Option.map_some]; rw [hne i (fun e => hc e.symm)]
  · have h9 : (List.range 48)[i]? = none := by simp; omega
    rw [h9]
    by_cases hc : c = i
    · subst hc; simp [hi]
    · rw [if_neg hc]; rfl
/-- cell c is an int array of n places -/
def isI (c n : Nat) : Prop := c < 48 ∧ ∀ (g : gE) (ad : Nat → Nat) (u : Me), cW g ad u c = (ad c, .inl (g.2.2.1, n, .inl (mA u c)))
def isJ (c n : Nat) : Prop := c < 48 ∧ ∀ (g : gE) (ad : Nat → Nat) (u : Me), cW g ad u c = (ad c, .inl (g.2.2.2.1, n, .inr (.inl (mJ u c))))
def isZ (c n : Nat) : Prop := c < 48 ∧ ∀ (g : gE) (ad : Nat → Nat) (u : Me), cW g ad u c = (ad c, .inl (g.2.2.2.2, n, .inl (mA u c)))
/-- cell c is an object of kind ci with the fields fs -/
def isO (c ci : Nat) (fs : (Nat → Nat) → Me → List Value) : Prop := c < 48 ∧ ∀ (g : gE) (ad : Nat → Nat) (u : Me), cW g ad u c = (ad c, .inr (ci, fs ad u))
def fs_0 : (Nat → Nat) → Me → List Value := fun ad u => [.ref (ad 1), .ref (ad 3), .ref (ad 7), .ref (ad 11), .ref (ad 13), .ref (ad 22), .ref (ad 27), .ref (ad 33), .ref (ad 34), .ref (ad 35)]
theorem k_0 : isO 0 7 fs_0 := ⟨by decide, fun _ _ _ => rfl⟩
def fs_1 : (Nat → Nat) → Me → List Value := fun ad u => [.ref (ad 2), .long (mL u 0), .long (mL u 1)]
theorem k_1 : isO 1 0 fs_1 := ⟨by decide, fun _ _ _ => rfl⟩
theorem k_2 : isI 2 9 := ⟨by decide, fun _ _ _ => rfl⟩
def fs_3 : (Nat → Nat) → Me → List Value := fun ad u => [.ref (ad 4), .ref (ad 5), .ref (ad 6), .int (mI u 0)]
theorem k_3 : isO 3 2 fs_3 := ⟨by decide, fun _ _ _ => rfl⟩
theorem k_4 : isI 4 12 := ⟨by decide, fun _ _ _ => rfl⟩
theorem k_5 : isI 5 48 := ⟨by decide, fun _ _ _ => rfl⟩
theorem k_6 : isI 6 144 := ⟨by decide, fun _ _ _ => rfl⟩
def fs_7 : (Nat → Nat) → Me → List Value := fun ad u => [.ref (ad 8), .ref (ad 9), .ref (ad 10)]
theorem k_7 : isO 7 5 fs_7 := ⟨by decide, fun _ _ _ => rfl⟩
theorem k_8 : isI 8 4 := ⟨by decide, fun _ _ _ => rfl⟩
theorem k_9 : isI 9 4 := ⟨by decide, fun _ _ _ => rfl⟩
theorem k_10 : isI 10 240 := ⟨by decide, fun _ _ _ => rfl⟩
def fs_11 : (Nat → Nat) → Me → List Value := fun ad u => [.ref (ad 12)]
theorem k_11 : isO 11 1 fs_11 := ⟨by decide, fun _ _ _ => rfl⟩
theorem k_12 : isI 12 16 := ⟨by decide, fun _ _ _ => rfl⟩
def fs_13 : (Nat → Nat) → Me → List Value := fun ad u => [.ref (ad 14), .ref (ad 15), .ref (ad 16), .ref (ad 17), .ref (ad 32)]
theorem k_13 : isO 13 3 fs_13 := ⟨by decide, fun _ _ _ => rfl⟩
theorem k_14 : isI 14 48 := ⟨by decide, fun _ _ _ => rfl⟩
theorem k_15 : isJ 15 48 := ⟨by decide, fun _ _ _ => rfl⟩
theorem k_16 : isJ 16 48 := ⟨by decide, fun _ _ _ => rfl⟩
def fs_17 : (Nat → Nat) → Me → List Value := fun ad u => [.ref (ad 18), .ref (ad 19), .ref (ad 20), .ref (ad 21), .int (mI u 1), .int (mI u 2)]
theorem k_17 : isO 17 6 fs_17 := ⟨by decide, fun _ _ _ => rfl⟩
theorem k_18 : isI 18 16 := ⟨by decide, fun _ _ _ => rfl⟩
theorem k_19 : isI 19 16 := ⟨by decide, fun _ _ _ => rfl⟩
theorem k_20 : isI 20 16 := ⟨by decide, fun _ _ _ => rfl⟩
theorem k_21 : isI 21 16 := ⟨by decide, fun _ _ _ => rfl⟩
def fs_22 : (Nat → Nat) → Me → List Value := fun ad u => [.ref (ad 23), .ref (ad 24), .ref (ad 25), .ref (ad 26), .int (mI u 3), .int (mI u 4)]
theorem k_22 : isO 22 6 fs_22 := ⟨by decide, fun _ _ _ => rfl⟩
theorem k_23 : isI 23 16 := ⟨by decide, fun _ _ _ => rfl⟩
theorem k_24 : isI 24 16 := ⟨by decide, fun _ _ _ => rfl⟩
theorem k_25 : isI 25 16 := ⟨by decide, fun _ _ _ => rfl⟩
theorem k_26 : isI 26 16 := ⟨by decide, fun _ _ _ => rfl⟩
def fs_27 : (Nat → Nat) → Me → List Value := fun ad u => [.ref (ad 28), .ref (ad 29), .ref (ad 30), .ref (ad 31), .int (mI u 5), .int (mI u 6)]
theorem k_27 : isO 27 6 fs_27 := ⟨by decide, fun _ _ _ => rfl⟩
theorem k_28 : isI 28 16 := ⟨by decide, fun _ _ _ => rfl⟩
theorem k_29 : isI 29 16 := ⟨by decide, fun _ _ _ => rfl⟩
theorem k_30 : isI 30 16 := ⟨by decide, fun _ _ _ => rfl⟩
theorem k_31 : isI 31 16 := ⟨by decide, fun _ _ _ => rfl⟩
def fs_32 : (Nat → Nat) → Me → List Value := fun ad u => [.long (mL u 2), .long (mL u 3)]
theorem k_32 : isO 32 4 fs_32 := ⟨by decide, fun _ _ _ => rfl⟩
def fs_33 : (Nat → Nat) → Me → List Value := fun ad u => [.long (mL u 4), .long (mL u 5)]
theorem k_33 : isO 33 4 fs_33 := ⟨by decide, fun _ _ _ => rfl⟩
def fs_34 : (Nat → Nat) → Me → List Value := fun ad u => [.long (mL u 6), .long (mL u 7)]
theorem k_34 : isO 34 4 fs_34 := ⟨by decide, fun _ _ _ => rfl⟩
theorem k_35 : isI 35 12 := ⟨by decide, fun _ _ _ => rfl⟩
def fs_36 : (Nat → Nat) → Me → List Value := fun ad u => [.ref (ad 37), .int (mI u 7), .int (mI u 8), .int (mI u 9), .ref (ad 38), .ref (ad 39), .ref (ad 40), .ref (ad 41), .ref (ad 42), .ref (ad 43), .ref (ad 44), .ref (ad 45), .int (mI u 10), .int (mI u 11), .long (mL u 8), .long (mL u 9), .ref (ad 46), .int (mI u 12), .long (mL u 10), .long (mL u 11), .ref (ad 47)]
theorem k_36 : isO 36 8 fs_36 := ⟨by decide, fun _ _ _ => rfl⟩
theorem k_37 : isI 37 9 := ⟨by decide, fun _ _ _ => rfl⟩
theorem k_38 : isI 38 12 := ⟨by decide, fun _ _ _ => rfl⟩
theorem k_39 : isI 39 48 := ⟨by decide, fun _ _ _ => rfl⟩
theorem k_40 : isI 40 144 := ⟨by decide, fun _ _ _ => rfl⟩
theorem k_41 : isI 41 4 := ⟨by decide, fun _ _ _ => rfl⟩
theorem k_42 : isI 42 4 := ⟨by decide, fun _ _ _ => rfl⟩
theorem k_43 : isI 43 240 := ⟨by decide, fun _ _ _ => rfl⟩
theorem k_44 : isI 44 17 := ⟨by decide, fun _ _ _ => rfl⟩
theorem k_45 : isI 45 16 := ⟨by decide, fun _ _ _ => rfl⟩
theorem k_46 : isZ 46 16 := ⟨by decide, fun _ _ _ => rfl⟩
theorem k_47 : isI 47 12 := ⟨by decide, fun _ _ _ => rfl⟩
theorem x3 {P : Nat → Prop} (h0 : P 0) (h1 : P 1) (h2 : P 2) {x : Nat} (h : x < 3) : P x := by
  rcases (show x = 0 ∨ x = 1 ∨ x = 2 by omega) with rfl | rfl | rfl <;> assumption
theorem k_w1 {x : Nat} (h : x < 3) : isI (18 + 5 * x) 16 := x3 (P := fun x => isI (18 + 5 * x) 16) k_18 k_23 k_28 h
theorem k_w2 {x : Nat} (h : x < 3) : isI (19 + 5 * x) 16 := x3 (P := fun x => isI (19 + 5 * x) 16) k_19 k_24 k_29 h
theorem k_w3 {x : Nat} (h : x < 3) : isI (20 + 5 * x) 16 := x3 (P := fun x => isI (20 + 5 * x) 16) k_20 k_25 k_30 h
theorem k_w4 {x : Nat} (h : x < 3) : isI (21 + 5 * x) 16 := x3 (P := fun x => isI (21 + 5 * x) 16) k_21 k_26 k_31 h
def fs_w (x : Nat) : (Nat → Nat) → Me → List Value := fun ad u => [.ref (ad (18 + 5 * x)), .ref (ad (19 + 5 * x)), .ref (ad (20 + 5 * x)), .ref (ad (21 + 5 * x)), .int (mI u (1 + 2 * x)), .int (mI u (2 + 2 * x))]
theorem k_w {x : Nat} (h : x < 3) : isO (17 + 5 * x) 6 (fs_w x) := x3 (P := fun x => isO (17 + 5 * x) 6 (fs_w x)) k_17 k_22 k_27 h
def fs_r (y : Nat) : (Nat → Nat) → Me → List Value := fun ad u => [.long (mL u (2 + 2 * y)), .long (mL u (3 + 2 * y))]
theorem k_r {y : Nat} (h : y < 3) : isO (32 + y) 4 (fs_r y) := x3 (P := fun y => isO (32 + y) 4 (fs_r y)) k_32 k_33 k_34 h
theorem cW_sA (g : gE) (ad : Nat → Nat) (u : Me) (c : Nat) (f : Nat → Int32) : ∀ d, ¬ d = c → cW g ad (sA u c f) d = cW g ad u d
  | 0, _ => rfl
  | 1, _ => rfl
  | 2, h => by show ((ad 2, .inl (g.2.2.1, 9, .inl (mA (sA u c f) 2))) : Nat × va_E) = _; rw [mA_sA_ne u f h]; rfl
  | 3, _ => rfl
  | 4, h => by show ((ad 4, .inl (g.2.2.1, 12, .inl (mA (sA u c f) 4))) : Nat × va_E) = _; rw [mA_sA_ne u f h]; rfl
  | 5, h => by show ((ad 5, .inl (g.2.2.1, 48, .inl (mA (sA u c f) 5))) : Nat × va_E) = _; rw [mA_sA_ne u f h]; rfl
  | 6, h => by show ((ad 6, .inl (g.2.2.1, 144, .inl (mA (sA u c f) 6))) : Nat × va_E) = _; rw [mA_sA_ne u f h]; rfl
  | 7, _ => rfl
  | 8, h => by show ((ad 8, .inl (g.2.2.1, 4, .inl (mA (sA u c f) 8))) : Nat × va_E) = _; rw [mA_sA_ne u f h]; rfl
  | 9, h => by show ((ad 9, .inl (g.2.2.1, 4, .inl (mA (sA u c f) 9))) : Nat × va_E) = _; rw [mA_sA_ne u f h]; rfl
  | 10, h => by show ((ad 10, .inl (g.2.2.1, 240, .inl (mA (sA u c f) 10))) : Nat × va_E) = _; rw [mA_sA_ne u f h]; rfl
  | 11, _ => rfl
  | 12, h => by show ((ad 12, .inl (g.2.2.1, 16, .inl (mA (sA u c f) 12))) : Nat × va_E) = _; rw [mA_sA_ne u f h]; rfl
  | 13, _ => rfl
  | 14, h => by show ((ad 14, .inl (g.2.2.1, 48, .inl (mA (sA u c f) 14))) : Nat × va_E) = _; rw [mA_sA_ne u f h]; rfl
  | 15, _ => rfl
  | 16, _ => rfl
  | 17, _ => rfl
  | 18, h => by show ((ad 18, .inl (g.2.2.1, 16, .inl (mA (sA u c f) 18))) : Nat × va_E) = _; rw [mA_sA_ne u f h]; rfl
  | 19, h => by show ((ad 19, .inl (g.2.2.1, 16, .inl (mA (sA u c f) 19))) : Nat × va_E) = _; rw [mA_sA_ne u f h]; rfl
  | 20, h => by show ((ad 20, .inl (g.2.2.1, 16, .inl (mA (sA u c f) 20))) : Nat × va_E) = _; rw [mA_sA_ne u f h]; rfl
  | 21, h => by show ((ad 21, .inl (g.2.2.1, 16, .inl (mA (sA u c f) 21))) : Nat × va_E) = _; rw [mA_sA_ne u f h]; rfl
  | 22, _ => rfl
  | 23, h => by show ((ad 23, .inl (g.2.2.1, 16, .inl (mA (sA u c f) 23))) : Nat × va_E) = _; rw [mA_sA_ne u f h]; rfl
  | 24, h => by show ((ad 24, .inl (g.2.2.1, 16, .inl (mA (sA u c f) 24))) : Nat × va_E) = _; rw [mA_sA_ne u f h]; rfl
  | 25, h => by show ((ad 25, .inl (g.2.2.1, 16, .inl (mA (sA u c f) 25))) : Nat × va_E) = _; rw [mA_sA_ne u f h]; rfl
  | 26, h => by show ((ad 26, .inl (g.2.2.1, 16, .inl (mA (sA u c f) 26))) : Nat × va_E) = _; rw [mA_sA_ne u f h]; rfl
  | 27, _ => rfl
  | 28, h => by show ((ad 28, .inl (g.2.2.1, 16, .inl (mA (sA u c f) 28))) : Nat × va_E) = _; rw [mA_sA_ne u f h]; rfl
  | 29, h => by show ((ad 29, .inl (g.2.2.1, 16, .inl (mA (sA u c f) 29))) : Nat × va_E) = _; rw [mA_sA_ne u f h]; rfl
  | 30, h => by show ((ad 30, .inl (g.2.2.1, 16, .inl (mA (sA u c f) 30))) : Nat × va_E) = _; rw [mA_sA_ne u f h]; rfl
  | 31, h => by show ((ad 31, .inl (g.2.2.1, 16, .inl (mA (sA u c f) 31))) : Nat × va_E) = _; rw [mA_sA_ne u f h]; rfl
  | 32, _ => rfl
  | 33, _ => rfl
  | 34, _ => rfl
  | 35, h => by show ((ad 35, .inl (g.2.2.1, 12, .inl (mA (sA u c f) 35))) : Nat × va_E) = _; rw [mA_sA_ne u f h]; rfl
  | 36, _ => rfl
  | 37, h => by show ((ad 37, .inl (g.2.2.1, 9, .inl (mA (sA u c f) 37))) : Nat × va_E) = _; rw [mA_sA_ne u f h]; rfl
  | 38, h => by show ((ad 38, .inl (g.2.2.1, 12, .inl (mA (sA u c f) 38))) : Nat × va_E) = _; rw [mA_sA_ne u f h]; rfl
  | 39, h => by show ((ad 39, .inl (g.2.2.1, 48, .inl (mA (sA u c f) 39))) : Nat × va_E) = _; rw [mA_sA_ne u f h]; rfl
  | 40, h => by show ((ad 40, .inl (g.2.2.1, 144, .inl (mA (sA u c f) 40))) : Nat × va_E) = _; rw [mA_sA_ne u f h]; rfl
  | 41, h => by show ((ad 41, .inl (g.2.2.1, 4, .inl (mA (sA u c f) 41))) : Nat × va_E) = _; rw [mA_sA_ne u f h]; rfl
  | 42, h => by show ((ad 42, .inl (g.2.2.1, 4, .inl (mA (sA u c f) 42))) : Nat × va_E) = _; rw [mA_sA_ne u f h]; rfl
  | 43, h => by show ((ad 43, .inl (g.2.2.1, 240, .inl (mA (sA u c f) 43))) : Nat × va_E) = _; rw [mA_sA_ne u f h]; rfl
  | 44, h => by show ((ad 44, .inl (g.2.2.1, 17, .inl (mA (sA u c f) 44))) : Nat × va_E) = _; rw [mA_sA_ne u f h]; rfl
  | 45, h => by show ((ad 45, .inl (g.2.2.1, 16, .inl (mA (sA u c f) 45))) : Nat × va_E) = _; rw [mA_sA_ne u f h]; rfl
  | 46, h => by show ((ad 46, .inl (g.2.2.2.2, 16, .inl (mA (sA u c f) 46))) : Nat × va_E) = _; rw [mA_sA_ne u f h]; rfl
  | 47, h => by show ((ad 47, .inl (g.2.2.1, 12, .inl (mA (sA u c f) 47))) : Nat × va_E) = _; rw [mA_sA_ne u f h]; rfl
  | d + 48, _ => rfl
theorem cW_sJ (g : gE) (ad : Nat → Nat) (u : Me) (c : Nat) (f : Nat → Int64) : ∀ d, ¬ d = c → cW g ad (sJ u c f) d = cW g ad u d
  | 0, _ => rfl
  | 1, _ => rfl
  | 2, _ => rfl
  | 3, _ => rfl
  | 4, _ => rfl
  | 5, _ => rfl
  | 6, _ => rfl
  | 7, _ => rfl
  | 8, _ => rfl
  | 9, _ => rfl
  | 10, _ => rfl
  | 11, _ => rfl
  | 12, _ => rfl
  | 13, _ => rfl
  | 14, _ => rfl
  | 15, h => by show ((ad 15, .inl (g.2.2.2.1, 48, .inr (.inl (mJ (sJ u c f) 15)))) : Nat × va_E) = _; rw [mJ_sJ_ne u f h]; rfl
  | 16, h => by show ((ad 16, .inl (g.2.2.2.1, 48, .inr (.inl (mJ (sJ u c f) 16)))) : Nat × va_E) = _; rw [mJ_sJ_ne u f h]; rfl
  | 17, _ => rfl
  | 18, _ => rfl
  | 19, _ => rfl
  | 20, _ => rfl
  | 21, _ => rfl
  | 22, _ => rfl
  | 23, _ => rfl
  | 24, _ => rfl
  | 25, _ => rfl
  | 26, _ => rfl
  | 27, _ => rfl
  | 28, _ => rfl
  | 29, _ => rfl
  | 30, _ => rfl
  | 31, _ => rfl
  | 32, _ => rfl
  | 33, _ => rfl
  | 34, _ => rfl
  | 35, _ => rfl
  | 36, _ => rfl
  | 37, _ => rfl
  | 38, _ => rfl
  | 39, _ => rfl
  | 40, _ => rfl
  | 41, _ => rfl
  | 42, _ => rfl
  | 43, _ => rfl
  | 44, _ => rfl
  | 45, _ => rfl
  | 46, _ => rfl
  | 47, _ => rfl
  | d + 48, _ => rfl
theorem set_A {c n : Nat} (h : isI c n) (g : gE) (ad : Nat → Nat) (u : Me) (f : Nat → Int32) : (WW g ad u).set c (ad c, .inl (g.2.2.1, n, .inl f)) = WW g ad (sA u c f) := WW_set (by rw [h.2 g ad (sA u c f), mA_sA_self]) (cW_sA g ad u c f)
theorem set_Z {c n : Nat} (h : isZ c n) (g : gE) (ad : Nat → Nat) (u : Me) (f : Nat → Int32) : (WW g ad u).set c (ad c, .inl (g.2.2.2.2, n, .inl f)) = WW g ad (sA u c f) := WW_set (by rw [h.2 g ad (sA u c f), mA_sA_self]) (cW_sA g ad u c f)
theorem set_J {c n : Nat} (h : isJ c n) (g : gE) (ad : Nat → Nat) (u : Me) (f : Nat → Int64) : (WW g ad u).set c (ad c, .inl (g.2.2.2.1, n, .inr (.inl f))) = WW g ad (sJ u c f) := WW_set (by rw [h.2 g ad (sJ u c f), mJ_sJ_self]) (cW_sJ g ad u c f)
theorem cW_sI0 (g : gE) (ad : Nat → Nat) (u : Me) (v : Int32) : ∀ d, ¬ d = 3 → cW g ad (sI u 0 v) d = cW g ad u d
  | 0, _ => rfl
  | 1, _ => rfl
  | 2, _ => rfl
  | 3, h => absurd rfl h
  | 4, _ => rfl
  | 5, _ => rfl
  | 6, _ => rfl
  | 7, _ => rfl
  | 8, _ => rfl
  | 9, _ => rfl
  | 10, _ => rfl
  | 11, _ => rfl
  | 12, _ => rfl
  | 13, _ => rfl
  | 14, _ => rfl
  | 15, _ => rfl
  | 16, _ => rfl
  | 17, _ => rfl
  | 18, _ => rfl
  | 19, _ => rfl
  | 20, _ => rfl
  | 21, _ => rfl
  | 22, _ => rfl
  | 23, _ => rfl
  | 24, _ => rfl
  | 25, _ => rfl
  | 26, _ => rfl
  | 27, _ => rfl
  | 28, _ => rfl
  | 29, _ => rfl
  | 30, _ => rfl
  | 31, _ => rfl
  | 32, _ => rfl
  | 33, _ => rfl
  | 34, _ => rfl
  | 35, _ => rfl
  | 36, _ => rfl
  | 37, _ => rfl
  | 38, _ => rfl
  | 39, _ => rfl
  | 40, _ => rfl
  | 41, _ => rfl
  | 42, _ => rfl
  | 43, _ => rfl
  | 44, _ => rfl
  | 45, _ => rfl
  | 46, _ => rfl
  | 47, _ => rfl
  | d + 48, _ => rfl
theorem cW_sI1 (g : gE) (ad : Nat → Nat) (u : Me) (v : Int32) : ∀ d, ¬ d = 17 → cW g ad (sI u 1 v) d = cW g ad u d
  | 0, _ => rfl
  | 1, _ => rfl
  | 2, _ => rfl
  | 3, _ => rfl
  | 4, _ => rfl
  | 5, _ => rfl
  | 6, _ => rfl
  | 7, _ => rfl
  | 8, _ => rfl
  | 9, _ => rfl
  | 10, _ => rfl
  | 11, _ => rfl
  | 12, _ => rfl
  | 13, _ => rfl
  | 14, _ => rfl
  | 15, _ => rfl
  | 16, _ => rfl
  | 17, h => absurd rfl h
  | 18, _ => rfl
  | 19, _ => rfl
  | 20, _ => rfl
  | 21, _ => rfl
  | 22, _ => rfl
  | 23, _ => rfl
  | 24, _ => rfl
  | 25, _ => rfl
  | 26, _ => rfl
  | 27, _ => rfl
  | 28, _ => rfl
  | 29, _ => rfl
  | 30, _ => rfl
  | 31, _ => rfl
  | 32, _ => rfl
  | 33, _ => rfl
  | 34, _ => rfl
  | 35, _ => rfl
  | 36, _ => rfl
  | 37, _ => rfl
  | 38, _ => rfl
  | 39, _ => rfl
  | 40, _ => rfl
  | 41, _ => rfl
  | 42, _ => rfl
  | 43, _ => rfl
  | 44, _ => rfl
  | 45, _ => rfl
  | 46, _ => rfl
  | 47, _ => rfl
  | d + 48, _ => rfl
theorem cW_sI2 (g : gE) (ad : Nat → Nat) (u : Me) (v : Int32) : ∀ d, ¬ d = 17 → cW g ad (sI u 2 v) d = cW g ad u d
  | 0, _ => rfl
  | 1, _ => rfl
  | 2, _ => rfl
  | 3, _ => rfl
  | 4, _ => rfl
  | 5, _ => rfl
  | 6, _ => rfl
  | 7, _ => rfl
  | 8, _ => rfl
  | 9, _ => rfl
  | 10, _ => rfl
  | 11, _ => rfl
  | 12, _ => rfl
  | 13, _ => rfl
  | 14, _ => rfl
  | 15, _ => rfl
  | 16, _ => rfl
  | 17, h => absurd rfl h
  | 18, _ => rfl
  | 19, _ => rfl
  | 20, _ => rfl
  | 21, _ => rfl
  | 22, _ => rfl
  | 23, _ => rfl
  | 24, _ => rfl
  | 25, _ => rfl
  | 26, _ => rfl
  | 27, _ => rfl
  | 28, _ => rfl
  | 29, _ => rfl
  | 30, _ => rfl
  | 31, _ => rfl
  | 32, _ => rfl
  | 33, _ => rfl
  | 34, _ => rfl
  | 35, _ => rfl
  | 36, _ => rfl
  | 37, _ => rfl
  | 38, _ => rfl
  | 39, _ => rfl
  | 40, _ => rfl
  | 41, _ => rfl
  | 42, _ => rfl
  | 43, _ => rfl
  | 44, _ => rfl
  | 45, _ => rfl
  | 46, _ => rfl
  | 47, _ => rfl
  | d + 48, _ => rfl
theorem cW_sI3 (g : gE) (ad : Nat → Nat) (u : Me) (v : Int32) : ∀ d, ¬ d = 22 → cW g ad (sI u 3 v) d = cW g ad u d
  | 0, _ => rfl
  | 1, _ => rfl
  | 2, _ => rfl
  | 3, _ => rfl
  | 4, _ => rfl
  | 5, _ => rfl
  | 6, _ => rfl
  | 7, _ => rfl
  | 8, _ => rfl
  | 9, _ => rfl
  | 10, _ => rfl
  | 11, _ => rfl
  | 12, _ => rfl
  | 13, _ => rfl
  | 14, _ => rfl
  | 15, _ => rfl
  | 16, _ => rfl
  | 17, _ => rfl
  | 18, _ => rfl
  | 19, _ => rfl
  | 20, _ => rfl
  | 21, _ => rfl
  | 22, h => absurd rfl h
  | 23, _ => rfl
  | 24, _ => rfl
  | 25, _ => rfl
  | 26, _ => rfl
  | 27, _ => rfl
  | 28, _ => rfl
  | 29, _ => rfl
  | 30, _ => rfl
  | 31, _ => rfl
  | 32, _ => rfl
  | 33, _ => rfl
  | 34, _ => rfl
  | 35, _ => rfl
  | 36, _ => rfl
  | 37, _ => rfl
  | 38, _ => rfl
  | 39, _ => rfl
  | 40, _ => rfl
  | 41, _ => rfl
  | 42, _ => rfl
  | 43, _ => rfl
  | 44, _ => rfl
  | 45, _ => rfl
  | 46, _ => rfl
  | 47, _ => rfl
  | d + 48, _ => rfl
theorem cW_sI4 (g : gE) (ad : Nat → Nat) (u : Me) (v : Int32) : ∀ d, ¬ d = 22 → cW g ad (sI u 4 v) d = cW g ad u d
  | 0, _ => rfl
  | 1, _ => rfl
  | 2, _ => rfl
  | 3, _ => rfl
  | 4, _ => rfl
  | 5, _ => rfl
  | 6, _ => rfl
  | 7, _ => rfl
  | 8, _ => rfl
  | 9, _ => rfl
  | 10, _ => rfl
  | 11, _ => rfl
  | 12, _ => rfl
  | 13, _ => rfl
  | 14, _ => rfl
  | 15, _ => rfl
  | 16, _ => rfl
  | 17, _ => rfl
  | 18, _ => rfl
  | 19, _ => rfl
  | 20, _ => rfl
  | 21, _ => rfl
  | 22, h => absurd rfl h
  | 23, _ => rfl
  | 24, _ => rfl
  | 25, _ => rfl
  | 26, _ => rfl
  | 27, _ => rfl
  | 28, _ => rfl
  | 29, _ => rfl
  | 30, _ => rfl
  | 31, _ => rfl
  | 32, _ => rfl
  | 33, _ => rfl
  | 34, _ => rfl
  | 35, _ => rfl
  | 36, _ => rfl
  | 37, _ => rfl
  | 38, _ => rfl
  | 39, _ => rfl
  | 40, _ => rfl
  | 41, _ => rfl
  | 42, _ => rfl
  | 43, _ => rfl
  | 44, _ => rfl
  | 45, _ => rfl
  | 46, _ => rfl
  | 47, _ => rfl
  | d + 48, _ => rfl
theorem cW_sI5 (g : gE) (ad : Nat → Nat) (u : Me) (v : Int32) : ∀ d, ¬ d = 27 → cW g ad (sI u 5 v) d = cW g ad u d
  | 0, _ => rfl
  | 1, _ => rfl
  | 2, _ => rfl
  | 3, _ => rfl
  | 4, _ => rfl
  | 5, _ => rfl
  | 6, _ => rfl
  | 7, _ => rfl
  | 8, _ => rfl
  | 9, _ => rfl
  | 10, _ => rfl
  | 11, _ => rfl
  | 12, _ => rfl
  | 13, _ => rfl
  | 14, _ => rfl
  | 15, _ => rfl
  | 16, _ => rfl
  | 17, _ => rfl
  | 18, _ => rfl
  | 19, _ => rfl
  | 20, _ => rfl
  | 21, _ => rfl
  | 22, _ => rfl
  | 23, _ => rfl
  | 24, _ => rfl
  | 25, _ => rfl
  | 26, _ => rfl
  | 27, h => absurd rfl h
  | 28, _ => rfl
  | 29, _ => rfl
  | 30, _ => rfl
  | 31, _ => rfl
  | 32, _ => rfl
  | 33, _ => rfl
  | 34, _ => rfl
  | 35, _ => rfl
  | 36, _ => rfl
  | 37, _ => rfl
  | 38, _ => rfl
  | 39, _ => rfl
  | 40, _ => rfl
  | 41, _ => rfl
  | 42, _ => rfl
  | 43, _ => rfl
  | 44, _ => rfl
  | 45, _ => rfl
  | 46, _ => rfl
  | 47, _ => rfl
  | d + 48, _ => rfl
theorem cW_sI6 (g : gE) (ad : Nat → Nat) (u : Me) (v : Int32) : ∀ d, ¬ d = 27 → cW g ad (sI u 6 v) d = cW g ad u d
  | 0, _ => rfl
  | 1, _ => rfl
  | 2, _ => rfl
  | 3, _ => rfl
  | 4, _ => rfl
  | 5, _ => rfl
  | 6, _ => rfl
  | 7, _ => rfl
  | 8, _ => rfl
  | 9, _ => rfl
  | 10, _ => rfl
  | 11, _ => rfl
  | 12, _ => rfl
  | 13, _ => rfl
  | 14, _ => rfl
  | 15, _ => rfl
  | 16, _ => rfl
  | 17, _ => rfl
  | 18, _ => rfl
  | 19, _ => rfl
  | 20, _ => rfl
  | 21, _ => rfl
  | 22, _ => rfl
  | 23, _ => rfl
  | 24, _ => rfl
  | 25, _ => rfl
  | 26, _ => rfl
  | 27, h => absurd rfl h
  | 28, _ => rfl
  | 29, _ => rfl
  | 30, _ => rfl
  | 31, _ => rfl
  | 32, _ => rfl
  | 33, _ => rfl
  | 34, _ => rfl
  | 35, _ => rfl
  | 36, _ => rfl
  | 37, _ => rfl
  | 38, _ => rfl
  | 39, _ => rfl
  | 40, _ => rfl
  | 41, _ => rfl
  | 42, _ => rfl
  | 43, _ => rfl
  | 44, _ => rfl
  | 45, _ => rfl
  | 46, _ => rfl
  | 47, _ => rfl
  | d + 48, _ => rfl
theorem cW_sI7 (g : gE) (ad : Nat → Nat) (u : Me) (v : Int32) : ∀ d, ¬ d = 36 → cW g ad (sI u 7 v) d = cW g ad u d
  | 0, _ => rfl
  | 1, _ => rfl
  | 2, _ => rfl
  | 3, _ => rfl
  | 4, _ => rfl
  | 5, _ => rfl
  | 6, _ => rfl
  | 7, _ => rfl
  | 8, _ => rfl
  | 9, _ => rfl
  | 10, _ => rfl
  | 11, _ => rfl
  | 12, _ => rfl
  | 13, _ => rfl
  | 14, _ => rfl
  | 15, _ => rfl
  | 16, _ => rfl
  | 17, _ => rfl
  | 18, _ => rfl
  | 19, _ => rfl
  | 20, _ => rfl
  | 21, _ => rfl
  | 22, _ => rfl
  | 23, _ => rfl
  | 24, _ => rfl
  | 25, _ => rfl
  | 26, _ => rfl
  | 27, _ => rfl
  | 28, _ => rfl
  | 29, _ => rfl
  | 30, _ => rfl
  | 31, _ => rfl
  | 32, _ => rfl
  | 33, _ => rfl
  | 34, _ => rfl
  | 35, _ => rfl
  | 36, h => absurd rfl h
  | 37, _ => rfl
  | 38, _ => rfl
  | 39, _ => rfl
  | 40, _ => rfl
  | 41, _ => rfl
  | 42, _ => rfl
  | 43, _ => rfl
  | 44, _ => rfl
  | 45, _ => rfl
  | 46, _ => rfl
  | 47, _ => rfl
  | d + 48, _ => rfl
theorem cW_sI8 (g : gE) (ad : Nat → Nat) (u : Me) (v : Int32) : ∀ d, ¬ d = 36 → cW g ad (sI u 8 v) d = cW g ad u d
  | 0, _ => rfl
  | 1, _ => rfl
  | 2, _ => rfl
  | 3, _ => rfl
  | 4, _ => rfl
  | 5, _ => rfl
  | 6, _ => rfl
  | 7, _ => rfl
  | 8, _ => rfl
  | 9, _ => rfl
  | 10, _ => rfl
  | 11, _ => rfl
  | 12, _ => rfl
  | 13, _ => rfl
  | 14, _ => rfl
  | 15, _ => rfl
  | 16, _ => rfl
  | 17, _ => rfl
  | 18, _ => rfl
  | 19, _ => rfl
  | 20, _ => rfl
  | 21, _ => rfl
  | 22, _ => rfl
  | 23, _ => rfl
  | 24, _ => rfl
  | 25, _ => rfl
  | 26, _ => rfl
  | 27, _ => rfl
  | 28, _ => rfl
  | 29, _ => rfl
  | 30, _ => rfl
  | 31, _ => rfl
  | 32, _ => rfl
  | 33, _ => rfl
  | 34, _ => rfl
  | 35, _ => rfl
  | 36, h => absurd rfl h
  | 37, _ => rfl
  | 38, _ => rfl
  | 39, _ => rfl
  | 40, _ => rfl
  | 41, _ => rfl
  | 42, _ => rfl
  | 43, _ => rfl
  | 44, _ => rfl
  | 45, _ => rfl
  | 46, _ => rfl
  | 47, _ => rfl
  | d + 48, _ => rfl
theorem cW_sI9 (g : gE) (ad : Nat → Nat) (u : Me) (v : Int32) : ∀ d, ¬ d = 36 → cW g ad (sI u 9 v) d = cW g ad u d
  | 0, _ => rfl
  | 1, _ => rfl
  | 2, _ => rfl
  | 3, _ => rfl
  | 4, _ => rfl
  | 5, _ => rfl
  | 6, _ => rfl
  | 7, _ => rfl
  | 8, _ => rfl
  | 9, _ => rfl
  | 10, _ => rfl
  | 11, _ => rfl
  | 12, _ => rfl
  | 13, _ => rfl
  | 14, _ => rfl
  | 15, _ => rfl
  | 16, _ => rfl
  | 17, _ => rfl
  | 18, _ => rfl
  | 19, _ => rfl
  | 20, _ => rfl
  | 21, _ => rfl
  | 22, _ => rfl
  | 23, _ => rfl
  | 24, _ => rfl
  | 25, _ => rfl
  | 26, _ => rfl
  | 27, _ => rfl
  | 28, _ => rfl
  | 29, _ => rfl
  | 30, _ => rfl
  | 31, _ => rfl
  | 32, _ => rfl
  | 33, _ => rfl
  | 34, _ => rfl
  | 35, _ => rfl
  | 36, h => absurd rfl h
  | 37, _ => rfl
  | 38, _ => rfl
  | 39, _ => rfl
  | 40, _ => rfl
  | 41, _ => rfl
  | 42, _ => rfl
  | 43, _ => rfl
  | 44, _ => rfl
  | 45, _ => rfl
  | 46, _ => rfl
  | 47, _ => rfl
  | d + 48, _ => rfl
theorem cW_sI10 (g : gE) (ad : Nat → Nat) (u : Me) (v : Int32) : ∀ d, ¬ d = 36 → cW g ad (sI u 10 v) d = cW g ad u d
  | 0, _ => rfl
  | 1, _ => rfl
  | 2, _ => rfl
  | 3, _ => rfl
  | 4, _ => rfl
  | 5, _ => rfl
  | 6, _ => rfl
  | 7, _ => rfl
  | 8, _ => rfl
  | 9, _ => rfl
  | 10, _ => rfl
  | 11, _ => rfl
  | 12, _ => rfl
  | 13, _ => rfl
  | 14, _ => rfl
  | 15, _ => rfl
  | 16, _ => rfl
  | 17, _ => rfl
  | 18, _ => rfl
  | 19, _ => rfl
  | 20, _ => rfl
  | 21, _ => rfl
  | 22, _ => rfl
  | 23, _ => rfl
  | 24, _ => rfl
  | 25, _ => rfl
  | 26, _ => rfl
  | 27, _ => rfl
  | 28, _ => rfl
  | 29, _ => rfl
  | 30, _ => rfl
  | 31, _ => rfl
  | 32, _ => rfl
  | 33, _ => rfl
  | 34, _ => rfl
  | 35, _ => rfl
  | 36, h => absurd rfl h
  | 37, _ => rfl
  | 38, _ => rfl
  | 39, _ => rfl
  | 40, _ => rfl
  | 41, _ => rfl
  | 42, _ => rfl
  | 43, _ => rfl
  | 44, _ => rfl
  | 45, _ => rfl
  | 46, _ => rfl
  | 47, _ => rfl
  | d + 48, _ => rfl
theorem cW_sI11 (g : gE) (ad : Nat → Nat) (u : Me) (v : Int32) : ∀ d, ¬ d = 36 → cW g ad (sI u 11 v) d = cW g ad u d
  | 0, _ => rfl
  | 1, _ => rfl
  | 2, _ => rfl
  | 3, _ => rfl
  | 4, _ => rfl
  | 5, _ => rfl
  | 6, _ => rfl
  | 7, _ => rfl
  | 8, _ => rfl
  | 9, _ => rfl
  | 10, _ => rfl
  | 11, _ => rfl
  | 12, _ => rfl
  | 13, _ => rfl
  | 14, _ => rfl
  | 15, _ => rfl
  | 16, _ => rfl
  | 17, _ => rfl
  | 18, _ => rfl
  | 19, _ => rfl
  | 20, _ => rfl
  | 21, _ => rfl
  | 22, _ => rfl
  | 23, _ => rfl
  | 24, _ => rfl
  | 25, _ => rfl
  | 26, _ => rfl
  | 27, _ => rfl
  | 28, _ => rfl
  | 29, _ => rfl
  | 30, _ => rfl
  | 31, _ => rfl
  | 32, _ => rfl
  | 33, _ => rfl
  | 34, _ => rfl
  | 35, _ => rfl
  | 36, h => absurd rfl h
  | 37, _ => rfl
  | 38, _ => rfl
  | 39, _ => rfl
  | 40, _ => rfl
  | 41, _ => rfl
  | 42, _ => rfl
  | 43, _ => rfl
  | 44, _ => rfl
  | 45, _ => rfl
  | 46, _ => rfl
  | 47, _ => rfl
  | d + 48, _ => rfl
theorem cW_sI12 (g : gE) (ad : Nat → Nat) (u : Me) (v : Int32) : ∀ d, ¬ d = 36 → cW g ad (sI u 12 v) d = cW g ad u d
  | 0, _ => rfl
  | 1, _ => rfl
  | 2, _ => rfl
  | 3, _ => rfl
  | 4, _ => rfl
  | 5, _ => rfl
  | 6, _ => rfl
  | 7, _ => rfl
  | 8, _ => rfl
  | 9, _ => rfl
  | 10, _ => rfl
  | 11, _ => rfl
  | 12, _ => rfl
  | 13, _ => rfl
  | 14, _ => rfl
  | 15, _ => rfl
  | 16, _ => rfl
  | 17, _ => rfl
  | 18, _ => rfl
  | 19, _ => rfl
  | 20, _ => rfl
  | 21, _ => rfl
  | 22, _ => rfl
  | 23, _ => rfl
  | 24, _ => rfl
  | 25, _ => rfl
  | 26, _ => rfl
  | 27, _ => rfl
  | 28, _ => rfl
  | 29, _ => rfl
  | 30, _ => rfl
  | 31, _ => rfl
  | 32, _ => rfl
  | 33, _ => rfl
  | 34, _ => rfl
  | 35, _ => rfl
  | 36, h => absurd rfl h
  | 37, _ => rfl
  | 38, _ => rfl
  | 39, _ => rfl
  | 40, _ => rfl
  | 41, _ => rfl
  | 42, _ => rfl
  | 43, _ => rfl
  | 44, _ => rfl
  | 45, _ => rfl
  | 46, _ => rfl
  | 47, _ => rfl
  | d + 48, _ => rfl
theorem cW_sL0 (g : gE) (ad : Nat → Nat) (u : Me) (v : Int64) : ∀ d, ¬ d = 1 → cW g ad (sL u 0 v) d = cW g ad u d
  | 0, _ => rfl
  | 1, h => absurd rfl h
  | 2, _ => rfl
  | 3, _ => rfl
  | 4, _ => rfl
  | 5, _ => rfl
  | 6, _ => rfl
  | 7, _ => rfl
  | 8, _ => rfl
  | 9, _ => rfl
  | 10, _ => rfl
  | 11, _ => rfl
  | 12, _ => rfl
  | 13, _ => rfl
  | 14, _ => rfl
  | 15, _ => rfl
  | 16, _ => rfl
  | 17, _ => rfl
  | 18, _ => rfl
  | 19, _ => rfl
  | 20, _ => rfl
  | 21, _ => rfl
  | 22, _ => rfl
  | 23, _ => rfl
  | 24, _ => rfl
  | 25, _ => rfl
  | 26, _ => rfl
  | 27, _ => rfl
  | 28, _ => rfl
  | 29, _ => rfl
  | 30, _ => rfl
  | 31, _ => rfl
  | 32, _ => rfl
  | 33, _ => rfl
  | 34, _ => rfl
  | 35, _ => rfl
  | 36, _ => rfl
  | 37, _ => rfl
  | 38, _ => rfl
  | 39, _ => rfl
  | 40, _ => rfl
  | 41, _ => rfl
  | 42, _ => rfl
  | 43, _ => rfl
  | 44, _ => rfl
  | 45, _ => rfl
  | 46, _ => rfl
  | 47, _ => rfl
  | d + 48, _ => rfl
theorem cW_sL1 (g : gE) (ad : Nat → Nat) (u : Me) (v : Int64) : ∀ d, ¬ d = 1 → cW g ad (sL u 1 v) d = cW g ad u d
  | 0, _ => rfl
  | 1, h => absurd rfl h
  | 2, _ => rfl
  | 3, _ => rfl
  | 4, _ => rfl
  | 5, _ => rfl
  | 6, _ => rfl
  | 7, _ => rfl
  | 8, _ => rfl
  | 9, _ => rfl
  | 10, _ => rfl
  | 11, _ => rfl
  | 12, _ => rfl
  | 13, _ => rfl
  | 14, _ => rfl
  | 15, _ => rfl
  | 16, _ => rfl
  | 17, _ => rfl
  | 18, _ => rfl
  | 19, _ => rfl
  | 20, _ => rfl
  | 21, _ => rfl
  | 22, _ => rfl
  | 23, _ => rfl
  | 24, _ => rfl
  | 25, _ => rfl
  | 26, _ => rfl
  | 27, _ => rfl
  | 28, _ => rfl
  | 29, _ => rfl
  | 30, _ => rfl
  | 31, _ => rfl
  | 32, _ => rfl
  | 33, _ => rfl
  | 34, _ => rfl
  | 35, _ => rfl
  | 36, _ => rfl
  | 37, _ => rfl
  | 38, _ => rfl
  | 39, _ => rfl
  | 40, _ => rfl
  | 41, _ => rfl
  | 42, _ => rfl
  | 43, _ => rfl
  | 44, _ => rfl
  | 45, _ => rfl
  | 46, _ => rfl
  | 47, _ => rfl
  | d + 48, _ => rfl
theorem cW_sL2 (g : gE) (ad : Nat → Nat) (u : Me) (v : Int64) : ∀ d, ¬ d = 32 → cW g ad (sL u 2 v) d = cW g ad u d
  | 0, _ => rfl
  | 1, _ => rfl
  | 2, _ => rfl
  | 3, _ => rfl
  | 4, _ => rfl
  | 5, _ => rfl
  | 6, _ => rfl
  | 7, _ => rfl
  | 8, _ => rfl
  | 9, _ => rfl
  | 10, _ => rfl
  | 11, _ => rfl
  | 12, _ => rfl
  | 13, _ => rfl
  | 14, _ => rfl
  | 15, _ => rfl
  | 16, _ => rfl
  | 17, _ => rfl
  | 18, _ => rfl
  | 19, _ => rfl
  | 20, _ => rfl
  | 21, _ => rfl
  | 22, _ => rfl
  | 23, _ => rfl
  | 24, _ => rfl
  | 25, _ => rfl
  | 26, _ => rfl
  | 27, _ => rfl
  | 28, _ => rfl
  | 29, _ => rfl
  | 30, _ => rfl
  | 31, _ => rfl
  | 32, h => absurd rfl h
  | 33, _ => rfl
  | 34, _ => rfl
  | 35, _ => rfl
  | 36, _ => rfl
  | 37, _ => rfl
  | 38, _ => rfl
  | 39, _ => rfl
  | 40, _ => rfl
  | 41, _ => rfl
  | 42, _ => rfl
  | 43, _ => rfl
  | 44, _ => rfl
  | 45, _ => rfl
  | 46, _ => rfl
  | 47, _ => rfl
  | d + 48, _ => rfl
theorem cW_sL3 (g : gE) (ad : Nat → Nat) (u : Me) (v : Int64) : ∀ d, ¬ d = 32 → cW g ad (sL u 3 v) d = cW g ad u d
  | 0, _ => rfl
  | 1, _ => rfl
  | 2, _ => rfl
  | 3, _ => rfl
  | 4, _ => rfl
  | 5, _ => rfl
  | 6, _ => rfl
  | 7, _ => rfl
  | 8, _ => rfl
  | 9, _ => rfl
  | 10, _ => rfl
  | 11, _ => rfl
  | 12, _ => rfl
  | 13, _ => rfl
  | 14, _ => rfl
  | 15, _ => rfl
  | 16, _ => rfl
  | 17, _ => rfl
  | 18, _ => rfl
  | 19, _ => rfl
  | 20, _ => rfl
  | 21, _ => rfl
  | 22, _ => rfl
  | 23, _ => rfl
  | 24, _ => rfl
  | 25, _ => rfl
  | 26, _ => rfl
  | 27, _ => rfl
  | 28, _ => rfl
  | 29, _ => rfl
  | 30, _ => rfl
  | 31, _ => rfl
  | 32, h => absurd rfl h
  | 33, _ => rfl
  | 34, _ => rfl
  | 35, _ => rfl
  | 36, _ => rfl
  | 37, _ => rfl
  | 38, _ => rfl
  | 39, _ => rfl
  | 40, _ => rfl
  | 41, _ => rfl
  | 42, _ => rfl
  | 43, _ => rfl
  | 44, _ => rfl
  | 45, _ => rfl
  | 46, _ => rfl
  | 47, _ => rfl
  | d + 48, _ => rfl
theorem cW_sL4 (g : gE) (ad : Nat → Nat) (u : Me) (v : Int64) : ∀ d, ¬ d = 33 → cW g ad (sL u 4 v) d = cW g ad u d
  | 0, _ => rfl
  | 1, _ => rfl
  | 2, _ => rfl
  | 3, _ => rfl
  | 4, _ => rfl
  | 5, _ => rfl
  | 6, _ => rfl
  | 7, _ => rfl
  | 8, _ => rfl
  | 9, _ => rfl
  | 10, _ => rfl
  | 11, _ => rfl
  | 12, _ => rfl
  | 13, _ => rfl
  | 14, _ => rfl
  | 15, _ => rfl
  | 16, _ => rfl
  | 17, _ => rfl
  | 18, _ => rfl
  | 19, _ => rfl
  | 20, _ => rfl
  | 21, _ => rfl
  | 22, _ => rfl
  | 23, _ => rfl
  | 24, _ => rfl
  | 25, _ => rfl
  | 26, _ => rfl
  | 27, _ => rfl
  | 28, _ => rfl
  | 29, _ => rfl
  | 30, _ => rfl
  | 31, _ => rfl
  | 32, _ => rfl
  | 33, h => absurd rfl h
  | 34, _ => rfl
  | 35, _ => rfl
  | 36, _ => rfl
  | 37, _ => rfl
  | 38, _ => rfl
  | 39, _ => rfl
  | 40, _ => rfl
  | 41, _ => rfl
  | 42, _ => rfl
  | 43, _ => rfl
  | 44, _ => rfl
  | 45, _ => rfl
  | 46, _ => rfl
  | 47, _ => rfl
  | d + 48, _ => rfl
theorem cW_sL5 (g : gE) (ad : Nat → Nat) (u : Me) (v : Int64) : ∀ d, ¬ d = 33 → cW g ad (sL u 5 v) d = cW g ad u d
  | 0, _ => rfl
  | 1, _ => rfl
  | 2, _ => rfl
  | 3, _ => rfl
  | 4, _ => rfl
  | 5, _ => rfl
  | 6, _ => rfl
  | 7, _ => rfl
  | 8, _ => rfl
  | 9, _ => rfl
  | 10, _ => rfl
  | 11, _ => rfl
  | 12, _ => rfl
  | 13, _ => rfl
  | 14, _ => rfl
  | 15, _ => rfl
  | 16, _ => rfl
  | 17, _ => rfl
  | 18, _ => rfl
  | 19, _ => rfl
  | 20, _ => rfl
  | 21, _ => rfl
  | 22, _ => rfl
  | 23, _ => rfl
  | 24, _ => rfl
  | 25, _ => rfl
  | 26, _ => rfl
  | 27, _ => rfl
  | 28, _ => rfl
  | 29, _ => rfl
  | 30, _ => rfl
  | 31, _ => rfl
  | 32, _ => rfl
  | 33, h => absurd rfl h
  | 34, _ => rfl
  | 35, _ => rfl
  | 36, _ => rfl
  | 37, _ => rfl
  | 38, _ => rfl
  | 39, _ => rfl
  | 40, _ => rfl
  | 41, _ => rfl
  | 42, _ => rfl
  | 43, _ => rfl
  | 44, _ => rfl
  | 45, _ => rfl
  | 46, _ => rfl
  | 47, _ => rfl
  | d + 48, _ => rfl
theorem cW_sL6 (g : gE) (ad : Nat → Nat) (u : Me) (v : Int64) : ∀ d, ¬ d = 34 → cW g ad (sL u 6 v) d = cW g ad u d
  | 0, _ => rfl
  | 1, _ => rfl
  | 2, _ => rfl
  | 3, _ => rfl
  | 4, _ => rfl
  | 5, _ => rfl
  | 6, _ => rfl
  | 7, _ => rfl
  | 8, _ => rfl
  | 9, _ => rfl
  | 10, _ => rfl
  | 11, _ => rfl
  | 12, _ => rfl
  | 13, _ => rfl
  | 14, _ => rfl
  | 15, _ => rfl
  | 16, _ => rfl
  | 17, _ => rfl
  | 18, _ => rfl
  | 19, _ => rfl
  | 20, _ => rfl
  | 21, _ => rfl
  | 22, _ => rfl
  | 23, _ => rfl
  | 24, _ => rfl
  | 25, _ => rfl
  | 26, _ => rfl
  | 27, _ => rfl
  | 28, _ => rfl
  | 29, _ => rfl
  | 30, _ => rfl
  | 31, _ => rfl
  | 32, _ => rfl
  | 33, _ => rfl
  | 34, h => absurd rfl h
  | 35, _ => rfl
  | 36, _ => rfl
  | 37, _ => rfl
  | 38, _ => rfl
  | 39, _ => rfl
  | 40, _ => rfl
  | 41, _ => rfl
  | 42, _ => rfl
  | 43, _ => rfl
  | 44, _ => rfl
  | 45, _ => rfl
  | 46, _ => rfl
  | 47, _ => rfl
  | d + 48, _ => rfl
theorem cW_sL7 (g : gE) (ad : Nat → Nat) (u : Me) (v : Int64) : ∀ d, ¬ d = 34 → cW g ad (sL u 7 v) d = cW g ad u d
  | 0, _ => rfl
  | 1, _ => rfl
  | 2, _ => rfl
  | 3, _ => rfl
  | 4, _ => rfl
  | 5, _ => rfl
  | 6, _ => rfl
  | 7, _ => rfl
  | 8, _ => rfl
  | 9, _ => rfl
  | 10, _ => rfl
  | 11, _ => rfl
  | 12, _ => rfl
  | 13, _ => rfl
  | 14, _ => rfl
  | 15, _ => rfl
  | 16, _ => rfl
  | 17, _ => rfl
  | 18, _ => rfl
  | 19, _ => rfl
  | 20, _ => rfl
  | 21, _ => rfl
  | 22, _ => rfl
  | 23, _ => rfl
  | 24, _ => rfl
  | 25, _ => rfl
  | 26, _ => rfl
  | 27, _ => rfl
  | 28, _ => rfl
  | 29, _ => rfl
  | 30, _ => rfl
  | 31, _ => rfl
  | 32, _ => rfl
  | 33, _ => rfl
  | 34, h => absurd rfl h
  | 35, _ => rfl
  | 36, _ => rfl
  | 37, _ => rfl
  | 38, _ => rfl
  | 39, _ => rfl
  | 40, _ => rfl
  | 41, _ => rfl
  | 42, _ => rfl
  | 43, _ => rfl
  | 44, _ => rfl
  | 45, _ => rfl
  | 46, _ => rfl
  | 47, _ => rfl
  | d + 48, _ => rfl
theorem cW_sL8 (g : gE) (ad : Nat → Nat) (u : Me) (v : Int64) : ∀ d, ¬ d = 36 → cW g ad (sL u 8 v) d = cW g ad u d
  | 0, _ => rfl
  | 1, _ => rfl
  | 2, _ => rfl
  | 3, _ => rfl
  | 4, _ => rfl
  | 5, _ => rfl
  | 6, _ => rfl
  | 7, _ => rfl
  | 8, _ => rfl
  | 9, _ => rfl
  | 10, _ => rfl
  | 11, _ => rfl
  | 12, _ => rfl
  | 13, _ => rfl
  | 14, _ => rfl
  | 15, _ => rfl
  | 16, _ => rfl
  | 17, _ => rfl
  | 18, _ => rfl
  | 19, _ => rfl
  | 20, _ => rfl
  | 21, _ => rfl
  | 22, _ => rfl
  | 23, _ => rfl
  | 24, _ => rfl
  | 25, _ => rfl
  | 26, _ => rfl
  | 27, _ => rfl
  | 28, _ => rfl
  | 29, _ => rfl
  | 30, _ => rfl
  | 31, _ => rfl
  | 32, _ => rfl
  | 33, _ => rfl
  | 34, _ => rfl
  | 35, _ => rfl
  | 36, h => absurd rfl h
  | 37, _ => rfl
  | 38, _ => rfl
  | 39, _ => rfl
  | 40, _ => rfl
  | 41, _ => rfl
  | 42, _ => rfl
  | 43, _ => rfl
  | 44, _ => rfl
  | 45, _ => rfl
  | 46, _ => rfl
  | 47, _ => rfl
  | d + 48, _ => rfl
theorem cW_sL9 (g : gE) (ad : Nat → Nat) (u : Me) (v : Int64) : ∀ d, ¬ d = 36 → cW g ad (sL u 9 v) d = cW g ad u d
  | 0, _ => rfl
  | 1, _ => rfl
  | 2, _ => rfl
  | 3, _ => rfl
  | 4, _ => rfl
  | 5, _ => rfl
  | 6, _ => rfl
  | 7, _ => rfl
  | 8, _ => rfl
  | 9, _ => rfl
  | 10, _ => rfl
  | 11, _ => rfl
  | 12, _ => rfl
  | 13, _ => rfl
  | 14, _ => rfl
  | 15, _ => rfl
  | 16, _ => rfl
  | 17, _ => rfl
  | 18, _ => rfl
  | 19, _ => rfl
  | 20, _ => rfl
  | 21, _ => rfl
  | 22, _ => rfl
  | 23, _ => rfl
  | 24, _ => rfl
  | 25, _ => rfl
  | 26, _ => rfl
  | 27, _ => rfl
  | 28, _ => rfl
  | 29, _ => rfl
  | 30, _ => rfl
  | 31, _ => rfl
  | 32, _ => rfl
  | 33, _ => rfl
  | 34, _ => rfl
  | 35, _ => rfl
  | 36, h => absurd rfl h
  | 37, _ => rfl
  | 38, _ => rfl
  | 39, _ => rfl
  | 40, _ => rfl
  | 41, _ => rfl
  | 42, _ => rfl
  | 43, _ => rfl
  | 44, _ => rfl
  | 45, _ => rfl
  | 46, _ => rfl
  | 47, _ => rfl
  | d + 48, _ => rfl
theorem cW_sL10 (g : gE) (ad : Nat → Nat) (u : Me) (v : Int64) : ∀ d, ¬ d = 36 → cW g ad (sL u 10 v) d = cW g ad u d
  | 0, _ => rfl
  | 1, _ => rfl
  | 2, _ => rfl
  | 3, _ => rfl
  | 4, _ => rfl
  | 5, _ => rfl
  | 6, _ => rfl
  | 7, _ => rfl
  | 8, _ => rfl
  | 9, _ => rfl
  | 10, _ => rfl
  | 11, _ => rfl
  | 12, _ => rfl
  | 13, _ => rfl
  | 14, _ => rfl
  | 15, _ => rfl
  | 16, _ => rfl
  | 17, _ => rfl
  | 18, _ => rfl
  | 19, _ => rfl
  | 20, _ => rfl
  | 21, _ => rfl
  | 22, _ => rfl
  | 23, _ => rfl
  | 24, _ => rfl
  | 25, _ => rfl
  | 26, _ => rfl
  | 27, _ => rfl
  | 28, _ => rfl
  | 29, _ => rfl
  | 30, _ => rfl
  | 31, _ => rfl
  | 32, _ => rfl
  | 33, _ => rfl
  | 34, _ => rfl
  | 35, _ => rfl
  | 36, h => absurd rfl h
  | 37, _ => rfl
  | 38, _ => rfl
  | 39, _ => rfl
  | 40, _ => rfl
  | 41, _ => rfl
  | 42, _ => rfl
  | 43, _ => rfl
  | 44, _ => rfl
  | 45, _ => rfl
  | 46, _ => rfl
  | 47, _ => rfl
  | d + 48, _ => rfl
theorem cW_sL11 (g : gE) (ad : Nat → Nat) (u : Me) (v : Int64) : ∀ d, ¬ d = 36 → cW g ad (sL u 11 v) d = cW g ad u d
  | 0, _ => rfl
  | 1, _ => rfl
  | 2, _ => rfl
  | 3, _ => rfl
  | 4, _ => rfl
  | 5, _ => rfl
  | 6, _ => rfl
  | 7, _ => rfl
  | 8, _ => rfl
  | 9, _ => rfl
  | 10, _ => rfl
  | 11, _ => rfl
  | 12, _ => rfl
  | 13, _ => rfl
  | 14, _ => rfl
  | 15, _ => rfl
  | 16, _ => rfl
  | 17, _ => rfl
  | 18, _ => rfl
  | 19, _ => rfl
  | 20, _ => rfl
  | 21, _ => rfl
  | 22, _ => rfl
  | 23, _ => rfl
  | 24, _ => rfl
  | 25, _ => rfl
  | 26, _ => rfl
  | 27, _ => rfl
  | 28, _ => rfl
  | 29, _ => rfl
  | 30, _ => rfl
  | 31, _ => rfl
  | 32, _ => rfl
  | 33, _ => rfl
  | 34, _ => rfl
  | 35, _ => rfl
  | 36, h => absurd rfl h
  | 37, _ => rfl
  | 38, _ => rfl
  | 39, _ => rfl
  | 40, _ => rfl
  | 41, _ => rfl
  | 42, _ => rfl
  | 43, _ => rfl
  | 44, _ => rfl
  | 45, _ => rfl
  | 46, _ => rfl
  | 47, _ => rfl
  | d + 48, _ => rfl
/-- a field of kind int: cell c, field number j, is place k of the int fields -/
def fdI (c ci : Nat) (fs : (Nat → Nat) → Me → List Value) (j k : Nat) : Prop := isO c ci fs ∧ (∀ (ad : Nat → Nat) (u : Me), (fs ad u)[j]? = some (.int (mI u k))) ∧ ∀ (g : gE) (ad : Nat → Nat) (u : Me) (v : Int32), (WW g ad u).set c (ad c, .inr (ci, (fs ad u).set j (.int v))) = WW g ad (sI u k v)
def fdL (c ci : Nat) (fs : (Nat → Nat) → Me → List Value) (j k : Nat) : Prop := isO c ci fs ∧ (∀ (ad : Nat → Nat) (u : Me), (fs ad u)[j]? = some (.long (mL u k))) ∧ ∀ (g : gE) (ad : Nat → Nat) (u : Me) (v : Int64), (WW g ad u).set c (ad c, .inr (ci, (fs ad u).set j (.long v))) = WW g ad (sL u k v)
theorem fI_0 : fdI 3 2 fs_3 3 0 := ⟨k_3, fun _ _ => rfl, fun g ad u v => WW_set rfl (cW_sI0 g ad u v)⟩
theorem fI_1 : fdI 17 6 fs_17 4 1 := ⟨k_17, fun _ _ => rfl, fun g ad u v => WW_set rfl (cW_sI1 g ad u v)⟩
theorem fI_2 : fdI 17 6 fs_17 5 2 := ⟨k_17, fun _ _ => rfl, fun g ad u v => WW_set rfl (cW_sI2 g ad u v)⟩
theorem fI_3 : fdI 22 6 fs_22 4 3 := ⟨k_22, fun _ _ => rfl, fun g ad u v => WW_set rfl (cW_sI3 g ad u v)⟩
theorem fI_4 : fdI 22 6 fs_22 5 4 := ⟨k_22, fun _ _ => rfl, fun g ad u v => WW_set rfl (cW_sI4 g ad u v)⟩
theorem fI_5 : fdI 27 6 fs_27 4 5 := ⟨k_27, fun _ _ => rfl, fun g ad u v => WW_set rfl (cW_sI5 g ad u v)⟩
theorem fI_6 : fdI 27 6 fs_27 5 6 := ⟨k_27, fun _ _ => rfl, fun g ad u v => WW_set rfl (cW_sI6 g ad u v)⟩
theorem fI_7 : fdI 36 8 fs_36 1 7 := ⟨k_36, fun _ _ => rfl, fun g ad u v => WW_set rfl (cW_sI7 g ad u v)⟩
theorem fI_8 : fdI 36 8 fs_36 2 8 := ⟨k_36, fun _ _ => rfl, fun g ad u v => WW_set rfl (cW_sI8 g ad u v)⟩
theorem fI_9 : fdI 36 8 fs_36 3 9 := ⟨k_36, fun _ _ => rfl, fun g ad u v => WW_set rfl (cW_sI9 g ad u v)⟩
theorem fI_10 : fdI 36 8 fs_36 12 10 := ⟨k_36, fun _ _ => rfl, fun g ad u v => WW_set rfl (cW_sI10 g ad u v)⟩
theorem fI_11 : fdI 36 8 fs_36 13 11 := ⟨k_36, fun _ _ => rfl, fun g ad u v => WW_set rfl (cW_sI11 g ad u v)⟩
theorem fI_12 : fdI 36 8 fs_36 17 12 := ⟨k_36, fun _ _ => rfl, fun g ad u v => WW_set rfl (cW_sI12 g ad u v)⟩
theorem fL_0 : fdL 1 0 fs_1 1 0 := ⟨k_1, fun _ _ => rfl, fun g ad u v => WW_set rfl (cW_sL0 g ad u v)⟩
theorem fL_1 : fdL 1 0 fs_1 2 1 := ⟨k_1, fun _ _ => rfl, fun g ad u v => WW_set rfl (cW_sL1 g ad u v)⟩
theorem fL_2 : fdL 32 4 fs_32 0 2 := ⟨k_32, fun _ _ => rfl, fun g ad u v => WW_set rfl (cW_sL2 g ad u v)⟩
theorem fL_3 : fdL 32 4 fs_32 1 3 := ⟨k_32, fun _ _ => rfl, fun g ad u v => WW_set rfl (cW_sL3 g ad u v)⟩
theorem fL_4 : fdL 33 4 fs_33 0 4 := ⟨k_33, fun _ _ => rfl, fun g ad u v => WW_set rfl (cW_sL4 g ad u v)⟩
theorem fL_5 : fdL 33 4 fs_33 1 5 := ⟨k_33, fun _ _ => rfl, fun g ad u v => WW_set rfl (cW_sL5 g ad u v)⟩
theorem fL_6 : fdL 34 4 fs_34 0 6 := ⟨k_34, fun _ _ => rfl, fun g ad u v => WW_set rfl (cW_sL6 g ad u v)⟩
theorem fL_7 : fdL 34 4 fs_34 1 7 := ⟨k_34, fun _ _ => rfl, fun g ad u v => WW_set rfl (cW_sL7 g ad u v)⟩
theorem fL_8 : fdL 36 8 fs_36 14 8 := ⟨k_36, fun _ _ => rfl, fun g ad u v => WW_set rfl (cW_sL8 g ad u v)⟩
theorem fL_9 : fdL 36 8 fs_36 15 9 := ⟨k_36, fun _ _ => rfl, fun g ad u v => WW_set rfl (cW_sL9 g ad u v)⟩
theorem fL_10 : fdL 36 8 fs_36 18 10 := ⟨k_36, fun _ _ => rfl, fun g ad u v => WW_set rfl (cW_sL10 g ad u v)⟩
theorem fL_11 : fdL 36 8 fs_36 19 11 := ⟨k_36, fun _ _ => rfl, fun g ad u v => WW_set rfl (cW_sL11 g ad u v)⟩
theorem fI_wt {x : Nat} (h : x < 3) : fdI (17 + 5 * x) 6 (fs_w x) 4 (1 + 2 * x) := x3 (P := fun x => fdI (17 + 5 * x) 6 (fs_w x) 4 (1 + 2 * x)) fI_1 fI_3 fI_5 h
theorem fI_wr {x : Nat} (h : x < 3) : fdI (17 + 5 * x) 6 (fs_w x) 5 (2 + 2 * x) := x3 (P := fun x => fdI (17 + 5 * x) 6 (fs_w x) 5 (2 + 2 * x)) fI_2 fI_4 fI_6 h
theorem fL_rt {y : Nat} (h : y < 3) : fdL (32 + y) 4 (fs_r y) 0 (2 + 2 * y) := x3 (P := fun y => fdL (32 + y) 4 (fs_r y) 0 (2 + 2 * y)) fL_2 fL_4 fL_6 h
theorem fL_rb {y : Nat} (h : y < 3) : fdL (32 + y) 4 (fs_r y) 1 (3 + 2 * y) := x3 (P := fun y => fdL (32 + y) 4 (fs_r y) 1 (3 + 2 * y)) fL_3 fL_5 fL_7 h
