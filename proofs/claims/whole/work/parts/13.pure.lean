/-! NUMBERS, and the state of the game as plain mathematics -/
def iI (z : Int) : Int32 := Int32.ofInt z
def lI (z : Int) : Int64 := Int64.ofInt z
theorem iI_add (a b : Int) : iI a + iI b = iI (a + b) := (Int32.ofInt_add a b).symm
theorem iI_sub (a b : Int) : iI a - iI b = iI (a - b) := (Int32.ofInt_sub a b).symm
theorem iI_mul (a b : Int) : iI a * iI b = iI (a * b) := (Int32.ofInt_mul a b).symm
theorem lI_add (a b : Int) : lI a + lI b = lI (a + b) := (Int64.ofInt_add a b).symm
theorem lI_sub (a b : Int) : lI a - lI b = lI (a - b) := (Int64.ofInt_sub a b).symm
theorem lI_mul (a b : Int) : lI a * lI b = lI (a * b) := (Int64.ofInt_mul a b).symm
theorem nI_iI (n : Nat) : nI n = iI (n : Int) := rfl
theorem iI_toInt {z : Int} (h1 : -2147483648 ≤ z) (h2 : z < 2147483648) : (iI z).toInt = z := Int32.toInt_ofInt_of_le h1 h2
theorem lI_toInt {z : Int} (h1 : -9223372036854775808 ≤ z) (h2 : z < 9223372036854775808) : (lI z).toInt = z := Int64.toInt_ofInt_of_le h1 h2
theorem lI_of (x : Int64) : lI x.toInt = x := Int64.ofInt_toInt x
theorem iI_of (x : Int32) : iI x.toInt = x := Int32.ofInt_toInt x
theorem i64_lI (x : Int32) : x.toInt64 = lI x.toInt := by
  apply Int64.toInt_inj.mp
  have h1 := x.toInt_lt; have h2 := x.le_toInt
  rw [lI_toInt (by omega) (by omega)]; exact Int32.toInt_toInt64 x
theorem iI_l {z : Int} (h1 : -2147483648 ≤ z) (h2 : z < 2147483648) : (iI z).toInt64 = lI z := by rw [i64_lI, iI_toInt h1 h2]
theorem nI_lI {n : Nat} (h : n < 2 ^ 31) : (nI n).toInt64 = lI (n : Int) := by rw [i64_lI, nI_toInt h]
/-- the number m is one of 0 .. n - 1 -/
def isR (n : Nat) (m : Int32) : Prop := ∃ i : Nat, i < n ∧ m = nI i
theorem isR_f1 {n : Nat} {m : Int32} (hn : n < 2 ^ 31) (h : m < 0) : ¬ isR n m := by
  rintro ⟨i, hi, rfl⟩; exact nI_pos (by omega) h
theorem isR_f2 {n : Nat} {m : Int32} (hn : n < 2 ^ 31) (h : nI n ≤ m) : ¬ isR n m := by
  rintro ⟨i, hi, rfl⟩; exact nI_ge hi hn h
theorem isR_t {n : Nat} {m : Int32} (hn : n < 2 ^ 31) (h : ¬ m < 0) (h2 : ¬ nI n ≤ m) : isR n m := by
  obtain ⟨j, hj, rfl⟩ := nI_of h
  refine ⟨j, ?_, rfl⟩
  rcases Nat.lt_or_ge j n with q | q
  · exact q
  · exact absurd (nI_le q hj) h2
theorem isR_iff {n : Nat} {m : Int32} (hn : n < 2 ^ 31) : (nI 0 ≤ m ∧ m ≤ nI n) ↔ isR (n + 1) m := by
  constructor
  · rintro ⟨h1, h2⟩
    have h0 : ¬ m < 0 := by rw [nI_0] at h1; exact Int32.not_lt.mpr h1
    obtain ⟨j, hj, rfl⟩ := nI_of h0
    exact ⟨j, by have := (nI_leI hj hn).mp h2; omega, rfl⟩
  · rintro ⟨i, hi, rfl⟩
    exact ⟨(nI_leI (by decide) (by omega)).mpr (Nat.zero_le _), (nI_leI (by omega) hn).mpr (by omega)⟩
theorem isR_iff1 {n : Nat} {m : Int32} (hn : n < 2 ^ 31) : (nI 1 ≤ m ∧ m ≤ nI n) ↔ ∃ i : Nat, 1 ≤ i ∧ i ≤ n ∧ m = nI i := by
  constructor
  · rintro ⟨h1, h2⟩
    have h0 : ¬ m < 0 := by
      intro q
      have q2 : m.toInt < 0 := by simpa using Int32.lt_iff_toInt_lt.mp q
      have q3 := Int32.le_iff_toInt_le.mp h1
      rw [nI_toInt (by decide)] at q3; omega
    obtain ⟨j, hj, rfl⟩ := nI_of h0
    exact ⟨j, (nI_leI (by decide) hj).mp h1, (nI_leI hj hn).mp h2, rfl⟩
  · rintro ⟨i, h1, hi, rfl⟩
    exact ⟨(nI_leI (by decide) (by omega)).mpr h1, (nI_leI (by omega) hn).mpr (by omega)⟩
theorem inL_iff {n : Nat} {m : Int32} (hn : n < 2 ^ 31) : (lI 0 ≤ m.toInt64 ∧ m.toInt64 ≤ lI n) ↔ isR (n + 1) m := by
  rw [← isR_iff hn, i64_lI, Int64.le_iff_toInt_le, Int64.le_iff_toInt_le, Int32.le_iff_toInt_le, Int32.le_iff_toInt_le, nI_toInt hn, nI_toInt (by decide)]
  have h1 := m.toInt_lt; have h2 := m.le_toInt
  rw [lI_toInt (by omega) (by omega), lI_toInt (by omega) (by omega), lI_toInt (by omega) (by omega)]; rfl
theorem inL_iff1 {n : Nat} {m : Int32} (hn : n < 2 ^ 31) : (lI 1 ≤ m.toInt64 ∧ m.toInt64 ≤ lI n) ↔ ∃ i : Nat, 1 ≤ i ∧ i ≤ n ∧ m = nI i := by
  rw [← isR_iff1 hn, i64_lI, Int64.le_iff_toInt_le, Int64.le_iff_toInt_le, Int32.le_iff_toInt_le, Int32.le_iff_toInt_le, nI_toInt hn, nI_toInt (by decide)]
  have h1 := m.toInt_lt; have h2 := m.le_toInt
  rw [lI_toInt (by omega) (by omega), lI_toInt (by omega) (by omega), lI_toInt (by omega) (by omega)]; rfl
/-- the number v is the int of a whole number from a to b -/
def isZ2 (a b : Int) (v : Int32) : Prop := ∃ z : Int, a ≤ z ∧ z ≤ b ∧ v = iI z
theorem isZ2_iff {a b : Int} {v : Int32} (ha : -2147483648 ≤ a) (ha2 : a < 2147483648) (hb : -2147483648 ≤ b) (hb2 : b < 2147483648) : (iI a ≤ v ∧ v ≤ iI b) ↔ isZ2 a b v := by
  rw [Int32.le_iff_toInt_le, Int32.le_iff_toInt_le, iI_toInt ha ha2, iI_toInt hb hb2]
  constructor
  · rintro ⟨h1, h2⟩; exact ⟨v.toInt, h1, h2, (iI_of v).symm⟩
  · rintro ⟨z, h1, h2, rfl⟩; rw [iI_toInt (by omega) (by omega)]; exact ⟨h1, h2⟩
theorem inZ2_iff {a b : Int} {v : Int32} (ha : -2147483648 ≤ a) (ha2 : a < 2147483648) (hb : -2147483648 ≤ b) (hb2 : b < 2147483648) : (lI a ≤ v.toInt64 ∧ v.toInt64 ≤ lI b) ↔ isZ2 a b v := by
  rw [← isZ2_iff ha ha2 hb hb2, i64_lI, Int64.le_iff_toInt_le, Int64.le_iff_toInt_le, Int32.le_iff_toInt_le, Int32.le_iff_toInt_le, iI_toInt ha ha2, iI_toInt hb hb2]
  have h1 := v.toInt_lt; have h2 := v.le_toInt
  rw [lI_toInt (by omega) (by omega), lI_toInt (by omega) (by omega), lI_toInt (by omega) (by omega)]
/-- THE STATE OF THE GAME: how many machines; sizes, actions, nexts; pays; discount; sheets: lane (0: nothing, else 1 + lane), size, cells -/
abbrev Sg : Type := Nat × (Nat → Nat) × (Nat → Nat → Nat) × (Nat → Nat → Nat → Nat) × (Nat → Nat → Int) × Nat × Nat × (Nat → Nat) × (Nat → Nat) × (Nat → Nat → Int32)
def sN (S : Sg) : Nat := S.1
def sz (S : Sg) : Nat → Nat := S.2.1
def sa (S : Sg) : Nat → Nat → Nat := S.2.2.1
def sx (S : Sg) : Nat → Nat → Nat → Nat := S.2.2.2.1
def sp (S : Sg) : Nat → Nat → Int := S.2.2.2.2.1
def sU (S : Sg) : Nat := S.2.2.2.2.2.1
def sB (S : Sg) : Nat := S.2.2.2.2.2.2.1
def sl (S : Sg) : Nat → Nat := S.2.2.2.2.2.2.2.1
def sk (S : Sg) : Nat → Nat := S.2.2.2.2.2.2.2.2.1
def sc (S : Sg) : Nat → Nat → Int32 := S.2.2.2.2.2.2.2.2.2
def Ok (S : Sg) : Prop := sN S ≤ 12 ∧ (∀ m, 1 ≤ sz S m ∧ sz S m ≤ 4) ∧ (∀ m s, sa S m s < 3) ∧ (∀ m s b, sx S m s b < sz S m) ∧ (∀ a b, -50 ≤ sp S a b ∧ sp S a b ≤ 50) ∧ (1 ≤ sU S ∧ sU S < sB S ∧ sB S ≤ 4) ∧ (∀ k, sl S k ≤ 3 ∧ sk S k ≤ 60)
theorem Ok.n {S : Sg} (h : Ok S) : sN S ≤ 12 := h.1
theorem Ok.z {S : Sg} (h : Ok S) (m : Nat) : 1 ≤ sz S m ∧ sz S m ≤ 4 := h.2.1 m
theorem Ok.a {S : Sg} (h : Ok S) (m s : Nat) : sa S m s < 3 := h.2.2.1 m s
theorem Ok.x {S : Sg} (h : Ok S) (m s b : Nat) : sx S m s b < sz S m := h.2.2.2.1 m s b
theorem Ok.x4 {S : Sg} (h : Ok S) (m s b : Nat) : sx S m s b < 4 := Nat.lt_of_lt_of_le (h.x m s b) (h.z m).2
theorem Ok.p {S : Sg} (h : Ok S) (a b : Nat) : -50 ≤ sp S a b ∧ sp S a b ≤ 50 := h.2.2.2.2.1 a b
theorem Ok.d {S : Sg} (h : Ok S) : 1 ≤ sU S ∧ sU S < sB S ∧ sB S ≤ 4 := h.2.2.2.2.2.1
theorem Ok.s {S : Sg} (h : Ok S) (k : Nat) : sl S k ≤ 3 ∧ sk S k ≤ 60 := h.2.2.2.2.2.2 k
/-- a lane as the class and as the reference write it -/
def lnC (v : Nat) : Int32 := if v = 0 then -1 else nI (v - 1)
def lnM (v : Nat) : Int32 := if v = 0 then -4 else nI (v - 1)
def RepC (S : Sg) (u : Me) : Prop := mI u 0 = nI (sN S) ∧ (∀ m, m < sN S → mA u 4 m = nI (sz S m)) ∧ (∀ m s, m < sN S → s < sz S m → mA u 5 (4 * m + s) = nI (sa S m s)) ∧ (∀ m s b, m < sN S → s < sz S m → b < 3 → mA u 6 ((4 * m + s) * 3 + b) = nI (sx S m s b)) ∧ (∀ a b, a < 3 → b < 3 → mA u 2 (3 * a + b) = iI (sp S a b)) ∧ mL u 0 = lI (sU S) ∧ mL u 1 = lI (sB S) ∧ (∀ k, k < 4 → mA u 8 k = lnC (sl S k)) ∧ (∀ k, k < 4 → mA u 9 k = nI (sk S k)) ∧ (∀ k i, k < 4 → i < sk S k → mA u 10 (k * 60 + i) = sc S k i)
def RepM (S : Sg) (u : Me) : Prop := mI u 9 = nI (sN S) ∧ (∀ m, m < sN S → mA u 38 m = nI (sz S m)) ∧ (∀ m s, m < sN S → s < sz S m → mA u 39 (4 * m + s) = nI (sa S m s)) ∧ (∀ m s b, m < sN S → s < sz S m → b < 3 → mA u 40 (12 * m + 3 * s + b) = nI (sx S m s b)) ∧ (∀ a b, a < 3 → b < 3 → mA u 37 (3 * a + b) = iI (sp S a b)) ∧ mI u 7 = nI (sU S) ∧ mI u 8 = nI (sB S) ∧ (∀ k, k < 4 → mA u 41 k = lnM (sl S k)) ∧ (∀ k, k < 4 → mA u 42 k = nI (sk S k)) ∧ (∀ k i, k < 4 → i < sk S k → mA u 43 (60 * k + i) = sc S k i)
/-- u' is u but for the listed arrays, long arrays, int fields, long fields -/
def Sm (fa fj fi fl : List Nat) (u u' : Me) : Prop := (∀ c, c ∉ fa → mA u' c = mA u c) ∧ (∀ c, c ∉ fj → mJ u' c = mJ u c) ∧ (∀ c, c ∉ fi → mI u' c = mI u c) ∧ (∀ c, c ∉ fl → mL u' c = mL u c)
theorem Sm.rf {fa fj fi fl : List Nat} {u : Me} : Sm fa fj fi fl u u := ⟨fun _ _ => rfl, fun _ _ => rfl, fun _ _ => rfl, fun _ _ => rfl⟩
theorem Sm.tr {fa fj fi fl : List Nat} {u v w : Me} (h1 : Sm fa fj fi fl u v) (h2 : Sm fa fj fi fl v w) : Sm fa fj fi fl u w := ⟨fun c h => (h2.1 c h).trans (h1.1 c h), fun c h => (h2.2.1 c h).trans (h1.2.1 c h), fun c h => (h2.2.2.1 c h).trans (h1.2.2.1 c h), fun c h => (h2.2.2.2 c h).trans (h1.2.2.2 c h)⟩
theorem Sm.wk {fa fj fi fl ga gj gi gl : List Nat} {u v : Me} (h : Sm fa fj fi fl u v) (ha : ∀ c ∈ fa, c ∈ ga) (hj : ∀ c ∈ fj, c ∈ gj) (hi : ∀ c ∈ fi, c ∈ gi) (hl : ∀ c ∈ fl, c ∈ gl) : Sm ga gj gi gl u v := ⟨fun c q => h.1 c (fun z => q (ha c z)), fun c q => h.2.1 c (fun z => q (hj c z)), fun c q => h.2.2.1 c (fun z => q (hi c z)), fun c q => h.2.2.2 c (fun z => q (hl c z))⟩
theorem Sm.sA {fa fj fi fl : List Nat} {u v : Me} (h : Sm fa fj fi fl u v) {c : Nat} (hc : c ∈ fa) (f : Nat → Int32) : Sm fa fj fi fl u (sA v c f) := ⟨fun d q => (mA_sA_ne v f (fun (e : d = c) => q (by rw [e]; exact hc))).trans (h.1 d q), h.2.1, h.2.2.1, h.2.2.2⟩
theorem Sm.sJ {fa fj fi fl : List Nat} {u v : Me} (h : Sm fa fj fi fl u v) {c : Nat} (hc : c ∈ fj) (f : Nat → Int64) : Sm fa fj fi fl u (sJ v c f) := ⟨h.1, fun d q => (mJ_sJ_ne v f (fun (e : d = c) => q (by rw [e]; exact hc))).trans (h.2.1 d q), h.2.2.1, h.2.2.2⟩
theorem Sm.sI {fa fj fi fl : List Nat} {u v : Me} (h : Sm fa fj fi fl u v) {c : Nat} (hc : c ∈ fi) (x : Int32) : Sm fa fj fi fl u (sI v c x) := ⟨h.1, h.2.1, fun d q => (mI_sI_ne v x (fun (e : d = c) => q (by rw [e]; exact hc))).trans (h.2.2.1 d q), h.2.2.2⟩
theorem Sm.sL {fa fj fi fl : List Nat} {u v : Me} (h : Sm fa fj fi fl u v) {c : Nat} (hc : c ∈ fl) (x : Int64) : Sm fa fj fi fl u (sL v c x) := ⟨h.1, h.2.1, h.2.2.1, fun d q => (mL_sL_ne v x (fun (e : d = c) => q (by rw [e]; exact hc))).trans (h.2.2.2 d q)⟩
/-- lists that leave the class's own state, or the reference's, alone -/
def leC (fa fi fl : List Nat) : Prop := (2 ∉ fa ∧ 4 ∉ fa ∧ 5 ∉ fa ∧ 6 ∉ fa ∧ 8 ∉ fa ∧ 9 ∉ fa ∧ 10 ∉ fa) ∧ 0 ∉ fi ∧ 0 ∉ fl ∧ 1 ∉ fl
def leM (fa fi : List Nat) : Prop := (37 ∉ fa ∧ 38 ∉ fa ∧ 39 ∉ fa ∧ 40 ∉ fa ∧ 41 ∉ fa ∧ 42 ∉ fa ∧ 43 ∉ fa) ∧ 7 ∉ fi ∧ 8 ∉ fi ∧ 9 ∉ fi
theorem RepC.sm {S : Sg} {fa fj fi fl : List Nat} {u v : Me} (h : RepC S u) (hs : Sm fa fj fi fl u v) (hl : leC fa fi fl) : RepC S v := by
  obtain ⟨⟨l1, l2, l3, l4, l5, l6, l7⟩, l8, l9, l10⟩ := hl
  unfold RepC at h ⊢
  rw [hs.2.2.1 _ l8, hs.2.2.2 _ l9, hs.2.2.2 _ l10, hs.1 _ l1, hs.1 _ l2, hs.1 _ l3, hs.1 _ l4, hs.1 _ l5, hs.1 _ l6, hs.1 _ l7]
  exact h
theorem RepM.sm {S : Sg} {fa fj fi fl : List Nat} {u v : Me} (h : RepM S u) (hs : Sm fa fj fi fl u v) (hl : leM fa fi) : RepM S v := by
  obtain ⟨⟨l1, l2, l3, l4, l5, l6, l7⟩, l8, l9, l10⟩ := hl
  unfold RepM at h ⊢
  rw [hs.2.2.1 _ l8, hs.2.2.1 _ l9, hs.2.2.1 _ l10, hs.1 _ l1, hs.1 _ l2, hs.1 _ l3, hs.1 _ l4, hs.1 _ l5, hs.1 _ l6, hs.1 _ l7]
  exact h
theorem RepC.n {S : Sg} {u : Me} (h : RepC S u) : mI u 0 = nI (sN S) := h.1
theorem RepC.z {S : Sg} {u : Me} (h : RepC S u) {m : Nat} (hm : m < sN S) : mA u 4 m = nI (sz S m) := h.2.1 m hm
theorem RepC.a {S : Sg} {u : Me} (h : RepC S u) {m s : Nat} (hm : m < sN S) (hs : s < sz S m) : mA u 5 (4 * m + s) = nI (sa S m s) := h.2.2.1 m s hm hs
theorem RepC.x {S : Sg} {u : Me} (h : RepC S u) {m s b : Nat} (hm : m < sN S) (hs : s < sz S m) (hb : b < 3) : mA u 6 ((4 * m + s) * 3 + b) = nI (sx S m s b) := h.2.2.2.1 m s b hm hs hb
theorem RepC.p {S : Sg} {u : Me} (h : RepC S u) {a b : Nat} (ha : a < 3) (hb : b < 3) : mA u 2 (3 * a + b) = iI (sp S a b) := h.2.2.2.2.1 a b ha hb
theorem RepC.u {S : Sg} {u : Me} (h : RepC S u) : mL u 0 = lI (sU S) := h.2.2.2.2.2.1
theorem RepC.b {S : Sg} {u : Me} (h : RepC S u) : mL u 1 = lI (sB S) := h.2.2.2.2.2.2.1
theorem RepC.l {S : Sg} {u : Me} (h : RepC S u) {k : Nat} (hk : k < 4) : mA u 8 k = lnC (sl S k) := h.2.2.2.2.2.2.2.1 k hk
theorem RepC.k {S : Sg} {u : Me} (h : RepC S u) {k : Nat} (hk : k < 4) : mA u 9 k = nI (sk S k) := h.2.2.2.2.2.2.2.2.1 k hk
theorem RepC.c {S : Sg} {u : Me} (h : RepC S u) {k i : Nat} (hk : k < 4) (hi : i < sk S k) : mA u 10 (k * 60 + i) = sc S k i := h.2.2.2.2.2.2.2.2.2 k i hk hi
theorem RepM.n {S : Sg} {u : Me} (h : RepM S u) : mI u 9 = nI (sN S) := h.1
theorem RepM.z {S : Sg} {u : Me} (h : RepM S u) {m : Nat} (hm : m < sN S) : mA u 38 m = nI (sz S m) := h.2.1 m hm
theorem RepM.a {S : Sg} {u : Me} (h : RepM S u) {m s : Nat} (hm : m < sN S) (hs : s < sz S m) : mA u 39 (4 * m + s) = nI (sa S m s) := h.2.2.1 m s hm hs
theorem RepM.x {S : Sg} {u : Me} (h : RepM S u) {m s b : Nat} (hm : m < sN S) (hs : s < sz S m) (hb : b < 3) : mA u 40 (12 * m + 3 * s + b) = nI (sx S m s b) := h.2.2.2.1 m s b hm hs hb
theorem RepM.p {S : Sg} {u : Me} (h : RepM S u) {a b : Nat} (ha : a < 3) (hb : b < 3) : mA u 37 (3 * a + b) = iI (sp S a b) := h.2.2.2.2.1 a b ha hb
theorem RepM.u {S : Sg} {u : Me} (h : RepM S u) : mI u 7 = nI (sU S) := h.2.2.2.2.2.1
theorem RepM.b {S : Sg} {u : Me} (h : RepM S u) : mI u 8 = nI (sB S) := h.2.2.2.2.2.2.1
theorem RepM.l {S : Sg} {u : Me} (h : RepM S u) {k : Nat} (hk : k < 4) : mA u 41 k = lnM (sl S k) := h.2.2.2.2.2.2.2.1 k hk
theorem RepM.k {S : Sg} {u : Me} (h : RepM S u) {k : Nat} (hk : k < 4) : mA u 42 k = nI (sk S k) := h.2.2.2.2.2.2.2.2.1 k hk
theorem RepM.c {S : Sg} {u : Me} (h : RepM S u) {k i : Nat} (hk : k < 4) (hi : i < sk S k) : mA u 43 (60 * k + i) = sc S k i := h.2.2.2.2.2.2.2.2.2 k i hk hi
/-- there is a machine m; it has a state s -/
def isM (S : Sg) (m : Int32) : Prop := isR (sN S) m
def isS (S : Sg) (m s : Int32) : Prop := ∃ i : Nat, i < sN S ∧ m = nI i ∧ ∃ t : Nat, t < sz S i ∧ s = nI t
theorem isS_f1 {S : Sg} {m s : Int32} (h : ¬ isM S m) : ¬ isS S m s := by rintro ⟨i, hi, rfl, -⟩; exact h ⟨i, hi, rfl⟩
theorem isS_iff {S : Sg} (h : Ok S) {i : Nat} (hi : i < sN S) {s : Int32} : isS S (nI i) s ↔ isR (sz S i) s := by
  have h12 := h.n
  constructor
  · rintro ⟨j, hj, e, t, ht, rfl⟩
    have := (nI_eq (by omega) (by omega)).mp e
    subst this; exact ⟨t, ht, rfl⟩
  · rintro ⟨t, ht, rfl⟩; exact ⟨i, hi, rfl, t, ht, rfl⟩
theorem lI_le {a b : Int} (h1 : -9223372036854775808 ≤ a) (h2 : a < 9223372036854775808) (h3 : -9223372036854775808 ≤ b) (h4 : b < 9223372036854775808) : lI a ≤ lI b ↔ a ≤ b := by
  rw [Int64.le_iff_toInt_le, lI_toInt h1 h2, lI_toInt h3 h4]
theorem lI_lt {a b : Int} (h1 : -9223372036854775808 ≤ a) (h2 : a < 9223372036854775808) (h3 : -9223372036854775808 ≤ b) (h4 : b < 9223372036854775808) : lI a < lI b ↔ a < b := by
  rw [Int64.lt_iff_toInt_lt, lI_toInt h1 h2, lI_toInt h3 h4]
theorem lI_eq {a b : Int} (h1 : -9223372036854775808 ≤ a) (h2 : a < 9223372036854775808) (h3 : -9223372036854775808 ≤ b) (h4 : b < 9223372036854775808) : lI a = lI b ↔ a = b := by
  constructor
  · intro h; have := congrArg Int64.toInt h; rw [lI_toInt h1 h2, lI_toInt h3 h4] at this; exact this
  · intro h; rw [h]
theorem lI_neg (a : Int) : -lI a = lI (-a) := (Int64.ofInt_neg a).symm
theorem abs_lI {x : Int} (h1 : -4611686018427387904 < x) (h2 : x < 4611686018427387904) : (if 0 < lI x then lI x else -lI x) = lI (x.natAbs : Nat) := by
  have e : (0 : Int64) = lI 0 := rfl
  rw [e]
  split
  · rename_i h
    have := (lI_lt (by omega) (by omega) (by omega) (by omega)).mp h
    congr 1; omega
  · rename_i h
    have : ¬ (0 : Int) < x := fun q => h ((lI_lt (by omega) (by omega) (by omega) (by omega)).mpr q)
    rw [lI_neg]; congr 1; omega
