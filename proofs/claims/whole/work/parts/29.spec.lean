/-! WHAT THE CALLS ANSWER, of the state alone -/
/-- the least number that is P -/
noncomputable def mn (P : Nat → Prop) : Option Nat := @dite _ (∃ m, P m ∧ ∀ r, r < m → ¬ P r) (Classical.propDecidable _) (fun h => some h.choose) (fun _ => none)
theorem mn_some {P : Nat → Prop} {m : Nat} (h1 : P m) (h2 : ∀ r, r < m → ¬ P r) : mn P = some m := by
  have he : ∃ m, P m ∧ ∀ r, r < m → ¬ P r := ⟨m, h1, h2⟩
  unfold mn
  rw [dif_pos he]
  have hc := he.choose_spec
  congr 1
  rcases Nat.lt_trichotomy he.choose m with q | q | q
  · exact absurd hc.1 (h2 _ q)
  · exact q
  · exact absurd h1 (hc.2 _ q)
theorem mn_none {P : Nat → Prop} (h : ∀ r, ¬ P r) : mn P = none := by
  unfold mn
  rw [dif_neg]
  rintro ⟨m, h1, -⟩; exact h m h1
theorem mn_congr {P Q : Nat → Prop} (h : ∀ r, P r ↔ Q r) : mn P = mn Q := by
  have : P = Q := funext fun r => propext (h r)
  rw [this]
noncomputable def ifp {α : Type} (P : Prop) (a b : α) : α := @ite _ P (Classical.propDecidable P) a b
theorem ifp_t {α : Type} {P : Prop} (h : P) (a b : α) : ifp P a b = a := by unfold ifp; rw [if_pos h]
theorem ifp_f {α : Type} {P : Prop} (h : ¬ P) (a b : α) : ifp P a b = b := by unfold ifp; rw [if_neg h]
/-- the class's cells, the reference's cells -/
def cA : List Nat := [0, 1, 2, 3, 4, 5, 6, 7, 8, 9, 10, 11, 12, 13, 14, 15, 16, 17, 18, 19, 20, 21, 22, 23, 24, 25, 26, 27, 28, 29, 30, 31, 32, 33, 34, 35]
def cJ : List Nat := [15, 16]
def cI : List Nat := [0, 1, 2, 3, 4, 5, 6]
def cL : List Nat := [0, 1, 2, 3, 4, 5, 6, 7]
def rA : List Nat := [36, 37, 38, 39, 40, 41, 42, 43, 44, 45, 46, 47]
def rI : List Nat := [7, 8, 9, 10, 11, 12]
def rL : List Nat := [8, 9, 10, 11]
/-- but for the class's cells nothing has changed; but for the reference's -/
def SmC (u v : Me) : Prop := Sm cA cJ cI cL u v
def SmR (u v : Me) : Prop := Sm rA [] rI rL u v
theorem SmC.of {fa fj fi fl : List Nat} {u v : Me} (h : Sm fa fj fi fl u v) (ha : ∀ c ∈ fa, c ∈ cA) (hj : ∀ c ∈ fj, c ∈ cJ) (hi : ∀ c ∈ fi, c ∈ cI) (hl : ∀ c ∈ fl, c ∈ cL) : SmC u v := h.wk ha hj hi hl
theorem SmR.of {fa fj fi fl : List Nat} {u v : Me} (h : Sm fa fj fi fl u v) (ha : ∀ c ∈ fa, c ∈ rA) (hj : ∀ c ∈ fj, c ∈ ([] : List Nat)) (hi : ∀ c ∈ fi, c ∈ rI) (hl : ∀ c ∈ fl, c ∈ rL) : SmR u v := h.wk ha hj hi hl
theorem SmC.rf {u : Me} : SmC u u := Sm.rf
theorem SmR.rf {u : Me} : SmR u u := Sm.rf
theorem SmC.tr {u v w : Me} (h : SmC u v) (h2 : SmC v w) : SmC u w := Sm.tr h h2
theorem SmR.tr {u v w : Me} (h : SmR u v) (h2 : SmR v w) : SmR u w := Sm.tr h h2
theorem RepM.smC {S : Sg} {u v : Me} (h : RepM S u) (hs : SmC u v) : RepM S v := h.sm hs (by unfold leM; decide)
theorem RepC.smR {S : Sg} {u v : Me} (h : RepC S u) (hs : SmR u v) : RepC S v := h.sm hs (by unfold leC; decide)
/-- matches -/
noncomputable def mN (S : Sg) (i j : Nat) : Int := vN S (fP S i j) (gP S i j) 0
noncomputable def mD (S : Sg) (i j : Nat) : Int := vD S (fP S i j) (gP S i j) 0
def sumF (S : Sg) (i j n : Nat) : Int := sg (fun r => gP S i j (it (fP S i j) 0 r)) n
def slP (S : Sg) (i j p : Nat) : Nat := 4 * sx S i (p / 4) (sa S j (p % 4)) + sx S j (p % 4) ((sa S i (p / 4) + 1) % 3)
theorem slP_V {S : Sg} (hO : Ok S) {i j p : Nat} : VP S i j (slP S i j p) := by
  have h1 := hO.x i (p / 4) (sa S j (p % 4)); have h2 := hO.x j (p % 4) ((sa S i (p / 4) + 1) % 3)
  have z1 := (hO.z i).2; have z2 := (hO.z j).2
  unfold VP slP
  constructor <;> omega
/-- the best plan against j from t is worth more than the way from p -/
def gbp (S : Sg) (i j p t : Nat) : Prop := vN S (fP S i j) (gP S i j) p * qD S j t (bsP S j t) < qN S j t (bsP S j t) * vD S (fP S i j) (gP S i j) p
def restF (S : Sg) (i s j t : Nat) : Prop := ¬ gbp S i j (4 * s + t) t ∧ ¬ gbp S j i (4 * t + s) s
noncomputable def unr (S : Sg) (i j : Nat) : Option Nat := mn (fun p => VP S i j p ∧ ¬ restF S i (p / 4) j (p % 4))
noncomputable def cmpW (S : Sg) (i j a b : Nat) : Int32 := lg_cmp (lI (mN S i j * mD S a b)) (lI (mN S a b * mD S i j))
def withP (S : Sg) (j i : Nat) : Prop := 0 < cmpW S j j i j ∨ (cmpW S j j i j = 0 ∧ 0 < cmpW S j i i i)
noncomputable def ivN (S : Sg) (j : Nat) : Nat → Nat
  | 0 => 0
  | n + 1 => ifp (¬ n = j ∧ ¬ withP S j n) (ivN S j n + 2 ^ n) (ivN S j n)
def scF (S : Sg) (i n : Nat) : Int := sg (fun j => sumF S i j n) (sN S)
noncomputable def ahd (S : Sg) (n m : Nat) : Nat → Nat := cntN (fun i => iI (scF S m n) < iI (scF S i n) ∨ (iI (scF S i n) = iI (scF S m n) ∧ i < m))
noncomputable def rpI (S : Sg) (i n : Nat) : Nat := cntN (fun j => i ≤ j ∧ restF S i 0 j 0) n
noncomputable def rpS (S : Sg) : Nat → Nat
  | 0 => 0
  | i + 1 => rpS S i + rpI S i (sN S)
theorem ivN_t {S : Sg} {j n : Nat} (h : ¬ n = j ∧ ¬ withP S j n) : ivN S j (n + 1) = ivN S j n + 2 ^ n := by rw [ivN, ifp_t h]
theorem ivN_f {S : Sg} {j n : Nat} (h : ¬ (¬ n = j ∧ ¬ withP S j n)) : ivN S j (n + 1) = ivN S j n := by rw [ivN, ifp_f h]
theorem ivN_lt {S : Sg} {j : Nat} (n : Nat) : ivN S j n < 2 ^ n := by
  induction n with
  | zero => exact (by decide : (0 : Nat) < 2 ^ 0)
  | succ n ih =>
    have e : 2 ^ (n + 1) = 2 ^ n + 2 ^ n := by rw [Nat.pow_succ]; omega
    by_cases h : ¬ n = j ∧ ¬ withP S j n
    · rw [ivN_t h]; omega
    · rw [ivN_f h]; omega
theorem rpI_0 (S : Sg) (i : Nat) : ∀ n, n ≤ i → rpI S i n = 0 := by
  intro n
  induction n with
  | zero => intro _; rfl
  | succ n ih =>
    intro h
    unfold rpI
    rw [cntN_f (fun q => by have := q.1; omega)]
    exact ih (by omega)
theorem rpI_le (S : Sg) (i n : Nat) : rpI S i n ≤ n := cntN_le _ _
theorem rpS_le (S : Sg) (i : Nat) : rpS S i ≤ i * sN S := by
  induction i with
  | zero => simp [rpS]
  | succ i ih =>
    have := rpI_le S i (sN S)
    rw [rpS, Nat.succ_mul]; omega
/-- sheets: the fault that a machine's cells have, looked at from cell i on -/
def mst (n i : Nat) : Nat := if i % 4 = 0 then 3 else n
noncomputable def cfF (S : Sg) (k n f : Nat) (i : Nat) : Nat → Int32
  | 0 => 0
  | c + 1 => ifp (f + i < sk S k) (ifp (isR (mst n i) (sc S k (f + i))) (cfF S k n f (i + 1) c) (iI (-20 - (i : Int)))) (-12)
noncomputable def cfA (S : Sg) (k n : Nat) (f : Int32) : Int32 := ifp (isR (sk S k) f) (cfF S k n f.toNatClampNeg 0 (4 * n)) (-12)
theorem cfF_i {S : Sg} {k n f i c : Nat} (h : ¬ f + i < sk S k) : cfF S k n f i (c + 1) = -12 := by rw [cfF, ifp_f h]
theorem cfF_v {S : Sg} {k n f i c : Nat} (h : f + i < sk S k) (h2 : ¬ isR (mst n i) (sc S k (f + i))) : cfF S k n f i (c + 1) = iI (-20 - (i : Int)) := by rw [cfF, ifp_t h, ifp_f h2]
theorem cfF_s {S : Sg} {k n f i c : Nat} (h : f + i < sk S k) (h2 : isR (mst n i) (sc S k (f + i))) : cfF S k n f i (c + 1) = cfF S k n f (i + 1) c := by rw [cfF, ifp_t h, ifp_t h2]
theorem cfF_ok {S : Sg} {k n f : Nat} : ∀ (c i : Nat), i + c ≤ 16 → cfF S k n f i c = 0 → ∀ j, i ≤ j → j < i + c → f + j < sk S k ∧ isR (mst n j) (sc S k (f + j)) := by
  intro c
  induction c with
  | zero => intro i _ _ j h1 h2; omega
  | succ c ih =>
    intro i hi h j h1 h2
    by_cases q : f + i < sk S k
    · by_cases q2 : isR (mst n i) (sc S k (f + i))
      · rw [cfF_s q q2] at h
        rcases Nat.lt_or_ge i j with z | z
        · exact ih (i + 1) (by omega) h j (by omega) (by omega)
        · have : j = i := by omega
          subst this; exact ⟨q, q2⟩
      · rw [cfF_v q q2] at h
        have h0 := congrArg Int32.toInt h
        rw [iI_toInt (by omega) (by omega)] at h0
        have e : (0 : Int32).toInt = 0 := rfl
        omega
    · rw [cfF_i q] at h; exact absurd h (by decide)
/-- the machine being read of sheet k from cell f: q cells are read -/
def rdv (x : Int32) (lim : Nat) : Nat := if x.toNatClampNeg < lim then x.toNatClampNeg else 0
def PD (S : Sg) (k f n q : Nat) : Sg := (S.1 + 1, (fun m => if m = S.1 then n else S.2.1 m), (fun m s => if m = S.1 then (if 4 * s < q then rdv (sc S k (f + 4 * s)) 3 else 0) else S.2.2.1 m s), (fun m s b => if m = S.1 then (if s < n ∧ b < 3 then (if 4 * s + 1 + b < q then rdv (sc S k (f + (4 * s + 1 + b))) n else s) else 0) else S.2.2.2.1 m s b), S.2.2.2.2)
theorem rdv_lt (x : Int32) {lim : Nat} (h : 0 < lim) : rdv x lim < lim := by unfold rdv; split <;> omega
theorem rdv_nI {x : Int32} {lim : Nat} (h : isR lim x) (hl : lim < 100) : nI (rdv x lim) = x := by
  obtain ⟨i, hi, rfl⟩ := h
  unfold rdv; rw [nI_clamp (by omega), if_pos hi]
theorem Ok.PD {S : Sg} (h : Ok S) {k f n q : Nat} (h0 : sN S < 12) (h1 : 1 ≤ n) (h2 : n ≤ 4) : Ok (PD S k f n q) := by
  refine ⟨h0, fun m => ?_, fun m s => ?_, fun m s b => ?_, h.2.2.2.2⟩
  · show 1 ≤ (if m = S.1 then n else sz S m) ∧ (if m = S.1 then n else sz S m) ≤ 4
    split
    · exact ⟨h1, h2⟩
    · exact h.z m
  · show (if m = S.1 then (if 4 * s < q then rdv (sc S k (f + 4 * s)) 3 else 0) else sa S m s) < 3
    split
    · split
      · exact rdv_lt _ (by decide)
      · decide
    · exact h.a m s
  · show (if m = S.1 then (if s < n ∧ b < 3 then (if 4 * s + 1 + b < q then rdv (sc S k (f + (4 * s + 1 + b))) n else s) else 0) else sx S m s b) < (if m = S.1 then n else sz S m)
    by_cases z : m = S.1
    · rw [if_pos z, if_pos z]
      split
      · split
        · exact rdv_lt _ h1
        · omega
      · omega
    · rw [if_neg z, if_neg z]; exact h.x m s b
theorem PD_0 {S : Sg} {k f n m s b : Nat} : sa (PD S k f n 0) m s = sa (addS S n) m s ∧ (b < 3 → sx (PD S k f n 0) m s b = sx (addS S n) m s b) := by
  constructor
  · show (if m = S.1 then (if 4 * s < 0 then rdv (sc S k (f + 4 * s)) 3 else 0) else sa S m s) = (if m = S.1 then 0 else sa S m s)
    split
    · rw [if_neg (by omega)]
    · rfl
  · intro hb
    show (if m = S.1 then (if s < n ∧ b < 3 then (if 4 * s + 1 + b < 0 then rdv (sc S k (f + (4 * s + 1 + b))) n else s) else 0) else sx S m s b) = (if m = S.1 then (if s < n then s else 0) else sx S m s b)
    split
    · by_cases q : s < n
      · rw [if_pos ⟨q, hb⟩, if_neg (by omega), if_pos q]
      · rw [if_neg (fun z => q z.1), if_neg q]
    · rfl
theorem RepC.PD0 {S : Sg} {u : Me} {n : Nat} (h : RepC (addS S n) u) (k f : Nat) : RepC (PD S k f n 0) u :=
  ⟨h.1, h.2.1, fun m s hm hs => (h.2.2.1 m s hm hs).trans (congrArg nI (PD_0 (b := 0)).1.symm), fun m s b hm hs hb => (h.2.2.2.1 m s b hm hs hb).trans (congrArg nI (PD_0.2 hb).symm), h.2.2.2.2⟩
theorem RepM.PD0 {S : Sg} {u : Me} {n : Nat} (h : RepM (addS S n) u) (k f : Nat) : RepM (PD S k f n 0) u :=
  ⟨h.1, h.2.1, fun m s hm hs => (h.2.2.1 m s hm hs).trans (congrArg nI (PD_0 (b := 0)).1.symm), fun m s b hm hs hb => (h.2.2.2.1 m s b hm hs hb).trans (congrArg nI (PD_0.2 hb).symm), h.2.2.2.2⟩
/-- one more cell: an action -/
theorem PD_act {S : Sg} {k f n s i t b : Nat} : (sa (PD S k f n (4 * s + 1)) i t = if i = S.1 ∧ t = s then rdv (sc S k (f + 4 * s)) 3 else sa (PD S k f n (4 * s)) i t) ∧ sx (PD S k f n (4 * s + 1)) i t b = sx (PD S k f n (4 * s)) i t b := by
  constructor
  · show (if i = S.1 then (if 4 * t < 4 * s + 1 then rdv (sc S k (f + 4 * t)) 3 else 0) else sa S i t) = if i = S.1 ∧ t = s then rdv (sc S k (f + 4 * s)) 3 else (if i = S.1 then (if 4 * t < 4 * s then rdv (sc S k (f + 4 * t)) 3 else 0) else sa S i t)
    by_cases z : i = S.1
    · rw [if_pos z, if_pos z]
      by_cases z2 : t = s
      · rw [if_pos (show 4 * t < 4 * s + 1 by omega), if_pos (show i = S.1 ∧ t = s from ⟨z, z2⟩), z2]
      · rw [if_neg (show ¬ (i = S.1 ∧ t = s) from fun q => z2 q.2)]
        by_cases z3 : 4 * t < 4 * s
        · rw [if_pos z3, if_pos (show 4 * t < 4 * s + 1 by omega)]
        · rw [if_neg z3, if_neg (show ¬ 4 * t < 4 * s + 1 by omega)]
    · rw [if_neg z, if_neg z, if_neg (show ¬ (i = S.1 ∧ t = s) from fun q => z q.1)]
  · show (if i = S.1 then (if t < n ∧ b < 3 then (if 4 * t + 1 + b < 4 * s + 1 then rdv (sc S k (f + (4 * t + 1 + b))) n else t) else 0) else sx S i t b) = (if i = S.1 then (if t < n ∧ b < 3 then (if 4 * t + 1 + b < 4 * s then rdv (sc S k (f + (4 * t + 1 + b))) n else t) else 0) else sx S i t b)
    by_cases z : i = S.1
    · rw [if_pos z, if_pos z]
      by_cases z2 : t < n ∧ b < 3
      · rw [if_pos z2, if_pos z2]
        by_cases z3 : 4 * t + 1 + b < 4 * s
        · rw [if_pos z3, if_pos (show 4 * t + 1 + b < 4 * s + 1 by omega)]
        · rw [if_neg z3, if_neg (show ¬ 4 * t + 1 + b < 4 * s + 1 by omega)]
      · rw [if_neg z2, if_neg z2]
    · rw [if_neg z, if_neg z]
/-- one more cell: a next state -/
theorem PD_nxt {S : Sg} {k f n s b i t d : Nat} (hb : b < 3) : (d < 3 → t < n → i = S.1 → sx (PD S k f n (4 * s + 1 + b + 1)) i t d = if t = s ∧ d = b then rdv (sc S k (f + (4 * s + 1 + b))) n else sx (PD S k f n (4 * s + 1 + b)) i t d) ∧ (¬ i = S.1 → sx (PD S k f n (4 * s + 1 + b + 1)) i t d = sx (PD S k f n (4 * s + 1 + b)) i t d) ∧ sa (PD S k f n (4 * s + 1 + b + 1)) i t = sa (PD S k f n (4 * s + 1 + b)) i t := by
  refine ⟨fun hd ht hi => ?_, fun hi => ?_, ?_⟩
  · show (if i = S.1 then (if t < n ∧ d < 3 then (if 4 * t + 1 + d < 4 * s + 1 + b + 1 then rdv (sc S k (f + (4 * t + 1 + d))) n else t) else 0) else sx S i t d) = if t = s ∧ d = b then rdv (sc S k (f + (4 * s + 1 + b))) n else (if i = S.1 then (if t < n ∧ d < 3 then (if 4 * t + 1 + d < 4 * s + 1 + b then rdv (sc S k (f + (4 * t + 1 + d))) n else t) else 0) else sx S i t d)
    have htd : t < n ∧ d < 3 := ⟨ht, hd⟩
    rw [if_pos hi, if_pos hi, if_pos htd, if_pos htd]
    by_cases z : t = s ∧ d = b
    · rw [if_pos z, if_pos (show 4 * t + 1 + d < 4 * s + 1 + b + 1 by omega), z.1, z.2]
    · rw [if_neg z]
      by_cases z3 : 4 * t + 1 + d < 4 * s + 1 + b
      · rw [if_pos z3, if_pos (show 4 * t + 1 + d < 4 * s + 1 + b + 1 by omega)]
      · rw [if_neg z3, if_neg (show ¬ 4 * t + 1 + d < 4 * s + 1 + b + 1 by omega)]
  · show (if i = S.1 then _ else sx S i t d) = (if i = S.1 then _ else sx S i t d)
    rw [if_neg hi, if_neg hi]
  · show (if i = S.1 then (if 4 * t < 4 * s + 1 + b + 1 then rdv (sc S k (f + 4 * t)) 3 else 0) else sa S i t) = (if i = S.1 then (if 4 * t < 4 * s + 1 + b then rdv (sc S k (f + 4 * t)) 3 else 0) else sa S i t)
    by_cases z : i = S.1
    · rw [if_pos z, if_pos z]
      by_cases z3 : 4 * t < 4 * s + 1 + b
      · rw [if_pos z3, if_pos (show 4 * t < 4 * s + 1 + b + 1 by omega)]
      · rw [if_neg z3, if_neg (show ¬ 4 * t < 4 * s + 1 + b + 1 by omega)]
    · rw [if_neg z, if_neg z]
