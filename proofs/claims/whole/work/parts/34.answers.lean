/-! THE ANSWERS of the public calls: functions of the state and of the numbers given alone; calls that change the state give the new state too -/
def cl (x : Int32) : Nat := x.toNatClampNeg
theorem cl_nI {n : Nat} (h : n < 2 ^ 31) : cl (nI n) = n := nI_clamp h
def isAB (a b : Nat) (m : Int32) : Prop := ∃ i : Nat, a ≤ i ∧ i ≤ b ∧ m = nI i
theorem isAB_iff {a b : Nat} {m : Int32} (ha : a < 2 ^ 31) (hb : b < 2 ^ 31) : (nI a ≤ m ∧ m ≤ nI b) ↔ isAB a b m := by
  constructor
  · rintro ⟨h1, h2⟩
    have h0 : ¬ m < 0 := by
      intro q
      have q2 : m.toInt < 0 := by simpa using Int32.lt_iff_toInt_lt.mp q
      have q3 := Int32.le_iff_toInt_le.mp h1
      rw [nI_toInt ha] at q3; omega
    obtain ⟨j, hj, rfl⟩ := nI_of h0
    exact ⟨j, (nI_leI ha hj).mp h1, (nI_leI hj hb).mp h2, rfl⟩
  · rintro ⟨i, h1, hi, rfl⟩
    exact ⟨(nI_leI ha (by omega)).mpr h1, (nI_leI (by omega) hb).mpr hi⟩
theorem inAB_iff {a b : Nat} {m : Int32} (ha : a < 2 ^ 31) (hb : b < 2 ^ 31) : (lI a ≤ m.toInt64 ∧ m.toInt64 ≤ lI b) ↔ isAB a b m := by
  rw [← isAB_iff ha hb, i64_lI, Int64.le_iff_toInt_le, Int64.le_iff_toInt_le, Int32.le_iff_toInt_le, Int32.le_iff_toInt_le, nI_toInt ha, nI_toInt hb]
  have h1 := m.toInt_lt; have h2 := m.le_toInt
  rw [lI_toInt (by omega) (by omega), lI_toInt (by omega) (by omega), lI_toInt (by omega) (by omega)]
theorem inR_iff {n : Nat} {m : Int32} (hn : n < 2 ^ 31) : (lI 0 ≤ m.toInt64 ∧ m.toInt64 ≤ lI ((n : Int) - 1)) ↔ isR n m := by
  by_cases h0 : n = 0
  · subst h0
    constructor
    · rintro ⟨h1, h2⟩
      rw [i64_lI, Int64.le_iff_toInt_le] at h1 h2
      have k1 := m.toInt_lt; have k2 := m.le_toInt
      rw [lI_toInt (by omega) (by omega), lI_toInt (by omega) (by omega)] at h1 h2
      omega
    · rintro ⟨i, hi, -⟩; omega
  · have := inL_iff (n := n - 1) (m := m) (by omega)
    rw [show n - 1 + 1 = n by omega, show (((n - 1 : Nat)) : Int) = (n : Int) - 1 by omega] at this
    exact this
theorem isR_AB {n : Nat} {m : Int32} (h : 1 ≤ n) : isR n m ↔ isAB 0 (n - 1) m := ⟨fun ⟨i, hi, e⟩ => ⟨i, by omega, by omega, e⟩, fun ⟨i, _, hi, e⟩ => ⟨i, by omega, e⟩⟩
noncomputable def payA (S : Sg) (a b v : Int32) : Int32 × Sg := ifp (isR 3 a ∧ isR 3 b ∧ isZ2 (-50) 50 v) (nI 1, payS S (cl a) (cl b) v.toInt) (-1, S)
noncomputable def discA (S : Sg) (p q : Int32) : Int32 × Sg := ifp (isAB 2 4 q ∧ isAB 1 (cl q - 1) p) (nI 1, rateS S (cl p) (cl q)) (-1, S)
noncomputable def machA (S : Sg) (n : Int32) : Int32 × Sg := ifp (isAB 1 4 n) (ifp (sN S = 12) (-3, S) (nI (sN S), addS S (cl n))) (-1, S)
noncomputable def doesA (S : Sg) (m s a : Int32) : Int32 × Sg := ifp (isS S m s ∧ isR 3 a) (nI 1, doesS S (cl m) (cl s) (cl a)) (-1, S)
noncomputable def goesA (S : Sg) (m s a x : Int32) : Int32 × Sg := ifp (isS S m s ∧ isR 3 a ∧ isS S m x) (nI 1, goesS S (cl m) (cl s) (cl a) (cl x)) (-1, S)
noncomputable def toldA (S : Sg) (m s w : Int32) : Int32 := ifp (isS S m s ∧ isR 4 w) (if cl w = 0 then nI (sa S (cl m) (cl s)) else nI (sx S (cl m) (cl s) (cl w - 1))) (-1)
noncomputable def dropA (S : Sg) : Int32 × Sg := ifp (sN S = 0) (-4, S) (nI (sN S - 1), dropS S)
noncomputable def shetA (S : Sg) (k v n : Int32) : Int32 × Sg := ifp (isR 4 k ∧ isR 3 v ∧ n ≤ nI 60) (ifp (n < 0) (-14, S) (nI 1, sheetS S (cl k) (cl v) (cl n))) (-1, S)
noncomputable def layA (S : Sg) (k i v : Int32) : Int32 × Sg := ifp (isR 4 k) (ifp (sl S (cl k) = 0) (-11, S) (ifp (isR (sk S (cl k)) i) (nI 1, layS S (cl k) (cl i) v) (-12, S))) (-1, S)
noncomputable def drawA (S : Sg) (k v f n : Int32) : Int32 × Sg := ifp (isR 4 k ∧ isR 3 v ∧ isAB 1 4 n) (ifp (sl S (cl k) = 0) (-11, S) (ifp (sl S (cl k) = cl v + 1) (ifp (cfA S (cl k) (cl n) f = 0) (ifp (sN S = 12) (-3, S) (nI (sN S), PD S (cl k) (cl f) (cl n) (4 * cl n))) (cfA S (cl k) (cl n) f, S)) (-13, S))) (-1, S)
noncomputable def actA (S : Sg) (i j n : Int32) : Int32 := ifp (isM S i ∧ isM S j ∧ isR 1001 n) (nI (sa S (cl i) (it (fP S (cl i) (cl j)) 0 (cl n) / 4))) (-1)
noncomputable def matN (S : Sg) (i j w : Nat) : Int32 := if w = 0 then nI (tl (fP S i j) 0) else if w = 1 then nI (rg (fP S i j) 0) else if w = 2 then iI (sg (fun r => gP S i j (it (fP S i j) 0 r)) (tl (fP S i j) 0)) else iI (sg (fun r => gP S i j (it (fP S i j) 0 (tl (fP S i j) 0 + r))) (rg (fP S i j) 0))
noncomputable def matA (S : Sg) (i j w : Int32) : Int32 := ifp (isM S i ∧ isM S j ∧ isR 4 w) (matN S (cl i) (cl j) (cl w)) (-1000000)
noncomputable def sumA (S : Sg) (i j n : Int32) : Int32 := ifp (isM S i ∧ isM S j ∧ isR 1001 n) (iI (sumF S (cl i) (cl j) (cl n))) (-1000000)
noncomputable def meN (S : Sg) (i j : Nat) : Int := sg (fun r => gP S i j (it (fP S i j) 0 (tl (fP S i j) 0 + r))) (rg (fP S i j) 0)
noncomputable def meaA (S : Sg) (i j w : Int32) : Int64 := ifp (isM S i ∧ isM S j ∧ isR 2 w) (if cl w = 0 then lI (rdN (meN S (cl i) (cl j)) (rg (fP S (cl i) (cl j)) 0)) else lI (rdD (meN S (cl i) (cl j)) (rg (fP S (cl i) (cl j)) 0))) (lI (-1000000000000000))
noncomputable def worA (S : Sg) (i j w : Int32) : Int64 := ifp (isM S i ∧ isM S j ∧ isR 2 w) (if cl w = 0 then lI (mN S (cl i) (cl j)) else lI (mD S (cl i) (cl j))) (lI (-1000000000000000))
noncomputable def sliN (S : Sg) (i j n : Nat) : Int32 := match mtF (fP S i j) (it (fP S i j) 0 (n + 1)) (slP S i j (it (fP S i j) 0 n)) with | some m => nI m + nI 1 | none => -4
noncomputable def sliA (S : Sg) (i j n : Int32) : Int32 := ifp (isM S i ∧ isM S j ∧ isR 101 n) (sliN S (cl i) (cl j) (cl n)) (-1)
noncomputable def likA (S : Sg) (i j : Int32) : Int32 := ifp (isM S i ∧ isM S j) (bI (Lk S (cl i) 0 (cl j) 0)) (-1)
noncomputable def smaA (S : Sg) (m : Int32) : Int32 := ifp (isM S m) (nI (cntN (fresh S (cl m) (rcP S (cl m) 4)) (sz S (cl m)))) (-1)
noncomputable def besA (S : Sg) (m s : Int32) : Int32 := ifp (isS S m s) (nI (bsP S (cl m) (cl s))) (-1)
noncomputable def bwoA (S : Sg) (m s w : Int32) : Int64 := ifp (isS S m s ∧ isR 2 w) (if cl w = 0 then lI (qN S (cl m) (cl s) (bsP S (cl m) (cl s))) else lI (qD S (cl m) (cl s) (bsP S (cl m) (cl s)))) (lI (-1000000000000000))
noncomputable def pwoA (S : Sg) (m s p w : Int32) : Int64 := ifp (isS S m s ∧ isR 2 w ∧ isR (3 ^ sz S (cl m)) p) (if cl w = 0 then lI (qN S (cl m) (cl s) (cl p)) else lI (qD S (cl m) (cl s) (cl p))) (lI (-1000000000000000))
noncomputable def resA (S : Sg) (i j : Int32) : Int32 := ifp (isM S i ∧ isM S j) (bI (restF S (cl i) 0 (cl j) 0)) (-1)
noncomputable def eveA (S : Sg) (i j : Int32) : Int32 := ifp (isM S i ∧ isM S j) (match unr S (cl i) (cl j) with | some _ => nI 0 | none => nI 1) (-1)
noncomputable def devN (S : Sg) (i j w : Nat) : Int32 := match unr S i j with
  | some p => if w = 0 then nI p else ifp (w = 1) (ifp (gbp S i j p (p % 4)) (nI 0) (nI 1)) (ifp (gbp S i j p (p % 4)) (nI (bsP S j (p % 4))) (nI (bsP S i (p / 4))))
  | none => -4
noncomputable def devA (S : Sg) (i j w : Int32) : Int32 := ifp (isM S i ∧ isM S j ∧ isR 3 w) (devN S (cl i) (cl j) (cl w)) (-1)
noncomputable def rsiA (S : Sg) (j i : Int32) : Int32 := ifp (isM S i ∧ isM S j ∧ ¬ i = j) (bI (withP S (cl j) (cl i))) (-1)
noncomputable def invA (S : Sg) (j : Int32) : Int32 := ifp (isM S j) (nI (ivN S (cl j) (sN S))) (-1)
noncomputable def scoA (S : Sg) (i n : Int32) : Int32 := ifp (isM S i ∧ isR 1001 n) (iI (scF S (cl i) (cl n))) (-1000000)
noncomputable def plaA (S : Sg) (p n : Int32) : Int32 := ifp (¬ p < 0 ∧ isR 1001 n) (match mn (fun m => m < sN S ∧ nI (ahd S (cl n) m (sN S)) = p) with | some m => nI m | none => -4) (-1)
noncomputable def couA (S : Sg) (w : Int32) : Int32 := if w = nI 0 then nI (sN S) else if w = nI 1 then nI (cntN (fun m => ∀ i, i < m → ¬ Lk S i 0 m 0) (sN S)) else if w = nI 2 then nI (rpS S (sN S)) else if w = nI 3 then (if sl S 0 = 0 then -4 else nI (sk S 0)) else -1
theorem couA_0 {S : Sg} : couA S (nI 0) = nI (sN S) := if_pos rfl
theorem couA_1 {S : Sg} : couA S (nI 1) = nI (cntN (fun m => ∀ i, i < m → ¬ Lk S i 0 m 0) (sN S)) := by
  unfold couA; rw [if_neg (by decide), if_pos rfl]
theorem couA_2 {S : Sg} : couA S (nI 2) = nI (rpS S (sN S)) := by
  unfold couA; rw [if_neg (by decide), if_neg (by decide), if_pos rfl]
theorem couA_3 {S : Sg} : couA S (nI 3) = (if sl S 0 = 0 then -4 else nI (sk S 0)) := by
  unfold couA; rw [if_neg (by decide), if_neg (by decide), if_neg (by decide), if_pos rfl]
theorem couA_o {S : Sg} {w : Int32} (h : w.toInt < 0 ∨ 3 < w.toInt) : couA S w = -1 := by
  have e : ∀ k, k < 4 → ¬ w = nI k := by
    rintro k hk rfl
    rw [nI_toInt (by omega)] at h; omega
  unfold couA
  rw [if_neg (e 0 (by decide)), if_neg (e 1 (by decide)), if_neg (e 2 (by decide)), if_neg (e 3 (by decide))]
theorem meet_lt {f : Nat → Nat} {a b m : Nat} (ha : ∀ r, it f a r < 16) (hb : ∀ r, it f b r < 16) (h1 : it f a m = it f b m) (h2 : ∀ r, r < m → ¬ it f a r = it f b r) : m < 257 := by
  rcases Nat.lt_or_ge m 257 with q | q
  · exact q
  · exact absurd h1 (no_meet ha hb (fun r hr => h2 r (by omega)) m)
theorem unr_V {S : Sg} {i j p : Nat} (h : unr S i j = some p) : VP S i j p ∧ ¬ restF S i (p / 4) j (p % 4) := by
  unfold unr mn at h
  by_cases q : ∃ m, (VP S i j m ∧ ¬ restF S i (m / 4) j (m % 4)) ∧ ∀ r, r < m → ¬ (VP S i j r ∧ ¬ restF S i (r / 4) j (r % 4))
  · rw [dif_pos q] at h
    have := q.choose_spec.1
    cases h; exact this
  · rw [dif_neg q] at h; cases h
theorem meN_bd {S : Sg} (hO : Ok S) (i j : Nat) (hR : rg (fP S i j) 0 ≤ 16) : -1000 ≤ meN S i j ∧ meN S i j ≤ 1000 := by
  have h := sg_le (h := fun r => gP S i j (it (fP S i j) 0 (tl (fP S i j) 0 + r))) (M := 50) (n := rg (fP S i j) 0) (fun r _ => hO.p _ _)
  unfold meN; omega
