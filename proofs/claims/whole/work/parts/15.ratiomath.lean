/-! RATIOS: bounds of worths, lowest terms, Euclid's steps -/
theorem pw_pos {b : Int} (hb : 1 ≤ b) (n : Nat) : 1 ≤ pw b n := by
  induction n with
  | zero => exact Int.le_refl 1
  | succ n ih =>
    rw [pw_s]
    have := Int.mul_le_mul ih hb (by omega) (by omega)
    omega
theorem pw_add (b : Int) (m n : Nat) : pw b (m + n) = pw b m * pw b n := by
  induction n with
  | zero => simp [pw]
  | succ n ih => rw [← Nat.add_assoc, pw_s, pw_s, ih, Int.mul_assoc]
theorem pw_le {a b : Int} (ha : 1 ≤ a) (hab : a ≤ b) (n : Nat) : pw a n ≤ pw b n := by
  induction n with
  | zero => exact Int.le_refl 1
  | succ n ih =>
    rw [pw_s, pw_s]
    have h1 := pw_pos ha n
    have h2 := pw_pos (Int.le_trans ha hab) n
    exact Int.mul_le_mul ih hab (by omega) (by omega)
theorem pw_lt {a b : Int} (ha : 1 ≤ a) (hab : a < b) {n : Nat} (hn : 0 < n) : pw a n < pw b n := by
  obtain ⟨m, rfl⟩ : ∃ m, n = m + 1 := ⟨n - 1, by omega⟩
  rw [pw_s, pw_s]
  have h1 := pw_pos ha m
  have h2 := pw_le ha (Int.le_of_lt hab) m
  have h3 : pw a m * a ≤ pw b m * a := Int.mul_le_mul_of_nonneg_right h2 (by omega)
  have h4 : pw b m * a < pw b m * b := Int.mul_lt_mul_of_pos_left hab (by omega)
  omega
theorem pw_mono {b : Int} (hb : 1 ≤ b) {m n : Nat} (h : m ≤ n) : pw b m ≤ pw b n := by
  obtain ⟨d, rfl⟩ : ∃ d, n = m + d := ⟨n - m, by omega⟩
  rw [pw_add]
  have h1 := pw_pos hb m
  have h2 := pw_pos hb d
  have := Int.mul_le_mul_of_nonneg_left h2 (show (0 : Int) ≤ pw b m by omega)
  omega
theorem pw4 {b : Int} (h1 : 1 ≤ b) (h4 : b ≤ 4) {n : Nat} (hn : n ≤ 16) : pw b n ≤ 4294967296 := by
  have a1 := pw_le h1 h4 n
  have a2 := pw_mono (b := 4) (by decide) hn
  have a3 : pw 4 16 = 4294967296 := by decide
  omega
def NUM (h : Nat → Int) (T R : Nat) (p q : Int) : Int := q * (wg h p q T * (pw q R - pw p R) + pw p T * wg (fun r => h (T + r)) p q R)
def DEN (T R : Nat) (p q : Int) : Int := pw q T * (pw q R - pw p R)
theorem wg_congr {h h2 : Nat → Int} {p q : Int} {n : Nat} (e : ∀ r, r < n → h r = h2 r) : wg h p q n = wg h2 p q n := by
  induction n with
  | zero => rfl
  | succ n ih => rw [wg_s, wg_s, ih (fun r z => e r (by omega)), e n (by omega)]
theorem wg_le {h : Nat → Int} {p q : Int} (hp : 1 ≤ p) (hpq : p < q) {n : Nat} (e : ∀ r, r < n → -50 ≤ h r ∧ h r ≤ 50) : -(50 * (n : Int) * pw q n) ≤ q * wg h p q n ∧ q * wg h p q n ≤ 50 * (n : Int) * pw q n := by
  induction n with
  | zero => simp [wg]
  | succ n ih =>
    obtain ⟨i1, i2⟩ := ih (fun r z => e r (by omega))
    obtain ⟨e1, e2⟩ := e n (by omega)
    have hq : 1 ≤ q := by omega
    have hp1 := pw_pos hp n
    have hle := pw_le hp (Int.le_of_lt hpq) n
    have hq1 := pw_pos hq n
    have m1 : h n * pw p n ≤ 50 * pw q n := Int.le_trans (Int.mul_le_mul_of_nonneg_right e2 (by omega)) (Int.mul_le_mul_of_nonneg_left hle (by omega))
    have m2 : -(50 * pw q n) ≤ h n * pw p n := by
      have a1 : (-50) * pw p n ≤ h n * pw p n := Int.mul_le_mul_of_nonneg_right e1 (by omega)
      omega
    have k1 : q * wg h p q n * q ≤ 50 * (n : Int) * pw q n * q := Int.mul_le_mul_of_nonneg_right i2 (by omega)
    have k2 : -(50 * (n : Int) * pw q n) * q ≤ q * wg h p q n * q := Int.mul_le_mul_of_nonneg_right i1 (by omega)
    have k3 : q * (h n * pw p n) ≤ q * (50 * pw q n) := Int.mul_le_mul_of_nonneg_left m1 (by omega)
    have k4 : q * (-(50 * pw q n)) ≤ q * (h n * pw p n) := Int.mul_le_mul_of_nonneg_left m2 (by omega)
    have x1 : q * wg h p q (n + 1) = q * wg h p q n * q + q * (h n * pw p n) := by rw [wg_s]; grind
    have x2 : 50 * ((n + 1 : Nat) : Int) * pw q (n + 1) = 50 * (n : Int) * pw q n * q + q * (50 * pw q n) := by rw [pw_s]; push_cast; grind
    have x3 : q * (-(50 * pw q n)) = -(q * (50 * pw q n)) := by grind
    have x4 : -(50 * (n : Int) * pw q n) * q = -(50 * (n : Int) * pw q n * q) := by grind
    rw [x1, x2]; omega
theorem DEN_pos {T R : Nat} {p q : Int} (hp : 1 ≤ p) (hpq : p < q) (hR : 0 < R) : 1 ≤ DEN T R p q := by
  unfold DEN
  have h1 := pw_pos (show 1 ≤ q by omega) T
  have h2 := pw_lt hp hpq hR
  have := Int.mul_le_mul h1 (show 1 ≤ pw q R - pw p R by omega) (by omega) (by omega)
  omega
theorem DEN_le {T R : Nat} {p q : Int} (hp : 1 ≤ p) (hpq : p < q) (hq : q ≤ 4) (hTR : T + R ≤ 16) : DEN T R p q ≤ 4294967296 := by
  unfold DEN
  have h1 := pw_pos (show 1 ≤ q by omega) T
  have h2 := pw_pos hp R
  have h3 : pw q T * (pw q R - pw p R) ≤ pw q T * pw q R := Int.mul_le_mul_of_nonneg_left (by omega) (by omega)
  rw [← pw_add] at h3
  have := pw4 (show 1 ≤ q by omega) hq hTR
  omega
theorem NUM_gen {h : Nat → Int} {T R : Nat} {p q : Int} (hp : 1 ≤ p) (hpq : p < q) (hR : 0 < R) (e : ∀ r, r < T + R → -50 ≤ h r ∧ h r ≤ 50) : -(50 * ((T + R : Nat) : Int) * pw q (T + R)) ≤ NUM h T R p q ∧ NUM h T R p q ≤ 50 * ((T + R : Nat) : Int) * pw q (T + R) := by
  obtain ⟨a1, a2⟩ := wg_le (h := h) hp hpq (n := T) (fun r z => e r (by omega))
  obtain ⟨b1, b2⟩ := wg_le (h := fun r => h (T + r)) hp hpq (n := R) (fun r z => e (T + r) (by omega))
  have x : NUM h T R p q = q * wg h p q T * (pw q R - pw p R) + pw p T * (q * wg (fun r => h (T + r)) p q R) := by unfold NUM; grind
  have q1 : 1 ≤ q := by omega
  have c1 := pw_pos q1 R
  have c2 := pw_pos q1 T
  have c3 := pw_pos hp R
  have c4 := pw_pos hp T
  have c5 := pw_lt hp hpq hR
  have c6 := pw_le hp (Int.le_of_lt hpq) T
  generalize q * wg h p q T = A at *
  generalize q * wg (fun r => h (T + r)) p q R = B at *
  have d1 : A * (pw q R - pw p R) ≤ 50 * (T : Int) * pw q T * pw q R := by
    have z1 := Int.mul_le_mul_of_nonneg_right a2 (show 0 ≤ pw q R - pw p R by omega)
    have z2 : (0 : Int) ≤ 50 * (T : Int) * pw q T := Int.mul_nonneg (by omega) (by omega)
    have z3 := Int.mul_le_mul_of_nonneg_left (show pw q R - pw p R ≤ pw q R by omega) z2
    omega
  have d2 : -(50 * (T : Int) * pw q T * pw q R) ≤ A * (pw q R - pw p R) := by
    have z1 := Int.mul_le_mul_of_nonneg_right a1 (show 0 ≤ pw q R - pw p R by omega)
    have z2 : (0 : Int) ≤ 50 * (T : Int) * pw q T := Int.mul_nonneg (by omega) (by omega)
    have z3 := Int.mul_le_mul_of_nonneg_left (show pw q R - pw p R ≤ pw q R by omega) z2
    have z4 : -(50 * (T : Int) * pw q T) * (pw q R - pw p R) = -(50 * (T : Int) * pw q T * (pw q R - pw p R)) := by grind
    omega
  have z2 : (0 : Int) ≤ 50 * (R : Int) * pw q R := Int.mul_nonneg (by omega) (by omega)
  have f1 : pw p T * B ≤ pw q T * (50 * (R : Int) * pw q R) := by
    have y1 := Int.mul_le_mul_of_nonneg_left b2 (show 0 ≤ pw p T by omega)
    have y2 := Int.mul_le_mul_of_nonneg_right c6 z2
    omega
  have f2 : -(pw q T * (50 * (R : Int) * pw q R)) ≤ pw p T * B := by
    have y1 := Int.mul_le_mul_of_nonneg_left b1 (show 0 ≤ pw p T by omega)
    have y2 := Int.mul_le_mul_of_nonneg_right c6 z2
    have y3 : pw p T * -(50 * (R : Int) * pw q R) = -(pw p T * (50 * (R : Int) * pw q R)) := by grind
    omega
  have k : 50 * (T : Int) * pw q T * pw q R + pw q T * (50 * (R : Int) * pw q R) = 50 * ((T + R : Nat) : Int) * pw q (T + R) := by rw [pw_add]; push_cast; grind
  rw [x]; omega
theorem NUM_le {h : Nat → Int} {T R : Nat} {p q : Int} (hp : 1 ≤ p) (hpq : p < q) (hq : q ≤ 4) (hTR : T + R ≤ 16) (hR : 0 < R) (e : ∀ r, r < T + R → -50 ≤ h r ∧ h r ≤ 50) : -4398046511104 < NUM h T R p q ∧ NUM h T R p q < 4398046511104 := by
  have h1 := NUM_gen hp hpq hR e
  have k2 := pw4 (show 1 ≤ q by omega) hq hTR
  have k3 := pw_pos (show 1 ≤ q by omega) (T + R)
  have k4 : 50 * ((T + R : Nat) : Int) * pw q (T + R) ≤ 50 * 16 * 4294967296 := Int.mul_le_mul (by omega) k2 (by omega) (by omega)
  omega
theorem NUM_le4 {h : Nat → Int} {T R : Nat} {p q : Int} (hp : 1 ≤ p) (hpq : p < q) (hq : q ≤ 4) (hTR : T + R ≤ 4) (hR : 0 < R) (e : ∀ r, r < T + R → -50 ≤ h r ∧ h r ≤ 50) : -51200 ≤ NUM h T R p q ∧ NUM h T R p q ≤ 51200 := by
  have h1 := NUM_gen hp hpq hR e
  have k0 := pw_le (show 1 ≤ q by omega) hq (T + R)
  have k1 := pw_mono (b := 4) (by decide) hTR
  have k3 := pw_pos (show 1 ≤ q by omega) (T + R)
  have k5 : pw 4 4 = 256 := by decide
  have k4 : 50 * ((T + R : Nat) : Int) * pw q (T + R) ≤ 50 * 4 * 256 := Int.mul_le_mul (by omega) (by omega) (by omega) (by omega)
  omega
theorem DEN_le4 {T R : Nat} {p q : Int} (hp : 1 ≤ p) (hpq : p < q) (hq : q ≤ 4) (hTR : T + R ≤ 4) : DEN T R p q ≤ 256 := by
  unfold DEN
  have h1 := pw_pos (show 1 ≤ q by omega) T
  have h2 := pw_pos hp R
  have h3 : pw q T * (pw q R - pw p R) ≤ pw q T * pw q R := Int.mul_le_mul_of_nonneg_left (by omega) (by omega)
  rw [← pw_add] at h3
  have k0 := pw_le (show 1 ≤ q by omega) hq (T + R)
  have k1 := pw_mono (b := 4) (by decide) hTR
  have k5 : pw 4 4 = 256 := by decide
  omega
/-- lowest terms -/
def rdN (n d : Int) : Int := n.tdiv (Nat.gcd n.natAbs d.natAbs)
def rdD (n d : Int) : Int := d.tdiv (Nat.gcd n.natAbs d.natAbs)
theorem lI_div {a b : Int} (h1 : -9223372036854775808 < a) (h2 : a < 9223372036854775808) (h3 : 0 < b) (h4 : b < 9223372036854775808) : lI a / lI b = lI (a.tdiv b) := by
  apply Int64.toInt_inj.mp
  have hq : (a.tdiv b).natAbs ≤ a.natAbs := by rw [Int.natAbs_tdiv]; exact Nat.div_le_self _ _
  rw [Int64.toInt_div, lI_toInt (by omega) h2, lI_toInt (by omega) h4, lI_toInt (by omega) (by omega)]
  exact Int.bmod_eq_of_le (by omega) (by omega)
theorem lI_rem {a b : Int} (h1 : -9223372036854775808 < a) (h2 : a < 9223372036854775808) (h3 : 0 < b) (h4 : b < 9223372036854775808) : lI a - lI a / lI b * lI b = lI (a.tmod b) := by
  rw [lI_div h1 h2 h3 h4, lI_mul, lI_sub]
  congr 1
  have := Int.tmod_add_mul_tdiv a b
  rw [Int.mul_comm] at this
  omega
theorem lI_remN {a b : Nat} (h1 : a < 9223372036854775808) (h3 : 0 < b) (h4 : b < 9223372036854775808) : lI (a : Int) - lI a / lI b * lI b = lI ((a % b : Nat) : Int) := by
  rw [lI_rem (by omega) (by omega) (by omega) (by omega)]
  congr 1
theorem lI_ne0 {b : Int} (h3 : 0 < b) (h4 : b < 9223372036854775808) : ¬ lI b = 0 := by
  intro h
  have e : (0 : Int64) = lI 0 := rfl
  rw [e] at h
  have := (lI_eq (by omega) (by omega) (by omega) (by omega)).mp h
  omega
theorem lI_cmp0 {b : Int} (h1 : -9223372036854775808 ≤ b) (h4 : b < 9223372036854775808) : lg_cmp (lI b) (lI 0) = 0 ↔ b = 0 := by
  rw [lg_cmp_eq]; exact lI_eq h1 h4 (by omega) (by omega)
/-- one step of Euclid's: the product of the two halves at least, once the first is the greater one -/
theorem eu_half {G0 L0 s : Nat} (hL : 0 < L0) (hs : 1 ≤ s → L0 < G0) (hp : G0 * L0 * 2 ^ s ≤ 2 ^ 76) (h0 : s = 0 → G0 * L0 * 2 ≤ 2 ^ 76) : L0 * (G0 % L0) * 2 ^ (s + 1) ≤ 2 ^ 76 := by
  by_cases q : L0 ≤ G0
  · have h1 : L0 + G0 % L0 ≤ G0 := by
      have e := Nat.div_add_mod G0 L0
      have : 1 ≤ G0 / L0 := Nat.div_pos q hL
      have := Nat.mul_le_mul_left L0 this
      omega
    have h2 := Nat.mod_lt G0 hL
    have h3 : L0 * (G0 % L0) * 2 ≤ G0 * L0 := by
      have h4 : (G0 % L0) * 2 ≤ G0 := by omega
      have h5 := Nat.mul_le_mul_left L0 h4
      rw [Nat.mul_assoc, Nat.mul_comm G0 L0]; exact h5
    have h6 := Nat.mul_le_mul_right (2 ^ s) h3
    rw [Nat.pow_succ, Nat.mul_comm (2 ^ s) 2, ← Nat.mul_assoc]
    exact Nat.le_trans h6 hp
  · have hs0 : s = 0 := by
      rcases Nat.eq_zero_or_pos s with z | z
      · exact z
      · exact absurd (hs z) (by omega)
    subst hs0
    have := h0 rfl
    have h2 : G0 % L0 = G0 := Nat.mod_eq_of_lt (by omega)
    rw [h2, Nat.mul_comm L0 G0]; exact this
theorem eu_end {G0 L0 : Nat} (hG : 0 < G0) (hp : G0 * L0 * 2 ^ 100 ≤ 2 ^ 76) : L0 = 0 := by
  rcases Nat.eq_zero_or_pos L0 with z | z
  · exact z
  · have : 1 ≤ G0 * L0 := Nat.mul_pos hG z
    have := Nat.mul_le_mul_right (2 ^ 100) this
    have h2 : (2 : Nat) ^ 76 < 1 * 2 ^ 100 := by decide
    omega
