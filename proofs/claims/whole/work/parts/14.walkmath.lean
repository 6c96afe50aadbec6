/-! WAYS: iterates, their tail and ring, sums along them -/
def it (f : Nat → Nat) (p : Nat) : Nat → Nat
  | 0 => p
  | n + 1 => f (it f p n)
def sg (h : Nat → Int) : Nat → Int
  | 0 => 0
  | n + 1 => sg h n + h n
theorem it_0 (f : Nat → Nat) (p : Nat) : it f p 0 = p := rfl
theorem it_s (f : Nat → Nat) (p n : Nat) : it f p (n + 1) = f (it f p n) := rfl
theorem it_add (f : Nat → Nat) (p a b : Nat) : it f p (a + b) = it f (it f p a) b := by
  induction b with
  | zero => rfl
  | succ b ih => rw [← Nat.add_assoc, it_s, it_s, ih]
theorem it_V {V : Nat → Prop} {f : Nat → Nat} (hV : ∀ p, V p → V (f p)) {p : Nat} (h : V p) (n : Nat) : V (it f p n) := by
  induction n with
  | zero => exact h
  | succ n ih => exact hV _ ih
theorem it_congr {f f2 : Nat → Nat} {V : Nat → Prop} (hV : ∀ p, V p → V (f p)) (he : ∀ p, V p → f p = f2 p) {p : Nat} (h : V p) (n : Nat) : it f p n = it f2 p n := by
  induction n with
  | zero => rfl
  | succ n ih => rw [it_s, it_s, ← ih, he _ (it_V hV h n)]
theorem sg_0 (h : Nat → Int) : sg h 0 = 0 := rfl
theorem sg_s (h : Nat → Int) (n : Nat) : sg h (n + 1) = sg h n + h n := rfl
theorem sg_congr {h h2 : Nat → Int} {n : Nat} (e : ∀ r, r < n → h r = h2 r) : sg h n = sg h2 n := by
  induction n with
  | zero => rfl
  | succ n ih => rw [sg_s, sg_s, ih (fun r q => e r (by omega)), e n (by omega)]
theorem sg_add (h : Nat → Int) (a b : Nat) : sg h (a + b) = sg h a + sg (fun r => h (a + r)) b := by
  induction b with
  | zero => simp [sg_0]
  | succ b ih => rw [← Nat.add_assoc, sg_s, sg_s, ih]; omega
theorem sg_le {h : Nat → Int} {M : Int} {n : Nat} (e : ∀ r, r < n → -M ≤ h r ∧ h r ≤ M) : -(M * n) ≤ sg h n ∧ sg h n ≤ M * n := by
  induction n with
  | zero => simp [sg_0]
  | succ n ih =>
    have h1 := ih (fun r q => e r (by omega))
    have h2 := e n (by omega)
    rw [sg_s]
    have e3 : M * ((n + 1 : Nat) : Int) = M * n + M := by rw [Int.natCast_add, Int.mul_add]; simp
    rw [e3]; omega
/-- more pigeons than holes -/
theorem php : ∀ (n : Nat) (f : Nat → Nat), (∀ a, a < n + 1 → f a < n) → ∃ a b, a < b ∧ b < n + 1 ∧ f a = f b := by
  intro n
  induction n with
  | zero => intro f h; exact absurd (h 0 (by omega)) (by omega)
  | succ n ih =>
    intro f h
    by_cases he : ∃ a, a < n + 1 ∧ f a = f (n + 1)
    · obtain ⟨a, ha, e⟩ := he; exact ⟨a, n + 1, ha, by omega, e⟩
    · obtain ⟨a, b, hab, hb, e⟩ := ih (fun a => if f a = n then f (n + 1) else f a) (by
        intro a ha
        have h1 := h a (by omega)
        have h2 := h (n + 1) (by omega)
        show (if f a = n then f (n + 1) else f a) < n
        split
        · rename_i q
          rcases Nat.lt_or_ge (f (n + 1)) n with z | z
          · exact z
          · exact absurd ⟨a, ha, by omega⟩ he
        · omega)
      refine ⟨a, b, hab, by omega, ?_⟩
      have n1 : ¬ f a = f (n + 1) := fun q => he ⟨a, by omega, q⟩
      have n2 : ¬ f b = f (n + 1) := fun q => he ⟨b, by omega, q⟩
      by_cases q1 : f a = n
      · by_cases q2 : f b = n
        · rw [q1, q2]
        · rw [if_pos q1, if_neg q2] at e; exact absurd e.symm n2
      · by_cases q2 : f b = n
        · rw [if_neg q1, if_pos q2] at e; exact absurd e n1
        · rw [if_neg q1, if_neg q2] at e; exact e
/-- the first T + R places are different, the next one is that of T -/
def IsTR (f : Nat → Nat) (p T R : Nat) : Prop := 0 < R ∧ it f p (T + R) = it f p T ∧ ∀ a b, a < b → b < T + R → ¬ it f p a = it f p b
theorem IsTR.uni {f : Nat → Nat} {p T R T2 R2 : Nat} (h : IsTR f p T R) (h2 : IsTR f p T2 R2) : T = T2 ∧ R = R2 := by
  obtain ⟨r1, e1, d1⟩ := h
  obtain ⟨r2, e2, d2⟩ := h2
  have hK : T + R = T2 + R2 := by
    rcases Nat.lt_trichotomy (T + R) (T2 + R2) with q | q | q
    · exact absurd e1.symm (d2 T (T + R) (by omega) q)
    · exact q
    · exact absurd e2.symm (d1 T2 (T2 + R2) (by omega) q)
  have hT : T = T2 := by
    have e3 : it f p T = it f p T2 := by rw [← e1, ← e2, hK]
    rcases Nat.lt_trichotomy T T2 with q | q | q
    · exact absurd e3 (d2 T T2 q (by omega))
    · exact q
    · exact absurd e3.symm (d1 T2 T q (by omega))
  exact ⟨hT, by omega⟩
noncomputable def tlr (f : Nat → Nat) (p : Nat) : Nat × Nat := @dite _ (∃ q : Nat × Nat, IsTR f p q.1 q.2) (Classical.propDecidable _) (fun h => h.choose) (fun _ => (0, 1))
noncomputable def tl (f : Nat → Nat) (p : Nat) : Nat := (tlr f p).1
noncomputable def rg (f : Nat → Nat) (p : Nat) : Nat := (tlr f p).2
theorem tlr_of {f : Nat → Nat} {p T R : Nat} (h : IsTR f p T R) : tl f p = T ∧ rg f p = R := by
  have he : ∃ q : Nat × Nat, IsTR f p q.1 q.2 := ⟨(T, R), h⟩
  have e : tlr f p = he.choose := by unfold tlr; rw [dif_pos he]
  unfold tl rg
  rw [e]
  exact he.choose_spec.uni h
/-- where a repeat comes by the (n + 1)-th place, there is a tail and a ring -/
theorem IsTR.ex {f : Nat → Nat} {p : Nat} : ∀ (n : Nat), (∃ a b, a < b ∧ b ≤ n ∧ it f p a = it f p b) → ∃ T R, IsTR f p T R ∧ T + R ≤ n := by
  intro n
  induction n with
  | zero => rintro ⟨a, b, h1, h2, -⟩; omega
  | succ n ih =>
    rintro ⟨a, b, h1, h2, e⟩
    by_cases q : ∃ a b, a < b ∧ b ≤ n ∧ it f p a = it f p b
    · obtain ⟨T, R, h, hle⟩ := ih q; exact ⟨T, R, h, by omega⟩
    · have hb : b = n + 1 := by
        rcases Nat.lt_or_ge b (n + 1) with z | z
        · exact absurd ⟨a, b, h1, by omega, e⟩ q
        · omega
      subst hb
      refine ⟨a, n + 1 - a, ⟨by omega, ?_, ?_⟩, by omega⟩
      · rw [show a + (n + 1 - a) = n + 1 by omega]; exact e.symm
      · intro c d hcd hd e2; exact q ⟨c, d, hcd, by omega, e2⟩
theorem IsTR.of_lt {f : Nat → Nat} {p N : Nat} (h : ∀ r, it f p r < N) : ∃ T R, IsTR f p T R ∧ T + R ≤ N := by
  obtain ⟨a, b, h1, h2, e⟩ := php N (it f p) (fun a _ => h a)
  exact IsTR.ex N ⟨a, b, h1, by omega, e⟩
theorem tlr_spec {f : Nat → Nat} {p N : Nat} (h : ∀ r, it f p r < N) : IsTR f p (tl f p) (rg f p) ∧ tl f p + rg f p ≤ N := by
  obtain ⟨T, R, h1, h2⟩ := IsTR.of_lt h
  obtain ⟨e1, e2⟩ := tlr_of h1
  rw [e1, e2]; exact ⟨h1, h2⟩
theorem IsTR.per {f : Nat → Nat} {p T R : Nat} (h : IsTR f p T R) (r : Nat) : it f p (T + r + R) = it f p (T + r) := by
  rw [show T + r + R = (T + R) + r by omega, it_add, h.2.1, ← it_add]
theorem IsTR.per2 {f : Nat → Nat} {p T R : Nat} (h : IsTR f p T R) (r q : Nat) : it f p (T + r + R * q) = it f p (T + r) := by
  induction q with
  | zero => rfl
  | succ q ih => rw [Nat.mul_succ, ← Nat.add_assoc, show T + r + R * q + R = T + (r + R * q) + R by omega, h.per, ← Nat.add_assoc, ih]
theorem IsTR.mod {f : Nat → Nat} {p T R : Nat} (h : IsTR f p T R) {r : Nat} (hr : T ≤ r) : it f p (T + (r - T) % R) = it f p r := by
  have e := h.per2 ((r - T) % R) ((r - T) / R)
  rw [← e]
  congr 1
  have := Nat.mod_add_div (r - T) R
  omega
theorem IsTR.sum {f : Nat → Nat} {p T R : Nat} (h : IsTR f p T R) (w : Nat → Int) {n : Nat} (hn : T ≤ n) : sg (fun r => w (it f p r)) n = sg (fun r => w (it f p r)) T + (((n - T) / R : Nat) : Int) * sg (fun r => w (it f p (T + r))) R + sg (fun r => w (it f p (T + r))) ((n - T) % R) := by
  have key : ∀ q, sg (fun r => w (it f p (T + r))) (R * q) = (q : Int) * sg (fun r => w (it f p (T + r))) R := by
    intro q
    induction q with
    | zero => simp [sg_0]
    | succ q ih =>
      rw [Nat.mul_succ, sg_add, ih]
      have e : sg (fun r => w (it f p (T + (R * q + r)))) R = sg (fun r => w (it f p (T + r))) R := sg_congr (fun r _ => by
        show w (it f p (T + (R * q + r))) = w (it f p (T + r))
        rw [show T + (R * q + r) = T + r + R * q by omega, h.per2])
      rw [e, Int.natCast_add, Int.add_mul]; simp
  have e0 : n = T + (R * ((n - T) / R) + (n - T) % R) := by
    have := Nat.div_add_mod (n - T) R; omega
  have e1 : sg (fun r => w (it f p r)) n = sg (fun r => w (it f p r)) (T + (R * ((n - T) / R) + (n - T) % R)) := by rw [← e0]
  rw [e1, sg_add, sg_add, key, Int.add_assoc]
  congr 2
  exact sg_congr (fun r _ => by
    show w (it f p (T + (R * ((n - T) / R) + r))) = w (it f p (T + r))
    rw [show T + (R * ((n - T) / R) + r) = T + r + R * ((n - T) / R) by omega, h.per2])
/-- powers as the code makes them -/
def pw (b : Int) : Nat → Int
  | 0 => 1
  | n + 1 => pw b n * b
theorem pw_s (b : Int) (n : Nat) : pw b (n + 1) = pw b n * b := rfl
/-- the numbers weighed: sum of h r times p to the r times q to the (n - 1 - r) -/
def wg (h : Nat → Int) (p q : Int) : Nat → Int
  | 0 => 0
  | n + 1 => wg h p q n * q + h n * pw p n
theorem wg_s (h : Nat → Int) (p q : Int) (n : Nat) : wg h p q (n + 1) = wg h p q n * q + h n * pw p n := rfl
