/-! LIKENESS: who does the same against whatever is done -/
def BIS (S : Sg) (i j : Nat) (B : Nat → Nat → Prop) : Prop := ∀ s t, B s t → sa S i s = sa S j t ∧ ∀ b, b < 3 → B (sx S i s b) (sx S j t b)
def Lk (S : Sg) (i s j t : Nat) : Prop := ∃ B, BIS S i j B ∧ B s t
theorem Lk.a {S : Sg} {i s j t : Nat} (h : Lk S i s j t) : sa S i s = sa S j t := by
  obtain ⟨B, h1, h2⟩ := h; exact (h1 s t h2).1
theorem Lk.x {S : Sg} {i s j t b : Nat} (h : Lk S i s j t) (hb : b < 3) : Lk S i (sx S i s b) j (sx S j t b) := by
  obtain ⟨B, h1, h2⟩ := h; exact ⟨B, h1, (h1 s t h2).2 b hb⟩
theorem Lk.symm {S : Sg} {i s j t : Nat} (h : Lk S i s j t) : Lk S j t i s := by
  obtain ⟨B, h1, h2⟩ := h
  exact ⟨fun a b => B b a, fun a b q => ⟨(h1 b a q).1.symm, fun c hc => (h1 b a q).2 c hc⟩, h2⟩
theorem Lk.comm {S : Sg} {i s j t : Nat} : Lk S i s j t ↔ Lk S j t i s := ⟨Lk.symm, Lk.symm⟩
/-- the pair behind b -/
def nxP (S : Sg) (i j p b : Nat) : Nat := 4 * sx S i (p / 4) b + sx S j (p % 4) b
theorem nxP_V {S : Sg} (hO : Ok S) {i j p b : Nat} : VP S i j (nxP S i j p b) ∧ nxP S i j p b / 4 = sx S i (p / 4) b ∧ nxP S i j p b % 4 = sx S j (p % 4) b := by
  have h1 := hO.x i (p / 4) b; have h2 := hO.x j (p % 4) b
  have z1 := (hO.z i).2; have z2 := (hO.z j).2
  unfold VP nxP
  refine ⟨⟨?_, ?_⟩, ?_, ?_⟩ <;> omega
/-- the search: n pairs found, P c the c-th; k are worked off, of the next one bb of its nexts; met: their bits -/
def SLI (u : Me) (S : Sg) (i s j t k bb n met : Nat) (P : Nat → Nat) (v : Me) : Prop := Sm [12] [] [] [] u v ∧ (n ≤ 16 ∧ 1 ≤ n ∧ k ≤ n ∧ met < 65536) ∧ P 0 = 4 * s + t ∧ (∀ c, c < n → mA v 12 c = nI (P c) ∧ VP S i j (P c) ∧ (Lk S i s j t → Lk S i (P c / 4) j (P c % 4))) ∧ (∀ c d, c < d → d < n → ¬ P c = P d) ∧ (∀ p, p < 16 → (met.testBit p = true ↔ ∃ c, c < n ∧ P c = p)) ∧ (∀ c, c < k → sa S i (P c / 4) = sa S j (P c % 4) ∧ ∀ b, b < 3 → ∃ d, d < n ∧ P d = nxP S i j (P c) b) ∧ (∀ b, b < bb → ∃ d, d < n ∧ P d = nxP S i j (P k) b)
theorem SLI.init {S : Sg} (hO : Ok S) (u : Me) {i s j t : Nat} (hs : s < sz S i) (ht : t < sz S j) : SLI u S i s j t 0 0 1 (2 ^ (4 * s + t)) (fun _ => 4 * s + t) (sA u 12 (upd (mA u 12) 0 (nI (4 * s + t)))) := by
  have z1 := (hO.z i).2; have z2 := (hO.z j).2
  have e1 : (4 * s + t) / 4 = s := by omega
  have e2 : (4 * s + t) % 4 = t := by omega
  refine ⟨Sm.rf.sA (by decide) _, ⟨by omega, by omega, by omega, pow_lt16 (by omega)⟩, rfl, fun c hc => ⟨?_, VP_st hO hs ht, ?_⟩, fun c d _ hd => absurd hd (by omega), fun p hp => ?_, fun c hc => absurd hc (by omega), fun b hb => absurd hb (by omega)⟩
  · have : c = 0 := by omega
    subst this; rw [mA_sA_self]; exact if_pos rfl
  · intro h; rw [e1, e2]; exact h
  · rw [Nat.testBit_two_pow, decide_eq_true_iff]
    exact ⟨fun h => ⟨0, by omega, h⟩, fun ⟨c, _, h⟩ => h⟩
theorem SLI.room {u v : Me} {S : Sg} {i s j t k bb n met : Nat} {P : Nat → Nat} (hO : Ok S) (h : SLI u S i s j t k bb n met P v) {q : Nat} (hq : VP S i j q) (hm : ¬ met.testBit q = true) : n < 16 := by
  obtain ⟨-, ⟨hn, -, -, -⟩, -, h4, h5, h6, -, -⟩ := h
  rcases Nat.lt_or_ge n 16 with z | z
  · exact z
  · exfalso
    have hn16 : n = 16 := by omega
    subst hn16
    have q16 := VP_16 hO hq
    obtain ⟨a, b, hab, hb, e⟩ := php 16 (fun c => if c < 16 then P c else q) (fun c hc => by
      show (if c < 16 then P c else q) < 16
      split
      · rename_i z; exact VP_16 hO (h4 c z).2.1
      · exact q16)
    have e' : (if a < 16 then P a else q) = (if b < 16 then P b else q) := e
    rw [if_pos (by omega)] at e'
    rcases Nat.lt_or_ge b 16 with z2 | z2
    · rw [if_pos z2] at e'; exact h5 a b hab z2 e'
    · rw [if_neg (by omega)] at e'
      exact hm ((h6 q q16).mpr ⟨a, by omega, e'⟩)
theorem SLI.add {u v : Me} {S : Sg} {i s j t k bb n met : Nat} {P : Nat → Nat} (hO : Ok S) (h : SLI u S i s j t k bb n met P v) (hk : k < n) (hb : bb < 3) (hm : ¬ met.testBit (nxP S i j (P k) bb) = true) : SLI u S i s j t k (bb + 1) (n + 1) (met ||| 2 ^ nxP S i j (P k) bb) (fun c => if c = n then nxP S i j (P k) bb else P c) (sA v 12 (upd (mA v 12) n (nI (nxP S i j (P k) bb)))) := by
  have hq := (nxP_V hO (i := i) (j := j) (p := P k) (b := bb)).1
  have hroom := h.room hO hq hm
  have q16 := VP_16 hO hq
  obtain ⟨h1, ⟨n1, n2, n3, n4⟩, h3, h4, h5, h6, h7, h8⟩ := h
  have up : ∀ c, c < n → (if c = n then nxP S i j (P k) bb else P c) = P c := fun c hc => if_neg (by omega)
  refine ⟨h1.sA (by decide) _, ⟨by omega, by omega, by omega, or_lt (n := 16) n4 (pow_lt16 q16)⟩, (up 0 (by omega)).trans h3, fun c hc => ?_, fun c d hcd hd => ?_, fun p hp => ?_, fun c hc => ?_, fun b hb' => ?_⟩
  · rw [mA_sA_self]
    dsimp only
    unfold upd
    rcases Nat.lt_or_ge c n with z | z
    · rw [if_neg (by omega), if_neg (by omega)]; exact h4 c z
    · have : c = n := by omega
      subst this
      rw [if_pos rfl, if_pos rfl]
      refine ⟨rfl, hq, fun hl => ?_⟩
      have e := nxP_V hO (i := i) (j := j) (p := P k) (b := bb)
      rw [e.2.1, e.2.2]
      exact ((h4 k hk).2.2 hl).x hb
  · dsimp only
    rcases Nat.lt_or_ge d n with z | z
    · rw [if_neg (by omega), if_neg (by omega)]; exact h5 c d hcd z
    · have : d = n := by omega
      subst this
      rw [if_neg (by omega), if_pos rfl]
      intro e
      exact hm ((h6 _ q16).mpr ⟨c, hcd, e⟩)
  · rw [Nat.testBit_or, Bool.or_eq_true, h6 p hp, Nat.testBit_two_pow, decide_eq_true_iff]
    constructor
    · rintro (⟨c, hc, e⟩ | e)
      · exact ⟨c, by omega, (up c hc).trans e⟩
      · exact ⟨n, by omega, (if_pos rfl).trans e⟩
    · rintro ⟨c, hc, e⟩
      dsimp only at e
      rcases Nat.lt_or_ge c n with z | z
      · rw [if_neg (by omega)] at e; exact Or.inl ⟨c, z, e⟩
      · rw [if_pos (by omega)] at e; exact Or.inr e
  · have := h7 c hc
    dsimp only
    rw [up c (by omega)]
    refine ⟨this.1, fun b hb2 => ?_⟩
    obtain ⟨d, hd, e⟩ := this.2 b hb2
    exact ⟨d, by omega, (up d hd).trans e⟩
  · dsimp only
    rw [up k hk]
    rcases Nat.lt_or_ge b bb with z | z
    · obtain ⟨d, hd, e⟩ := h8 b z
      exact ⟨d, by omega, (up d hd).trans e⟩
    · have : b = bb := by omega
      subst this
      exact ⟨n, by omega, if_pos rfl⟩
theorem SLI.old {u v : Me} {S : Sg} {i s j t k bb n met : Nat} {P : Nat → Nat} (hO : Ok S) (h : SLI u S i s j t k bb n met P v) (hm : met.testBit (nxP S i j (P k) bb) = true) : SLI u S i s j t k (bb + 1) n met P v := by
  obtain ⟨h1, h2, h3, h4, h5, h6, h7, h8⟩ := h
  refine ⟨h1, h2, h3, h4, h5, h6, h7, fun b hb => ?_⟩
  rcases Nat.lt_or_ge b bb with z | z
  · exact h8 b z
  · have : b = bb := by omega
    subst this
    exact (h6 _ (VP_16 hO (nxP_V hO).1)).mp hm
theorem SLI.row {u v : Me} {S : Sg} {i s j t k n met : Nat} {P : Nat → Nat} (h : SLI u S i s j t k 3 n met P v) (hk : k < n) (he : sa S i (P k / 4) = sa S j (P k % 4)) : SLI u S i s j t (k + 1) 0 n met P v := by
  obtain ⟨h1, ⟨n1, n2, n3, n4⟩, h3, h4, h5, h6, h7, h8⟩ := h
  refine ⟨h1, ⟨n1, n2, hk, n4⟩, h3, h4, h5, h6, fun c hc => ?_, fun b hb => absurd hb (by omega)⟩
  rcases Nat.lt_or_ge c k with z | z
  · exact h7 c z
  · have : c = k := by omega
    subst this
    exact ⟨he, h8⟩
theorem SLI.fin {u v : Me} {S : Sg} {i s j t k bb n met : Nat} {P : Nat → Nat} (hO : Ok S) (h : SLI u S i s j t k bb n met P v) (hs : s < sz S i) (ht : t < sz S j) (hk : n ≤ k) : Lk S i s j t := by
  obtain ⟨h1, ⟨n1, n2, n3, n4⟩, h3, h4, h5, h6, h7, h8⟩ := h
  have z2 := (hO.z j).2
  refine ⟨fun a b => ∃ c, c < n ∧ P c / 4 = a ∧ P c % 4 = b, fun a b hab => ?_, ⟨0, by omega, by rw [h3]; omega, by rw [h3]; omega⟩⟩
  obtain ⟨c, hc, rfl, rfl⟩ := hab
  have := h7 c (by omega)
  refine ⟨this.1, fun b hb => ?_⟩
  obtain ⟨d, hd, e⟩ := this.2 b hb
  have e2 := nxP_V hO (i := i) (j := j) (p := P c) (b := b)
  exact ⟨d, hd, by rw [e]; exact e2.2.1, by rw [e]; exact e2.2.2⟩
theorem SLI.bad {u v : Me} {S : Sg} {i s j t k bb n met : Nat} {P : Nat → Nat} (h : SLI u S i s j t k bb n met P v) (hk : k < n) (he : ¬ sa S i (P k / 4) = sa S j (P k % 4)) : ¬ Lk S i s j t := fun hl => he ((h.2.2.2.1 k hk).2.2 hl).a
/-- how many below n are P -/
noncomputable def cntN (P : Nat → Prop) : Nat → Nat
  | 0 => 0
  | n + 1 => @ite _ (P n) (Classical.propDecidable _) (cntN P n + 1) (cntN P n)
theorem cntN_t {P : Nat → Prop} {n : Nat} (h : P n) : cntN P (n + 1) = cntN P n + 1 := by rw [cntN, if_pos h]
theorem cntN_f {P : Nat → Prop} {n : Nat} (h : ¬ P n) : cntN P (n + 1) = cntN P n := by rw [cntN, if_neg h]
theorem cntN_le (P : Nat → Prop) (n : Nat) : cntN P n ≤ n := by
  induction n with
  | zero => exact Nat.le_refl _
  | succ n ih =>
    rw [cntN]; split <;> omega
theorem cntN_congr {P Q : Nat → Prop} {n : Nat} (h : ∀ i, i < n → (P i ↔ Q i)) : cntN P n = cntN Q n := by
  induction n with
  | zero => rfl
  | succ n ih =>
    by_cases q : P n
    · rw [cntN_t q, cntN_t ((h n (by omega)).mp q), ih (fun i hi => h i (by omega))]
    · rw [cntN_f q, cntN_f (fun z => q ((h n (by omega)).mpr z)), ih (fun i hi => h i (by omega))]
/-- the states that m can come to, as bits -/
def rcA (S : Sg) (m s r : Nat) : Nat → Nat
  | 0 => r
  | a + 1 => if (rcA S m s r a).testBit s = true then rcA S m s r a ||| 2 ^ sx S m s a else rcA S m s r a
def rcS (S : Sg) (m r : Nat) : Nat → Nat
  | 0 => r
  | s + 1 => rcA S m s (rcS S m r s) 3
def rcP (S : Sg) (m : Nat) : Nat → Nat
  | 0 => 1
  | p + 1 => rcS S m (rcP S m p) (sz S m)
theorem rcA_lt {S : Sg} (hO : Ok S) {m s r : Nat} (hr : r < 16) (a : Nat) : rcA S m s r a < 16 := by
  induction a with
  | zero => exact hr
  | succ a ih =>
    unfold rcA
    split
    · exact or_lt (n := 4) ih (Nat.pow_lt_pow_right (by decide) (hO.x4 m s a) (n := 4))
    · exact ih
theorem rcS_lt {S : Sg} (hO : Ok S) {m r : Nat} (hr : r < 16) (s : Nat) : rcS S m r s < 16 := by
  induction s with
  | zero => exact hr
  | succ s ih => exact rcA_lt hO ih 3
theorem rcP_lt {S : Sg} (hO : Ok S) (m p : Nat) : rcP S m p < 16 := by
  induction p with
  | zero => exact (by decide : (1 : Nat) < 16)
  | succ p ih => exact rcS_lt hO ih _
theorem rcA_t {S : Sg} {m s r a : Nat} (h : (rcA S m s r a).testBit s = true) : rcA S m s r (a + 1) = rcA S m s r a ||| 2 ^ sx S m s a := by rw [rcA, if_pos h]
theorem rcA_f {S : Sg} {m s r a : Nat} (h : ¬ (rcA S m s r a).testBit s = true) : rcA S m s r (a + 1) = rcA S m s r a := by rw [rcA, if_neg h]
theorem rcA_stop {S : Sg} {m s r a : Nat} (h : ¬ (rcA S m s r a).testBit s = true) (d : Nat) : rcA S m s r (a + d) = rcA S m s r a := by
  induction d with
  | zero => rfl
  | succ d ih =>
    rw [← Nat.add_assoc, rcA_f (by rw [ih]; exact h), ih]
/-- state s of m is a new one: none before it that is reached is like it -/
def fresh (S : Sg) (m r s : Nat) : Prop := r.testBit s = true ∧ ∀ t, t < s → r.testBit t = true → ¬ Lk S m s m t
