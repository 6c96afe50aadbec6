/-! WORTHS of ways: numerator and denominator ahead of lowest terms, and in them -/
noncomputable def nmF (S : Sg) (f : Nat → Nat) (w : Nat → Int) (p : Nat) : Int := NUM (fun r => w (it f p r)) (tl f p) (rg f p) (sU S) (sB S)
noncomputable def dnF (S : Sg) (f : Nat → Nat) (p : Nat) : Int := DEN (tl f p) (rg f p) (sU S) (sB S)
noncomputable def vN (S : Sg) (f : Nat → Nat) (w : Nat → Int) (p : Nat) : Int := rdN (nmF S f w p) (dnF S f p)
noncomputable def vD (S : Sg) (f : Nat → Nat) (w : Nat → Int) (p : Nat) : Int := rdD (nmF S f w p) (dnF S f p)
theorem Ok.pq {S : Sg} (h : Ok S) : (1 : Int) ≤ sU S ∧ ((sU S : Nat) : Int) < sB S ∧ ((sB S : Nat) : Int) ≤ 4 := by
  have := h.d; omega
/-- a way of places below N, gains from -50 to 50 -/
theorem way_bounds {S : Sg} (hO : Ok S) {f : Nat → Nat} {w : Nat → Int} {p : Nat} (h16 : ∀ r, it f p r < 16) (hw : ∀ r, -50 ≤ w (it f p r) ∧ w (it f p r) ≤ 50) : -4398046511104 < nmF S f w p ∧ nmF S f w p < 4398046511104 ∧ 1 ≤ dnF S f p ∧ dnF S f p ≤ 4294967296 := by
  obtain ⟨h1, h2, h3⟩ := hO.pq
  obtain ⟨hT, hTR⟩ := tlr_spec h16
  have a := NUM_le h1 h2 h3 hTR hT.1 (h := fun r => w (it f p r)) (fun r _ => hw r)
  exact ⟨a.1, a.2, DEN_pos h1 h2 hT.1, DEN_le h1 h2 h3 hTR⟩
theorem way_bounds4 {S : Sg} (hO : Ok S) {f : Nat → Nat} {w : Nat → Int} {p : Nat} (h16 : ∀ r, it f p r < 4) (hw : ∀ r, -50 ≤ w (it f p r) ∧ w (it f p r) ≤ 50) : -51200 ≤ nmF S f w p ∧ nmF S f w p ≤ 51200 ∧ 1 ≤ dnF S f p ∧ dnF S f p ≤ 256 := by
  obtain ⟨h1, h2, h3⟩ := hO.pq
  obtain ⟨hT, hTR⟩ := tlr_spec h16
  have a := NUM_le4 h1 h2 h3 hTR hT.1 (h := fun r => w (it f p r)) (fun r _ => hw r)
  exact ⟨a.1, a.2, DEN_pos h1 h2 hT.1, DEN_le4 h1 h2 h3 hTR⟩
theorem rd_spec {n d : Int} (hd : 1 ≤ d) : 1 ≤ rdD n d ∧ rdD n d ≤ d ∧ (rdN n d).natAbs ≤ n.natAbs ∧ rdN n d * d = n * rdD n d ∧ Nat.gcd (rdN n d).natAbs (rdD n d).natAbs = 1 := by
  have hg : 0 < Nat.gcd n.natAbs d.natAbs := Nat.gcd_pos_of_pos_right _ (by omega)
  obtain ⟨a, ha⟩ : ((Nat.gcd n.natAbs d.natAbs : Nat) : Int) ∣ n := Int.ofNat_dvd_left.mpr (Nat.gcd_dvd_left _ _)
  obtain ⟨b, hb⟩ : ((Nat.gcd n.natAbs d.natAbs : Nat) : Int) ∣ d := Int.ofNat_dvd_left.mpr (Nat.gcd_dvd_right _ _)
  have hgi : (1 : Int) ≤ (Nat.gcd n.natAbs d.natAbs : Nat) := by omega
  have e1 : rdN n d = a := by
    unfold rdN
    generalize Nat.gcd n.natAbs d.natAbs = G0 at *
    rw [ha]; exact Int.mul_tdiv_cancel_left a (by omega)
  have e2 : rdD n d = b := by
    unfold rdD
    generalize Nat.gcd n.natAbs d.natAbs = G0 at *
    rw [hb]; exact Int.mul_tdiv_cancel_left b (by omega)
  rw [e1, e2]
  have hb1 : 1 ≤ b := by
    by_cases q : b < 1
    · have : (Nat.gcd n.natAbs d.natAbs : Int) * b ≤ 0 := Int.mul_nonpos_of_nonneg_of_nonpos (by omega) (by omega)
      omega
    · omega
  have hle : b ≤ d := by
    have := Int.mul_le_mul_of_nonneg_right hgi (show 0 ≤ b by omega)
    omega
  have hcop : Nat.gcd a.natAbs b.natAbs = 1 := by
    have h1 : n.natAbs = Nat.gcd n.natAbs d.natAbs * a.natAbs := by
      have := congrArg Int.natAbs ha; rw [Int.natAbs_mul] at this; simpa using this
    have h2 : d.natAbs = Nat.gcd n.natAbs d.natAbs * b.natAbs := by
      have := congrArg Int.natAbs hb; rw [Int.natAbs_mul] at this; simpa using this
    have h3 : Nat.gcd n.natAbs d.natAbs = Nat.gcd n.natAbs d.natAbs * Nat.gcd a.natAbs b.natAbs := by
      have h4 : Nat.gcd n.natAbs d.natAbs = Nat.gcd (Nat.gcd n.natAbs d.natAbs * a.natAbs) (Nat.gcd n.natAbs d.natAbs * b.natAbs) := by rw [← h1, ← h2]
      rw [Nat.gcd_mul_left] at h4; exact h4
    have h5 : Nat.gcd n.natAbs d.natAbs * 1 = Nat.gcd n.natAbs d.natAbs * Nat.gcd a.natAbs b.natAbs := by rw [Nat.mul_one]; exact h3
    exact (Nat.eq_of_mul_eq_mul_left hg h5).symm
  refine ⟨hb1, hle, ?_, ?_, hcop⟩
  · have h1 : n.natAbs = Nat.gcd n.natAbs d.natAbs * a.natAbs := by
      have := congrArg Int.natAbs ha; rw [Int.natAbs_mul] at this; simpa using this
    have := Nat.mul_le_mul_right a.natAbs (show 1 ≤ Nat.gcd n.natAbs d.natAbs from hg)
    omega
  · generalize Nat.gcd n.natAbs d.natAbs = G0 at *
    rw [ha, hb]; grind
theorem neg_cmp_lt {x y : Int64} : (-lg_cmp x y < 0) ↔ y < x := by
  rw [← lg_cmp_gt]
  unfold lg_cmp
  split
  · exact ⟨fun _ => by decide, fun _ => by decide⟩
  · split
    · exact ⟨fun h => absurd h (by decide), fun h => absurd h (by decide)⟩
    · exact ⟨fun h => absurd h (by decide), fun h => absurd h (by decide)⟩
theorem neg_cmp_gt {x y : Int64} : (0 < -lg_cmp x y) ↔ x < y := by
  rw [← lg_cmp_lt]
  unfold lg_cmp
  split
  · exact ⟨fun h => absurd h (by decide), fun h => absurd h (by decide)⟩
  · split
    · exact ⟨fun h => absurd h (by decide), fun h => absurd h (by decide)⟩
    · exact ⟨fun _ => by decide, fun _ => by decide⟩
/-- a plan's worth from a state of m, and the best plan -/
noncomputable def qN (S : Sg) (m s plan : Nat) : Int := vN S (fQ S m plan) (gQ S m plan) s
noncomputable def qD (S : Sg) (m s plan : Nat) : Int := vD S (fQ S m plan) (gQ S m plan) s
noncomputable def bs (S : Sg) (m s : Nat) : Nat → Nat
  | 0 => 0
  | n + 1 => @ite _ (qN S m s (bs S m s n) * qD S m s (n + 1) < qN S m s (n + 1) * qD S m s (bs S m s n)) (Classical.propDecidable _) (n + 1) (bs S m s n)
noncomputable def bsP (S : Sg) (m s : Nat) : Nat := bs S m s (3 ^ sz S m - 1)
theorem bs_le (S : Sg) (m s n : Nat) : bs S m s n ≤ n := by
  induction n with
  | zero => exact Nat.le_refl _
  | succ n ih =>
    unfold bs
    split <;> omega
theorem bs_t {S : Sg} {m s n : Nat} (h : qN S m s (bs S m s n) * qD S m s (n + 1) < qN S m s (n + 1) * qD S m s (bs S m s n)) : bs S m s (n + 1) = n + 1 := by
  rw [bs, if_pos h]
theorem bs_f {S : Sg} {m s n : Nat} (h : ¬ qN S m s (bs S m s n) * qD S m s (n + 1) < qN S m s (n + 1) * qD S m s (bs S m s n)) : bs S m s (n + 1) = bs S m s n := by
  rw [bs, if_neg h]
theorem VQ_it {S : Sg} (hO : Ok S) {m s plan : Nat} (hs : s < sz S m) (r : Nat) : it (fQ S m plan) s r < sz S m := it_V (V := fun p => p < sz S m) (fun p _ => hO.x _ _ _) hs r
theorem q_bounds {S : Sg} (hO : Ok S) {m s : Nat} (plan : Nat) (hs : s < sz S m) : -51200 ≤ qN S m s plan ∧ qN S m s plan ≤ 51200 ∧ 1 ≤ qD S m s plan ∧ qD S m s plan ≤ 256 := by
  have hz := (hO.z m).2
  have h := way_bounds4 hO (f := fQ S m plan) (w := gQ S m plan) (p := s) (fun r => by have := VQ_it hO hs (plan := plan) r; omega) (fun r => hO.p _ _)
  have hr := rd_spec (n := nmF S (fQ S m plan) (gQ S m plan) s) h.2.2.1
  unfold qN qD vN vD
  omega
theorem v_bounds {S : Sg} (hO : Ok S) {f : Nat → Nat} {w : Nat → Int} {p : Nat} (h16 : ∀ r, it f p r < 16) (hw : ∀ r, -50 ≤ w (it f p r) ∧ w (it f p r) ≤ 50) : -4398046511104 < vN S f w p ∧ vN S f w p < 4398046511104 ∧ 1 ≤ vD S f w p ∧ vD S f w p ≤ 4294967296 := by
  have h := way_bounds hO h16 hw
  have hr := rd_spec (n := nmF S f w p) h.2.2.1
  unfold vN vD
  omega
/-- a product of two numbers within bounds -/
theorem mul_bd {a b A B : Int} (h1 : -A ≤ a) (h2 : a ≤ A) (h3 : 0 ≤ b) (h4 : b ≤ B) : -(A * B) ≤ a * b ∧ a * b ≤ A * B := by
  have hA : 0 ≤ A := by omega
  have k1 : a * b ≤ A * b := Int.mul_le_mul_of_nonneg_right h2 h3
  have k2 : A * b ≤ A * B := Int.mul_le_mul_of_nonneg_left h4 hA
  have k3 : -A * b ≤ a * b := Int.mul_le_mul_of_nonneg_right h1 h3
  have k4 : -A * b = -(A * b) := Int.neg_mul A b
  omega
theorem qlt {S : Sg} (hO : Ok S) {m s a b : Nat} (hs : s < sz S m) : lI (qN S m s a * qD S m s b) < lI (qN S m s b * qD S m s a) ↔ qN S m s a * qD S m s b < qN S m s b * qD S m s a := by
  have h1 := q_bounds hO a hs; have h2 := q_bounds hO b hs
  have k1 := mul_bd h1.1 h1.2.1 (show 0 ≤ qD S m s b by omega) h2.2.2.2
  have k2 := mul_bd h2.1 h2.2.1 (show 0 ≤ qD S m s a by omega) h1.2.2.2
  exact lI_lt (by omega) (by omega) (by omega) (by omega)
/-- what learning a state of m leaves in the tables of plans -/
def LRN (u : Me) (S : Sg) (m s plan : Nat) : Prop := mA u 14 (m * 4 + s) = nI plan ∧ mJ u 15 (m * 4 + s) = lI (qN S m s plan) ∧ mJ u 16 (m * 4 + s) = lI (qD S m s plan)
/-- the tables but for place j -/
def TBL (j : Nat) (u v : Me) : Prop := ∀ i, ¬ i = j → mA v 14 i = mA u 14 i ∧ mJ v 15 i = mJ u 15 i ∧ mJ v 16 i = mJ u 16 i
theorem eu_init {d x : Nat} (hd : d ≤ 4294967296) (hx : x ≤ 4398046511104) : d * x * 2 ≤ 2 ^ 76 ∧ d * x * 2 ^ 0 ≤ 2 ^ 76 := by
  have h := Nat.mul_le_mul hd hx
  have e : (4294967296 : Nat) * 4398046511104 * 2 ≤ 2 ^ 76 := by decide
  rw [Nat.pow_zero, Nat.mul_one]
  omega
/-- learning: plans 0 to c are tried -/
def LRI (u : Me) (S : Sg) (m s c : Nat) (v : Me) : Prop := LRN v S m s (bs S m s c) ∧ TBL (m * 4 + s) u v ∧ Sm [14, 18, 19, 20, 21] [15, 16] [1, 2] [2, 3] u v
theorem LRI.init {u v w : Me} {S : Sg} {m s : Nat} (h1 : mL v (2 + 2 * 0) = lI (qN S m s 0)) (h2 : mL v (3 + 2 * 0) = lI (qD S m s 0)) (hs : Sm [18, 19, 20, 21] [] [1, 2] [2 + 2 * 0, 3 + 2 * 0] u v) (k1 : mA w 14 = upd (mA v 14) (m * 4 + s) (nI 0)) (k2 : mJ w 15 = vp_updL (mJ v 15) (m * 4 + s) (mL v 2)) (k3 : mJ w 16 = vp_updL (mJ v 16) (m * 4 + s) (mL v 3)) (hk : Sm [14] [15, 16] [] [] v w) : LRI u S m s 0 w := by
  refine ⟨⟨?_, ?_, ?_⟩, fun i hi => ⟨?_, ?_, ?_⟩, (hs.wk (by simp) (by simp) (by simp) (by simp)).tr (hk.wk (by simp) (by simp) (by simp) (by simp))⟩
  · rw [k1]; exact if_pos rfl
  · rw [k2]; exact (if_pos rfl).trans h1
  · rw [k3]; exact (if_pos rfl).trans h2
  · rw [k1]; exact (if_neg hi).trans (congrFun (hs.1 14 (by decide)) i)
  · rw [k2]; exact (if_neg hi).trans (congrFun (hs.2.1 15 (by decide)) i)
  · rw [k3]; exact (if_neg hi).trans (congrFun (hs.2.1 16 (by decide)) i)
theorem LRI.wJ {u v w : Me} {S : Sg} {m s c : Nat} (h : LRI u S m s c v) (hs : Sm [18, 19, 20, 21] [] [1, 2] [2 + 2 * 0, 3 + 2 * 0] v w) : mJ w 15 (m * 4 + s) = lI (qN S m s (bs S m s c)) ∧ mJ w 16 (m * 4 + s) = lI (qD S m s (bs S m s c)) := by
  rw [hs.2.1 15 (by decide), hs.2.1 16 (by decide)]; exact h.1.2
theorem LRI.stay {u v w : Me} {S : Sg} {m s c : Nat} (h : LRI u S m s c v) (hO : Ok S) (hS : s < sz S m) (hs : Sm [18, 19, 20, 21] [] [1, 2] [2 + 2 * 0, 3 + 2 * 0] v w) (hn : ¬ lI (qN S m s (bs S m s c) * qD S m s (c + 1)) < lI (qN S m s (c + 1) * qD S m s (bs S m s c))) : LRI u S m s (c + 1) w := by
  have hb := bs_f (fun z => hn ((qlt hO hS).mpr z))
  refine ⟨⟨?_, ?_, ?_⟩, fun i hi => ⟨?_, ?_, ?_⟩, h.2.2.tr (hs.wk (by simp) (by simp) (by simp) (by simp))⟩
  · rw [hs.1 14 (by decide), hb]; exact h.1.1
  · rw [hs.2.1 15 (by decide), hb]; exact h.1.2.1
  · rw [hs.2.1 16 (by decide), hb]; exact h.1.2.2
  · rw [hs.1 14 (by decide)]; exact (h.2.1 i hi).1
  · rw [hs.2.1 15 (by decide)]; exact (h.2.1 i hi).2.1
  · rw [hs.2.1 16 (by decide)]; exact (h.2.1 i hi).2.2
theorem LRI.better {u v w x : Me} {S : Sg} {m s c : Nat} (h : LRI u S m s c v) (hO : Ok S) (hS : s < sz S m) (h1 : mL w (2 + 2 * 0) = lI (qN S m s (c + 1))) (h2 : mL w (3 + 2 * 0) = lI (qD S m s (c + 1))) (hs : Sm [18, 19, 20, 21] [] [1, 2] [2 + 2 * 0, 3 + 2 * 0] v w) (k1 : mA x 14 = upd (mA w 14) (m * 4 + s) (nI (c + 1))) (k2 : mJ x 15 = vp_updL (mJ w 15) (m * 4 + s) (mL w 2)) (k3 : mJ x 16 = vp_updL (mJ w 16) (m * 4 + s) (mL w 3)) (hk : Sm [14] [15, 16] [] [] w x) (hn : lI (qN S m s (bs S m s c) * qD S m s (c + 1)) < lI (qN S m s (c + 1) * qD S m s (bs S m s c))) : LRI u S m s (c + 1) x := by
  have hb := bs_t ((qlt hO hS).mp hn)
  refine ⟨⟨?_, ?_, ?_⟩, fun i hi => ⟨?_, ?_, ?_⟩, (h.2.2.tr (hs.wk (by simp) (by simp) (by simp) (by simp))).tr (hk.wk (by simp) (by simp) (by simp) (by simp))⟩
  · rw [k1, hb]; exact if_pos rfl
  · rw [k2, hb, ← h1]; exact if_pos rfl
  · rw [k3, hb, ← h2]; exact if_pos rfl
  · rw [k1]; exact (if_neg hi).trans ((congrFun (hs.1 14 (by decide)) i).trans (h.2.1 i hi).1)
  · rw [k2]; exact (if_neg hi).trans ((congrFun (hs.2.1 15 (by decide)) i).trans (h.2.1 i hi).2.1)
  · rw [k3]; exact (if_neg hi).trans ((congrFun (hs.2.1 16 (by decide)) i).trans (h.2.1 i hi).2.2)
theorem LRI.fin {u v : Me} {S : Sg} {m s c : Nat} (h : LRI u S m s c v) (hc : c = 3 ^ sz S m - 1) : LRN v S m s (bsP S m s) ∧ TBL (m * 4 + s) u v ∧ Sm [14, 18, 19, 20, 21] [15, 16] [1, 2] [2, 3] u v := by
  subst hc; exact h
/-- learning all states: those below s -/
def LAI (u : Me) (S : Sg) (m s : Nat) (v : Me) : Prop := (∀ t, t < s → t < sz S m → LRN v S m t (bsP S m t)) ∧ (∀ i, ¬ i / 4 = m → mA v 14 i = mA u 14 i ∧ mJ v 15 i = mJ u 15 i ∧ mJ v 16 i = mJ u 16 i) ∧ Sm [14, 18, 19, 20, 21] [15, 16] [1, 2] [2, 3] u v
theorem LAI.init (u : Me) (S : Sg) (m : Nat) : LAI u S m 0 u := ⟨fun t h => absurd h (by omega), fun i _ => ⟨rfl, rfl, rfl⟩, Sm.rf⟩
theorem LAI.step {u v w : Me} {S : Sg} {m s : Nat} (h : LAI u S m s v) (hO : Ok S) (hss : s < sz S m) (h1 : LRN w S m s (bsP S m s)) (h2 : TBL (m * 4 + s) v w) (h3 : Sm [14, 18, 19, 20, 21] [15, 16] [1, 2] [2, 3] v w) : LAI u S m (s + 1) w := by
  have hz := (hO.z m).2
  refine ⟨fun t ht htz => ?_, fun i hi => ?_, h.2.2.tr h3⟩
  · rcases Nat.lt_or_ge t s with q | q
    · obtain ⟨e1, e2, e3⟩ := h2 (m * 4 + t) (by omega)
      obtain ⟨f1, f2, f3⟩ := h.1 t q htz
      exact ⟨e1.trans f1, e2.trans f2, e3.trans f3⟩
    · have : t = s := by omega
      subst this; exact h1
  · obtain ⟨f1, f2, f3⟩ := h.2.1 i hi
    obtain ⟨e1, e2, e3⟩ := h2 i (by omega)
    exact ⟨e1.trans f1, e2.trans f2, e3.trans f3⟩
theorem LAI.fin {u v : Me} {S : Sg} {m s : Nat} (h : LAI u S m s v) (hs : sz S m ≤ s) : (∀ t, t < sz S m → LRN v S m t (bsP S m t)) ∧ (∀ i, ¬ i / 4 = m → mA v 14 i = mA u 14 i ∧ mJ v 15 i = mJ u 15 i ∧ mJ v 16 i = mJ u 16 i) ∧ Sm [14, 18, 19, 20, 21] [15, 16] [1, 2] [2, 3] u v := ⟨fun t ht => h.1 t (by omega) ht, h.2⟩
