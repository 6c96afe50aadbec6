/-! THE BEST PLAN IS BEST AMONG ALL WAYS: worths as rational numbers, one step at a time -/
def dl (S : Sg) : Rat := ((sU S : Int) : Rat) / ((sB S : Int) : Rat)
def wr (d : Rat) (h : Nat → Int) : Nat → Rat
  | 0 => 0
  | n + 1 => wr d h n + d ^ n * ((h n : Int) : Rat)
theorem wr_s (d : Rat) (h : Nat → Int) (n : Nat) : wr d h (n + 1) = wr d h n + d ^ n * ((h n : Int) : Rat) := rfl
theorem wr_congr {d : Rat} {h h2 : Nat → Int} {n : Nat} (e : ∀ r, r < n → h r = h2 r) : wr d h n = wr d h2 n := by
  induction n with
  | zero => rfl
  | succ n ih => rw [wr_s, wr_s, ih (fun r q => e r (by omega)), e n (by omega)]
theorem wr_front (d : Rat) (h : Nat → Int) (n : Nat) : wr d h (n + 1) = ((h 0 : Int) : Rat) + d * wr d (fun r => h (r + 1)) n := by
  induction n with
  | zero => rw [wr_s]; simp [wr]; grind
  | succ n ih => rw [wr_s, ih, wr_s, Rat.pow_succ]; grind
theorem rpw_pos {d : Rat} (h : 0 < d) (n : Nat) : 0 < d ^ n := by
  induction n with
  | zero => rw [Rat.pow_zero]; decide
  | succ n ih => rw [Rat.pow_succ]; exact Rat.mul_pos ih h
theorem rpw_lt {d : Rat} (h0 : 0 < d) (h1 : d < 1) {n : Nat} (hn : 0 < n) : d ^ n < 1 := by
  obtain ⟨m, rfl⟩ : ∃ m, n = m + 1 := ⟨n - 1, by omega⟩
  clear hn
  induction m with
  | zero => rw [Rat.pow_succ, Rat.pow_zero, Rat.one_mul]; exact h1
  | succ m ih =>
    rw [Rat.pow_succ]
    have hp := rpw_pos h0 (m + 1)
    have := (Rat.mul_lt_mul_right h0).mpr ih
    grind
theorem dl_pos {S : Sg} (hO : Ok S) : 0 < dl S ∧ dl S < 1 := by
  obtain ⟨h1, h2, h3⟩ := hO.pq
  have hb : (0 : Rat) < ((sB S : Int) : Rat) := Rat.intCast_pos.mpr (by omega)
  have ha : (0 : Rat) < ((sU S : Int) : Rat) := Rat.intCast_pos.mpr (by omega)
  have hab : ((sU S : Int) : Rat) < ((sB S : Int) : Rat) := Rat.intCast_lt_intCast.mpr h2
  have e : dl S * ((sB S : Int) : Rat) = ((sU S : Int) : Rat) := by
    unfold dl; exact Rat.div_mul_cancel (by intro z; rw [z] at hb; exact absurd hb (by decide))
  constructor
  · apply Rat.lt_of_mul_lt_mul_right (c := ((sB S : Int) : Rat)) _ (Rat.le_of_lt hb)
    rw [e, Rat.zero_mul]; exact ha
  · apply Rat.lt_of_mul_lt_mul_right (c := ((sB S : Int) : Rat)) _ (Rat.le_of_lt hb)
    rw [e, Rat.one_mul]; exact hab
theorem wg_wr {h : Nat → Int} {p q : Int} {d : Rat} (hd : d * (q : Rat) = (p : Rat)) (n : Nat) : ((wg h p q n : Int) : Rat) * (q : Rat) = (q : Rat) ^ n * wr d h n ∧ ((pw p n : Int) : Rat) = (q : Rat) ^ n * d ^ n ∧ ((pw q n : Int) : Rat) = (q : Rat) ^ n := by
  induction n with
  | zero => refine ⟨?_, ?_, ?_⟩ <;> simp [wg, pw, wr]
  | succ n ih =>
    obtain ⟨h1, h2, h3⟩ := ih
    refine ⟨?_, ?_, ?_⟩
    · rw [wg_s, wr_s, Rat.intCast_add, Rat.intCast_mul, Rat.intCast_mul, h2, Rat.pow_succ]; grind
    · rw [pw_s, Rat.intCast_mul, h2, Rat.pow_succ, Rat.pow_succ]; grind
    · rw [pw_s, Rat.intCast_mul, h3, Rat.pow_succ]
/-- the worth of a way -/
noncomputable def vl (S : Sg) (f : Nat → Nat) (w : Nat → Int) (p : Nat) : Rat := ((nmF S f w p : Int) : Rat) / ((dnF S f p : Int) : Rat)
theorem dl_mul {S : Sg} (hO : Ok S) : dl S * ((sB S : Int) : Rat) = ((sU S : Int) : Rat) ∧ (0 : Rat) < ((sB S : Int) : Rat) := by
  obtain ⟨h1, h2, h3⟩ := hO.pq
  have hb : (0 : Rat) < ((sB S : Int) : Rat) := Rat.intCast_pos.mpr (by omega)
  refine ⟨?_, hb⟩
  unfold dl; exact Rat.div_mul_cancel (by intro z; rw [z] at hb; exact absurd hb (by decide))
theorem vl_eq {S : Sg} (hO : Ok S) {f : Nat → Nat} {w : Nat → Int} {p : Nat} (hR : 0 < rg f p) : vl S f w p * (1 - dl S ^ rg f p) = wr (dl S) (fun r => w (it f p r)) (tl f p) * (1 - dl S ^ rg f p) + dl S ^ tl f p * wr (dl S) (fun r => w (it f p (tl f p + r))) (rg f p) := by
  obtain ⟨hd, hb⟩ := dl_mul hO
  obtain ⟨h1, h2, h3⟩ := hO.pq
  have hdn : 1 ≤ dnF S f p := DEN_pos h1 h2 hR
  have hdr : (0 : Rat) < ((dnF S f p : Int) : Rat) := Rat.intCast_pos.mpr (by omega)
  have e0 : vl S f w p * ((dnF S f p : Int) : Rat) = ((nmF S f w p : Int) : Rat) := by
    unfold vl; exact Rat.div_mul_cancel (by intro z; rw [z] at hdr; exact absurd hdr (by decide))
  obtain ⟨a1, a2, a3⟩ := wg_wr (h := fun r => w (it f p r)) hd (tl f p)
  obtain ⟨b1, b2, b3⟩ := wg_wr (h := fun r => w (it f p (tl f p + r))) hd (rg f p)
  have en : ((nmF S f w p : Int) : Rat) = ((sB S : Int) : Rat) ^ tl f p * ((sB S : Int) : Rat) ^ rg f p * (wr (dl S) (fun r => w (it f p r)) (tl f p) * (1 - dl S ^ rg f p) + dl S ^ tl f p * wr (dl S) (fun r => w (it f p (tl f p + r))) (rg f p)) := by
    unfold nmF NUM
    rw [Rat.intCast_mul, Rat.intCast_add, Rat.intCast_mul, Rat.intCast_mul, Rat.intCast_sub, a2, b2, b3]
    grind
  have ed : ((dnF S f p : Int) : Rat) = ((sB S : Int) : Rat) ^ tl f p * ((sB S : Int) : Rat) ^ rg f p * (1 - dl S ^ rg f p) := by
    unfold dnF DEN
    rw [Rat.intCast_mul, Rat.intCast_sub, a3, b2, b3]
    grind
  rw [en, ed] at e0
  have k1 := rpw_pos hb (tl f p)
  have k2 := rpw_pos hb (rg f p)
  have k3 := Rat.mul_pos k1 k2
  generalize ((sB S : Int) : Rat) ^ tl f p * ((sB S : Int) : Rat) ^ rg f p = X at *
  have hX : X ≠ 0 := by intro z; rw [z] at k3; exact absurd k3 (by decide)
  grind
theorem it_front (f : Nat → Nat) (p n : Nat) : it f p (n + 1) = it f (f p) n := by rw [Nat.add_comm, it_add]; rfl
theorem IsTR.nx {f : Nat → Nat} {p T R : Nat} (h : IsTR f p (T + 1) R) : IsTR f (f p) T R := by
  obtain ⟨h1, h2, h3⟩ := h
  refine ⟨h1, ?_, fun a b hab hb => ?_⟩
  · rw [← it_front, ← it_front, show T + R + 1 = T + 1 + R by omega]; exact h2
  · rw [← it_front, ← it_front]; exact h3 (a + 1) (b + 1) (by omega) (by omega)
theorem IsTR.nx0 {f : Nat → Nat} {p R : Nat} (h : IsTR f p 0 R) : IsTR f (f p) 0 R := by
  obtain ⟨h1, h2, h3⟩ := h
  rw [Nat.zero_add] at h2
  refine ⟨h1, ?_, fun a b hab hb => ?_⟩
  · rw [Nat.zero_add, ← it_front, it_s, h2]; rfl
  · rw [← it_front, ← it_front]
    rcases Nat.lt_or_ge (b + 1) R with z | z
    · exact h3 (a + 1) (b + 1) (by omega) (by omega)
    · have hb1 : b + 1 = R := by omega
      rw [hb1, h2]
      intro e
      exact h3 0 (a + 1) (by omega) (by omega) e.symm
theorem vl_step {S : Sg} (hO : Ok S) {f : Nat → Nat} {w : Nat → Int} {p N : Nat} (hN : ∀ r, it f p r < N) : vl S f w p = ((w p : Int) : Rat) + dl S * vl S f w (f p) := by
  obtain ⟨hT, -⟩ := tlr_spec hN
  have hR := hT.1
  obtain ⟨d0, d1⟩ := dl_pos hO
  have hl := rpw_lt d0 d1 hR
  have e1 := vl_eq hO (w := w) hR
  generalize hTT : tl f p = T at *
  generalize hRR : rg f p = R at *
  have h1R : 1 - dl S ^ R ≠ 0 := by intro z; grind
  cases T with
  | zero =>
    obtain ⟨t1, t2⟩ := tlr_of hT.nx0
    have e2 := vl_eq hO (w := w) (f := f) (p := f p) (by rw [t2]; exact hR)
    rw [t1, t2] at e2
    have hp := hT.2.1
    rw [Nat.zero_add] at hp
    have f1 := wr_front (dl S) (fun r => w (it f p r)) R
    rw [wr_s] at f1
    have g1 : wr (dl S) (fun r => w (it f p (0 + r))) R = wr (dl S) (fun r => w (it f p r)) R := wr_congr (fun r _ => by rw [Nat.zero_add])
    have g2 : wr (dl S) (fun r => w (it f (f p) (0 + r))) R = wr (dl S) (fun r => w (it f p (r + 1))) R := wr_congr (fun r _ => by rw [Nat.zero_add, it_front])
    rw [g1] at e1
    rw [g2] at e2
    rw [hp] at f1
    have z0 : wr (dl S) (fun r => w (it f p r)) 0 = 0 := rfl
    have z1 : wr (dl S) (fun r => w (it f (f p) r)) 0 = 0 := rfl
    rw [z0, Rat.pow_zero] at e1
    rw [z1, Rat.pow_zero] at e2
    rw [show it f p 0 = p from rfl] at f1
    generalize vl S f w p = X at *
    generalize vl S f w (f p) = Y at *
    have k : (X - (((w p : Int) : Rat) + dl S * Y)) * (1 - dl S ^ R) = 0 := by grind
    rcases Rat.mul_eq_zero.mp k with q | q
    · grind
    · exact absurd q h1R
  | succ T =>
    obtain ⟨t1, t2⟩ := tlr_of hT.nx
    have e2 := vl_eq hO (w := w) (f := f) (p := f p) (by rw [t2]; exact hR)
    rw [t1, t2] at e2
    have f1 := wr_front (dl S) (fun r => w (it f p r)) T
    have g1 : wr (dl S) (fun r => w (it f p (r + 1))) T = wr (dl S) (fun r => w (it f (f p) r)) T := wr_congr (fun r _ => by rw [it_front])
    have g2 : wr (dl S) (fun r => w (it f p (T + 1 + r))) R = wr (dl S) (fun r => w (it f (f p) (T + r))) R := wr_congr (fun r _ => by rw [show T + 1 + r = T + r + 1 by omega, it_front])
    rw [f1, g2] at e1
    rw [g1, show it f p 0 = p from rfl, Rat.pow_succ] at e1
    generalize vl S f w p = X at *
    generalize vl S f w (f p) = Y at *
    have k : (X - (((w p : Int) : Rat) + dl S * Y)) * (1 - dl S ^ R) = 0 := by grind
    rcases Rat.mul_eq_zero.mp k with q | q
    · grind
    · exact absurd q h1R
/-- what grows along a way stays above 0 -/
theorem orb {d : Rat} (d0 : 0 < d) (d1 : d < 1) {V : Nat → Prop} {f : Nat → Nat} {N : Nat} (hV : ∀ p, V p → V (f p)) (hN : ∀ p, V p → p < N) (E : Nat → Rat) (h : ∀ p, V p → d * E (f p) ≤ E p) : ∀ p, V p → 0 ≤ E p := by
  have key : ∀ (n p : Nat), V p → d ^ n * E (it f p n) ≤ E p := by
    intro n
    induction n with
    | zero => intro p _; rw [Rat.pow_zero, Rat.one_mul]; exact Rat.le_refl
    | succ n ih =>
      intro p hp
      have h1 := ih p hp
      have h2 := h _ (it_V hV hp n)
      have h3 := Rat.mul_le_mul_of_nonneg_left h2 (Rat.le_of_lt (rpw_pos d0 n))
      rw [it_s, Rat.pow_succ]
      grind
  intro p hp
  obtain ⟨hT, -⟩ := tlr_spec (f := f) (p := p) (N := N) (fun r => hN _ (it_V hV hp r))
  have k1 := key (tl f p) p hp
  have k2 := key (rg f p) (it f p (tl f p)) (it_V hV hp _)
  rw [← it_add, hT.2.1] at k2
  have hl := rpw_lt d0 d1 hT.1
  have hp1 := rpw_pos d0 (tl f p)
  generalize E (it f p (tl f p)) = Y at *
  generalize d ^ rg f p = D at *
  generalize d ^ tl f p = C at *
  have hY : 0 ≤ Y := by
    rcases Rat.le_total (a := 0) (b := Y) with q | q
    · exact q
    · rcases Rat.le_iff_lt_or_eq.mp q with z | z
      · have h1 : 0 < -Y := by grind
        have h2 : 0 < 1 - D := by grind
        have := Rat.mul_pos h1 h2
        grind
      · rw [z]; exact Rat.le_refl
  have := Rat.mul_nonneg (Rat.le_of_lt hp1) hY
  exact Rat.le_trans this k1
noncomputable def vq (S : Sg) (m s plan : Nat) : Rat := vl S (fQ S m plan) (gQ S m plan) s
theorem vq_step {S : Sg} (hO : Ok S) {m s plan : Nat} (hs : s < sz S m) : vq S m s plan = ((gQ S m plan s : Int) : Rat) + dl S * vq S m (fQ S m plan s) plan := vl_step hO (fun r => VQ_it hO hs r)
theorem mx (F : Nat → Rat) (n : Nat) : ∃ m, m ≤ n ∧ ∀ c, c ≤ n → F c ≤ F m := by
  induction n with
  | zero => exact ⟨0, Nat.le_refl _, fun c hc => by rw [show c = 0 by omega]; exact Rat.le_refl⟩
  | succ n ih =>
    obtain ⟨m, hm, h⟩ := ih
    rcases Rat.le_total (a := F (n + 1)) (b := F m) with q | q
    · refine ⟨m, by omega, fun c hc => ?_⟩
      rcases Nat.lt_or_ge c (n + 1) with z | z
      · exact h c (by omega)
      · rw [show c = n + 1 by omega]; exact q
    · refine ⟨n + 1, by omega, fun c hc => ?_⟩
      rcases Nat.lt_or_ge c (n + 1) with z | z
      · exact Rat.le_trans (h c (by omega)) q
      · rw [show c = n + 1 by omega]; exact Rat.le_refl
def rs (g : Nat → Rat) : Nat → Rat
  | 0 => 0
  | n + 1 => rs g n + g n
theorem rs_le {g g2 : Nat → Rat} {n : Nat} (h : ∀ u, u < n → g u ≤ g2 u) : rs g n ≤ rs g2 n := by
  induction n with
  | zero => exact Rat.le_refl
  | succ n ih =>
    have h1 := ih (fun u hu => h u (by omega))
    have h2 := h n (by omega)
    show rs g n + g n ≤ rs g2 n + g2 n
    grind
theorem rs_lt {g g2 : Nat → Rat} {n s : Nat} (h : ∀ u, u < n → g u ≤ g2 u) (hs : s < n) (hlt : g s < g2 s) : rs g n < rs g2 n := by
  induction n with
  | zero => omega
  | succ n ih =>
    show rs g n + g n < rs g2 n + g2 n
    have h2 := h n (by omega)
    rcases Nat.lt_or_ge s n with q | q
    · have h1 := ih (fun u hu => h u (by omega)) q
      grind
    · have : s = n := by omega
      subst this
      have h1 := rs_le (fun u hu => h u (by omega) : ∀ u, u < s → g u ≤ g2 u)
      grind
def dgOk : Bool := (List.range 5).all fun z => (List.range (3 ^ z)).all fun pl => (List.range z).all fun s => (List.range 3).all fun a => decide (pl - dg pl s * 3 ^ s + a * 3 ^ s < 3 ^ z) && (decide (dg (pl - dg pl s * 3 ^ s + a * 3 ^ s) s = a) && (List.range z).all fun t => decide (t = s) || decide (dg (pl - dg pl s * 3 ^ s + a * 3 ^ s) t = dg pl t))
theorem dgOk_t : dgOk = true := by decide +kernel
theorem dg_set (z : Nat) (hz : z < 5) (pl : Nat) (hpl : pl < 3 ^ z) (s : Nat) (hs : s < z) (a : Nat) (ha : a < 3) : pl - dg pl s * 3 ^ s + a * 3 ^ s < 3 ^ z ∧ dg (pl - dg pl s * 3 ^ s + a * 3 ^ s) s = a ∧ ∀ t, t < z → ¬ t = s → dg (pl - dg pl s * 3 ^ s + a * 3 ^ s) t = dg pl t := by
  have h := dgOk_t
  unfold dgOk at h
  have h1 := List.all_eq_true.mp h z (List.mem_range.mpr hz)
  have h2 := List.all_eq_true.mp h1 pl (List.mem_range.mpr hpl)
  have h3 := List.all_eq_true.mp h2 s (List.mem_range.mpr hs)
  have h4 := List.all_eq_true.mp h3 a (List.mem_range.mpr ha)
  obtain ⟨k1, k2⟩ := Bool.and_eq_true_iff.mp h4
  obtain ⟨k3, k4⟩ := Bool.and_eq_true_iff.mp k2
  refine ⟨of_decide_eq_true k1, of_decide_eq_true k3, fun t ht hts => ?_⟩
  have k5 := List.all_eq_true.mp k4 t (List.mem_range.mpr ht)
  rcases Bool.or_eq_true_iff.mp k5 with q | q
  · exact absurd (of_decide_eq_true q) hts
  · exact of_decide_eq_true q
/-- there is a plan that no step improves -/
theorem opt_plan {S : Sg} (hO : Ok S) (m : Nat) : ∃ pl, pl < 3 ^ sz S m ∧ ∀ s, s < sz S m → ∀ a, a < 3 → ((sp S a (sa S m s) : Int) : Rat) + dl S * vq S m (sx S m s a) pl ≤ vq S m s pl := by
  have h3 : 0 < 3 ^ sz S m := Nat.pow_pos (by decide)
  have hz := (hO.z m).2
  obtain ⟨d0, d1⟩ := dl_pos hO
  obtain ⟨pl, hpl, hmax⟩ := mx (fun p => rs (fun u => vq S m u p) (sz S m)) (3 ^ sz S m - 1)
  refine ⟨pl, by omega, fun s hs a ha => ?_⟩
  rcases Rat.le_total (a := ((sp S a (sa S m s) : Int) : Rat) + dl S * vq S m (sx S m s a) pl) (b := vq S m s pl) with q | q
  · exact q
  · rcases Rat.le_iff_lt_or_eq.mp q with z | z
    · exfalso
      obtain ⟨q1, q2, q3⟩ := dg_set (sz S m) (by omega) pl (by omega) s hs a ha
      generalize pl - dg pl s * 3 ^ s + a * 3 ^ s = pn at *
      have ef : ∀ u, u < sz S m → ¬ u = s → fQ S m pn u = fQ S m pl u ∧ gQ S m pn u = gQ S m pl u := fun u hu hus => by
        unfold fQ gQ; rw [q3 u hu hus]; exact ⟨rfl, rfl⟩
      have es : fQ S m pn s = sx S m s a ∧ gQ S m pn s = sp S a (sa S m s) := by
        unfold fQ gQ; rw [q2]; exact ⟨rfl, rfl⟩
      have hE : ∀ u, u < sz S m → dl S * (vq S m (fQ S m pn u) pn - vq S m (fQ S m pn u) pl) ≤ vq S m u pn - vq S m u pl ∧ (u = s → dl S * (vq S m (fQ S m pn u) pn - vq S m (fQ S m pn u) pl) < vq S m u pn - vq S m u pl) := by
        intro u hu
        have e1 := vq_step hO (plan := pn) hu
        have e2 := vq_step hO (plan := pl) hu
        by_cases hus : u = s
        · subst hus
          rw [es.1, es.2] at e1
          rw [es.1]
          refine ⟨?_, fun _ => ?_⟩ <;> grind
        · obtain ⟨f1, f2⟩ := ef u hu hus
          rw [f1, f2] at e1
          rw [f1]
          exact ⟨by grind, fun e => absurd e hus⟩
      have hpos := orb d0 d1 (V := fun u => u < sz S m) (f := fQ S m pn) (N := 4) (fun p _ => hO.x _ _ _) (fun p hp => by have hp' : p < sz S m := hp; omega) (fun u => vq S m u pn - vq S m u pl) (fun u hu => (hE u hu).1)
      have hle : ∀ u, u < sz S m → vq S m u pl ≤ vq S m u pn := fun u hu => by
        have := hpos u hu; grind
      have hst : vq S m s pl < vq S m s pn := by
        have k1 := (hE s hs).2 rfl
        have k2 := hpos (fQ S m pn s) (hO.x _ _ _)
        have k3 := Rat.mul_nonneg (Rat.le_of_lt d0) k2
        grind
      have k := rs_lt hle hs hst
      have k2 := hmax pn (by omega)
      grind
    · rw [← z]; exact Rat.le_refl
theorem vl_v {S : Sg} {f : Nat → Nat} {w : Nat → Int} {p : Nat} (hd : 1 ≤ dnF S f p) : vl S f w p * ((vD S f w p : Int) : Rat) = ((vN S f w p : Int) : Rat) ∧ (0 : Rat) < ((vD S f w p : Int) : Rat) := by
  have hr := rd_spec (n := nmF S f w p) hd
  have hdr : (0 : Rat) < ((dnF S f p : Int) : Rat) := Rat.intCast_pos.mpr (by omega)
  have hne : ((dnF S f p : Int) : Rat) ≠ 0 := by intro z; rw [z] at hdr; exact absurd hdr (by decide)
  have e0 : vl S f w p * ((dnF S f p : Int) : Rat) = ((nmF S f w p : Int) : Rat) := by
    unfold vl; exact Rat.div_mul_cancel hne
  have e1 : ((vN S f w p : Int) : Rat) * ((dnF S f p : Int) : Rat) = ((nmF S f w p : Int) : Rat) * ((vD S f w p : Int) : Rat) := by
    rw [← Rat.intCast_mul, ← Rat.intCast_mul]; exact congrArg (fun z : Int => (z : Rat)) hr.2.2.2.1
  refine ⟨?_, Rat.intCast_pos.mpr (by have := hr.1; unfold vD; omega)⟩
  have k : (vl S f w p * ((vD S f w p : Int) : Rat) - ((vN S f w p : Int) : Rat)) * ((dnF S f p : Int) : Rat) = 0 := by grind
  rcases Rat.mul_eq_zero.mp k with q | q
  · grind
  · exact absurd q hne
theorem q_dn {S : Sg} (hO : Ok S) {m s : Nat} (plan : Nat) (hs : s < sz S m) : 1 ≤ dnF S (fQ S m plan) s := by
  have hz := (hO.z m).2
  exact (way_bounds4 hO (f := fQ S m plan) (w := gQ S m plan) (p := s) (fun r => by have := VQ_it hO hs (plan := plan) r; omega) (fun r => hO.p _ _)).2.2.1
theorem P_dn {S : Sg} (hO : Ok S) {i j p : Nat} (hp : VP S i j p) : 1 ≤ dnF S (fP S i j) p :=
  (way_bounds hO (f := fP S i j) (w := gP S i j) (p := p) (fun r => VP_16 hO (it_V (V := VP S i j) (fun p _ => VP_f hO) hp r)) (fun r => hO.p _ _)).2.2.1
/-- comparing ratios is comparing products -/
theorem ratio_lt {x y : Rat} {a b c d : Int} (h1 : x * (b : Rat) = (a : Rat)) (h2 : (0 : Rat) < (b : Rat)) (h3 : y * (d : Rat) = (c : Rat)) (h4 : (0 : Rat) < (d : Rat)) : a * d < c * b ↔ x < y := by
  rw [← Rat.intCast_lt_intCast, Rat.intCast_mul, Rat.intCast_mul, ← h1, ← h3]
  have k := Rat.mul_pos h2 h4
  constructor
  · intro h
    apply Rat.lt_of_mul_lt_mul_right (c := (b : Rat) * (d : Rat)) _ (Rat.le_of_lt k)
    grind
  · intro h
    have := (Rat.mul_lt_mul_right k).mpr h
    grind
theorem bs_max {S : Sg} (hO : Ok S) {m s : Nat} (hs : s < sz S m) (n : Nat) : ∀ c, c ≤ n → vq S m s c ≤ vq S m s (bs S m s n) := by
  induction n with
  | zero => intro c hc; rw [show c = 0 by omega]; exact Rat.le_refl
  | succ n ih =>
    have v1 := vl_v (w := gQ S m (bs S m s n)) (q_dn hO (bs S m s n) hs)
    have v2 := vl_v (w := gQ S m (n + 1)) (q_dn hO (n + 1) hs)
    have hr := ratio_lt v1.1 v1.2 v2.1 v2.2
    intro c hc
    by_cases q : qN S m s (bs S m s n) * qD S m s (n + 1) < qN S m s (n + 1) * qD S m s (bs S m s n)
    · rw [bs_t q]
      have hlt : vq S m s (bs S m s n) < vq S m s (n + 1) := hr.mp q
      rcases Nat.lt_or_ge c (n + 1) with z | z
      · exact Rat.le_trans (ih c (by omega)) (Rat.le_of_lt hlt)
      · rw [show c = n + 1 by omega]; exact Rat.le_refl
    · rw [bs_f q]
      rcases Nat.lt_or_ge c (n + 1) with z | z
      · exact ih c (by omega)
      · rw [show c = n + 1 by omega]
        exact Rat.not_lt.mp (fun hlt => q (hr.mpr hlt))
/-- no way against j is worth more than the best plan -/
theorem best_opt {S : Sg} (hO : Ok S) {i j p : Nat} (hp : VP S i j p) : vl S (fP S i j) (gP S i j) p ≤ vq S j (p % 4) (bsP S j (p % 4)) := by
  obtain ⟨d0, d1⟩ := dl_pos hO
  obtain ⟨pl, hpl, hopt⟩ := opt_plan hO j
  have h := orb d0 d1 (V := VP S i j) (f := fP S i j) (N := 16) (fun p _ => VP_f hO) (fun p hp => VP_16 hO hp) (fun p => vq S j (p % 4) pl - vl S (fP S i j) (gP S i j) p) (by
    intro p hp
    have e1 := vl_step hO (f := fP S i j) (w := gP S i j) (p := p) (N := 16) (fun r => VP_16 hO (it_V (V := VP S i j) (fun p _ => VP_f hO) hp r))
    have e2 := hopt (p % 4) hp.2 (sa S i (p / 4)) (hO.a _ _)
    have e3 : fP S i j p % 4 = sx S j (p % 4) (sa S i (p / 4)) := by
      have := hO.x4 j (p % 4) (sa S i (p / 4))
      unfold fP; omega
    have e4 : gP S i j p = sp S (sa S i (p / 4)) (sa S j (p % 4)) := rfl
    rw [e4] at e1
    show dl S * (vq S j (fP S i j p % 4) pl - vl S (fP S i j) (gP S i j) (fP S i j p)) ≤ vq S j (p % 4) pl - vl S (fP S i j) (gP S i j) p
    rw [e3]
    grind) p hp
  have hb := bs_max hO hp.2 (3 ^ sz S j - 1) pl (by omega)
  have h' : 0 ≤ vq S j (p % 4) pl - vl S (fP S i j) (gP S i j) p := h
  have : vl S (fP S i j) (gP S i j) p ≤ vq S j (p % 4) pl := by grind
  exact Rat.le_trans this hb
/-- lowest terms are one's own -/
theorem low_uni {a b c d : Int} (hb : 1 ≤ b) (hd : 1 ≤ d) (h1 : Nat.gcd a.natAbs b.natAbs = 1) (h2 : Nat.gcd c.natAbs d.natAbs = 1) (h : a * d = c * b) : a = c ∧ b = d := by
  have hn : a.natAbs * d.natAbs = c.natAbs * b.natAbs := by rw [← Int.natAbs_mul, ← Int.natAbs_mul, h]
  have k1 : b.natAbs ∣ d.natAbs := by
    have : b.natAbs ∣ a.natAbs * d.natAbs := ⟨c.natAbs, by rw [hn, Nat.mul_comm]⟩
    exact Nat.Coprime.dvd_of_dvd_mul_left (by rw [Nat.coprime_iff_gcd_eq_one, Nat.gcd_comm]; exact h1) this
  have k2 : d.natAbs ∣ b.natAbs := by
    have : d.natAbs ∣ c.natAbs * b.natAbs := ⟨a.natAbs, by rw [← hn, Nat.mul_comm]⟩
    exact Nat.Coprime.dvd_of_dvd_mul_left (by rw [Nat.coprime_iff_gcd_eq_one, Nat.gcd_comm]; exact h2) this
  have k3 := Nat.dvd_antisymm k1 k2
  have hbd : b = d := by omega
  subst hbd
  exact ⟨Int.eq_of_mul_eq_mul_right (by omega) h, rfl⟩
/-- as the reference asks: the worth is the best plan's, term by term -/
theorem gbp_not {S : Sg} (hO : Ok S) {i j p : Nat} (hp : VP S i j p) : ¬ gbp S i j p (p % 4) ↔ (vN S (fP S i j) (gP S i j) p = qN S j (p % 4) (bsP S j (p % 4)) ∧ vD S (fP S i j) (gP S i j) p = qD S j (p % 4) (bsP S j (p % 4))) := by
  have d1 := P_dn hO hp
  have d2 := q_dn hO (bsP S j (p % 4)) hp.2
  have v1 := vl_v (w := gP S i j) d1
  have v2 := vl_v (w := gQ S j (bsP S j (p % 4))) d2
  have hopt := best_opt hO hp
  have r1 := rd_spec (n := nmF S (fP S i j) (gP S i j) p) d1
  have r2 := rd_spec (n := nmF S (fQ S j (bsP S j (p % 4))) (gQ S j (bsP S j (p % 4))) (p % 4)) d2
  constructor
  · intro h
    have hle : ¬ vl S (fP S i j) (gP S i j) p < vq S j (p % 4) (bsP S j (p % 4)) := fun z => h ((ratio_lt v1.1 v1.2 v2.1 v2.2).mpr z)
    have hge : ¬ vq S j (p % 4) (bsP S j (p % 4)) < vl S (fP S i j) (gP S i j) p := Rat.not_lt.mpr hopt
    have n1 : ¬ vN S (fP S i j) (gP S i j) p * qD S j (p % 4) (bsP S j (p % 4)) < qN S j (p % 4) (bsP S j (p % 4)) * vD S (fP S i j) (gP S i j) p := h
    have n2 : ¬ qN S j (p % 4) (bsP S j (p % 4)) * vD S (fP S i j) (gP S i j) p < vN S (fP S i j) (gP S i j) p * qD S j (p % 4) (bsP S j (p % 4)) := fun z => hge ((ratio_lt v2.1 v2.2 v1.1 v1.2).mp z)
    exact low_uni r1.1 r2.1 r1.2.2.2.2 r2.2.2.2.2 (show vN S (fP S i j) (gP S i j) p * qD S j (p % 4) (bsP S j (p % 4)) = qN S j (p % 4) (bsP S j (p % 4)) * vD S (fP S i j) (gP S i j) p by omega)
  · rintro ⟨e1, e2⟩ h
    unfold gbp at h
    rw [e1, e2] at h
    omega
