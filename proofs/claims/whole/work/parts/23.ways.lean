/-! WAYS OF THE CLASS: what a way's arrays hold -/
theorem RepC.sA {S : Sg} {u : Me} (h : RepC S u) {c : Nat} (hc : 10 < c) (f : Nat → Int32) : RepC S (sA u c f) := by
  unfold RepC at h ⊢
  rw [mA_sA_ne u f (show ¬ 4 = c by omega), mA_sA_ne u f (show ¬ 5 = c by omega), mA_sA_ne u f (show ¬ 6 = c by omega), mA_sA_ne u f (show ¬ 2 = c by omega), mA_sA_ne u f (show ¬ 8 = c by omega), mA_sA_ne u f (show ¬ 9 = c by omega), mA_sA_ne u f (show ¬ 10 = c by omega)]
  exact h
theorem RepC.sJ {S : Sg} {u : Me} (h : RepC S u) (c : Nat) (f : Nat → Int64) : RepC S (sJ u c f) := h
theorem RepC.sI {S : Sg} {u : Me} (h : RepC S u) {c : Nat} (hc : 0 < c) (x : Int32) : RepC S (sI u c x) := by
  unfold RepC at h ⊢
  rw [mI_sI_ne u x (show ¬ 0 = c by omega)]
  exact h
theorem RepC.sL {S : Sg} {u : Me} (h : RepC S u) {c : Nat} (hc : 1 < c) (x : Int64) : RepC S (sL u c x) := by
  unfold RepC at h ⊢
  rw [mL_sL_ne u x (show ¬ 0 = c by omega), mL_sL_ne u x (show ¬ 1 = c by omega)]
  exact h
def WOK (u : Me) (x : Nat) (V : Nat → Prop) (f : Nat → Nat) (w : Nat → Int) : Prop := ∀ p, V p → p < 16 ∧ V (f p) ∧ mA u (18 + 5 * x) p = nI (f p) ∧ mA u (19 + 5 * x) p = iI (w p)
theorem WOK.V {u : Me} {x : Nat} {V : Nat → Prop} {f : Nat → Nat} {w : Nat → Int} (h : WOK u x V f w) {p : Nat} (hp : V p) (r : Nat) : V (it f p r) := it_V (fun p q => (h p q).2.1) hp r
theorem WOK.lt {u : Me} {x : Nat} {V : Nat → Prop} {f : Nat → Nat} {w : Nat → Int} (h : WOK u x V f w) {p : Nat} (hp : V p) (r : Nat) : it f p r < 16 := (h _ (h.V hp r)).1
theorem WOK.tr {u : Me} {x : Nat} {V : Nat → Prop} {f : Nat → Nat} {w : Nat → Int} (h : WOK u x V f w) {p : Nat} (hp : V p) : IsTR f p (tl f p) (rg f p) ∧ tl f p + rg f p ≤ 16 := tlr_spec (h.lt hp)
theorem WOK.mv {u v : Me} {x : Nat} {V : Nat → Prop} {f : Nat → Nat} {w : Nat → Int} (h : WOK u x V f w) (h1 : mA v (18 + 5 * x) = mA u (18 + 5 * x)) (h2 : mA v (19 + 5 * x) = mA u (19 + 5 * x)) : WOK v x V f w := by
  intro p hp; rw [h1, h2]; exact h p hp
/-- the way has been gone from p0 -/
def PL (u : Me) (x : Nat) (V : Nat → Prop) (f : Nat → Nat) (w : Nat → Int) (p0 : Nat) : Prop := WOK u x V f w ∧ V p0 ∧ mI u (1 + 2 * x) = nI (tl f p0) ∧ mI u (2 + 2 * x) = nI (rg f p0) ∧ ∀ r, r < tl f p0 + rg f p0 → mA u (21 + 5 * x) r = nI (it f p0 r)
theorem PL.tr {u : Me} {x : Nat} {V : Nat → Prop} {f : Nat → Nat} {w : Nat → Int} {p0 : Nat} (h : PL u x V f w p0) : IsTR f p0 (tl f p0) (rg f p0) ∧ tl f p0 + rg f p0 ≤ 16 := h.1.tr h.2.1
theorem PL.mv {u v : Me} {x : Nat} {V : Nat → Prop} {f : Nat → Nat} {w : Nat → Int} {p0 : Nat} (h : PL u x V f w p0) (h1 : mA v (18 + 5 * x) = mA u (18 + 5 * x)) (h2 : mA v (19 + 5 * x) = mA u (19 + 5 * x)) (h3 : mA v (21 + 5 * x) = mA u (21 + 5 * x)) (h4 : mI v (1 + 2 * x) = mI u (1 + 2 * x)) (h5 : mI v (2 + 2 * x) = mI u (2 + 2 * x)) : PL v x V f w p0 := by
  refine ⟨h.1.mv h1 h2, h.2.1, ?_, ?_, ?_⟩
  · rw [h4]; exact h.2.2.1
  · rw [h5]; exact h.2.2.2.1
  · rw [h3]; exact h.2.2.2.2
/-- going: r places met -/
def SAI (u : Me) (x : Nat) (f : Nat → Nat) (p0 r : Nat) (v : Me) : Prop := r ≤ 16 ∧ Sm [20 + 5 * x, 21 + 5 * x] [] [] [] u v ∧ (∀ a, a < r → mA v (20 + 5 * x) (it f p0 a) = nI a) ∧ (∀ q, q < 16 → (∀ a, a < r → ¬ it f p0 a = q) → mA v (20 + 5 * x) q = -1) ∧ (∀ a, a < r → mA v (21 + 5 * x) a = nI (it f p0 a)) ∧ ∀ a b, a < b → b < r → ¬ it f p0 a = it f p0 b
theorem SAI.init (u : Me) (x : Nat) (f : Nat → Nat) (p0 : Nat) : SAI u x f p0 0 (sA u (20 + 5 * x) (fillF (mA u (20 + 5 * x)) 0 16 (-1))) := by
  refine ⟨by omega, Sm.rf.sA (by simp) _, fun a h => absurd h (by omega), fun q hq _ => ?_, fun a h => absurd h (by omega), fun a b h1 h2 => absurd h2 (by omega)⟩
  rw [mA_sA_self]; unfold fillF; rw [if_pos (by omega)]
theorem SAI.w {u v : Me} {x r p0 : Nat} {V : Nat → Prop} {f : Nat → Nat} {w : Nat → Int} (h : SAI u x f p0 r v) (hW : WOK u x V f w) : WOK v x V f w :=
  hW.mv (h.2.1.1 _ (by simp)) (h.2.1.1 _ (by simp))
theorem SAI.new {u v : Me} {x r p0 : Nat} {f : Nat → Nat} (h : SAI u x f p0 r v) (hm : ¬ 0 ≤ mA v (20 + 5 * x) (it f p0 r)) : ∀ a, a < r → ¬ it f p0 a = it f p0 r := by
  intro a ha e
  have := h.1
  apply hm
  rw [← e, h.2.2.1 a ha, ← nI_0]
  exact (nI_leI (by decide) (by omega)).mpr (Nat.zero_le _)
theorem SAI.hit {u v : Me} {x r p0 : Nat} {V : Nat → Prop} {f : Nat → Nat} {w : Nat → Int} (h : SAI u x f p0 r v) (hW : WOK u x V f w) (hp : V p0) (hm : 0 ≤ mA v (20 + 5 * x) (it f p0 r)) : ∃ a, a < r ∧ it f p0 a = it f p0 r := by
  apply Classical.byContradiction
  intro q
  have e := h.2.2.2.1 (it f p0 r) (hW.lt hp r) (fun a ha z => q ⟨a, ha, z⟩)
  rw [e] at hm
  exact absurd hm (by decide)
theorem SAI.full {u v : Me} {x r p0 : Nat} {V : Nat → Prop} {f : Nat → Nat} {w : Nat → Int} (h : SAI u x f p0 r v) (hW : WOK u x V f w) (hp : V p0) (hr : 16 ≤ r) : ∃ a, a < r ∧ it f p0 a = it f p0 r := by
  have h16 : r = 16 := by have := h.1; omega
  subst h16
  obtain ⟨a, b, hab, hb, e⟩ := php 16 (it f p0) (fun a _ => hW.lt hp a)
  rcases Nat.lt_or_ge b 16 with z | z
  · exact absurd e (h.2.2.2.2.2 a b hab z)
  · have : b = 16 := by omega
    subst this; exact ⟨a, hab, e⟩
theorem SAI.step {u v : Me} {x r p0 : Nat} {V : Nat → Prop} {f : Nat → Nat} {w : Nat → Int} (h : SAI u x f p0 r v) (hW : WOK u x V f w) (hp : V p0) (hr : r < 16) (hm : ¬ 0 ≤ mA v (20 + 5 * x) (it f p0 r)) : SAI u x f p0 (r + 1) (sA (sA v (20 + 5 * x) (upd (mA v (20 + 5 * x)) (it f p0 r) (nI r))) (21 + 5 * x) (upd (mA (sA v (20 + 5 * x) (upd (mA v (20 + 5 * x)) (it f p0 r) (nI r))) (21 + 5 * x)) r (nI (it f p0 r)))) := by
  have hn := h.new hm
  obtain ⟨h1, h2, h3, h4, h5, h6⟩ := h
  have n1 : ¬ 20 + 5 * x = 21 + 5 * x := by omega
  have n2 : ¬ 21 + 5 * x = 20 + 5 * x := by omega
  refine ⟨by omega, (h2.sA (by simp) _).sA (by simp) _, fun a ha => ?_, fun q hq ha => ?_, fun a ha => ?_, fun a b hab hb => ?_⟩
  · rw [mA_sA_ne _ _ n1, mA_sA_self]
    unfold upd
    rcases Nat.lt_or_ge a r with z | z
    · rw [if_neg (hn a z)]; exact h3 a z
    · have : a = r := by omega
      subst this; rw [if_pos rfl]
  · rw [mA_sA_ne _ _ n1, mA_sA_self]
    unfold upd
    rw [if_neg (fun e => ha r (by omega) e.symm)]
    exact h4 q hq (fun a z => ha a (by omega))
  · rw [mA_sA_self, mA_sA_ne _ _ n2]
    unfold upd
    rcases Nat.lt_or_ge a r with z | z
    · rw [if_neg (by omega)]; exact h5 a z
    · have : a = r := by omega
      subst this; rw [if_pos rfl]
  · rcases Nat.lt_or_ge b r with z | z
    · exact h6 a b hab z
    · have : b = r := by omega
      subst this; exact hn a hab
theorem SAI.fin {u v : Me} {x r p0 a : Nat} {V : Nat → Prop} {f : Nat → Nat} {w : Nat → Int} (h : SAI u x f p0 r v) (hW : WOK u x V f w) (hp : V p0) (ha : a < r) (e : it f p0 a = it f p0 r) : PL (sI (sI v (1 + 2 * x) (nI a)) (2 + 2 * x) (nI (r - a))) x V f w p0 ∧ Sm [20 + 5 * x, 21 + 5 * x] [] [1 + 2 * x, 2 + 2 * x] [] u (sI (sI v (1 + 2 * x) (nI a)) (2 + 2 * x) (nI (r - a))) := by
  have hw := h.w hW
  obtain ⟨h1, h2, h3, h4, h5, h6⟩ := h
  have hT : IsTR f p0 a (r - a) := ⟨by omega, by rw [show a + (r - a) = r by omega]; exact e.symm, fun c d hcd hd => h6 c d hcd (by omega)⟩
  obtain ⟨e1, e2⟩ := tlr_of hT
  refine ⟨⟨hw, hp, ?_, ?_, fun c hc => ?_⟩, ((h2.wk (fun _ q => q) (fun _ q => q) (fun _ q => absurd q List.not_mem_nil) (fun _ q => q)).sI (by simp) _).sI (by simp) _⟩
  · rw [e1, mI_sI_ne _ _ (by omega), mI_sI_self]
  · rw [e2, mI_sI_self]
  · rw [e1, e2] at hc; exact h5 c (by omega)
/-- the product way of machines i and j; the way of a plan against m -/
def fP (S : Sg) (i j p : Nat) : Nat := 4 * sx S i (p / 4) (sa S j (p % 4)) + sx S j (p % 4) (sa S i (p / 4))
def gP (S : Sg) (i j p : Nat) : Int := sp S (sa S i (p / 4)) (sa S j (p % 4))
def VP (S : Sg) (i j p : Nat) : Prop := p / 4 < sz S i ∧ p % 4 < sz S j
def dg (plan s : Nat) : Nat := plan / 3 ^ s % 3
def fQ (S : Sg) (m plan s : Nat) : Nat := sx S m s (dg plan s)
def gQ (S : Sg) (m plan s : Nat) : Int := sp S (dg plan s) (sa S m s)
def VQ (S : Sg) (m s : Nat) : Prop := s < sz S m
theorem dg_lt (plan s : Nat) : dg plan s < 3 := Nat.mod_lt _ (by decide)
theorem VP_f {S : Sg} (hO : Ok S) {i j p : Nat} : VP S i j (fP S i j p) := by
  have h1 := hO.x i (p / 4) (sa S j (p % 4)); have h2 := hO.x j (p % 4) (sa S i (p / 4))
  have z1 := (hO.z i).2; have z2 := (hO.z j).2
  unfold VP fP
  constructor <;> omega
theorem VP_0 {S : Sg} (hO : Ok S) (i j : Nat) : VP S i j 0 := ⟨(hO.z i).1, (hO.z j).1⟩
theorem VP_st {S : Sg} (hO : Ok S) {i j s t : Nat} (hs : s < sz S i) (ht : t < sz S j) : VP S i j (4 * s + t) := by
  have z2 := (hO.z j).2
  unfold VP; constructor <;> omega
theorem VP_16 {S : Sg} (hO : Ok S) {i j p : Nat} (h : VP S i j p) : p < 16 := by
  have z1 := (hO.z i).2
  unfold VP at h; omega
/-- laying the product way: done ahead of (s, t) -/
def TMI (u : Me) (S : Sg) (i j x s t : Nat) (v : Me) : Prop := Sm [18 + 5 * x, 19 + 5 * x] [] [] [] u v ∧ ∀ s' t', s' < sz S i → t' < sz S j → (s' < s ∨ s' = s ∧ t' < t) → mA v (18 + 5 * x) (4 * s' + t') = nI (fP S i j (4 * s' + t')) ∧ mA v (19 + 5 * x) (4 * s' + t') = iI (gP S i j (4 * s' + t'))
theorem TMI.init (u : Me) (S : Sg) (i j x : Nat) : TMI u S i j x 0 0 u := ⟨Sm.rf, fun s' t' _ _ h => absurd h (by omega)⟩
theorem TMI.row {u v : Me} {S : Sg} {i j x s t : Nat} (h : TMI u S i j x s t v) (ht : sz S j ≤ t) : TMI u S i j x (s + 1) 0 v := ⟨h.1, fun s' t' hs' ht' hlt => h.2 s' t' hs' ht' (by omega)⟩
theorem TMI.st {u v : Me} {S : Sg} {i j x s t : Nat} (h : TMI u S i j x s t v) (hO : Ok S) (hs : s < sz S i) (ht : t < sz S j) : TMI u S i j x s (t + 1) (sA (sA v (18 + 5 * x) (upd (mA v (18 + 5 * x)) (4 * s + t) (nI (4 * sx S i s (sa S j t) + sx S j t (sa S i s))))) (19 + 5 * x) (upd (mA (sA v (18 + 5 * x) (upd (mA v (18 + 5 * x)) (4 * s + t) (nI (4 * sx S i s (sa S j t) + sx S j t (sa S i s))))) (19 + 5 * x)) (4 * s + t) (iI (sp S (sa S i s) (sa S j t))))) := by
  have n1 : ¬ 18 + 5 * x = 19 + 5 * x := by omega
  have n2 : ¬ 19 + 5 * x = 18 + 5 * x := by omega
  have z1 := (hO.z i).2; have z2 := (hO.z j).2
  refine ⟨(h.1.sA (by simp) _).sA (by simp) _, fun s' t' hs' ht' hlt => ?_⟩
  rw [mA_sA_ne _ _ n1, mA_sA_self, mA_sA_self, mA_sA_ne _ _ n2]
  unfold upd
  by_cases q : s' = s ∧ t' = t
  · obtain ⟨rfl, rfl⟩ := q
    rw [if_pos rfl, if_pos rfl]
    unfold fP gP
    rw [show (4 * s' + t') / 4 = s' by omega, show (4 * s' + t') % 4 = t' by omega]
    exact ⟨rfl, rfl⟩
  · rw [if_neg (by omega), if_neg (by omega)]
    exact h.2 s' t' hs' ht' (by omega)
theorem TMI.fin {u v : Me} {S : Sg} {i j x s t : Nat} (h : TMI u S i j x s t v) (hO : Ok S) (hs : sz S i ≤ s) : WOK v x (VP S i j) (fP S i j) (gP S i j) := by
  intro p hp
  have := h.2 (p / 4) (p % 4) hp.1 hp.2 (by have := hp.1; omega)
  rw [show 4 * (p / 4) + p % 4 = p by omega] at this
  exact ⟨VP_16 hO hp, VP_f hO, this⟩
/-- laying a plan's way -/
def TPI (u : Me) (S : Sg) (m plan x s : Nat) (v : Me) : Prop := Sm [18 + 5 * x, 19 + 5 * x] [] [] [] u v ∧ ∀ s', s' < s → mA v (18 + 5 * x) s' = nI (fQ S m plan s') ∧ mA v (19 + 5 * x) s' = iI (gQ S m plan s')
theorem TPI.init (u : Me) (S : Sg) (m plan x : Nat) : TPI u S m plan x 0 u := ⟨Sm.rf, fun s' h => absurd h (by omega)⟩
theorem TPI.st {u v : Me} {S : Sg} {m plan x s : Nat} (h : TPI u S m plan x s v) : TPI u S m plan x (s + 1) (sA (sA v (18 + 5 * x) (upd (mA v (18 + 5 * x)) s (nI (sx S m s (plan / 3 ^ s % 3))))) (19 + 5 * x) (upd (mA (sA v (18 + 5 * x) (upd (mA v (18 + 5 * x)) s (nI (sx S m s (plan / 3 ^ s % 3))))) (19 + 5 * x)) s (iI (sp S (plan / 3 ^ s % 3) (sa S m s))))) := by
  have n1 : ¬ 18 + 5 * x = 19 + 5 * x := by omega
  have n2 : ¬ 19 + 5 * x = 18 + 5 * x := by omega
  refine ⟨(h.1.sA (by simp) _).sA (by simp) _, fun s' hs' => ?_⟩
  rw [mA_sA_ne _ _ n1, mA_sA_self, mA_sA_self, mA_sA_ne _ _ n2]
  unfold upd
  by_cases q : s' = s
  · subst q; rw [if_pos rfl, if_pos rfl]; exact ⟨rfl, rfl⟩
  · rw [if_neg q, if_neg q]; exact h.2 s' (by omega)
theorem TPI.fin {u v : Me} {S : Sg} {m plan x s : Nat} (h : TPI u S m plan x s v) (hO : Ok S) (hs : sz S m ≤ s) : WOK v x (VQ S m) (fQ S m plan) (gQ S m plan) := by
  intro p hp
  have hp' : p < sz S m := hp
  have := h.2 p (by omega)
  have z := (hO.z m).2
  exact ⟨by omega, hO.x _ _ _, this⟩
/-- two go on until both are at one place -/
noncomputable def mtF (f : Nat → Nat) (a b : Nat) : Option Nat := @dite _ (∃ m, it f a m = it f b m ∧ ∀ r, r < m → ¬ it f a r = it f b r) (Classical.propDecidable _) (fun h => some h.choose) (fun _ => none)
theorem mtF_some {f : Nat → Nat} {a b m : Nat} (h1 : it f a m = it f b m) (h2 : ∀ r, r < m → ¬ it f a r = it f b r) : mtF f a b = some m := by
  have he : ∃ m, it f a m = it f b m ∧ ∀ r, r < m → ¬ it f a r = it f b r := ⟨m, h1, h2⟩
  unfold mtF
  rw [dif_pos he]
  have hc := he.choose_spec
  congr 1
  rcases Nat.lt_trichotomy he.choose m with q | q | q
  · exact absurd hc.1 (h2 _ q)
  · exact q
  · exact absurd h1 (hc.2 _ q)
theorem mtF_none {f : Nat → Nat} {a b : Nat} (h : ∀ r, ¬ it f a r = it f b r) : mtF f a b = none := by
  unfold mtF
  rw [dif_neg]
  rintro ⟨m, h1, -⟩; exact h m h1
/-- pairs of places below 16: who don't meet in 257 rounds never do -/
theorem no_meet {f : Nat → Nat} {a b : Nat} (ha : ∀ r, it f a r < 16) (hb : ∀ r, it f b r < 16) (h : ∀ r, r < 257 → ¬ it f a r = it f b r) : ∀ r, ¬ it f a r = it f b r := by
  obtain ⟨c, d, hcd, hd, e⟩ := php 256 (fun r => 16 * it f a r + it f b r) (fun r _ => by have h1 := ha r; have h2 := hb r; show 16 * it f a r + it f b r < 256; omega)
  have e' : 16 * it f a c + it f b c = 16 * it f a d + it f b d := e
  have ea : it f a c = it f a d := by have h1 := hb c; have h2 := hb d; omega
  have eb : it f b c = it f b d := by have h1 := hb c; have h2 := hb d; omega
  have key : ∀ n r, r < n → ¬ it f a r = it f b r := by
    intro n
    induction n with
    | zero => intro r h; omega
    | succ n ih =>
      intro r hr
      rcases Nat.lt_or_ge r 257 with q | q
      · exact h r q
      · have hr2 : r = d + (r - d) := by omega
        have k1 : it f a r = it f a (c + (r - d)) := by rw [it_add, ea, ← it_add, ← hr2]
        have k2 : it f b r = it f b (c + (r - d)) := by rw [it_add, eb, ← it_add, ← hr2]
        rw [k1, k2]
        exact ih _ (by omega)
  exact fun r => key (r + 1) r (by omega)
