/-! THE REFERENCE: what its memory holds -/
theorem RepM.sA {S : Sg} {u : Me} (h : RepM S u) {c : Nat} (hc : 43 < c) (f : Nat → Int32) : RepM S (sA u c f) := by
  unfold RepM at h ⊢
  rw [mA_sA_ne u f (show ¬ 38 = c by omega), mA_sA_ne u f (show ¬ 39 = c by omega), mA_sA_ne u f (show ¬ 40 = c by omega), mA_sA_ne u f (show ¬ 37 = c by omega), mA_sA_ne u f (show ¬ 41 = c by omega), mA_sA_ne u f (show ¬ 42 = c by omega), mA_sA_ne u f (show ¬ 43 = c by omega)]
  exact h
theorem RepM.sI {S : Sg} {u : Me} (h : RepM S u) {c : Nat} (hc : 9 < c) (x : Int32) : RepM S (sI u c x) := by
  unfold RepM at h ⊢
  rw [mI_sI_ne u x (show ¬ 9 = c by omega), mI_sI_ne u x (show ¬ 7 = c by omega), mI_sI_ne u x (show ¬ 8 = c by omega)]
  exact h
theorem RepM.sL {S : Sg} {u : Me} (h : RepM S u) (c : Nat) (x : Int64) : RepM S (sL u c x) := h
theorem pay_M {S : Sg} {u : Me} (h : RepM S u) {a b : Nat} (ha : a < 3) (hb : b < 3) (z : Int) : RepM (payS S a b z) (sA u 37 (upd (mA u 37) (3 * a + b) (iI z))) := by
  refine ⟨h.1, h.2.1, h.2.2.1, h.2.2.2.1, fun c d hc hd => ?_, h.2.2.2.2.2⟩
  rw [mA_sA_self]
  show upd (mA u 37) (3 * a + b) (iI z) (3 * c + d) = iI (if c = a ∧ d = b then z else sp S c d)
  unfold upd
  by_cases q : c = a ∧ d = b
  · rw [if_pos q, if_pos (by omega)]
  · rw [if_neg q, if_neg (by omega)]; exact h.p hc hd
theorem rate_M {S : Sg} {u : Me} (h : RepM S u) (p q : Nat) : RepM (rateS S p q) (sI (sI u 7 (nI p)) 8 (nI q)) := ⟨h.1, h.2.1, h.2.2.1, h.2.2.2.1, h.2.2.2.2.1, rfl, rfl, h.2.2.2.2.2.2.2⟩
theorem drop_M {S : Sg} {u : Me} (h : RepM S u) : RepM (dropS S) (sI u 9 (nI (sN S - 1))) := by
  have e : ∀ m, m < sN (dropS S) → m < sN S := fun m q => Nat.lt_of_lt_of_le q (Nat.sub_le _ _)
  exact ⟨rfl, fun m hm => h.2.1 m (e m hm), fun m s hm => h.2.2.1 m s (e m hm), fun m s b hm => h.2.2.2.1 m s b (e m hm), h.2.2.2.2⟩
theorem does_M {S : Sg} {u : Me} (h : RepM S u) (hO : Ok S) {m s : Nat} (hm : m < sN S) (hs : s < sz S m) (a : Nat) : RepM (doesS S m s a) (sA u 39 (upd (mA u 39) (4 * m + s) (nI a))) := by
  refine ⟨h.1, h.2.1, fun i t hi ht => ?_, h.2.2.2⟩
  rw [mA_sA_self]
  show upd (mA u 39) (4 * m + s) (nI a) (4 * i + t) = nI (if i = m ∧ t = s then a else sa S i t)
  have h1 := (hO.z m).2; have h2 := (hO.z i).2
  have ht' : t < sz S i := ht
  unfold upd
  by_cases q : i = m ∧ t = s
  · rw [if_pos q, if_pos (by omega)]
  · rw [if_neg q, if_neg (by omega)]; exact h.a hi ht
theorem goes_M {S : Sg} {u : Me} (h : RepM S u) (hO : Ok S) {m s b : Nat} (hm : m < sN S) (hs : s < sz S m) (hb : b < 3) (x : Nat) : RepM (goesS S m s b x) (sA u 40 (upd (mA u 40) (12 * m + 3 * s + b) (nI x))) := by
  refine ⟨h.1, h.2.1, h.2.2.1, fun i t d hi ht hd => ?_, h.2.2.2.2⟩
  rw [mA_sA_self]
  show upd (mA u 40) (12 * m + 3 * s + b) (nI x) (12 * i + 3 * t + d) = nI (if i = m ∧ t = s ∧ d = b then x else sx S i t d)
  have h1 := (hO.z m).2; have h2 := (hO.z i).2
  have ht' : t < sz S i := ht
  unfold upd
  by_cases q : i = m ∧ t = s ∧ d = b
  · rw [if_pos q, if_pos (by omega)]
  · rw [if_neg q, if_neg (by omega)]; exact h.x hi ht hd
theorem lay_M {S : Sg} {u : Me} (h : RepM S u) (hO : Ok S) {k i : Nat} (hk : k < 4) (hi : i < sk S k) (v : Int32) : RepM (layS S k i v) (sA u 43 (upd (mA u 43) (60 * k + i) (lowB (sl S k - 1) v))) := by
  refine ⟨h.1, h.2.1, h.2.2.1, h.2.2.2.1, h.2.2.2.2.1, h.2.2.2.2.2.1, h.2.2.2.2.2.2.1, h.2.2.2.2.2.2.2.1, h.2.2.2.2.2.2.2.2.1, fun j t hj ht => ?_⟩
  rw [mA_sA_self]
  show upd (mA u 43) (60 * k + i) (lowB (sl S k - 1) v) (60 * j + t) = (if j = k ∧ t = i then lowB (sl S k - 1) v else sc S j t)
  have ht' : t < sk S j := ht
  have h60 := (hO.s j).2; have h61 := (hO.s k).2
  unfold upd
  by_cases q : j = k ∧ t = i
  · rw [if_pos q, if_pos (by omega)]
  · rw [if_neg q, if_neg (by omega)]; exact h.c hj ht'
/-- a sheet being laid: the first i cells are 0 -/
def ShI (u : Me) (k v n i : Nat) (w : Me) : Prop := Sm [41, 42, 43] [] [] [] u w ∧ mA w 41 = upd (mA u 41) k (nI v) ∧ mA w 42 = upd (mA u 42) k (nI n) ∧ ∀ j, mA w 43 j = if 60 * k ≤ j ∧ j < 60 * k + i then nI 0 else mA u 43 j
theorem ShI.init (u : Me) (k v n : Nat) : ShI u k v n 0 (sA (sA u 41 (upd (mA u 41) k (nI v))) 42 (upd (mA (sA u 41 (upd (mA u 41) k (nI v))) 42) k (nI n))) := by
  refine ⟨(Sm.rf.sA (by decide) _).sA (by decide) _, rfl, rfl, fun j => ?_⟩
  rw [if_neg (by omega)]; rfl
theorem ShI.step {u w : Me} {k v n i : Nat} (h : ShI u k v n i w) : ShI u k v n (i + 1) (sA w 43 (upd (mA w 43) (60 * k + i) (nI 0))) := by
  refine ⟨h.1.sA (by decide) _, h.2.1, h.2.2.1, fun j => ?_⟩
  rw [mA_sA_self]
  unfold upd
  by_cases q : j = 60 * k + i
  · rw [if_pos q, if_pos (by omega)]
  · rw [if_neg q, h.2.2.2 j]
    by_cases z : 60 * k ≤ j ∧ j < 60 * k + i
    · rw [if_pos z, if_pos (by omega)]
    · rw [if_neg z, if_neg (by omega)]
theorem ShI.fin {u w : Me} {S : Sg} {k v n : Nat} (h : ShI u k v n 60 w) (hM : RepM S u) (hO : Ok S) (hk : k < 4) (hv : v < 3) (hn : n ≤ 60) : RepM (sheetS S k v n) w := by
  obtain ⟨hs, h1, h2, h3⟩ := h
  have e37 := hs.1 37 (by decide); have e38 := hs.1 38 (by decide); have e39 := hs.1 39 (by decide); have e40 := hs.1 40 (by decide)
  have i7 := hs.2.2.1 7 (by decide); have i8 := hs.2.2.1 8 (by decide); have i9 := hs.2.2.1 9 (by decide)
  refine ⟨by rw [i9]; exact hM.1, by rw [e38]; exact hM.2.1, by rw [e39]; exact hM.2.2.1, by rw [e40]; exact hM.2.2.2.1, by rw [e37]; exact hM.2.2.2.2.1, by rw [i7]; exact hM.u, by rw [i8]; exact hM.b, fun j hj => ?_, fun j hj => ?_, fun j i hj hi => ?_⟩
  · rw [h1]
    show upd (mA u 41) k (nI v) j = lnM (if j = k then v + 1 else sl S j)
    unfold upd
    by_cases q : j = k
    · rw [if_pos q, if_pos q]; rfl
    · rw [if_neg q, if_neg q]; exact hM.l hj
  · rw [h2]
    show upd (mA u 42) k (nI n) j = nI (if j = k then n else sk S j)
    unfold upd
    by_cases q : j = k
    · rw [if_pos q, if_pos q]
    · rw [if_neg q, if_neg q]; exact hM.k hj
  · rw [h3]
    show _ = (if j = k then nI 0 else sc S j i)
    have hi2 : i < (if j = k then n else sk S j) := hi
    by_cases q : j = k
    · rw [if_pos q] at hi2 ⊢; rw [if_pos (by subst q; omega)]
    · rw [if_neg q] at hi2 ⊢
      have h60 := (hO.s j).2
      rw [if_neg (by omega)]; exact hM.c hj hi2
/-- machine N of the reference is being made -/
def AddM (u : Me) (N n s1 K : Nat) (v : Me) : Prop := Sm [38, 39, 40] [] [] [] u v ∧ mA v 38 = upd (mA u 38) N (nI n) ∧ (∀ j, mA v 39 j = if 4 * N ≤ j ∧ j < 4 * N + s1 then nI 0 else mA u 39 j) ∧ (∀ j, mA v 40 j = if 12 * N ≤ j ∧ j < 12 * N + K then nI ((j - 12 * N) / 3) else mA u 40 j)
theorem AddM.init (u : Me) (N n : Nat) : AddM u N n 0 (3 * 0) (sA u 38 (upd (mA u 38) N (nI n))) := by
  refine ⟨Sm.rf.sA (by decide) _, rfl, fun j => ?_, fun j => ?_⟩
  · rw [if_neg (by omega)]; rfl
  · rw [if_neg (by omega)]; rfl
theorem AddM.act {u : Me} {N n s : Nat} {v : Me} (h : AddM u N n s (3 * s) v) : AddM u N n (s + 1) (3 * s + 0) (sA v 39 (upd (mA v 39) (4 * N + s) (nI 0))) := by
  refine ⟨h.1.sA (by decide) _, h.2.1, fun j => ?_, h.2.2.2⟩
  rw [mA_sA_self]
  unfold upd
  by_cases q : j = 4 * N + s
  · rw [if_pos q, if_pos (by omega)]
  · rw [if_neg q, h.2.2.1 j]
    by_cases z : 4 * N ≤ j ∧ j < 4 * N + s
    · rw [if_pos z, if_pos (by omega)]
    · rw [if_neg z, if_neg (by omega)]
theorem AddM.nxt {u : Me} {N n s b : Nat} {v : Me} (h : AddM u N n (s + 1) (3 * s + b) v) (hb : b < 3) : AddM u N n (s + 1) (3 * s + (b + 1)) (sA v 40 (upd (mA v 40) (12 * N + 3 * s + b) (nI s))) := by
  refine ⟨h.1.sA (by decide) _, h.2.1, h.2.2.1, fun j => ?_⟩
  rw [mA_sA_self]
  unfold upd
  by_cases q : j = 12 * N + 3 * s + b
  · rw [if_pos q, if_pos (by omega)]; congr 1; omega
  · rw [if_neg q, h.2.2.2 j]
    by_cases z : 12 * N ≤ j ∧ j < 12 * N + (3 * s + b)
    · rw [if_pos z, if_pos (by omega)]
    · rw [if_neg z, if_neg (by omega)]
theorem AddM.fin {u : Me} {S : Sg} {n : Nat} {v : Me} (h : AddM u (sN S) n 4 12 v) (hM : RepM S u) (hO : Ok S) (h4 : n ≤ 4) : RepM (addS S n) (sI v 9 (nI (sN S + 1))) := by
  obtain ⟨hs, h38, h39, h40⟩ := h
  refine ⟨rfl, fun m hm => ?_, fun m s hm hs' => ?_, fun m s b hm hs' hb => ?_, ?_⟩
  · have hm' : m < sN S + 1 := hm
    show mA v 38 m = nI (if m = sN S then n else sz S m)
    rw [h38]
    unfold upd
    by_cases q : m = sN S
    · rw [if_pos q, if_pos q]
    · rw [if_neg q, if_neg q]; exact hM.z (by omega)
  · have hm' : m < sN S + 1 := hm
    have hs2 : s < (if m = sN S then n else sz S m) := hs'
    show mA v 39 (4 * m + s) = nI (if m = sN S then 0 else sa S m s)
    rw [h39]
    by_cases q : m = sN S
    · rw [if_pos q] at hs2; rw [if_pos q, if_pos (by omega)]
    · rw [if_neg q] at hs2
      have := (hO.z m).2
      rw [if_neg q, if_neg (by omega)]; exact hM.a (by omega) hs2
  · have hm' : m < sN S + 1 := hm
    have hs2 : s < (if m = sN S then n else sz S m) := hs'
    show mA v 40 (12 * m + 3 * s + b) = nI (if m = sN S then (if s < n then s else 0) else sx S m s b)
    rw [h40]
    by_cases q : m = sN S
    · rw [if_pos q] at hs2; rw [if_pos q, if_pos hs2, if_pos (by omega)]; congr 1; omega
    · rw [if_neg q] at hs2
      have := (hO.z m).2
      rw [if_neg q, if_neg (by omega)]; exact hM.x (by omega) hs2 hb
  · have e37 := hs.1 37 (by decide); have e41 := hs.1 41 (by decide); have e42 := hs.1 42 (by decide); have e43 := hs.1 43 (by decide)
    have i7 := hs.2.2.1 7 (by decide); have i8 := hs.2.2.1 8 (by decide)
    show (∀ a b, a < 3 → b < 3 → mA v 37 (3 * a + b) = iI (sp (addS S n) a b)) ∧ mI v 7 = nI (sU (addS S n)) ∧ mI v 8 = nI (sB (addS S n)) ∧ (∀ k, k < 4 → mA v 41 k = lnM (sl (addS S n) k)) ∧ (∀ k, k < 4 → mA v 42 k = nI (sk (addS S n) k)) ∧ (∀ k i, k < 4 → i < sk (addS S n) k → mA v 43 (60 * k + i) = sc (addS S n) k i)
    rw [e37, e41, e42, e43, i7, i8]
    exact hM.2.2.2.2
theorem lnM_not {v : Nat} (hv : v ≤ 3) : lnM v = -4 ↔ v = 0 := by
  rcases (show v = 0 ∨ v = 1 ∨ v = 2 ∨ v = 3 by omega) with rfl | rfl | rfl | rfl <;> decide
/-- going, as the reference goes: r places met -/
def SRI (u : Me) (f : Nat → Nat) (w : Nat → Int) (p0 r : Nat) (v : Me) : Prop := r ≤ 16 ∧ Sm [44, 45] [] [] [] u v ∧ (∀ a, a < r → mA v 45 (it f p0 a) = nI a) ∧ (∀ q, q < 16 → (∀ a, a < r → ¬ it f p0 a = q) → mA v 45 q = -4) ∧ (∀ a, a < r → mA v 44 a = iI (w (it f p0 a))) ∧ ∀ a b, a < b → b < r → ¬ it f p0 a = it f p0 b
/-- the way has been gone, by the reference -/
def PLR (u : Me) (f : Nat → Nat) (w : Nat → Int) (p0 : Nat) : Prop := mI u 10 = nI (tl f p0) ∧ mI u 11 = nI (rg f p0) ∧ ∀ r, r < tl f p0 + rg f p0 → mA u 44 r = iI (w (it f p0 r))
theorem SRI.init {u v : Me} (f : Nat → Nat) (w : Nat → Int) (p0 : Nat) (h : Sm [44, 45] [] [] [] u v) (h4 : ∀ j, j < 16 → mA v 45 j = -4) : SRI u f w p0 0 v :=
  ⟨by omega, h, fun a h => absurd h (by omega), fun q hq _ => h4 q hq, fun a h => absurd h (by omega), fun a b h1 h2 => absurd h2 (by omega)⟩
theorem SRI.new {u v : Me} {r p0 : Nat} {f : Nat → Nat} {w : Nat → Int} (h : SRI u f w p0 r v) (hm : mA v 45 (it f p0 r) = -4) : ∀ a, a < r → ¬ it f p0 a = it f p0 r := by
  intro a ha e
  have h16 := h.1
  rw [← e, h.2.2.1 a ha] at hm
  have e4 : (-4 : Int32) = iI (-4) := by decide
  rw [e4, nI_iI] at hm
  have := congrArg Int32.toInt hm
  rw [iI_toInt (by omega) (by omega), iI_toInt (by omega) (by omega)] at this
  omega
theorem SRI.hit {u v : Me} {r p0 : Nat} {f : Nat → Nat} {w : Nat → Int} (h : SRI u f w p0 r v) (hN : ∀ r, it f p0 r < 16) (hm : ¬ mA v 45 (it f p0 r) = -4) : ∃ a, a < r ∧ it f p0 a = it f p0 r := by
  apply Classical.byContradiction
  intro q
  exact hm (h.2.2.2.1 (it f p0 r) (hN r) (fun a ha z => q ⟨a, ha, z⟩))
theorem SRI.room {u v : Me} {r p0 : Nat} {f : Nat → Nat} {w : Nat → Int} (h : SRI u f w p0 r v) (hN : ∀ r, it f p0 r < 16) (hm : mA v 45 (it f p0 r) = -4) : r < 16 := by
  rcases Nat.lt_or_ge r 16 with z | z
  · exact z
  · have h16 : r = 16 := by have := h.1; omega
    subst h16
    obtain ⟨a, b, hab, hb, e⟩ := php 16 (it f p0) (fun a _ => hN a)
    rcases Nat.lt_or_ge b 16 with z2 | z2
    · exact absurd e (h.2.2.2.2.2 a b hab z2)
    · have : b = 16 := by omega
      subst this; exact absurd e (h.new hm a hab)
theorem SRI.step {u v : Me} {r p0 : Nat} {f : Nat → Nat} {w : Nat → Int} (h : SRI u f w p0 r v) (hN : ∀ r, it f p0 r < 16) (hm : mA v 45 (it f p0 r) = -4) : SRI u f w p0 (r + 1) (sA (sA v 45 (upd (mA v 45) (it f p0 r) (nI r))) 44 (upd (mA (sA v 45 (upd (mA v 45) (it f p0 r) (nI r))) 44) r (iI (w (it f p0 r))))) := by
  have hn := h.new hm
  have hr := h.room hN hm
  obtain ⟨h1, h2, h3, h4, h5, h6⟩ := h
  have n1 : ¬ (45 : Nat) = 44 := by decide
  have n2 : ¬ (44 : Nat) = 45 := by decide
  refine ⟨by omega, (h2.sA (by decide) _).sA (by decide) _, fun a ha => ?_, fun q hq ha => ?_, fun a ha => ?_, fun a b hab hb => ?_⟩
  · rw [mA_sA_ne _ _ n1, mA_sA_self]
    unfold upd
    rcases Nat.lt_or_ge a r with z | z
    · rw [if_neg (hn a z)]; exact h3 a z
    · have : a = r := by omega
      subst this; rw [if_pos rfl]
  · rw [mA_sA_ne _ _ n1, mA_sA_self]
    unfold upd
    rw [if_neg (fun e => ha r (by omega) e.symm)]
    exact h4 q hq (fun a z => ha a (by omega))
  · rw [mA_sA_self, mA_sA_ne _ _ n2]
    unfold upd
    rcases Nat.lt_or_ge a r with z | z
    · rw [if_neg (by omega)]; exact h5 a z
    · have : a = r := by omega
      subst this; rw [if_pos rfl]
  · rcases Nat.lt_or_ge b r with z | z
    · exact h6 a b hab z
    · have : b = r := by omega
      subst this; exact hn a hab
theorem SRI.fin {u v : Me} {r p0 a : Nat} {f : Nat → Nat} {w : Nat → Int} (h : SRI u f w p0 r v) (ha : a < r) (e : it f p0 a = it f p0 r) : PLR (sI (sI v 10 (nI a)) 11 (nI (r - a))) f w p0 ∧ Sm [44, 45] [] [10, 11] [] u (sI (sI v 10 (nI a)) 11 (nI (r - a))) := by
  obtain ⟨h1, h2, h3, h4, h5, h6⟩ := h
  have hT : IsTR f p0 a (r - a) := ⟨by omega, by rw [show a + (r - a) = r by omega]; exact e.symm, fun c d hcd hd => h6 c d hcd (by omega)⟩
  obtain ⟨e1, e2⟩ := tlr_of hT
  refine ⟨⟨?_, ?_, fun c hc => ?_⟩, ((h2.wk (fun _ q => q) (fun _ q => q) (fun _ q => absurd q List.not_mem_nil) (fun _ q => q)).sI (by decide) _).sI (by decide) _⟩
  · rw [e1]; rfl
  · rw [e2]; rfl
  · rw [e1, e2] at hc; exact h5 c (by omega)
/-- the sums as the reference weighs them -/
theorem wm_wg (h : Nat → Int) (p q : Int) (n : Nat) : sg (fun k => h k * pw p k * pw q (n - k)) n = q * wg h p q n := by
  have key : ∀ m, m ≤ n → sg (fun k => h k * pw p k * pw q (n - k)) m = q * (wg h p q m * pw q (n - m)) := by
    intro m
    induction m with
    | zero => intro _; simp [sg, wg]
    | succ m ih =>
      intro hm
      rw [sg_s, ih (by omega), wg_s, show n - m = (n - (m + 1)) + 1 by omega, pw_s]
      grind
  have := key n (Nat.le_refl n)
  rw [this, Nat.sub_self]
  show q * (wg h p q n * 1) = _
  rw [Int.mul_one]
theorem NUM_M (h : Nat → Int) (T R : Nat) (p q : Int) : sg (fun k => h k * pw p k * pw q (T - k)) T * (pw q R - pw p R) + pw p T * sg (fun k => h (T + k) * pw p k * pw q (R - k)) R = NUM h T R p q := by
  rw [wm_wg, wm_wg (fun k => h (T + k))]
  unfold NUM; grind
