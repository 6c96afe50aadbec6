
def fillF (f : Nat → Int32) (a b : Nat) (v : Int32) : Nat → Int32 := fun j => if a ≤ j ∧ j < b then v else f j
theorem fill_0 (u : Me) (c a : Nat) (v : Int32) : sA u c (fillF (mA u c) a a v) = u := by
  have e : fillF (mA u c) a a v = mA u c := by funext j; unfold fillF; rw [if_neg (by omega)]
  rw [e, sA_same]
theorem fill_s (u : Me) (c : Nat) {a i : Nat} (h : a ≤ i) (v : Int32) : sA (sA u c (fillF (mA u c) a i v)) c (upd (mA (sA u c (fillF (mA u c) a i v)) c) i v) = sA u c (fillF (mA u c) a (i + 1) v) := by
  rw [sA_sA, mA_sA_self]
  congr 1
  funext j
  unfold upd fillF
  by_cases h1 : j = i
  · rw [if_pos h1, if_pos (by omega)]
  · rw [if_neg h1]
    by_cases h2 : a ≤ j ∧ j < i
    · rw [if_pos h2, if_pos (by omega)]
    · rw [if_neg h2, if_neg (by omega)]
/-- the game's changes -/
def payS (S : Sg) (a b : Nat) (z : Int) : Sg := (S.1, S.2.1, S.2.2.1, S.2.2.2.1, (fun c d => if c = a ∧ d = b then z else S.2.2.2.2.1 c d), S.2.2.2.2.2)
def rateS (S : Sg) (p q : Nat) : Sg := (S.1, S.2.1, S.2.2.1, S.2.2.2.1, S.2.2.2.2.1, p, q, S.2.2.2.2.2.2.2)
def addS (S : Sg) (n : Nat) : Sg := (S.1 + 1, (fun m => if m = S.1 then n else S.2.1 m), (fun m s => if m = S.1 then 0 else S.2.2.1 m s), (fun m s b => if m = S.1 then (if s < n then s else 0) else S.2.2.2.1 m s b), S.2.2.2.2)
def dropS (S : Sg) : Sg := (S.1 - 1, S.2)
def doesS (S : Sg) (m s a : Nat) : Sg := (S.1, S.2.1, (fun i t => if i = m ∧ t = s then a else S.2.2.1 i t), S.2.2.2)
def goesS (S : Sg) (m s b x : Nat) : Sg := (S.1, S.2.1, S.2.2.1, (fun i t d => if i = m ∧ t = s ∧ d = b then x else S.2.2.2.1 i t d), S.2.2.2.2)
def sheetS (S : Sg) (k v n : Nat) : Sg := (S.1, S.2.1, S.2.2.1, S.2.2.2.1, S.2.2.2.2.1, S.2.2.2.2.2.1, S.2.2.2.2.2.2.1, (fun j => if j = k then v + 1 else S.2.2.2.2.2.2.2.1 j), (fun j => if j = k then n else S.2.2.2.2.2.2.2.2.1 j), (fun j i => if j = k then nI 0 else S.2.2.2.2.2.2.2.2.2 j i))
def layS (S : Sg) (k i : Nat) (v : Int32) : Sg := (S.1, S.2.1, S.2.2.1, S.2.2.2.1, S.2.2.2.2.1, S.2.2.2.2.2.1, S.2.2.2.2.2.2.1, S.2.2.2.2.2.2.2.1, S.2.2.2.2.2.2.2.2.1, (fun j t => if j = k ∧ t = i then lowB (sl S k - 1) v else S.2.2.2.2.2.2.2.2.2 j t))
theorem Ok.pay {S : Sg} (h : Ok S) {a b : Nat} {z : Int} (h1 : -50 ≤ z) (h2 : z ≤ 50) : Ok (payS S a b z) := by
  refine ⟨h.1, h.2.1, h.2.2.1, h.2.2.2.1, fun c d => ?_, h.2.2.2.2.2⟩
  show -50 ≤ (if c = a ∧ d = b then z else sp S c d) ∧ (if c = a ∧ d = b then z else sp S c d) ≤ 50
  split
  · exact ⟨h1, h2⟩
  · exact h.p c d
theorem Ok.rate {S : Sg} (h : Ok S) {p q : Nat} (h1 : 1 ≤ p) (h2 : p < q) (h3 : q ≤ 4) : Ok (rateS S p q) := ⟨h.1, h.2.1, h.2.2.1, h.2.2.2.1, h.2.2.2.2.1, ⟨h1, h2, h3⟩, h.2.2.2.2.2.2⟩
theorem Ok.add {S : Sg} (h : Ok S) {n : Nat} (h0 : sN S < 12) (h1 : 1 ≤ n) (h2 : n ≤ 4) : Ok (addS S n) := by
  refine ⟨h0, fun m => ?_, fun m s => ?_, fun m s b => ?_, h.2.2.2.2⟩
  · show 1 ≤ (if m = S.1 then n else sz S m) ∧ (if m = S.1 then n else sz S m) ≤ 4
    split
    · exact ⟨h1, h2⟩
    · exact h.z m
  · show (if m = S.1 then 0 else sa S m s) < 3
    split
    · decide
    · exact h.a m s
  · show (if m = S.1 then (if s < n then s else 0) else sx S m s b) < (if m = S.1 then n else sz S m)
    by_cases q : m = S.1
    · rw [if_pos q, if_pos q]; split <;> omega
    · rw [if_neg q, if_neg q]; exact h.x m s b
theorem Ok.drop {S : Sg} (h : Ok S) : Ok (dropS S) := ⟨Nat.le_trans (Nat.sub_le _ _) h.1, h.2⟩
theorem Ok.does {S : Sg} (h : Ok S) {m s a : Nat} (ha : a < 3) : Ok (doesS S m s a) := by
  refine ⟨h.1, h.2.1, fun i t => ?_, h.2.2.2⟩
  show (if i = m ∧ t = s then a else sa S i t) < 3
  split
  · exact ha
  · exact h.a i t
theorem Ok.goes {S : Sg} (h : Ok S) {m s b x : Nat} (hx : x < sz S m) : Ok (goesS S m s b x) := by
  refine ⟨h.1, h.2.1, h.2.2.1, fun i t d => ?_, h.2.2.2.2⟩
  show (if i = m ∧ t = s ∧ d = b then x else sx S i t d) < sz S i
  split
  · rename_i q; rw [q.1]; exact hx
  · exact h.x i t d
theorem Ok.sheet {S : Sg} (h : Ok S) {k v n : Nat} (hv : v < 3) (hn : n ≤ 60) : Ok (sheetS S k v n) := by
  refine ⟨h.1, h.2.1, h.2.2.1, h.2.2.2.1, h.2.2.2.2.1, h.2.2.2.2.2.1, fun j => ?_⟩
  show (if j = k then v + 1 else sl S j) ≤ 3 ∧ (if j = k then n else sk S j) ≤ 60
  by_cases q : j = k
  · rw [if_pos q, if_pos q]; omega
  · rw [if_neg q, if_neg q]; exact h.s j
theorem Ok.lay {S : Sg} (h : Ok S) (k i : Nat) (v : Int32) : Ok (layS S k i v) := ⟨h.1, h.2.1, h.2.2.1, h.2.2.2.1, h.2.2.2.2.1, h.2.2.2.2.2.1, h.2.2.2.2.2.2⟩
theorem RepC.pay {S : Sg} {u : Me} (h : RepC S u) {a b : Nat} (ha : a < 3) (hb : b < 3) (z : Int) : RepC (payS S a b z) (sA u 2 (upd (mA u 2) (3 * a + b) (iI z))) := by
  refine ⟨h.1, h.2.1, h.2.2.1, h.2.2.2.1, fun c d hc hd => ?_, h.2.2.2.2.2⟩
  rw [mA_sA_self]
  show upd (mA u 2) (3 * a + b) (iI z) (3 * c + d) = iI (if c = a ∧ d = b then z else sp S c d)
  unfold upd
  by_cases q : c = a ∧ d = b
  · rw [if_pos q, if_pos (by omega)]
  · rw [if_neg q, if_neg (by omega)]; exact h.p hc hd
theorem RepC.rate {S : Sg} {u : Me} (h : RepC S u) (p q : Nat) : RepC (rateS S p q) (sL (sL u 0 (lI p)) 1 (lI q)) := ⟨h.1, h.2.1, h.2.2.1, h.2.2.2.1, h.2.2.2.2.1, rfl, rfl, h.2.2.2.2.2.2.2⟩
theorem RepC.drop {S : Sg} {u : Me} (h : RepC S u) : RepC (dropS S) (sI u 0 (nI (sN S - 1))) := by
  have e : ∀ m, m < sN (dropS S) → m < sN S := fun m q => Nat.lt_of_lt_of_le q (Nat.sub_le _ _)
  exact ⟨rfl, fun m hm => h.2.1 m (e m hm), fun m s hm => h.2.2.1 m s (e m hm), fun m s b hm => h.2.2.2.1 m s b (e m hm), h.2.2.2.2⟩
theorem RepC.does {S : Sg} {u : Me} (h : RepC S u) (hO : Ok S) {m s : Nat} (hm : m < sN S) (hs : s < sz S m) (a : Nat) : RepC (doesS S m s a) (sA u 5 (upd (mA u 5) (4 * m + s) (nI a))) := by
  refine ⟨h.1, h.2.1, fun i t hi ht => ?_, h.2.2.2⟩
  rw [mA_sA_self]
  show upd (mA u 5) (4 * m + s) (nI a) (4 * i + t) = nI (if i = m ∧ t = s then a else sa S i t)
  have h1 := (hO.z m).2; have h2 := (hO.z i).2
  have ht' : t < sz S i := ht
  unfold upd
  by_cases q : i = m ∧ t = s
  · rw [if_pos q, if_pos (by omega)]
  · rw [if_neg q, if_neg (by omega)]; exact h.a hi ht
theorem RepC.goes {S : Sg} {u : Me} (h : RepC S u) (hO : Ok S) {m s b : Nat} (hm : m < sN S) (hs : s < sz S m) (hb : b < 3) (x : Nat) : RepC (goesS S m s b x) (sA u 6 (upd (mA u 6) ((4 * m + s) * 3 + b) (nI x))) := by
  refine ⟨h.1, h.2.1, h.2.2.1, fun i t d hi ht hd => ?_, h.2.2.2.2⟩
  rw [mA_sA_self]
  show upd (mA u 6) ((4 * m + s) * 3 + b) (nI x) ((4 * i + t) * 3 + d) = nI (if i = m ∧ t = s ∧ d = b then x else sx S i t d)
  have h1 := (hO.z m).2; have h2 := (hO.z i).2
  have ht' : t < sz S i := ht
  unfold upd
  by_cases q : i = m ∧ t = s ∧ d = b
  · rw [if_pos q, if_pos (by omega)]
  · rw [if_neg q, if_neg (by omega)]; exact h.x hi ht hd
theorem RepC.sheet {S : Sg} {u : Me} (h : RepC S u) (hO : Ok S) {k v n : Nat} (hk : k < 4) (hv : v < 3) (hn : n ≤ 60) : RepC (sheetS S k v n) (sA (sA (sA u 8 (upd (mA u 8) k (nI v))) 9 (upd (mA (sA u 8 (upd (mA u 8) k (nI v))) 9) k (nI n))) 10 (fillF (mA (sA (sA u 8 (upd (mA u 8) k (nI v))) 9 (upd (mA (sA u 8 (upd (mA u 8) k (nI v))) 9) k (nI n))) 10) (k * 60) (k * 60 + n) (nI 0))) := by
  refine ⟨h.1, h.2.1, h.2.2.1, h.2.2.2.1, h.2.2.2.2.1, h.2.2.2.2.2.1, h.2.2.2.2.2.2.1, fun j hj => ?_, fun j hj => ?_, fun j i hj hi => ?_⟩
  · show upd (mA u 8) k (nI v) j = lnC (if j = k then v + 1 else sl S j)
    unfold upd
    by_cases q : j = k
    · rw [if_pos q, if_pos q]; rfl
    · rw [if_neg q, if_neg q]; exact h.l hj
  · show upd (mA u 9) k (nI n) j = nI (if j = k then n else sk S j)
    unfold upd
    by_cases q : j = k
    · rw [if_pos q, if_pos q]
    · rw [if_neg q, if_neg q]; exact h.k hj
  · show fillF (mA u 10) (k * 60) (k * 60 + n) (nI 0) (j * 60 + i) = (if j = k then nI 0 else sc S j i)
    have hi2 : i < (if j = k then n else sk S j) := hi
    unfold fillF
    by_cases q : j = k
    · rw [if_pos q] at hi2 ⊢; rw [if_pos (by subst q; omega)]
    · rw [if_neg q] at hi2 ⊢
      have h60 := (hO.s j).2
      rw [if_neg (by omega)]; exact h.c hj hi2
theorem RepC.lay {S : Sg} {u : Me} (h : RepC S u) (hO : Ok S) {k i : Nat} (hk : k < 4) (hi : i < sk S k) (v : Int32) : RepC (layS S k i v) (sA u 10 (upd (mA u 10) (k * 60 + i) (lowB (sl S k - 1) v))) := by
  refine ⟨h.1, h.2.1, h.2.2.1, h.2.2.2.1, h.2.2.2.2.1, h.2.2.2.2.2.1, h.2.2.2.2.2.2.1, h.2.2.2.2.2.2.2.1, h.2.2.2.2.2.2.2.2.1, fun j t hj ht => ?_⟩
  rw [mA_sA_self]
  show upd (mA u 10) (k * 60 + i) (lowB (sl S k - 1) v) (j * 60 + t) = (if j = k ∧ t = i then lowB (sl S k - 1) v else sc S j t)
  have ht' : t < sk S j := ht
  have h60 := (hO.s j).2; have h61 := (hO.s k).2
  unfold upd
  by_cases q : j = k ∧ t = i
  · rw [if_pos q, if_pos (by omega)]
  · rw [if_neg q, if_neg (by omega)]; exact h.c hj ht'
/-- machine N is being made, of n states: s1 actions, K nexts are laid -/
def AddI (u : Me) (N n s1 K : Nat) (v : Me) : Prop := Sm [4, 5, 6] [] [0] [] u v ∧ mI v 0 = nI (N + 1) ∧ mA v 4 = upd (mA u 4) N (nI n) ∧ (∀ j, mA v 5 j = if 4 * N ≤ j ∧ j < 4 * N + s1 then nI 0 else mA u 5 j) ∧ (∀ j, mA v 6 j = if 12 * N ≤ j ∧ j < 12 * N + K then nI ((j - 12 * N) / 3) else mA u 6 j)
theorem AddI.init (u : Me) (N n : Nat) : AddI u N n 0 (3 * 0) (sA (sI u 0 (nI (N + 1))) 4 (upd (mA (sI u 0 (nI (N + 1))) 4) N (nI n))) := by
  refine ⟨(Sm.rf.sI (by decide) _).sA (by decide) _, rfl, rfl, fun j => ?_, fun j => ?_⟩
  · rw [if_neg (by omega)]; rfl
  · rw [if_neg (by omega)]; rfl
theorem AddI.act {u : Me} {N n s : Nat} {v : Me} (h : AddI u N n s (3 * s) v) (hs : s < n) : AddI u N n (s + 1) (3 * s + 0) (sA v 5 (upd (mA v 5) (4 * N + s) (nI 0))) := by
  refine ⟨h.1.sA (by decide) _, h.2.1, h.2.2.1, fun j => ?_, h.2.2.2.2⟩
  rw [mA_sA_self]
  unfold upd
  by_cases q : j = 4 * N + s
  · rw [if_pos q, if_pos (by omega)]
  · rw [if_neg q, h.2.2.2.1 j]
    by_cases z : 4 * N ≤ j ∧ j < 4 * N + s
    · rw [if_pos z, if_pos (by omega)]
    · rw [if_neg z, if_neg (by omega)]
theorem AddI.nxt {u : Me} {N n s b : Nat} {v : Me} (h : AddI u N n (s + 1) (3 * s + b) v) (hs : s < n) (hb : b < 3) : AddI u N n (s + 1) (3 * s + (b + 1)) (sA v 6 (upd (mA v 6) ((4 * N + s) * 3 + b) (nI s))) := by
  refine ⟨h.1.sA (by decide) _, h.2.1, h.2.2.1, h.2.2.2.1, fun j => ?_⟩
  rw [mA_sA_self]
  unfold upd
  by_cases q : j = (4 * N + s) * 3 + b
  · rw [if_pos q, if_pos (by omega)]; congr 1; omega
  · rw [if_neg q, h.2.2.2.2 j]
    by_cases z : 12 * N ≤ j ∧ j < 12 * N + (3 * s + b)
    · rw [if_pos z, if_pos (by omega)]
    · rw [if_neg z, if_neg (by omega)]
theorem AddI.fin {u : Me} {S : Sg} {n : Nat} {v : Me} (h : AddI u (sN S) n n (3 * n) v) (hC : RepC S u) (hO : Ok S) (h1 : 1 ≤ n) (h4 : n ≤ 4) : RepC (addS S n) v := by
  obtain ⟨hs, hI, h4', h5, h6⟩ := h
  refine ⟨hI, fun m hm => ?_, fun m s hm hs' => ?_, fun m s b hm hs' hb => ?_, ?_⟩
  · have hm' : m < sN S + 1 := hm
    rw [h4']
    show upd (mA u 4) (sN S) (nI n) m = nI (if m = sN S then n else sz S m)
    unfold upd
    by_cases q : m = sN S
    · rw [if_pos q, if_pos q]
    · rw [if_neg q, if_neg q]; exact hC.z (by omega)
  · have hm' : m < sN S + 1 := hm
    have hs2 : s < (if m = sN S then n else sz S m) := hs'
    rw [h5]
    show _ = nI (if m = sN S then 0 else sa S m s)
    by_cases q : m = sN S
    · rw [if_pos q] at hs2; rw [if_pos q, if_pos (by omega)]
    · rw [if_neg q] at hs2
      have := (hO.z m).2
      rw [if_neg q, if_neg (by omega)]; exact hC.a (by omega) hs2
  · have hm' : m < sN S + 1 := hm
    have hs2 : s < (if m = sN S then n else sz S m) := hs'
    rw [h6]
    show _ = nI (if m = sN S then (if s < n then s else 0) else sx S m s b)
    by_cases q : m = sN S
    · rw [if_pos q] at hs2; rw [if_pos q, if_pos hs2, if_pos (by omega)]; congr 1; omega
    · rw [if_neg q] at hs2
      have := (hO.z m).2
      rw [if_neg q, if_neg (by omega)]; exact hC.x (by omega) hs2 hb
  · have e2 := hs.1 2 (by decide); have e8 := hs.1 8 (by decide); have e9 := hs.1 9 (by decide); have e10 := hs.1 10 (by decide)
    have l0 := hs.2.2.2 0 (by decide); have l1 := hs.2.2.2 1 (by decide)
    rw [e2, e8, e9, e10, l0, l1]
    exact hC.2.2.2.2
def rmJ7_fill_53178 : Room := { frames := 0, cells := 0, slots := 0, locals := 0 }
theorem pk_J7_fill_53178 : Pk yJ7_fill_53178 RJ7 2 := by decide +kernel
set_option maxHeartbeats 4000000 in
set_option maxRecDepth 100000 in
theorem c_J7_fill_53178 (l : Launch) (g : gE) (ad : Nat → Nat) (u : Me) (c n : Nat) (hI : isI c n) (hn : n ≤ 1000) (v : Int32) : Ctv l yJ7_fill_53178 wsJ7_fill_53178 rmJ7_fill_53178 g ad [.ref (ad (c)), .int (v)] u (fun u' => sA u c (fillF (mA u c) 0 n v) = u') := by
  refine Ct.of (cc := cJ7_fill_53178) (nL := 4) (ret := none) RJ7 (by decide) rfl rfl (Nat.le_of_ble_eq_true rfl) (fun kx C E => ?_)
  show G kx 0 0 (WW g ad u) 0 [(0, .ref (ad (c))), (1, .int (v))] []
  refine r_iconst C dJ7_fill_53178_0 (v := nI 0) (by decide) ?_
  refine r_istore_n C [(0, .ref (ad (c))), (1, .int (v)), (2, .int (nI (0)))] [1, 2, 0] dJ7_fill_53178_1 rfl (by decide) rfl ?_
  refine r_aload_n C 0 dJ7_fill_53178_2 rfl rfl ?_
  refine r_alen C hI dJ7_fill_53178_3 ?_
  refine r_istore_n C [(0, .ref (ad (c))), (1, .int (v)), (2, .int (nI (0))), (3, .int (nI (n)))] [1, 2, 3, 0] dJ7_fill_53178_4 rfl (by decide) rfl ?_
  have L5 : ∀ (fu : Nat) (i : Nat), n < i + fu → (i ≤ n) → G kx 0 0 (WW g ad (sA u c (fillF (mA u c) 0 i v))) 5 [(0, .ref (ad (c))), (1, .int (v)), (2, .int (nI (i))), (3, .int (nI (n)))] [] := by
    intro fu
    induction fu with
    | zero => intro i hfu hi; exact absurd hfu (by omega)
    | succ fu ih =>
      intro i hfu hi
      refine r_iload_n C 2 dJ7_fill_53178_5 rfl rfl ?_
      refine r_iload_n C 3 dJ7_fill_53178_6 rfl rfl ?_
      refine r_icmpN_ge C dJ7_fill_53178_7 (tgt := 20) (by decide) (by omega) (by omega) (fun h7 => ?_) (fun h7 => ?_)
      · exact E.1 rfl _ _ _ dJ7_fill_53178_20 ⟨rfl, by rw [show i = n by omega]⟩
      · refine r_aload_n C 0 dJ7_fill_53178_10 rfl rfl ?_
        refine r_iload_n C 2 dJ7_fill_53178_11 rfl rfl ?_
        refine r_iload_n C 1 dJ7_fill_53178_12 rfl rfl ?_
        refine r_iast C hI (by omega) (by omega) dJ7_fill_53178_13 ?_
        refine r_iinc C [(0, .ref (ad (c))), (1, .int (v)), (2, .int (nI (i + 1))), (3, .int (nI (n)))] [1, 2, 0, 3] 2 dJ7_fill_53178_14 rfl (nI_add _ 1) (by decide) rfl ?_
        refine r_goto C dJ7_fill_53178_17 (tgt := 5) (by decide) ?_
        refine r_ws (congrArg (WW g ad) (fill_s u c (Nat.zero_le i) v)) ?_
        exact ih (i + 1) (by omega) (by omega)
  refine r_ws (congrArg (WW g ad) (fill_0 u c 0 v).symm) ?_
  exact L5 (n + 1) 0 (by omega) (by omega)
def rmJ7_fill_fda19 : Room := { frames := 1, cells := 0, slots := 0, locals := 22 }
theorem pk_J7_fill_fda19 : Pk yJ7_fill_fda19 RJ7 4 := by decide +kernel
set_option maxHeartbeats 4000000 in
set_option maxRecDepth 100000 in
theorem c_J7_fill_fda19 (l : Launch) (g : gE) (ad : Nat → Nat) (u : Me) (c n : Nat) (hI : isI c n) (hn : n < 1000) (a b : Nat) (hab : a ≤ b) (hb : b ≤ n) (v : Int32) : Ctv l yJ7_fill_fda19 wsJ7_fill_fda19 rmJ7_fill_fda19 g ad [.ref (ad (c)), .int (nI (a)), .int (nI (b)), .int (v)] u (fun u' => sA u c (fillF (mA u c) a b v) = u') := by
  refine Ct.of (cc := cJ7_fill_fda19) (nL := 5) (ret := none) RJ7 (by decide) rfl rfl (Nat.le_of_ble_eq_true rfl) (fun kx C E => ?_)
  show G kx 0 0 (WW g ad u) 0 [(0, .ref (ad (c))), (1, .int (nI (a))), (2, .int (nI (b))), (3, .int (v))] []
  refine r_aload_n C 0 dJ7_fill_fda19_0 rfl rfl ?_
  refine r_alen C hI dJ7_fill_fda19_1 ?_
  refine r_iload_n C 1 dJ7_fill_fda19_2 rfl rfl ?_
  refine r_iload_n C 2 dJ7_fill_fda19_3 rfl rfl ?_
  refine r_callSv C (rest := []) (c_J7_rangeCheck_23922 l g ad u n a b (by omega) (by omega) (by omega)) gJ7_fill_fda19_J7_rangeCheck_23922 pk_J7_rangeCheck_23922 dJ7_fill_fda19_4 rfl rfl rfl rfl ⟨(Nat.le_of_ble_eq_true rfl), (Nat.le_of_ble_eq_true rfl)⟩ rfl (Nat.le_of_ble_eq_true rfl) ⟨(Nat.le_of_ble_eq_true rfl), (Nat.le_of_ble_eq_true rfl)⟩ ?_
  rintro _ rfl
  refine r_iload_n C 1 dJ7_fill_fda19_7 rfl rfl ?_
  refine r_istore C [(0, .ref (ad (c))), (1, .int (nI (a))), (2, .int (nI (b))), (3, .int (v)), (4, .int (nI (a)))] [1, 2, 3, 4, 0] dJ7_fill_fda19_8 (by decide) rfl ?_
  have L10 : ∀ (fu : Nat) (i : Nat), b < i + fu → (i ≤ b) → (a ≤ i) → G kx 0 0 (WW g ad (sA u c (fillF (mA u c) a i v))) 10 [(0, .ref (ad (c))), (1, .int (nI (a))), (2, .int (nI (b))), (3, .int (v)), (4, .int (nI (i)))] [] := by
    intro fu
    induction fu with
    | zero => intro i hfu hi hai; exact absurd hfu (by omega)
    | succ fu ih =>
      intro i hfu hi hai
      refine r_iload C 4 dJ7_fill_fda19_10 rfl ?_
      refine r_iload_n C 2 dJ7_fill_fda19_12 rfl rfl ?_
      refine r_icmpN_ge C dJ7_fill_fda19_13 (tgt := 27) (by decide) (by omega) (by omega) (fun h13 => ?_) (fun h13 => ?_)
      · exact E.1 rfl _ _ _ dJ7_fill_fda19_27 ⟨rfl, by rw [show i = b by omega]⟩
      · refine r_aload_n C 0 dJ7_fill_fda19_16 rfl rfl ?_
        refine r_iload C 4 dJ7_fill_fda19_17 rfl ?_
        refine r_iload_n C 3 dJ7_fill_fda19_19 rfl rfl ?_
        refine r_iast C hI (by omega) (by omega) dJ7_fill_fda19_20 ?_
        refine r_iinc C [(0, .ref (ad (c))), (1, .int (nI (a))), (2, .int (nI (b))), (3, .int (v)), (4, .int (nI (i + 1)))] [1, 2, 3, 4, 0] 4 dJ7_fill_fda19_21 rfl (nI_add _ 1) (by decide) rfl ?_
        refine r_goto C dJ7_fill_fda19_24 (tgt := 10) (by decide) ?_
        refine r_ws (congrArg (WW g ad) (fill_s u c hai v)) ?_
        exact ih (i + 1) (by omega) (by omega) (by omega)
  refine r_ws (congrArg (WW g ad) (fill_0 u c a v).symm) ?_
  exact L10 (b + 1) a (by omega) (by omega) (by omega)
def rmX5_layOut : Room := { frames := 2, cells := 0, slots := 0, locals := 46 }
theorem pk_X5_layOut : Pk yX5_layOut RX5 3 := by decide +kernel
set_option maxHeartbeats 4000000 in
set_option maxRecDepth 100000 in
theorem c_X5_layOut (l : Launch) (g : gE) (ad : Nat → Nat) (u : Me) (S : Sg) (hC : RepC S u) (hO : Ok S) (kk v n : Nat) (hk : kk < 4) (hv : v < 3) (hn : n ≤ 60) : Ctv l yX5_layOut wsX5_layOut rmX5_layOut g ad [.ref (ad 7), .int (nI (kk)), .int (nI (v)), .int (nI (n))] u (fun u' => RepC (sheetS S kk v n) u' ∧ Sm [8, 9, 10] [] [] [] u u') := by
  refine Ct.of (cc := cX5_layOut) (nL := 4) (ret := none) RX5 (by decide) rfl rfl (Nat.le_of_ble_eq_true rfl) (fun kx C E => ?_)
  have hin_X5 : ∀ w ∈ u_ws RX5 TX5 3, w ∈ wsX5_layOut := by decide +kernel
  have hk_9 : Cond.fieldLink RX5 9 "AgainAgain$Sheets" "lanes" "[I" ∈ wsX5_layOut := by decide +kernel
  have hk_13 : Cond.fieldLink RX5 13 "AgainAgain$Sheets" "sizes" "[I" ∈ wsX5_layOut := by decide +kernel
  have hk_16 : Cond.fieldLink RX5 16 "AgainAgain$Sheets" "cells" "[I" ∈ wsX5_layOut := by decide +kernel
  show G kx 0 0 (WW g ad u) 0 [(0, .ref (ad 7)), (1, .int (nI (kk))), (2, .int (nI (v))), (3, .int (nI (n)))] []
  refine r_aload_n C 0 dX5_layOut_0 rfl rfl ?_
  refine r_get C (CN := RX5) (T := TX5) (N := 3) k_7 rfl hin_X5 (j := 0) (by decide) hk_9 rfl rfl dX5_layOut_1 ?_
  refine r_iload_n C 1 dX5_layOut_4 rfl rfl ?_
  refine r_iload_n C 2 dX5_layOut_5 rfl rfl ?_
  refine r_iast C k_8 (by omega) (by omega) dX5_layOut_6 ?_
  refine r_aload_n C 0 dX5_layOut_7 rfl rfl ?_
  refine r_get C (CN := RX5) (T := TX5) (N := 3) k_7 rfl hin_X5 (j := 1) (by decide) hk_13 rfl rfl dX5_layOut_8 ?_
  refine r_iload_n C 1 dX5_layOut_11 rfl rfl ?_
  refine r_iload_n C 3 dX5_layOut_12 rfl rfl ?_
  refine r_iast C k_9 (by omega) (by omega) dX5_layOut_13 ?_
  refine r_aload_n C 0 dX5_layOut_14 rfl rfl ?_
  refine r_get C (CN := RX5) (T := TX5) (N := 3) k_7 rfl hin_X5 (j := 2) (by decide) hk_16 rfl rfl dX5_layOut_15 ?_
  refine r_iload_n C 1 dX5_layOut_18 rfl rfl ?_
  refine r_bipush C dX5_layOut_19 (v := nI 60) (by decide) ?_
  refine r_imulN C dX5_layOut_21 ?_
  refine r_iload_n C 1 dX5_layOut_22 rfl rfl ?_
  refine r_bipush C dX5_layOut_23 (v := nI 60) (by decide) ?_
  refine r_imulN C dX5_layOut_25 ?_
  refine r_iload_n C 3 dX5_layOut_26 rfl rfl ?_
  refine r_iaddN C dX5_layOut_27 ?_
  refine r_iconst C dX5_layOut_28 (v := nI 0) (by decide) ?_
  refine r_callSv C (rest := []) (c_J7_fill_fda19 l g ad (sA (sA u (8) (upd (mA u (8)) kk (nI (v)))) (9) (upd (mA (sA u (8) (upd (mA u (8)) kk (nI (v)))) (9)) kk (nI (n)))) 10 240 k_10 (by omega) (kk * 60) ((kk * 60) + n) (by omega) (by omega) (nI (0))) gX5_layOut_J7_fill_fda19 pk_J7_fill_fda19 dX5_layOut_29 rfl rfl rfl rfl ⟨(Nat.le_of_ble_eq_true rfl), (Nat.le_of_ble_eq_true rfl)⟩ rfl (Nat.le_of_ble_eq_true rfl) ⟨(Nat.le_of_ble_eq_true rfl), (Nat.le_of_ble_eq_true rfl)⟩ ?_
  rintro _ rfl
  exact E.1 rfl _ _ _ dX5_layOut_32 ⟨rfl, ⟨RepC.sheet hC hO hk hv hn, ((Sm.rf.sA (by decide) _).sA (by decide) _).sA (by decide) _⟩⟩
def rmX5_setCell : Room := { frames := 1, cells := 0, slots := 0, locals := 21 }
theorem pk_X5_setCell : Pk yX5_setCell RX5 3 := by decide +kernel
set_option maxHeartbeats 4000000 in
set_option maxRecDepth 100000 in
theorem c_X5_setCell (l : Launch) (g : gE) (ad : Nat → Nat) (u : Me) (S : Sg) (hC : RepC S u) (hO : Ok S) (kk i : Nat) (hk : kk < 4) (hi : i < sk S kk) (h0 : ¬ sl S kk = 0) (v : Int32) : Ctv l yX5_setCell wsX5_setCell rmX5_setCell g ad [.ref (ad 7), .int (nI (kk)), .int (nI (i)), .int (v)] u (fun u' => RepC (layS S kk i v) u' ∧ Sm [10] [] [] [] u u') := by
  refine Ct.of (cc := cX5_setCell) (nL := 4) (ret := none) RX5 (by decide) rfl rfl (Nat.le_of_ble_eq_true rfl) (fun kx C E => ?_)
  have hin_X5 : ∀ w ∈ u_ws RX5 TX5 3, w ∈ wsX5_setCell := by decide +kernel
  have hk_9 : Cond.fieldLink RX5 9 "AgainAgain$Sheets" "lanes" "[I" ∈ wsX5_setCell := by decide +kernel
  have hk_16 : Cond.fieldLink RX5 16 "AgainAgain$Sheets" "cells" "[I" ∈ wsX5_setCell := by decide +kernel
  show G kx 0 0 (WW g ad u) 0 [(0, .ref (ad 7)), (1, .int (nI (kk))), (2, .int (nI (i))), (3, .int (v))] []
  have hs := hO.s kk
  refine r_aload_n C 0 dX5_setCell_0 rfl rfl ?_
  refine r_get C (CN := RX5) (T := TX5) (N := 3) k_7 rfl hin_X5 (j := 2) (by decide) hk_16 rfl rfl dX5_setCell_1 ?_
  refine r_iload_n C 1 dX5_setCell_4 rfl rfl ?_
  refine r_bipush C dX5_setCell_5 (v := nI 60) (by decide) ?_
  refine r_imulN C dX5_setCell_7 ?_
  refine r_iload_n C 2 dX5_setCell_8 rfl rfl ?_
  refine r_iaddN C dX5_setCell_9 ?_
  refine r_aload_n C 0 dX5_setCell_10 rfl rfl ?_
  refine r_get C (CN := RX5) (T := TX5) (N := 3) k_7 rfl hin_X5 (j := 0) (by decide) hk_9 rfl rfl dX5_setCell_11 ?_
  refine r_iload_n C 1 dX5_setCell_14 rfl rfl ?_
  refine r_iald C k_8 (by omega) (by omega) dX5_setCell_15 ?_
  refine r_setI (y := (nI (sl S kk - 1))) ((hC.l hk).trans (if_neg h0)) ?_
  refine r_iload_n C 3 dX5_setCell_16 rfl rfl ?_
  refine r_callSi C (rest := [.int (nI ((kk * 60) + i)), .ref (ad 10)]) (c_X5_lowestBits l g ad u (sl S kk - 1) v (by omega)) gX5_setCell_X5_lowestBits pk_X5_lowestBits dX5_setCell_17 rfl rfl rfl rfl ⟨(Nat.le_of_ble_eq_true rfl), (Nat.le_of_ble_eq_true rfl)⟩ rfl (Nat.le_of_ble_eq_true rfl) ⟨(Nat.le_of_ble_eq_true rfl), (Nat.le_of_ble_eq_true rfl)⟩ ?_
  rintro _ _ ⟨rfl, rfl⟩
  refine r_iast C k_10 (by omega) (by omega) dX5_setCell_20 ?_
  exact E.1 rfl _ _ _ dX5_setCell_21 ⟨rfl, ⟨RepC.lay hC hO hk hi v, Sm.rf.sA (by decide) _⟩⟩
def rmX2_add : Room := { frames := 1, cells := 0, slots := 0, locals := 24 }
theorem pk_X2_add : Pk yX2_add RX2 1 := by decide +kernel
set_option maxHeartbeats 4000000 in
set_option maxRecDepth 100000 in
theorem c_X2_add (l : Launch) (g : gE) (ad : Nat → Nat) (u : Me) (S : Sg) (hC : RepC S u) (hO : Ok S) (n : Nat) (h12 : sN S < 12) (hn1 : 1 ≤ n) (hn4 : n ≤ 4) : Cti l yX2_add wsX2_add rmX2_add g ad [.ref (ad 3), .int (nI (n))] u (fun r u' => nI (sN S) = r ∧ RepC (addS S n) u' ∧ Sm [4, 5, 6] [] [0] [] u u') := by
  refine Ct.of (cc := cX2_add) (nL := 5) (ret := (some .int)) RX2 (by decide) rfl rfl (Nat.le_of_ble_eq_true rfl) (fun kx C E => ?_)
  have hin_X2 : ∀ w ∈ u_ws RX2 TX2 4, w ∈ wsX2_add := by decide +kernel
  have hk_9 : Cond.fieldLink RX2 9 "AgainAgain$Machines" "sizes" "[I" ∈ wsX2_add := by decide +kernel
  have hk_21 : Cond.fieldLink RX2 21 "AgainAgain$Machines" "many" "I" ∈ wsX2_add := by decide +kernel
  show G kx 0 0 (WW g ad u) 0 [(0, .ref (ad 3)), (1, .int (nI (n)))] []
  have hn := hO.n
  refine r_aload_n C 0 dX2_add_0 rfl rfl ?_
  refine r_get C (CN := RX2) (T := TX2) (N := 4) k_3 rfl hin_X2 (j := 3) (by decide) hk_21 rfl rfl dX2_add_1 ?_
  refine r_setI (y := (nI (sN S))) (hC.n) ?_
  refine r_istore_n C [(0, .ref (ad 3)), (1, .int (nI (n))), (2, .int (nI (sN S)))] [1, 2, 0] dX2_add_4 rfl (by decide) rfl ?_
  refine r_aload_n C 0 dX2_add_5 rfl rfl ?_
  refine r_dup C dX2_add_6 rfl ?_
  refine r_get C (CN := RX2) (T := TX2) (N := 4) k_3 rfl hin_X2 (j := 3) (by decide) hk_21 rfl rfl dX2_add_7 ?_
  refine r_setI (y := (nI (sN S))) (hC.n) ?_
  refine r_iconst C dX2_add_10 (v := nI 1) (by decide) ?_
  refine r_iaddN C dX2_add_11 ?_
  refine r_putI C (CN := RX2) (T := TX2) (N := 4) fI_0 rfl hin_X2 tyX2 tyX2_ok nmX2 (by decide) hk_21 rfl rfl (by decide +kernel) dX2_add_12 ?_
  refine r_aload_n C 0 dX2_add_15 rfl rfl ?_
  refine r_get C (CN := RX2) (T := TX2) (N := 4) k_3 rfl hin_X2 (j := 0) (by decide) hk_9 rfl rfl dX2_add_16 ?_
  refine r_iload_n C 2 dX2_add_19 rfl rfl ?_
  refine r_iload_n C 1 dX2_add_20 rfl rfl ?_
  refine r_iast C k_4 (by omega) (by omega) dX2_add_21 ?_
  refine r_iconst C dX2_add_22 (v := nI 0) (by decide) ?_
  refine r_istore_n C [(0, .ref (ad 3)), (1, .int (nI (n))), (2, .int (nI (sN S))), (3, .int (nI (0)))] [1, 2, 3, 0] dX2_add_23 rfl (by decide) rfl ?_
  have L24 : ∀ (fu : Nat) (s : Nat) (v : Me), n < s + fu → (s ≤ n) → (AddI u (sN S) n s (3 * s) v) → G kx 0 0 (WW g ad v) 24 [(0, .ref (ad 3)), (1, .int (nI (n))), (2, .int (nI (sN S))), (3, .int (nI (s)))] [] := by
    intro fu
    induction fu with
    | zero => intro s v hfu hs0 hv; exact absurd hfu (by omega)
    | succ fu ih =>
      intro s v hfu hs0 hv
      refine r_iload_n C 3 dX2_add_24 rfl rfl ?_
      refine r_iload_n C 1 dX2_add_25 rfl rfl ?_
      refine r_icmpN_ge C dX2_add_26 (tgt := 66) (by decide) (by omega) (by omega) (fun h26 => ?_) (fun h26 => ?_)
      · refine r_iload_n C 2 dX2_add_66 rfl rfl ?_
        exact E.2.1 rfl _ _ _ _ dX2_add_67 ⟨_, rfl, ⟨rfl, (show s = n by omega) ▸ hv |>.fin hC hO hn1 hn4, hv.1⟩⟩
      · have hs : s < n := by omega
        refine r_aload_n C 0 dX2_add_29 rfl rfl ?_
        refine r_iload_n C 2 dX2_add_30 rfl rfl ?_
        refine r_iload_n C 3 dX2_add_31 rfl rfl ?_
        refine r_iconst C dX2_add_32 (v := nI 0) (by decide) ?_
        refine r_callVv C (rest := []) (c_X2_setAction l g ad v (sN S) s (nI (0)) (by omega) (by omega)) gX2_add_X2_setAction pk_X2_setAction k_3 dX2_add_33 rfl rfl rfl rfl ⟨(Nat.le_of_ble_eq_true rfl), (Nat.le_of_ble_eq_true rfl)⟩ rfl rfl (Nat.le_of_ble_eq_true rfl) ⟨(Nat.le_of_ble_eq_true rfl), (Nat.le_of_ble_eq_true rfl)⟩ ?_
        rintro _ rfl
        refine r_iconst C dX2_add_36 (v := nI 0) (by decide) ?_
        refine r_istore C [(0, .ref (ad 3)), (1, .int (nI (n))), (2, .int (nI (sN S))), (3, .int (nI (s))), (4, .int (nI (0)))] [1, 2, 3, 4, 0] dX2_add_37 (by decide) rfl ?_
        have iho := ih
        have L39 : ∀ (fu : Nat) (b : Nat) (v : Me), 3 < b + fu → (b ≤ 3) → (AddI u (sN S) n (s + 1) (3 * s + b) v) → G kx 0 0 (WW g ad v) 39 [(0, .ref (ad 3)), (1, .int (nI (n))), (2, .int (nI (sN S))), (3, .int (nI (s))), (4, .int (nI (b)))] [] := by
          intro fu
          induction fu with
          | zero => intro b v hfu hb hv; exact absurd hfu (by omega)
          | succ fu ih =>
            intro b v hfu hb hv
            refine r_iload C 4 dX2_add_39 rfl ?_
            refine r_iconst C dX2_add_41 (v := nI 3) (by decide) ?_
            refine r_icmpN_ge C dX2_add_42 (tgt := 60) (by decide) (by omega) (by omega) (fun h42 => ?_) (fun h42 => ?_)
            · refine r_iinc C [(0, .ref (ad 3)), (1, .int (nI (n))), (2, .int (nI (sN S))), (3, .int (nI (s + 1))), (4, .int (nI (b)))] [1, 2, 3, 0, 4] 3 dX2_add_60 rfl (nI_add _ 1) (by decide) rfl ?_
              refine r_goto C dX2_add_63 (tgt := 24) (by decide) ?_
              refine r_lvs C [0, 1, 2, 3] (lv' := [(0, .ref (ad 3)), (1, .int (nI (n))), (2, .int (nI (sN S))), (3, .int (nI (s + 1)))]) rfl ?_
              exact iho (s + 1) v (by omega) (by omega) (by rw [show 3 * (s + 1) = 3 * s + b by omega]; exact hv)
            · refine r_aload_n C 0 dX2_add_45 rfl rfl ?_
              refine r_iload_n C 2 dX2_add_46 rfl rfl ?_
              refine r_iload_n C 3 dX2_add_47 rfl rfl ?_
              refine r_iload C 4 dX2_add_48 rfl ?_
              refine r_iload_n C 3 dX2_add_50 rfl rfl ?_
              refine r_callVv C (rest := []) (c_X2_setNext l g ad v (sN S) s b (nI (s)) (by omega) (by omega) (by omega)) gX2_add_X2_setNext pk_X2_setNext k_3 dX2_add_51 rfl rfl rfl rfl ⟨(Nat.le_of_ble_eq_true rfl), (Nat.le_of_ble_eq_true rfl)⟩ rfl rfl (Nat.le_of_ble_eq_true rfl) ⟨(Nat.le_of_ble_eq_true rfl), (Nat.le_of_ble_eq_true rfl)⟩ ?_
              rintro _ rfl
              refine r_iinc C [(0, .ref (ad 3)), (1, .int (nI (n))), (2, .int (nI (sN S))), (3, .int (nI (s))), (4, .int (nI (b + 1)))] [1, 2, 3, 4, 0] 4 dX2_add_54 rfl (nI_add _ 1) (by decide) rfl ?_
              refine r_goto C dX2_add_57 (tgt := 39) (by decide) ?_
              exact ih (b + 1) _ (by omega) (by omega) (hv.nxt hs (by omega))
        exact L39 4 0 _ (by omega) (by omega) (hv.act hs)
  exact L24 (n + 1) 0 _ (by omega) (by omega) (AddI.init u (sN S) n)
