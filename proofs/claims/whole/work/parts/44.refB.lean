
theorem cmp_v (x y : Int64) : lg_cmp x y = 1 ∨ lg_cmp x y = 0 ∨ lg_cmp x y = -1 := by
  unfold lg_cmp
  split
  · exact Or.inl rfl
  · split
    · exact Or.inr (Or.inl rfl)
    · exact Or.inr (Or.inr rfl)
theorem cmp_1 {x y : Int64} (h : 0 < lg_cmp x y) : lg_cmp x y = nI 1 := by
  rcases cmp_v x y with e | e | e
  · rw [e]; decide
  · rw [e] at h; exact absurd h (by decide)
  · rw [e] at h; exact absurd h (by decide)
theorem cmp_m {x y : Int64} (h : lg_cmp x y < 0) : lg_cmp x y = -1 := by
  rcases cmp_v x y with e | e | e
  · rw [e] at h; exact absurd h (by decide)
  · rw [e] at h; exact absurd h (by decide)
  · exact e
theorem cmp_0 {x y : Int64} (h1 : ¬ 0 < lg_cmp x y) (h2 : ¬ lg_cmp x y < 0) : lg_cmp x y = nI 0 := by
  rcases cmp_v x y with e | e | e
  · rw [e] at h1; exact absurd (by decide) h1
  · rw [e]; decide
  · rw [e] at h2; exact absurd (by decide) h2
theorem pw3_i {n : Nat} (h : n ≤ 4) : (lI (pw 3 n)).toInt32 = nI (3 ^ n) := by
  rcases (by omega : n = 0 ∨ n = 1 ∨ n = 2 ∨ n = 3 ∨ n = 4) with rfl | rfl | rfl | rfl | rfl <;> decide +kernel
theorem p81 {n : Nat} (h : n ≤ 4) : 0 < 3 ^ n ∧ 3 ^ n ≤ 81 := ⟨Nat.pow_pos (by decide), Nat.pow_le_pow_right (by decide) h (n := 3)⟩
theorem q_cmp {S : Sg} (hO : Ok S) {m s : Nat} (hs : s < sz S m) (a b : Nat) : 0 < lg_cmp (lI (qN S m s a * qD S m s b)) (lI (qN S m s b * qD S m s a)) ↔ qN S m s b * qD S m s a < qN S m s a * qD S m s b := by
  have h1 := q_bounds hO a hs
  have h2 := q_bounds hO b hs
  have k1 := mul_bd h1.1 h1.2.1 (show 0 ≤ qD S m s b by omega) h2.2.2.2
  have k2 := mul_bd h2.1 h2.2.1 (show 0 ≤ qD S m s a by omega) h1.2.2.2
  rw [lg_cmp_gt]
  exact lI_lt (by omega) (by omega) (by omega) (by omega)
/-- the search of the best plan: c plans are weighed -/
def BSI (u : Me) (S : Sg) (m s c : Nat) (v : Me) : Prop := Sm [44, 45] [] [10, 11, 12] [8, 9, 10, 11] u v ∧ (c = 0 → mI v 12 = -4) ∧ (0 < c → mI v 12 = nI (bs S m s (c - 1)) ∧ mL v 10 = lI (qN S m s (bs S m s (c - 1))) ∧ mL v 11 = lI (qD S m s (bs S m s (c - 1))))
theorem BSI.init (u : Me) (S : Sg) (m s : Nat) : BSI u S m s 0 (sI u 12 (-4)) :=
  ⟨Sm.rf.sI (by decide) _, fun _ => mI_sI_self _ _ _, fun h => absurd h (by omega)⟩
theorem BSI.pos {u v : Me} {S : Sg} {m s c : Nat} (h : BSI u S m s c v) (hn : ¬ mI v 12 = -4) : 0 < c := by
  rcases Nat.eq_zero_or_pos c with z | z
  · exact absurd (h.2.1 z) hn
  · exact z
theorem BSI.zero {u v : Me} {S : Sg} {m s c : Nat} (h : BSI u S m s c v) (hc : c ≤ 81) (hn : mI v 12 = -4) : c = 0 := by
  rcases Nat.eq_zero_or_pos c with z | z
  · exact z
  · have e := (h.2.2 z).1
    have := bs_le S m s (c - 1)
    rw [hn] at e
    have e2 := congrArg Int32.toInt e
    rw [nI_toInt (by omega)] at e2
    have e3 : ((-4 : Int32)).toInt = -4 := by decide
    omega
theorem BSI.stay {u v w : Me} {S : Sg} {m s c : Nat} (h : BSI u S m s c v) (hc : 0 < c) (hs : Sm [44, 45] [] [10, 11] [8, 9] v w) (hn : ¬ qN S m s (bs S m s (c - 1)) * qD S m s c < qN S m s c * qD S m s (bs S m s (c - 1))) : BSI u S m s (c + 1) w := by
  obtain ⟨h1, -, h3⟩ := h
  obtain ⟨e1, e2, e3⟩ := h3 hc
  have eb : bs S m s c = bs S m s (c - 1) := by
    have := bs_f (S := S) (m := m) (s := s) (n := c - 1) (by rw [show c - 1 + 1 = c by omega]; exact hn)
    rw [show c - 1 + 1 = c by omega] at this; exact this
  refine ⟨h1.tr (hs.wk (by decide) (by decide) (by decide) (by decide)), fun z => absurd z (by omega), fun _ => ?_⟩
  rw [show c + 1 - 1 = c by omega, eb, hs.2.2.1 12 (by decide), hs.2.2.2 10 (by decide), hs.2.2.2 11 (by decide)]
  exact ⟨e1, e2, e3⟩
theorem BSI.take {u v w : Me} {S : Sg} {m s c : Nat} (h : BSI u S m s c v) (hs : Sm [44, 45] [] [10, 11] [8, 9] v w) (hn : c = 0 ∨ (0 < c ∧ qN S m s (bs S m s (c - 1)) * qD S m s c < qN S m s c * qD S m s (bs S m s (c - 1)))) : BSI u S m s (c + 1) (sL (sL (sI w 12 (nI c)) 10 (lI (qN S m s c))) 11 (lI (qD S m s c))) := by
  have eb : bs S m s c = c := by
    rcases hn with z | ⟨z, z2⟩
    · subst z; rfl
    · have := bs_t (S := S) (m := m) (s := s) (n := c - 1) (by rw [show c - 1 + 1 = c by omega]; exact z2)
      rw [show c - 1 + 1 = c by omega] at this; exact this
  refine ⟨(((h.1.tr (hs.wk (by decide) (by decide) (by decide) (by decide))).sI (by decide) _).sL (by decide) _).sL (by decide) _, fun z => absurd z (by omega), fun _ => ?_⟩
  rw [show c + 1 - 1 = c by omega, eb]
  refine ⟨show mI (sI w 12 (nI c)) 12 = nI c from mI_sI_self _ _ _, ?_, mL_sL_self _ _ _⟩
  rw [mL_sL_ne _ _ (by decide)]; exact mL_sL_self _ _ _
def rmX8_findWorth : Room := { frames := 3, cells := 0, slots := 0, locals := 73 }
theorem pk_X8_findWorth : Pk yX8_findWorth RX8 3 := by decide +kernel
set_option maxHeartbeats 4000000 in
set_option maxRecDepth 100000 in
theorem c_X8_findWorth (l : Launch) (g : gE) (ad : Nat → Nat) (u : Me) (S : Sg) (hM : RepM S u) (hO : Ok S) (i j : Nat) (hi : i < sN S) (hj : j < sN S) (p : Nat) (hp : VP S i j p) : Ctv l yX8_findWorth wsX8_findWorth rmX8_findWorth g ad [.ref (ad 36), .int (nI (i)), .int (nI (j)), .int (nI (p))] u (fun u' => (mL u' 8 = lI (vN S (fP S i j) (gP S i j) p) ∧ mL u' 9 = lI (vD S (fP S i j) (gP S i j) p) ∧ Sm [44, 45] [] [10, 11] [8, 9] u u') ∧ RepM S u') := by
  refine Ct.of (cc := cX8_findWorth) (nL := 4) (ret := none) RX8 (by decide) rfl rfl (Nat.le_of_ble_eq_true rfl) (fun kx C E => ?_)
  show G kx 0 0 (WW g ad u) 0 [(0, .ref (ad 36)), (1, .int (nI (i))), (2, .int (nI (j))), (3, .int (nI (p)))] []
  refine r_aload_n C 0 dX8_findWorth_0 rfl rfl ?_
  refine r_iload_n C 1 dX8_findWorth_1 rfl rfl ?_
  refine r_iload_n C 2 dX8_findWorth_2 rfl rfl ?_
  refine r_iload_n C 3 dX8_findWorth_3 rfl rfl ?_
  refine r_callVv C (rest := []) (c_X8_plays l g ad u S hM hO i j (by assumption) (by assumption) p (by assumption)) gX8_findWorth_X8_plays pk_X8_plays k_36 dX8_findWorth_4 rfl rfl rfl rfl ⟨(Nat.le_of_ble_eq_true rfl), (Nat.le_of_ble_eq_true rfl)⟩ rfl rfl (Nat.le_of_ble_eq_true rfl) ⟨(Nat.le_of_ble_eq_true rfl), (Nat.le_of_ble_eq_true rfl)⟩ ?_
  rintro v1 ⟨⟨hpl, hs1⟩, hM⟩
  refine r_aload_n C 0 dX8_findWorth_7 rfl rfl ?_
  refine r_callVv C (rest := []) (c_X8_worthOfRow l g ad v1 S hM hO _ _ _ hpl (fun r => VP_16 hO (it_V (V := VP S i j) (fun p _ => VP_f hO) hp r)) (fun r => hO.p _ _)) gX8_findWorth_X8_worthOfRow pk_X8_worthOfRow k_36 dX8_findWorth_8 rfl rfl rfl rfl ⟨(Nat.le_of_ble_eq_true rfl), (Nat.le_of_ble_eq_true rfl)⟩ rfl rfl (Nat.le_of_ble_eq_true rfl) ⟨(Nat.le_of_ble_eq_true rfl), (Nat.le_of_ble_eq_true rfl)⟩ ?_
  rintro v2 ⟨ht, hd, hs2⟩
  exact E.1 rfl _ _ _ dX8_findWorth_11 ⟨rfl, ⟨⟨ht, hd, (hs1.wk (by decide) (by decide) (by decide) (by decide)).tr (hs2.wk (by decide) (by decide) (by decide) (by decide))⟩, hM.sm hs2 (by unfold leM; decide)⟩⟩
def rmX8_compare : Room := { frames := 4, cells := 0, slots := 0, locals := 96 }
theorem pk_X8_compare : Pk yX8_compare RX8 4 := by decide +kernel
set_option maxHeartbeats 4000000 in
set_option maxRecDepth 100000 in
theorem c_X8_compare (l : Launch) (g : gE) (ad : Nat → Nat) (u : Me) (S : Sg) (hM : RepM S u) (hO : Ok S) (i j a b : Nat) (hi : i < sN S) (hj : j < sN S) (ha : a < sN S) (hb : b < sN S) : Cti l yX8_compare wsX8_compare rmX8_compare g ad [.ref (ad 36), .int (nI (i)), .int (nI (j)), .int (nI (a)), .int (nI (b))] u (fun r u' => (cmpW S i j a b = r ∧ Sm [44, 45] [] [10, 11] [8, 9] u u') ∧ RepM S u') := by
  refine Ct.of (cc := cX8_compare) (nL := 13) (ret := (some .int)) RX8 (by decide) rfl rfl (Nat.le_of_ble_eq_true rfl) (fun kx C E => ?_)
  have hin_X8 : ∀ w ∈ u_ws RX8 TX8 21, w ∈ wsX8_compare := by decide +kernel
  have hk_123 : Cond.fieldLink RX8 123 "AgainAgainModel" "over" "J" ∈ wsX8_compare := by decide +kernel
  have hk_127 : Cond.fieldLink RX8 127 "AgainAgainModel" "under" "J" ∈ wsX8_compare := by decide +kernel
  show G kx 0 0 (WW g ad u) 0 [(0, .ref (ad 36)), (1, .int (nI (i))), (2, .int (nI (j))), (3, .int (nI (a))), (4, .int (nI (b)))] []
  refine r_aload_n C 0 dX8_compare_0 rfl rfl ?_
  refine r_iload_n C 1 dX8_compare_1 rfl rfl ?_
  refine r_iload_n C 2 dX8_compare_2 rfl rfl ?_
  refine r_iconst C dX8_compare_3 (v := nI 0) (by decide) ?_
  refine r_callVv C (rest := []) (c_X8_findWorth l g ad u S hM hO i j (by assumption) (by assumption) 0 (by first | assumption | exact VP_0 hO _ _)) gX8_compare_X8_findWorth pk_X8_findWorth k_36 dX8_compare_4 rfl rfl rfl rfl ⟨(Nat.le_of_ble_eq_true rfl), (Nat.le_of_ble_eq_true rfl)⟩ rfl rfl (Nat.le_of_ble_eq_true rfl) ⟨(Nat.le_of_ble_eq_true rfl), (Nat.le_of_ble_eq_true rfl)⟩ ?_
  rintro w1 ⟨⟨ht1, hd1, hs1⟩, hM⟩
  refine r_aload_n C 0 dX8_compare_7 rfl rfl ?_
  refine r_get C (CN := RX8) (T := TX8) (N := 21) k_36 rfl hin_X8 (j := 14) (by decide) hk_123 rfl rfl dX8_compare_8 ?_
  refine r_setL (y := (lI (mN S i j))) (ht1) ?_
  refine r_lstore C [(0, .ref (ad 36)), (1, .int (nI (i))), (2, .int (nI (j))), (3, .int (nI (a))), (4, .int (nI (b))), (5, .long (lI (mN S i j)))] [1, 2, 3, 4, 5, 0] dX8_compare_11 (by decide) rfl ?_
  refine r_aload_n C 0 dX8_compare_13 rfl rfl ?_
  refine r_get C (CN := RX8) (T := TX8) (N := 21) k_36 rfl hin_X8 (j := 15) (by decide) hk_127 rfl rfl dX8_compare_14 ?_
  refine r_setL (y := (lI (mD S i j))) (hd1) ?_
  refine r_lstore C [(0, .ref (ad 36)), (1, .int (nI (i))), (2, .int (nI (j))), (3, .int (nI (a))), (4, .int (nI (b))), (5, .long (lI (mN S i j))), (7, .long (lI (mD S i j)))] [1, 2, 3, 4, 5, 6, 0] dX8_compare_17 (by decide) rfl ?_
  refine r_aload_n C 0 dX8_compare_19 rfl rfl ?_
  refine r_iload_n C 3 dX8_compare_20 rfl rfl ?_
  refine r_iload C 4 dX8_compare_21 rfl ?_
  refine r_iconst C dX8_compare_23 (v := nI 0) (by decide) ?_
  refine r_callVv C (rest := []) (c_X8_findWorth l g ad w1 S hM hO a b (by assumption) (by assumption) 0 (by first | assumption | exact VP_0 hO _ _)) gX8_compare_X8_findWorth pk_X8_findWorth k_36 dX8_compare_24 rfl rfl rfl rfl ⟨(Nat.le_of_ble_eq_true rfl), (Nat.le_of_ble_eq_true rfl)⟩ rfl rfl (Nat.le_of_ble_eq_true rfl) ⟨(Nat.le_of_ble_eq_true rfl), (Nat.le_of_ble_eq_true rfl)⟩ ?_
  rintro w2 ⟨⟨ht2, hd2, hs2⟩, hM⟩
  refine r_lload C 5 dX8_compare_27 rfl ?_
  refine r_aload_n C 0 dX8_compare_29 rfl rfl ?_
  refine r_get C (CN := RX8) (T := TX8) (N := 21) k_36 rfl hin_X8 (j := 15) (by decide) hk_127 rfl rfl dX8_compare_30 ?_
  refine r_setL (y := (lI (mD S a b))) (hd2) ?_
  refine r_lmul C dX8_compare_33 ?_
  refine r_setL (lI_mul _ _) ?_
  refine r_lstore C [(0, .ref (ad 36)), (1, .int (nI (i))), (2, .int (nI (j))), (3, .int (nI (a))), (4, .int (nI (b))), (5, .long (lI (mN S i j))), (7, .long (lI (mD S i j))), (9, .long (lI ((mN S i j) * (mD S a b))))] [1, 2, 3, 4, 5, 6, 7, 0] dX8_compare_34 (by decide) rfl ?_
  refine r_aload_n C 0 dX8_compare_36 rfl rfl ?_
  refine r_get C (CN := RX8) (T := TX8) (N := 21) k_36 rfl hin_X8 (j := 14) (by decide) hk_123 rfl rfl dX8_compare_37 ?_
  refine r_setL (y := (lI (mN S a b))) (ht2) ?_
  refine r_lload C 6 dX8_compare_40 rfl ?_
  refine r_lmul C dX8_compare_42 ?_
  refine r_setL (lI_mul _ _) ?_
  refine r_lstore C [(0, .ref (ad 36)), (1, .int (nI (i))), (2, .int (nI (j))), (3, .int (nI (a))), (4, .int (nI (b))), (5, .long (lI (mN S i j))), (7, .long (lI (mD S i j))), (9, .long (lI ((mN S i j) * (mD S a b)))), (11, .long (lI ((mN S a b) * (mD S i j))))] [1, 2, 3, 4, 5, 6, 7, 8, 0] dX8_compare_43 (by decide) rfl ?_
  refine r_lload C 7 dX8_compare_45 rfl ?_
  refine r_lload C 8 dX8_compare_47 rfl ?_
  refine r_lcmp C dX8_compare_49 ?_
  refine r_if_le C dX8_compare_50 (tgt := 57) (by decide) (fun h50 => ?_) (fun h50 => ?_)
  · refine r_lload C 7 dX8_compare_57 rfl ?_
    refine r_lload C 8 dX8_compare_59 rfl ?_
    refine r_lcmp C dX8_compare_61 ?_
    refine r_if_ge C dX8_compare_62 (tgt := 69) (by decide) (fun h62 => ?_) (fun h62 => ?_)
    · refine r_iconst C dX8_compare_69 (v := nI 0) (by decide) ?_
      exact E.2.1 rfl _ _ _ _ dX8_compare_70 ⟨_, rfl, ⟨⟨(cmp_0 (Int32.not_lt.mpr h50) (Int32.not_lt.mpr h62)), hs1.tr hs2⟩, hM⟩⟩
    · refine r_iconst C dX8_compare_65 (v := (-1)) (by decide) ?_
      refine r_goto C dX8_compare_66 (tgt := 70) (by decide) ?_
      exact E.2.1 rfl _ _ _ _ dX8_compare_70 ⟨_, rfl, ⟨⟨(cmp_m (Int32.not_le.mp h62)), hs1.tr hs2⟩, hM⟩⟩
  · refine r_iconst C dX8_compare_53 (v := nI 1) (by decide) ?_
    refine r_goto C dX8_compare_54 (tgt := 70) (by decide) ?_
    exact E.2.1 rfl _ _ _ _ dX8_compare_70 ⟨_, rfl, ⟨⟨(cmp_1 (Int32.not_le.mp h50)), hs1.tr hs2⟩, hM⟩⟩
def rmX8_doesResist : Room := { frames := 5, cells := 0, slots := 0, locals := 128 }
theorem pk_X8_doesResist : Pk yX8_doesResist RX8 2 := by decide +kernel
set_option maxHeartbeats 4000000 in
set_option maxRecDepth 100000 in
theorem c_X8_doesResist (l : Launch) (g : gE) (ad : Nat → Nat) (u : Me) (S : Sg) (hM : RepM S u) (hO : Ok S) (j i : Nat) (hj : j < sN S) (hi : i < sN S) : Cti l yX8_doesResist wsX8_doesResist rmX8_doesResist g ad [.ref (ad 36), .int (nI (j)), .int (nI (i))] u (fun r u' => (bI (withP S j i) = r ∧ Sm [44, 45] [] [10, 11] [8, 9] u u') ∧ RepM S u') := by
  refine Ct.of (cc := cX8_doesResist) (nL := 4) (ret := (some .boolean)) RX8 (by decide) rfl rfl (Nat.le_of_ble_eq_true rfl) (fun kx C E => ?_)
  show G kx 0 0 (WW g ad u) 0 [(0, .ref (ad 36)), (1, .int (nI (j))), (2, .int (nI (i)))] []
  refine r_aload_n C 0 dX8_doesResist_0 rfl rfl ?_
  refine r_iload_n C 1 dX8_doesResist_1 rfl rfl ?_
  refine r_iload_n C 1 dX8_doesResist_2 rfl rfl ?_
  refine r_iload_n C 2 dX8_doesResist_3 rfl rfl ?_
  refine r_iload_n C 1 dX8_doesResist_4 rfl rfl ?_
  refine r_callVi C (rest := []) (c_X8_compare l g ad u S hM hO j j i j (by assumption) (by assumption) (by assumption) (by assumption)) gX8_doesResist_X8_compare pk_X8_compare k_36 dX8_doesResist_5 rfl rfl rfl rfl ⟨(Nat.le_of_ble_eq_true rfl), (Nat.le_of_ble_eq_true rfl)⟩ rfl rfl (Nat.le_of_ble_eq_true rfl) ⟨(Nat.le_of_ble_eq_true rfl), (Nat.le_of_ble_eq_true rfl)⟩ ?_
  rintro _ c1 ⟨⟨rfl, hs1⟩, hM⟩
  refine r_istore_n C [(0, .ref (ad 36)), (1, .int (nI (j))), (2, .int (nI (i))), (3, .int (cmpW S j j i j))] [1, 2, 3, 0] dX8_doesResist_8 rfl (by decide) rfl ?_
  refine r_iload_n C 3 dX8_doesResist_9 rfl rfl ?_
  refine r_if_gt C dX8_doesResist_10 (tgt := 28) (by decide) (fun h10 => ?_) (fun h10 => ?_)
  · refine r_iconst C dX8_doesResist_28 (v := nI 1) (by decide) ?_
    refine r_goto C dX8_doesResist_29 (tgt := 33) (by decide) ?_
    exact E.2.2.1 rfl _ _ _ _ dX8_doesResist_33 (Or.inr rfl) ⟨_, rfl, ⟨⟨bT (Or.inl h10), hs1⟩, hM⟩⟩
  · refine r_iload_n C 3 dX8_doesResist_13 rfl rfl ?_
    refine r_if_ne C dX8_doesResist_14 (tgt := 32) (by decide) (fun h14 => ?_) (fun h14 => ?_)
    · refine r_iconst C dX8_doesResist_32 (v := nI 0) (by decide) ?_
      exact E.2.2.1 rfl _ _ _ _ dX8_doesResist_33 (Or.inl rfl) ⟨_, rfl, ⟨⟨bF (fun q => q.elim h10 (fun z => h14 z.1)), hs1⟩, hM⟩⟩
    · refine r_aload_n C 0 dX8_doesResist_17 rfl rfl ?_
      refine r_iload_n C 1 dX8_doesResist_18 rfl rfl ?_
      refine r_iload_n C 2 dX8_doesResist_19 rfl rfl ?_
      refine r_iload_n C 2 dX8_doesResist_20 rfl rfl ?_
      refine r_iload_n C 2 dX8_doesResist_21 rfl rfl ?_
      refine r_callVi C (rest := []) (c_X8_compare l g ad c1 S hM hO j i i i (by assumption) (by assumption) (by assumption) (by assumption)) gX8_doesResist_X8_compare pk_X8_compare k_36 dX8_doesResist_22 rfl rfl rfl rfl ⟨(Nat.le_of_ble_eq_true rfl), (Nat.le_of_ble_eq_true rfl)⟩ rfl rfl (Nat.le_of_ble_eq_true rfl) ⟨(Nat.le_of_ble_eq_true rfl), (Nat.le_of_ble_eq_true rfl)⟩ ?_
      rintro _ c2 ⟨⟨rfl, hs2⟩, hM⟩
      refine r_if_le C dX8_doesResist_25 (tgt := 32) (by decide) (fun h25 => ?_) (fun h25 => ?_)
      · refine r_iconst C dX8_doesResist_32 (v := nI 0) (by decide) ?_
        exact E.2.2.1 rfl _ _ _ _ dX8_doesResist_33 (Or.inl rfl) ⟨_, rfl, ⟨⟨bF (fun q => q.elim h10 (fun z => absurd z.2 (Int32.not_lt.mpr h25))), hs1.tr hs2⟩, hM⟩⟩
      · refine r_iconst C dX8_doesResist_28 (v := nI 1) (by decide) ?_
        refine r_goto C dX8_doesResist_29 (tgt := 33) (by decide) ?_
        exact E.2.2.1 rfl _ _ _ _ dX8_doesResist_33 (Or.inr rfl) ⟨_, rfl, ⟨⟨bT (Or.inr ⟨h14, Int32.not_le.mp h25⟩), hs1.tr hs2⟩, hM⟩⟩
def rmX8_sumUp : Room := { frames := 2, cells := 0, slots := 0, locals := 48 }
theorem pk_X8_sumUp : Pk yX8_sumUp RX8 3 := by decide +kernel
set_option maxHeartbeats 4000000 in
set_option maxRecDepth 100000 in
theorem c_X8_sumUp (l : Launch) (g : gE) (ad : Nat → Nat) (u : Me) (S : Sg) (hM : RepM S u) (hO : Ok S) (i j : Nat) (hi : i < sN S) (hj : j < sN S) (n : Nat) (hn2 : n < 2000) : Cti l yX8_sumUp wsX8_sumUp rmX8_sumUp g ad [.ref (ad 36), .int (nI (i)), .int (nI (j)), .int (nI (n))] u (fun r u' => iI (sumF S i j n) = r ∧ u = u') := by
  refine Ct.of (cc := cX8_sumUp) (nL := 7) (ret := (some .int)) RX8 (by decide) rfl rfl (Nat.le_of_ble_eq_true rfl) (fun kx C E => ?_)
  show G kx 0 0 (WW g ad u) 0 [(0, .ref (ad 36)), (1, .int (nI (i))), (2, .int (nI (j))), (3, .int (nI (n)))] []
  refine r_iconst C dX8_sumUp_0 (v := nI 0) (by decide) ?_
  refine r_istore C [(0, .ref (ad 36)), (1, .int (nI (i))), (2, .int (nI (j))), (3, .int (nI (n))), (4, .int (nI (0)))] [1, 2, 3, 4, 0] dX8_sumUp_1 (by decide) rfl ?_
  refine r_iconst C dX8_sumUp_3 (v := nI 0) (by decide) ?_
  refine r_istore C [(0, .ref (ad 36)), (1, .int (nI (i))), (2, .int (nI (j))), (3, .int (nI (n))), (4, .int (nI (0))), (5, .int (nI (0)))] [1, 2, 3, 4, 5, 0] dX8_sumUp_4 (by decide) rfl ?_
  refine r_iconst C dX8_sumUp_6 (v := nI 0) (by decide) ?_
  refine r_istore C [(0, .ref (ad 36)), (1, .int (nI (i))), (2, .int (nI (j))), (3, .int (nI (n))), (4, .int (nI (0))), (5, .int (nI (0))), (6, .int (nI (0)))] [1, 2, 3, 4, 5, 6, 0] dX8_sumUp_7 (by decide) rfl ?_
  have L9 : ∀ (fu : Nat) (c : Nat), n < c + fu → (c ≤ n) → G kx 0 0 (WW g ad u) 9 [(0, .ref (ad 36)), (1, .int (nI (i))), (2, .int (nI (j))), (3, .int (nI (n))), (4, .int (iI (sg (fun r => gP S i j (it (fP S i j) 0 r)) c))), (5, .int (nI (it (fP S i j) 0 c))), (6, .int (nI (c)))] [] := by
    intro fu
    induction fu with
    | zero => intro c hfu hc; exact absurd hfu (by omega)
    | succ fu ih =>
      intro c hfu hc
      have hV : VP S i j (it (fP S i j) 0 c) := it_V (V := VP S i j) (fun p _ => VP_f hO) (VP_0 hO i j) c
      refine r_iload C 6 dX8_sumUp_9 rfl ?_
      refine r_iload_n C 3 dX8_sumUp_11 rfl rfl ?_
      refine r_icmpN_ge C dX8_sumUp_12 (tgt := 44) (by decide) (by omega) (by omega) (fun h12 => ?_) (fun h12 => ?_)
      · refine r_iload C 4 dX8_sumUp_44 rfl ?_
        exact E.2.1 rfl _ _ _ _ dX8_sumUp_46 ⟨_, rfl, ⟨by rw [show c = n by omega]; rfl, rfl⟩⟩
      · refine r_iload C 4 dX8_sumUp_15 rfl ?_
        refine r_aload_n C 0 dX8_sumUp_17 rfl rfl ?_
        refine r_iload_n C 1 dX8_sumUp_18 rfl rfl ?_
        refine r_iload_n C 2 dX8_sumUp_19 rfl rfl ?_
        refine r_iload C 5 dX8_sumUp_20 rfl ?_
        refine r_callVi C (rest := [.int (iI (sg (fun r => gP S i j (it (fP S i j) 0 r)) c))]) (c_X8_payOf l g ad u S hM hO i j (by assumption) (by assumption) (it (fP S i j) 0 c) (by assumption)) gX8_sumUp_X8_payOf pk_X8_payOf k_36 dX8_sumUp_22 rfl rfl rfl rfl ⟨(Nat.le_of_ble_eq_true rfl), (Nat.le_of_ble_eq_true rfl)⟩ rfl rfl (Nat.le_of_ble_eq_true rfl) ⟨(Nat.le_of_ble_eq_true rfl), (Nat.le_of_ble_eq_true rfl)⟩ ?_
        rintro _ _ ⟨rfl, rfl⟩
        refine r_iadd C dX8_sumUp_25 ?_
        refine r_setI (iI_add _ _) ?_
        refine r_istore C [(0, .ref (ad 36)), (1, .int (nI (i))), (2, .int (nI (j))), (3, .int (nI (n))), (4, .int (iI ((sg (fun r => gP S i j (it (fP S i j) 0 r)) c) + (gP S i j (it (fP S i j) 0 c))))), (5, .int (nI (it (fP S i j) 0 c))), (6, .int (nI (c)))] [1, 2, 3, 4, 0, 5, 6] dX8_sumUp_26 (by decide) rfl ?_
        refine r_aload_n C 0 dX8_sumUp_28 rfl rfl ?_
        refine r_iload_n C 1 dX8_sumUp_29 rfl rfl ?_
        refine r_iload_n C 2 dX8_sumUp_30 rfl rfl ?_
        refine r_iload C 5 dX8_sumUp_31 rfl ?_
        refine r_callVi C (rest := []) (c_X8_next l g ad u S hM hO i j (by assumption) (by assumption) (it (fP S i j) 0 c) (by assumption)) gX8_sumUp_X8_next pk_X8_next k_36 dX8_sumUp_33 rfl rfl rfl rfl ⟨(Nat.le_of_ble_eq_true rfl), (Nat.le_of_ble_eq_true rfl)⟩ rfl rfl (Nat.le_of_ble_eq_true rfl) ⟨(Nat.le_of_ble_eq_true rfl), (Nat.le_of_ble_eq_true rfl)⟩ ?_
        rintro _ _ ⟨rfl, rfl⟩
        refine r_istore C [(0, .ref (ad 36)), (1, .int (nI (i))), (2, .int (nI (j))), (3, .int (nI (n))), (4, .int (iI ((sg (fun r => gP S i j (it (fP S i j) 0 r)) c) + (gP S i j (it (fP S i j) 0 c))))), (5, .int (nI (fP S i j (it (fP S i j) 0 c)))), (6, .int (nI (c)))] [1, 2, 3, 4, 5, 0, 6] dX8_sumUp_36 (by decide) rfl ?_
        refine r_iinc C [(0, .ref (ad 36)), (1, .int (nI (i))), (2, .int (nI (j))), (3, .int (nI (n))), (4, .int (iI ((sg (fun r => gP S i j (it (fP S i j) 0 r)) c) + (gP S i j (it (fP S i j) 0 c))))), (5, .int (nI (fP S i j (it (fP S i j) 0 c)))), (6, .int (nI (c + 1)))] [1, 2, 3, 4, 5, 6, 0] 6 dX8_sumUp_38 rfl (nI_add _ 1) (by decide) rfl ?_
        refine r_goto C dX8_sumUp_41 (tgt := 9) (by decide) ?_
        exact ih (c + 1) (by omega) (by omega)
  exact L9 (n + 1) 0 (by omega) (by omega)
def rmX8_scoreOf : Room := { frames := 3, cells := 0, slots := 0, locals := 74 }
theorem pk_X8_scoreOf : Pk yX8_scoreOf RX8 2 := by decide +kernel
set_option maxHeartbeats 4000000 in
set_option maxRecDepth 100000 in
theorem c_X8_scoreOf (l : Launch) (g : gE) (ad : Nat → Nat) (u : Me) (S : Sg) (hM : RepM S u) (hO : Ok S) (i n : Nat) (hi : i < sN S) (hn2 : n < 2000) : Cti l yX8_scoreOf wsX8_scoreOf rmX8_scoreOf g ad [.ref (ad 36), .int (nI (i)), .int (nI (n))] u (fun r u' => iI (scF S i n) = r ∧ u = u') := by
  refine Ct.of (cc := cX8_scoreOf) (nL := 5) (ret := (some .int)) RX8 (by decide) rfl rfl (Nat.le_of_ble_eq_true rfl) (fun kx C E => ?_)
  have hin_X8 : ∀ w ∈ u_ws RX8 TX8 21, w ∈ wsX8_scoreOf := by decide +kernel
  have hk_63 : Cond.fieldLink RX8 63 "AgainAgainModel" "machines" "I" ∈ wsX8_scoreOf := by decide +kernel
  show G kx 0 0 (WW g ad u) 0 [(0, .ref (ad 36)), (1, .int (nI (i))), (2, .int (nI (n)))] []
  have hn := hO.n
  refine r_iconst C dX8_scoreOf_0 (v := nI 0) (by decide) ?_
  refine r_istore_n C [(0, .ref (ad 36)), (1, .int (nI (i))), (2, .int (nI (n))), (3, .int (nI (0)))] [1, 2, 3, 0] dX8_scoreOf_1 rfl (by decide) rfl ?_
  refine r_iconst C dX8_scoreOf_2 (v := nI 0) (by decide) ?_
  refine r_istore C [(0, .ref (ad 36)), (1, .int (nI (i))), (2, .int (nI (n))), (3, .int (nI (0))), (4, .int (nI (0)))] [1, 2, 3, 4, 0] dX8_scoreOf_3 (by decide) rfl ?_
  have L5 : ∀ (fu : Nat) (j : Nat), sN S < j + fu → (j ≤ sN S) → G kx 0 0 (WW g ad u) 5 [(0, .ref (ad 36)), (1, .int (nI (i))), (2, .int (nI (n))), (3, .int (iI (sg (fun j => sumF S i j n) j))), (4, .int (nI (j)))] [] := by
    intro fu
    induction fu with
    | zero => intro j hfu hjn; exact absurd hfu (by omega)
    | succ fu ih =>
      intro j hfu hjn
      refine r_iload C 4 dX8_scoreOf_5 rfl ?_
      refine r_aload_n C 0 dX8_scoreOf_7 rfl rfl ?_
      refine r_get C (CN := RX8) (T := TX8) (N := 21) k_36 rfl hin_X8 (j := 3) (by decide) hk_63 rfl rfl dX8_scoreOf_8 ?_
      refine r_setI (y := (nI (sN S))) (hM.n) ?_
      refine r_icmpN_ge C dX8_scoreOf_11 (tgt := 31) (by decide) (by omega) (by omega) (fun h11 => ?_) (fun h11 => ?_)
      · refine r_iload_n C 3 dX8_scoreOf_31 rfl rfl ?_
        exact E.2.1 rfl _ _ _ _ dX8_scoreOf_32 ⟨_, rfl, ⟨by rw [show j = sN S by omega]; rfl, rfl⟩⟩
      · have hj : j < sN S := by omega
        refine r_iload_n C 3 dX8_scoreOf_14 rfl rfl ?_
        refine r_aload_n C 0 dX8_scoreOf_15 rfl rfl ?_
        refine r_iload_n C 1 dX8_scoreOf_16 rfl rfl ?_
        refine r_iload C 4 dX8_scoreOf_17 rfl ?_
        refine r_iload_n C 2 dX8_scoreOf_19 rfl rfl ?_
        refine r_callVi C (rest := [.int (iI (sg (fun j => sumF S i j n) j))]) (c_X8_sumUp l g ad u S hM hO i j (by assumption) (by assumption) n (by omega)) gX8_scoreOf_X8_sumUp pk_X8_sumUp k_36 dX8_scoreOf_20 rfl rfl rfl rfl ⟨(Nat.le_of_ble_eq_true rfl), (Nat.le_of_ble_eq_true rfl)⟩ rfl rfl (Nat.le_of_ble_eq_true rfl) ⟨(Nat.le_of_ble_eq_true rfl), (Nat.le_of_ble_eq_true rfl)⟩ ?_
        rintro _ _ ⟨rfl, rfl⟩
        refine r_iadd C dX8_scoreOf_23 ?_
        refine r_setI (iI_add _ _) ?_
        refine r_istore_n C [(0, .ref (ad 36)), (1, .int (nI (i))), (2, .int (nI (n))), (3, .int (iI ((sg (fun j => sumF S i j n) j) + (sumF S i j n)))), (4, .int (nI (j)))] [1, 2, 3, 0, 4] dX8_scoreOf_24 rfl (by decide) rfl ?_
        refine r_iinc C [(0, .ref (ad 36)), (1, .int (nI (i))), (2, .int (nI (n))), (3, .int (iI ((sg (fun j => sumF S i j n) j) + (sumF S i j n)))), (4, .int (nI (j + 1)))] [1, 2, 3, 4, 0] 4 dX8_scoreOf_25 rfl (nI_add _ 1) (by decide) rfl ?_
        refine r_goto C dX8_scoreOf_28 (tgt := 5) (by decide) ?_
        exact ih (j + 1) (by omega) (by omega)
  exact L5 (sN S + 1) 0 (by omega) (by omega)
def rmX8_turned : Room := { frames := 0, cells := 0, slots := 0, locals := 0 }
theorem pk_X8_turned : Pk yX8_turned RX8 1 := by decide +kernel
set_option maxHeartbeats 4000000 in
set_option maxRecDepth 100000 in
theorem c_X8_turned (l : Launch) (g : gE) (ad : Nat → Nat) (u : Me) (p : Nat) (hp : p < 16) : Cti l yX8_turned wsX8_turned rmX8_turned g ad [.int (nI (p))] u (fun r u' => nI (4 * (p % 4) + p / 4) = r ∧ u = u') := by
  refine Ct.of (cc := cX8_turned) (nL := 1) (ret := (some .int)) RX8 (by decide) rfl rfl (Nat.le_of_ble_eq_true rfl) (fun kx C E => ?_)
  show G kx 0 0 (WW g ad u) 0 [(0, .int (nI (p)))] []
  refine r_iconst C dX8_turned_0 (v := nI 4) (by decide) ?_
  refine r_iload_n C 0 dX8_turned_1 rfl rfl ?_
  refine r_iconst C dX8_turned_2 (v := nI 4) (by decide) ?_
  refine r_iremN C dX8_turned_3 (by omega) (by omega) (by omega) ?_
  refine r_imulN C dX8_turned_4 ?_
  refine r_iload_n C 0 dX8_turned_5 rfl rfl ?_
  refine r_iconst C dX8_turned_6 (v := nI 4) (by decide) ?_
  refine r_idivN C dX8_turned_7 (by omega) (by omega) (by omega) ?_
  refine r_iaddN C dX8_turned_8 ?_
  exact E.2.1 rfl _ _ _ _ dX8_turned_9 ⟨_, rfl, ⟨rfl, rfl⟩⟩
def rmX8_plans : Room := { frames := 1, cells := 0, slots := 0, locals := 25 }
theorem pk_X8_plans : Pk yX8_plans RX8 1 := by decide +kernel
set_option maxHeartbeats 4000000 in
set_option maxRecDepth 100000 in
theorem c_X8_plans (l : Launch) (g : gE) (ad : Nat → Nat) (u : Me) (S : Sg) (hM : RepM S u) (hO : Ok S) (m : Nat) (hm : m < sN S) : Cti l yX8_plans wsX8_plans rmX8_plans g ad [.ref (ad 36), .int (nI (m))] u (fun r u' => nI (3 ^ sz S m) = r ∧ u = u') := by
  refine Ct.of (cc := cX8_plans) (nL := 2) (ret := (some .int)) RX8 (by decide) rfl rfl (Nat.le_of_ble_eq_true rfl) (fun kx C E => ?_)
  have hin_X8 : ∀ w ∈ u_ws RX8 TX8 21, w ∈ wsX8_plans := by decide +kernel
  have hk_20 : Cond.fieldLink RX8 20 "AgainAgainModel" "many" "[I" ∈ wsX8_plans := by decide +kernel
  have hk_74 : Cond.constantLong RX8 74 (3) ∈ wsX8_plans := by decide +kernel
  show G kx 0 0 (WW g ad u) 0 [(0, .ref (ad 36)), (1, .int (nI (m)))] []
  have hn := hO.n
  have hz := (hO.z m).2
  refine r_ldc2 C (v := (3)) hk_74 dX8_plans_0 ?_
  refine r_setL (y := lI (3)) (by decide) ?_
  refine r_aload_n C 0 dX8_plans_3 rfl rfl ?_
  refine r_get C (CN := RX8) (T := TX8) (N := 21) k_36 rfl hin_X8 (j := 4) (by decide) hk_20 rfl rfl dX8_plans_4 ?_
  refine r_iload_n C 1 dX8_plans_7 rfl rfl ?_
  refine r_iald C k_38 (by omega) (by omega) dX8_plans_8 ?_
  refine r_setI (y := (nI (sz S m))) (hM.z (by first | assumption | omega)) ?_
  refine r_callSl C (rest := []) (c_X8_power l g ad u (3) (sz S m) (by omega)) gX8_plans_X8_power pk_X8_power dX8_plans_9 rfl rfl rfl rfl ⟨(Nat.le_of_ble_eq_true rfl), (Nat.le_of_ble_eq_true rfl)⟩ rfl (Nat.le_of_ble_eq_true rfl) ⟨(Nat.le_of_ble_eq_true rfl), (Nat.le_of_ble_eq_true rfl)⟩ ?_
  rintro _ _ ⟨rfl, rfl⟩
  refine r_l2i C dX8_plans_12 (v := nI (3 ^ (sz S m))) (pw3_i (by omega)) ?_
  exact E.2.1 rfl _ _ _ _ dX8_plans_13 ⟨_, rfl, ⟨rfl, rfl⟩⟩
def rmX8_findPlanWorth : Room := { frames := 2, cells := 0, slots := 0, locals := 56 }
theorem pk_X8_findPlanWorth : Pk yX8_findPlanWorth RX8 3 := by decide +kernel
set_option maxHeartbeats 4000000 in
set_option maxRecDepth 100000 in
theorem c_X8_findPlanWorth (l : Launch) (g : gE) (ad : Nat → Nat) (u : Me) (S : Sg) (hM : RepM S u) (hO : Ok S) (m s : Nat) (hm : m < sN S) (hs : s < sz S m) (plan : Nat) (hpl : plan < 3 ^ sz S m) : Ctv l yX8_findPlanWorth wsX8_findPlanWorth rmX8_findPlanWorth g ad [.ref (ad 36), .int (nI (m)), .int (nI (s)), .int (nI (plan))] u (fun u' => (mL u' 8 = lI (qN S m s plan) ∧ mL u' 9 = lI (qD S m s plan) ∧ Sm [44, 45] [] [10, 11] [8, 9] u u') ∧ RepM S u') := by
  refine Ct.of (cc := cX8_findPlanWorth) (nL := 7) (ret := none) RX8 (by decide) rfl rfl (Nat.le_of_ble_eq_true rfl) (fun kx C E => ?_)
  have hin_X8 : ∀ w ∈ u_ws RX8 TX8 21, w ∈ wsX8_findPlanWorth := by decide +kernel
  have hk_7 : Cond.fieldLink RX8 7 "AgainAgainModel" "pays" "[I" ∈ wsX8_findPlanWorth := by decide +kernel
  have hk_23 : Cond.fieldLink RX8 23 "AgainAgainModel" "acts" "[I" ∈ wsX8_findPlanWorth := by decide +kernel
  have hk_26 : Cond.fieldLink RX8 26 "AgainAgainModel" "nexts" "[I" ∈ wsX8_findPlanWorth := by decide +kernel
  have hk_38 : Cond.fieldLink RX8 38 "AgainAgainModel" "row" "[I" ∈ wsX8_findPlanWorth := by decide +kernel
  have hk_41 : Cond.fieldLink RX8 41 "AgainAgainModel" "seenAt" "[I" ∈ wsX8_findPlanWorth := by decide +kernel
  have hk_74 : Cond.constantLong RX8 74 (3) ∈ wsX8_findPlanWorth := by decide +kernel
  have hk_101 : Cond.fieldLink RX8 101 "AgainAgainModel" "tail" "I" ∈ wsX8_findPlanWorth := by decide +kernel
  have hk_104 : Cond.fieldLink RX8 104 "AgainAgainModel" "ring" "I" ∈ wsX8_findPlanWorth := by decide +kernel
  show G kx 0 0 (WW g ad u) 0 [(0, .ref (ad 36)), (1, .int (nI (m))), (2, .int (nI (s))), (3, .int (nI (plan)))] []
  have hn := hO.n
  have hz := (hO.z m).2
  have h81z := p81 hz
  have hN : ∀ r, it (fQ S m plan) s r < 16 := fun r => by have := VQ_it hO hs (plan := plan) r; omega
  refine r_iconst C dX8_findPlanWorth_0 (v := nI 0) (by decide) ?_
  refine r_istore C [(0, .ref (ad 36)), (1, .int (nI (m))), (2, .int (nI (s))), (3, .int (nI (plan))), (4, .int (nI (0)))] [1, 2, 3, 4, 0] dX8_findPlanWorth_1 (by decide) rfl ?_
  have L3 : ∀ (fu : Nat) (c : Nat) (v : Me), 16 < c + fu → (c ≤ 16) → (Sm [44, 45] [] [] [] u v) → (∀ q, q < c → mA v 45 q = -4) → (RepM S v) → G kx 0 0 (WW g ad v) 3 [(0, .ref (ad 36)), (1, .int (nI (m))), (2, .int (nI (s))), (3, .int (nI (plan))), (4, .int (nI (c)))] [] := by
    intro fu
    induction fu with
    | zero => intro c v hfu hc hv h4 hM; exact absurd hfu (by omega)
    | succ fu ih =>
      intro c v hfu hc hv h4 hM
      refine r_iload C 4 dX8_findPlanWorth_3 rfl ?_
      refine r_bipush C dX8_findPlanWorth_5 (v := nI 16) (by decide) ?_
      refine r_icmpN_ge C dX8_findPlanWorth_7 (tgt := 25) (by decide) (by omega) (by omega) (fun h7 => ?_) (fun h7 => ?_)
      · refine r_iload_n C 2 dX8_findPlanWorth_25 rfl rfl ?_
        refine r_istore C [(0, .ref (ad 36)), (1, .int (nI (m))), (2, .int (nI (s))), (3, .int (nI (plan))), (4, .int (nI (s)))] [1, 2, 3, 4, 0] dX8_findPlanWorth_26 (by decide) rfl ?_
        refine r_iconst C dX8_findPlanWorth_28 (v := nI 0) (by decide) ?_
        refine r_istore C [(0, .ref (ad 36)), (1, .int (nI (m))), (2, .int (nI (s))), (3, .int (nI (plan))), (4, .int (nI (s))), (5, .int (nI (0)))] [1, 2, 3, 4, 5, 0] dX8_findPlanWorth_29 (by decide) rfl ?_
        have L31 : ∀ (fu : Nat) (r : Nat) (v : Me), 16 < r + fu → (r ≤ 16) → (SRI u (fQ S m plan) (gQ S m plan) s r v) → (RepM S v) → G kx 0 0 (WW g ad v) 31 [(0, .ref (ad 36)), (1, .int (nI (m))), (2, .int (nI (s))), (3, .int (nI (plan))), (4, .int (nI (it (fQ S m plan) s r))), (5, .int (nI (r)))] [] := by
          intro fu
          induction fu with
          | zero => intro r v hfu hr16 hv hM; exact absurd hfu (by omega)
          | succ fu ih =>
            intro r v hfu hr16 hv hM
            have hV := VQ_it hO hs (plan := plan) r
            have hx4 : it (fQ S m plan) s r ≤ 4 := by omega
            have h81 := p81 hx4
            have hl := hN r
            have hdg := dg_lt plan (it (fQ S m plan) s r)
            have haa := hO.a m (it (fQ S m plan) s r)
            refine r_aload_n C 0 dX8_findPlanWorth_31 rfl rfl ?_
            refine r_get C (CN := RX8) (T := TX8) (N := 21) k_36 rfl hin_X8 (j := 11) (by decide) hk_41 rfl rfl dX8_findPlanWorth_32 ?_
            refine r_iload C 4 dX8_findPlanWorth_35 rfl ?_
            refine r_iald C k_45 (by omega) (by omega) dX8_findPlanWorth_37 ?_
            refine r_bipush C dX8_findPlanWorth_38 (v := (-4)) (by decide) ?_
            refine r_icmp_ne C dX8_findPlanWorth_40 (tgt := 120) (by decide) (fun h40 => ?_) (fun h40 => ?_)
            · obtain ⟨a, ha, e⟩ := hv.hit hN h40
              refine r_aload_n C 0 dX8_findPlanWorth_120 rfl rfl ?_
              refine r_aload_n C 0 dX8_findPlanWorth_121 rfl rfl ?_
              refine r_get C (CN := RX8) (T := TX8) (N := 21) k_36 rfl hin_X8 (j := 11) (by decide) hk_41 rfl rfl dX8_findPlanWorth_122 ?_
              refine r_iload C 4 dX8_findPlanWorth_125 rfl ?_
              refine r_iald C k_45 (by omega) (by omega) dX8_findPlanWorth_127 ?_
              refine r_setI (y := (nI (a))) (by rw [← e]; exact hv.2.2.1 a ha) ?_
              refine r_putI C (CN := RX8) (T := TX8) (N := 21) fI_10 rfl hin_X8 tyX8 tyX8_ok nmX8 (by decide) hk_101 rfl rfl (by decide +kernel) dX8_findPlanWorth_128 ?_
              refine r_aload_n C 0 dX8_findPlanWorth_131 rfl rfl ?_
              refine r_iload C 5 dX8_findPlanWorth_132 rfl ?_
              refine r_aload_n C 0 dX8_findPlanWorth_134 rfl rfl ?_
              refine r_get C (CN := RX8) (T := TX8) (N := 21) k_36 rfl hin_X8 (j := 12) (by decide) hk_101 rfl rfl dX8_findPlanWorth_135 ?_
              refine r_setI (y := (nI (a))) (mI_sI_self _ _ _) ?_
              refine r_isubN C dX8_findPlanWorth_138 (by omega) ?_
              refine r_putI C (CN := RX8) (T := TX8) (N := 21) fI_11 rfl hin_X8 tyX8 tyX8_ok nmX8 (by decide) hk_104 rfl rfl (by decide +kernel) dX8_findPlanWorth_139 ?_
              refine r_aload_n C 0 dX8_findPlanWorth_142 rfl rfl ?_
              have hF := hv.fin ha e
              refine r_callVv C (rest := []) (c_X8_worthOfRow l g ad (sI (sI v (10) (nI (a))) (11) (nI (r - a))) S ((hM.sI (c := 10) (by decide) _).sI (c := 11) (by decide) _) hO _ _ _ hF.1 hN (fun r => hO.p _ _)) gX8_findPlanWorth_X8_worthOfRow pk_X8_worthOfRow k_36 dX8_findPlanWorth_143 rfl rfl rfl rfl ⟨(Nat.le_of_ble_eq_true rfl), (Nat.le_of_ble_eq_true rfl)⟩ rfl rfl (Nat.le_of_ble_eq_true rfl) ⟨(Nat.le_of_ble_eq_true rfl), (Nat.le_of_ble_eq_true rfl)⟩ ?_
              rintro v2 ⟨ht, hd, hs2⟩
              exact E.1 rfl _ _ _ dX8_findPlanWorth_146 ⟨rfl, ⟨⟨ht, hd, (hF.2.wk (by decide) (by decide) (by decide) (by decide)).tr (hs2.wk (by decide) (by decide) (by decide) (by decide))⟩, ((hM.sI (c := 10) (by decide) _).sI (c := 11) (by decide) _).sm hs2 (by unfold leM; decide)⟩⟩
            · refine r_aload_n C 0 dX8_findPlanWorth_43 rfl rfl ?_
              refine r_get C (CN := RX8) (T := TX8) (N := 21) k_36 rfl hin_X8 (j := 11) (by decide) hk_41 rfl rfl dX8_findPlanWorth_44 ?_
              refine r_iload C 4 dX8_findPlanWorth_47 rfl ?_
              refine r_iload C 5 dX8_findPlanWorth_49 rfl ?_
              refine r_iast C k_45 (by omega) (by omega) dX8_findPlanWorth_51 ?_
              have hr := hv.room hN h40
              have hM : RepM S (sA v (45) (upd (mA v (45)) (it (fQ S m plan) s r) (nI (r)))) := hM.sA (c := 45) (by decide) _
              refine r_iload_n C 3 dX8_findPlanWorth_52 rfl rfl ?_
              refine r_ldc2 C (v := (3)) hk_74 dX8_findPlanWorth_53 ?_
              refine r_setL (y := lI (3)) (by decide) ?_
              refine r_iload C 4 dX8_findPlanWorth_56 rfl ?_
              refine r_callSl C (rest := [.int (nI (plan))]) (c_X8_power l g ad (sA v (45) (upd (mA v (45)) (it (fQ S m plan) s r) (nI (r)))) (3) (it (fQ S m plan) s r) (by omega)) gX8_findPlanWorth_X8_power pk_X8_power dX8_findPlanWorth_58 rfl rfl rfl rfl ⟨(Nat.le_of_ble_eq_true rfl), (Nat.le_of_ble_eq_true rfl)⟩ rfl (Nat.le_of_ble_eq_true rfl) ⟨(Nat.le_of_ble_eq_true rfl), (Nat.le_of_ble_eq_true rfl)⟩ ?_
              rintro _ _ ⟨rfl, rfl⟩
              refine r_l2i C dX8_findPlanWorth_61 (v := nI (3 ^ (it (fQ S m plan) s r))) (pw3_i (by omega)) ?_
              have hqq : plan / 3 ^ it (fQ S m plan) s r ≤ plan := Nat.div_le_self _ _
              refine r_idivN C dX8_findPlanWorth_62 (by omega) (by omega) (by omega) ?_
              refine r_iconst C dX8_findPlanWorth_63 (v := nI 3) (by decide) ?_
              refine r_iremN C dX8_findPlanWorth_64 (by omega) (by omega) (by omega) ?_
              refine r_setI (y := nI (dg plan (it (fQ S m plan) s r))) rfl ?_
              refine r_istore C [(0, .ref (ad 36)), (1, .int (nI (m))), (2, .int (nI (s))), (3, .int (nI (plan))), (4, .int (nI (it (fQ S m plan) s r))), (5, .int (nI (r))), (6, .int (nI (dg plan (it (fQ S m plan) s r))))] [1, 2, 3, 4, 5, 6, 0] dX8_findPlanWorth_65 (by decide) rfl ?_
              refine r_aload_n C 0 dX8_findPlanWorth_67 rfl rfl ?_
              refine r_get C (CN := RX8) (T := TX8) (N := 21) k_36 rfl hin_X8 (j := 10) (by decide) hk_38 rfl rfl dX8_findPlanWorth_68 ?_
              refine r_iload C 5 dX8_findPlanWorth_71 rfl ?_
              refine r_aload_n C 0 dX8_findPlanWorth_73 rfl rfl ?_
              refine r_get C (CN := RX8) (T := TX8) (N := 21) k_36 rfl hin_X8 (j := 0) (by decide) hk_7 rfl rfl dX8_findPlanWorth_74 ?_
              refine r_iconst C dX8_findPlanWorth_77 (v := nI 3) (by decide) ?_
              refine r_iload C 6 dX8_findPlanWorth_78 rfl ?_
              refine r_imulN C dX8_findPlanWorth_80 ?_
              refine r_aload_n C 0 dX8_findPlanWorth_81 rfl rfl ?_
              refine r_get C (CN := RX8) (T := TX8) (N := 21) k_36 rfl hin_X8 (j := 5) (by decide) hk_23 rfl rfl dX8_findPlanWorth_82 ?_
              refine r_iconst C dX8_findPlanWorth_85 (v := nI 4) (by decide) ?_
              refine r_iload_n C 1 dX8_findPlanWorth_86 rfl rfl ?_
              refine r_imulN C dX8_findPlanWorth_87 ?_
              refine r_iload C 4 dX8_findPlanWorth_88 rfl ?_
              refine r_iaddN C dX8_findPlanWorth_90 ?_
              refine r_iald C k_39 (by omega) (by omega) dX8_findPlanWorth_91 ?_
              refine r_setI (y := (nI (sa S m (it (fQ S m plan) s r)))) (hM.a hm hV) ?_
              refine r_iaddN C dX8_findPlanWorth_92 ?_
              refine r_iald C k_37 (by omega) (by omega) dX8_findPlanWorth_93 ?_
              refine r_setI (y := (iI (gQ S m plan (it (fQ S m plan) s r)))) (hM.p (dg_lt _ _) (hO.a _ _)) ?_
              refine r_iast C k_44 (by omega) (by omega) dX8_findPlanWorth_94 ?_
              have hM : RepM S (sA (sA v (45) (upd (mA v (45)) (it (fQ S m plan) s r) (nI (r)))) (44) (upd (mA (sA v (45) (upd (mA v (45)) (it (fQ S m plan) s r) (nI (r)))) (44)) r (iI (gQ S m plan (it (fQ S m plan) s r))))) := hM.sA (c := 44) (by decide) _
              refine r_iinc C [(0, .ref (ad 36)), (1, .int (nI (m))), (2, .int (nI (s))), (3, .int (nI (plan))), (4, .int (nI (it (fQ S m plan) s r))), (5, .int (nI (r + 1))), (6, .int (nI (dg plan (it (fQ S m plan) s r))))] [1, 2, 3, 4, 5, 0, 6] 5 dX8_findPlanWorth_95 rfl (nI_add _ 1) (by decide) rfl ?_
              refine r_aload_n C 0 dX8_findPlanWorth_98 rfl rfl ?_
              refine r_get C (CN := RX8) (T := TX8) (N := 21) k_36 rfl hin_X8 (j := 6) (by decide) hk_26 rfl rfl dX8_findPlanWorth_99 ?_
              refine r_bipush C dX8_findPlanWorth_102 (v := nI 12) (by decide) ?_
              refine r_iload_n C 1 dX8_findPlanWorth_104 rfl rfl ?_
              refine r_imulN C dX8_findPlanWorth_105 ?_
              refine r_iconst C dX8_findPlanWorth_106 (v := nI 3) (by decide) ?_
              refine r_iload C 4 dX8_findPlanWorth_107 rfl ?_
              refine r_imulN C dX8_findPlanWorth_109 ?_
              refine r_iaddN C dX8_findPlanWorth_110 ?_
              refine r_iload C 6 dX8_findPlanWorth_111 rfl ?_
              refine r_iaddN C dX8_findPlanWorth_113 ?_
              refine r_iald C k_40 (by omega) (by omega) dX8_findPlanWorth_114 ?_
              refine r_setI (y := (nI (it (fQ S m plan) s (r + 1)))) (hM.x hm hV (dg_lt _ _)) ?_
              refine r_istore C [(0, .ref (ad 36)), (1, .int (nI (m))), (2, .int (nI (s))), (3, .int (nI (plan))), (4, .int (nI (it (fQ S m plan) s (r + 1)))), (5, .int (nI (r + 1))), (6, .int (nI (dg plan (it (fQ S m plan) s r))))] [1, 2, 3, 4, 0, 5, 6] dX8_findPlanWorth_115 (by decide) rfl ?_
              refine r_goto C dX8_findPlanWorth_117 (tgt := 31) (by decide) ?_
              refine r_lvs C [0, 1, 2, 3, 4, 5] (lv' := [(0, .ref (ad 36)), (1, .int (nI (m))), (2, .int (nI (s))), (3, .int (nI (plan))), (4, .int (nI (it (fQ S m plan) s (r + 1)))), (5, .int (nI (r + 1)))]) rfl ?_
              exact ih (r + 1) _ (by omega) (by omega) (hv.step hN h40) hM
        exact L31 17 0 v (by omega) (by omega) (SRI.init _ _ _ hv (fun j hj => h4 j (by omega))) hM
      · refine r_aload_n C 0 dX8_findPlanWorth_10 rfl rfl ?_
        refine r_get C (CN := RX8) (T := TX8) (N := 21) k_36 rfl hin_X8 (j := 11) (by decide) hk_41 rfl rfl dX8_findPlanWorth_11 ?_
        refine r_iload C 4 dX8_findPlanWorth_14 rfl ?_
        refine r_bipush C dX8_findPlanWorth_16 (v := (-4)) (by decide) ?_
        refine r_iast C k_45 (by omega) (by omega) dX8_findPlanWorth_18 ?_
        refine r_iinc C [(0, .ref (ad 36)), (1, .int (nI (m))), (2, .int (nI (s))), (3, .int (nI (plan))), (4, .int (nI (c + 1)))] [1, 2, 3, 4, 0] 4 dX8_findPlanWorth_19 rfl (nI_add _ 1) (by decide) rfl ?_
        refine r_goto C dX8_findPlanWorth_22 (tgt := 3) (by decide) ?_
        exact ih (c + 1) _ (by omega) (by omega) (hv.sA (by decide) _) (fun q hq => by
          rw [mA_sA_self]; unfold upd
          by_cases z : q = c
          · rw [if_pos z]
          · rw [if_neg z]; exact h4 q (by omega)) (hM.sA (c := 45) (by decide) _)
  exact L3 17 0 u (by omega) (by omega) Sm.rf (fun q hq => absurd hq (by omega)) hM
def rmX8_findBest : Room := { frames := 3, cells := 0, slots := 0, locals := 82 }
theorem pk_X8_findBest : Pk yX8_findBest RX8 2 := by decide +kernel
set_option maxHeartbeats 4000000 in
set_option maxRecDepth 100000 in
theorem c_X8_findBest (l : Launch) (g : gE) (ad : Nat → Nat) (u : Me) (S : Sg) (hM : RepM S u) (hO : Ok S) (m s : Nat) (hm : m < sN S) (hs : s < sz S m) : Ctv l yX8_findBest wsX8_findBest rmX8_findBest g ad [.ref (ad 36), .int (nI (m)), .int (nI (s))] u (fun u' => (mI u' 12 = nI (bsP S m s) ∧ mL u' 10 = lI (qN S m s (bsP S m s)) ∧ mL u' 11 = lI (qD S m s (bsP S m s)) ∧ Sm [44, 45] [] [10, 11, 12] [8, 9, 10, 11] u u') ∧ RepM S u') := by
  refine Ct.of (cc := cX8_findBest) (nL := 4) (ret := none) RX8 (by decide) rfl rfl (Nat.le_of_ble_eq_true rfl) (fun kx C E => ?_)
  have hin_X8 : ∀ w ∈ u_ws RX8 TX8 21, w ∈ wsX8_findBest := by decide +kernel
  have hk_123 : Cond.fieldLink RX8 123 "AgainAgainModel" "over" "J" ∈ wsX8_findBest := by decide +kernel
  have hk_127 : Cond.fieldLink RX8 127 "AgainAgainModel" "under" "J" ∈ wsX8_findBest := by decide +kernel
  have hk_159 : Cond.fieldLink RX8 159 "AgainAgainModel" "bestPlan" "I" ∈ wsX8_findBest := by decide +kernel
  have hk_168 : Cond.fieldLink RX8 168 "AgainAgainModel" "bestUnder" "J" ∈ wsX8_findBest := by decide +kernel
  have hk_171 : Cond.fieldLink RX8 171 "AgainAgainModel" "bestOver" "J" ∈ wsX8_findBest := by decide +kernel
  show G kx 0 0 (WW g ad u) 0 [(0, .ref (ad 36)), (1, .int (nI (m))), (2, .int (nI (s)))] []
  have hn := hO.n
  have hz := (hO.z m).2
  have h81z := p81 hz
  refine r_aload_n C 0 dX8_findBest_0 rfl rfl ?_
  refine r_bipush C dX8_findBest_1 (v := (-4)) (by decide) ?_
  refine r_putI C (CN := RX8) (T := TX8) (N := 21) fI_12 rfl hin_X8 tyX8 tyX8_ok nmX8 (by decide) hk_159 rfl rfl (by decide +kernel) dX8_findBest_3 ?_
  refine r_iconst C dX8_findBest_6 (v := nI 0) (by decide) ?_
  refine r_istore_n C [(0, .ref (ad 36)), (1, .int (nI (m))), (2, .int (nI (s))), (3, .int (nI (0)))] [1, 2, 3, 0] dX8_findBest_7 rfl (by decide) rfl ?_
  have L8 : ∀ (fu : Nat) (c : Nat) (v : Me), 3 ^ sz S m < c + fu → (c ≤ 3 ^ sz S m) → (BSI u S m s c v) → (RepM S v) → G kx 0 0 (WW g ad v) 8 [(0, .ref (ad 36)), (1, .int (nI (m))), (2, .int (nI (s))), (3, .int (nI (c)))] [] := by
    intro fu
    induction fu with
    | zero => intro c v hfu hc hv hM; exact absurd hfu (by omega)
    | succ fu ih =>
      intro c v hfu hc hv hM
      refine r_iload_n C 3 dX8_findBest_8 rfl rfl ?_
      refine r_aload_n C 0 dX8_findBest_9 rfl rfl ?_
      refine r_iload_n C 1 dX8_findBest_10 rfl rfl ?_
      refine r_callVi C (rest := [.int (nI (c))]) (c_X8_plans l g ad v S hM hO m (by assumption)) gX8_findBest_X8_plans pk_X8_plans k_36 dX8_findBest_11 rfl rfl rfl rfl ⟨(Nat.le_of_ble_eq_true rfl), (Nat.le_of_ble_eq_true rfl)⟩ rfl rfl (Nat.le_of_ble_eq_true rfl) ⟨(Nat.le_of_ble_eq_true rfl), (Nat.le_of_ble_eq_true rfl)⟩ ?_
      rintro _ _ ⟨rfl, rfl⟩
      refine r_icmpN_ge C dX8_findBest_14 (tgt := 82) (by decide) (by omega) (by omega) (fun h14 => ?_) (fun h14 => ?_)
      · have hF := hv.2.2 (by omega)
        rw [show c - 1 = 3 ^ sz S m - 1 by omega] at hF
        exact E.1 rfl _ _ _ dX8_findBest_82 ⟨rfl, ⟨⟨hF.1, hF.2.1, hF.2.2, hv.1⟩, hM⟩⟩
      · refine r_aload_n C 0 dX8_findBest_17 rfl rfl ?_
        refine r_iload_n C 1 dX8_findBest_18 rfl rfl ?_
        refine r_iload_n C 2 dX8_findBest_19 rfl rfl ?_
        refine r_iload_n C 3 dX8_findBest_20 rfl rfl ?_
        refine r_callVv C (rest := []) (c_X8_findPlanWorth l g ad v S hM hO m s (by assumption) (by assumption) c (by first | assumption | omega)) gX8_findBest_X8_findPlanWorth pk_X8_findPlanWorth k_36 dX8_findBest_21 rfl rfl rfl rfl ⟨(Nat.le_of_ble_eq_true rfl), (Nat.le_of_ble_eq_true rfl)⟩ rfl rfl (Nat.le_of_ble_eq_true rfl) ⟨(Nat.le_of_ble_eq_true rfl), (Nat.le_of_ble_eq_true rfl)⟩ ?_
        rintro q1 ⟨⟨htq, hdq, hsq⟩, hM⟩
        refine r_aload_n C 0 dX8_findBest_24 rfl rfl ?_
        refine r_get C (CN := RX8) (T := TX8) (N := 21) k_36 rfl hin_X8 (j := 17) (by decide) hk_159 rfl rfl dX8_findBest_25 ?_
        refine r_setI (y := (mI v 12)) (hsq.2.2.1 12 (by decide)) ?_
        refine r_bipush C dX8_findBest_28 (v := (-4)) (by decide) ?_
        refine r_icmp_eq C dX8_findBest_30 (tgt := 55) (by decide) (fun h30 => ?_) (fun h30 => ?_)
        · have hbt : c = 0 ∨ (0 < c ∧ qN S m s (bs S m s (c - 1)) * qD S m s c < qN S m s c * qD S m s (bs S m s (c - 1))) := Or.inl (hv.zero (by omega) h30)
          refine r_aload_n C 0 dX8_findBest_55 rfl rfl ?_
          refine r_iload_n C 3 dX8_findBest_56 rfl rfl ?_
          refine r_putI C (CN := RX8) (T := TX8) (N := 21) fI_12 rfl hin_X8 tyX8 tyX8_ok nmX8 (by decide) hk_159 rfl rfl (by decide +kernel) dX8_findBest_57 ?_
          refine r_aload_n C 0 dX8_findBest_60 rfl rfl ?_
          refine r_aload_n C 0 dX8_findBest_61 rfl rfl ?_
          refine r_get C (CN := RX8) (T := TX8) (N := 21) k_36 rfl hin_X8 (j := 14) (by decide) hk_123 rfl rfl dX8_findBest_62 ?_
          refine r_setL (y := (lI (qN S m s c))) (htq) ?_
          refine r_putL C (CN := RX8) (T := TX8) (N := 21) fL_10 rfl hin_X8 tyX8 tyX8_ok nmX8 (by decide) hk_171 rfl rfl (by decide +kernel) dX8_findBest_65 ?_
          refine r_aload_n C 0 dX8_findBest_68 rfl rfl ?_
          refine r_aload_n C 0 dX8_findBest_69 rfl rfl ?_
          refine r_get C (CN := RX8) (T := TX8) (N := 21) k_36 rfl hin_X8 (j := 15) (by decide) hk_127 rfl rfl dX8_findBest_70 ?_
          refine r_setL (y := (lI (qD S m s c))) (by first | exact hdq | (rw [mL_sL_ne _ _ (by decide)]; exact hdq)) ?_
          refine r_putL C (CN := RX8) (T := TX8) (N := 21) fL_11 rfl hin_X8 tyX8 tyX8_ok nmX8 (by decide) hk_168 rfl rfl (by decide +kernel) dX8_findBest_73 ?_
          refine r_iinc C [(0, .ref (ad 36)), (1, .int (nI (m))), (2, .int (nI (s))), (3, .int (nI (c + 1)))] [1, 2, 3, 0] 3 dX8_findBest_76 rfl (nI_add _ 1) (by decide) rfl ?_
          refine r_goto C dX8_findBest_79 (tgt := 8) (by decide) ?_
          exact ih (c + 1) _ (by omega) (by omega) (hv.take hsq hbt) (((hM.sI (c := 12) (by decide) _).sL 10 _).sL 11 _)
        · have hc0 := hv.pos h30
          refine r_aload_n C 0 dX8_findBest_33 rfl rfl ?_
          refine r_get C (CN := RX8) (T := TX8) (N := 21) k_36 rfl hin_X8 (j := 14) (by decide) hk_123 rfl rfl dX8_findBest_34 ?_
          refine r_setL (y := (lI (qN S m s c))) (htq) ?_
          refine r_aload_n C 0 dX8_findBest_37 rfl rfl ?_
          refine r_get C (CN := RX8) (T := TX8) (N := 21) k_36 rfl hin_X8 (j := 19) (by decide) hk_168 rfl rfl dX8_findBest_38 ?_
          refine r_setL (y := (lI (qD S m s (bs S m s (c - 1))))) ((hsq.2.2.2 11 (by decide)).trans (hv.2.2 hc0).2.2) ?_
          refine r_lmul C dX8_findBest_41 ?_
          refine r_setL (lI_mul _ _) ?_
          refine r_aload_n C 0 dX8_findBest_42 rfl rfl ?_
          refine r_get C (CN := RX8) (T := TX8) (N := 21) k_36 rfl hin_X8 (j := 18) (by decide) hk_171 rfl rfl dX8_findBest_43 ?_
          refine r_setL (y := (lI (qN S m s (bs S m s (c - 1))))) ((hsq.2.2.2 10 (by decide)).trans (hv.2.2 hc0).2.1) ?_
          refine r_aload_n C 0 dX8_findBest_46 rfl rfl ?_
          refine r_get C (CN := RX8) (T := TX8) (N := 21) k_36 rfl hin_X8 (j := 15) (by decide) hk_127 rfl rfl dX8_findBest_47 ?_
          refine r_setL (y := (lI (qD S m s c))) (by first | exact hdq | (rw [mL_sL_ne _ _ (by decide)]; exact hdq)) ?_
          refine r_lmul C dX8_findBest_50 ?_
          refine r_setL (lI_mul _ _) ?_
          refine r_lcmp C dX8_findBest_51 ?_
          refine r_if_le C dX8_findBest_52 (tgt := 76) (by decide) (fun h52 => ?_) (fun h52 => ?_)
          · refine r_iinc C [(0, .ref (ad 36)), (1, .int (nI (m))), (2, .int (nI (s))), (3, .int (nI (c + 1)))] [1, 2, 3, 0] 3 dX8_findBest_76 rfl (nI_add _ 1) (by decide) rfl ?_
            refine r_goto C dX8_findBest_79 (tgt := 8) (by decide) ?_
            exact ih (c + 1) _ (by omega) (by omega) (hv.stay hc0 hsq (fun z => absurd ((q_cmp hO hs c (bs S m s (c - 1))).mpr z) (Int32.not_lt.mpr h52))) hM
          · have hbt : c = 0 ∨ (0 < c ∧ qN S m s (bs S m s (c - 1)) * qD S m s c < qN S m s c * qD S m s (bs S m s (c - 1))) := Or.inr ⟨hc0, (q_cmp hO hs c (bs S m s (c - 1))).mp (Int32.not_le.mp h52)⟩
            refine r_aload_n C 0 dX8_findBest_55 rfl rfl ?_
            refine r_iload_n C 3 dX8_findBest_56 rfl rfl ?_
            refine r_putI C (CN := RX8) (T := TX8) (N := 21) fI_12 rfl hin_X8 tyX8 tyX8_ok nmX8 (by decide) hk_159 rfl rfl (by decide +kernel) dX8_findBest_57 ?_
            refine r_aload_n C 0 dX8_findBest_60 rfl rfl ?_
            refine r_aload_n C 0 dX8_findBest_61 rfl rfl ?_
            refine r_get C (CN := RX8) (T := TX8) (N := 21) k_36 rfl hin_X8 (j := 14) (by decide) hk_123 rfl rfl dX8_findBest_62 ?_
            refine r_setL (y := (lI (qN S m s c))) (htq) ?_
            refine r_putL C (CN := RX8) (T := TX8) (N := 21) fL_10 rfl hin_X8 tyX8 tyX8_ok nmX8 (by decide) hk_171 rfl rfl (by decide +kernel) dX8_findBest_65 ?_
            refine r_aload_n C 0 dX8_findBest_68 rfl rfl ?_
            refine r_aload_n C 0 dX8_findBest_69 rfl rfl ?_
            refine r_get C (CN := RX8) (T := TX8) (N := 21) k_36 rfl hin_X8 (j := 15) (by decide) hk_127 rfl rfl dX8_findBest_70 ?_
            refine r_setL (y := (lI (qD S m s c))) (by first | exact hdq | (rw [mL_sL_ne _ _ (by decide)]; exact hdq)) ?_
            refine r_putL C (CN := RX8) (T := TX8) (N := 21) fL_11 rfl hin_X8 tyX8 tyX8_ok nmX8 (by decide) hk_168 rfl rfl (by decide +kernel) dX8_findBest_73 ?_
            refine r_iinc C [(0, .ref (ad 36)), (1, .int (nI (m))), (2, .int (nI (s))), (3, .int (nI (c + 1)))] [1, 2, 3, 0] 3 dX8_findBest_76 rfl (nI_add _ 1) (by decide) rfl ?_
            refine r_goto C dX8_findBest_79 (tgt := 8) (by decide) ?_
            exact ih (c + 1) _ (by omega) (by omega) (hv.take hsq hbt) (((hM.sI (c := 12) (by decide) _).sL 10 _).sL 11 _)
  exact L8 (3 ^ sz S m + 1) 0 _ (by omega) (by omega) (BSI.init u S m s) (hM.sI (c := 12) (by decide) _)
def rmX8_isBest : Room := { frames := 4, cells := 0, slots := 0, locals := 105 }
theorem pk_X8_isBest : Pk yX8_isBest RX8 3 := by decide +kernel
set_option maxHeartbeats 4000000 in
set_option maxRecDepth 100000 in
theorem c_X8_isBest (l : Launch) (g : gE) (ad : Nat → Nat) (u : Me) (S : Sg) (hM : RepM S u) (hO : Ok S) (i j : Nat) (hi : i < sN S) (hj : j < sN S) (p : Nat) (hp : VP S i j p) : Cti l yX8_isBest wsX8_isBest rmX8_isBest g ad [.ref (ad 36), .int (nI (i)), .int (nI (j)), .int (nI (p))] u (fun r u' => (bI (¬ gbp S i j p (p % 4)) = r ∧ mI u' 12 = nI (bsP S j (p % 4)) ∧ Sm [44, 45] [] [10, 11, 12] [8, 9, 10, 11] u u') ∧ RepM S u') := by
  refine Ct.of (cc := cX8_isBest) (nL := 4) (ret := (some .boolean)) RX8 (by decide) rfl rfl (Nat.le_of_ble_eq_true rfl) (fun kx C E => ?_)
  have hin_X8 : ∀ w ∈ u_ws RX8 TX8 21, w ∈ wsX8_isBest := by decide +kernel
  have hk_123 : Cond.fieldLink RX8 123 "AgainAgainModel" "over" "J" ∈ wsX8_isBest := by decide +kernel
  have hk_127 : Cond.fieldLink RX8 127 "AgainAgainModel" "under" "J" ∈ wsX8_isBest := by decide +kernel
  have hk_168 : Cond.fieldLink RX8 168 "AgainAgainModel" "bestUnder" "J" ∈ wsX8_isBest := by decide +kernel
  have hk_171 : Cond.fieldLink RX8 171 "AgainAgainModel" "bestOver" "J" ∈ wsX8_isBest := by decide +kernel
  show G kx 0 0 (WW g ad u) 0 [(0, .ref (ad 36)), (1, .int (nI (i))), (2, .int (nI (j))), (3, .int (nI (p)))] []
  have hn := hO.n
  have hz1 := (hO.z i).2
  have hz2 := (hO.z j).2
  have hp1 := hp.1
  have hp2 := hp.2
  have hp16 := VP_16 hO hp
  have hpb := P_bd hO hp
  have hqb := q_bounds hO (bsP S j (p % 4)) hp2
  refine r_aload_n C 0 dX8_isBest_0 rfl rfl ?_
  refine r_iload_n C 2 dX8_isBest_1 rfl rfl ?_
  refine r_iload_n C 3 dX8_isBest_2 rfl rfl ?_
  refine r_iconst C dX8_isBest_3 (v := nI 4) (by decide) ?_
  refine r_iremN C dX8_isBest_4 (by omega) (by omega) (by omega) ?_
  refine r_callVv C (rest := []) (c_X8_findBest l g ad u S hM hO j (p % 4) (by assumption) (by first | assumption | omega)) gX8_isBest_X8_findBest pk_X8_findBest k_36 dX8_isBest_5 rfl rfl rfl rfl ⟨(Nat.le_of_ble_eq_true rfl), (Nat.le_of_ble_eq_true rfl)⟩ rfl rfl (Nat.le_of_ble_eq_true rfl) ⟨(Nat.le_of_ble_eq_true rfl), (Nat.le_of_ble_eq_true rfl)⟩ ?_
  rintro b1 ⟨⟨hb1, hb2, hb3, hb4⟩, hM⟩
  refine r_aload_n C 0 dX8_isBest_8 rfl rfl ?_
  refine r_iload_n C 1 dX8_isBest_9 rfl rfl ?_
  refine r_iload_n C 2 dX8_isBest_10 rfl rfl ?_
  refine r_iload_n C 3 dX8_isBest_11 rfl rfl ?_
  refine r_callVv C (rest := []) (c_X8_findWorth l g ad b1 S hM hO i j (by assumption) (by assumption) p (by first | assumption | exact VP_0 hO _ _)) gX8_isBest_X8_findWorth pk_X8_findWorth k_36 dX8_isBest_12 rfl rfl rfl rfl ⟨(Nat.le_of_ble_eq_true rfl), (Nat.le_of_ble_eq_true rfl)⟩ rfl rfl (Nat.le_of_ble_eq_true rfl) ⟨(Nat.le_of_ble_eq_true rfl), (Nat.le_of_ble_eq_true rfl)⟩ ?_
  rintro w1 ⟨⟨ht1, hd1, hs1⟩, hM⟩
  refine r_aload_n C 0 dX8_isBest_15 rfl rfl ?_
  refine r_get C (CN := RX8) (T := TX8) (N := 21) k_36 rfl hin_X8 (j := 14) (by decide) hk_123 rfl rfl dX8_isBest_16 ?_
  refine r_setL (y := (lI (vN S (fP S i j) (gP S i j) p))) (ht1) ?_
  refine r_aload_n C 0 dX8_isBest_19 rfl rfl ?_
  refine r_get C (CN := RX8) (T := TX8) (N := 21) k_36 rfl hin_X8 (j := 18) (by decide) hk_171 rfl rfl dX8_isBest_20 ?_
  refine r_setL (y := (lI (qN S j (p % 4) (bsP S j (p % 4))))) ((hs1.2.2.2 10 (by decide)).trans hb2) ?_
  refine r_lcmp C dX8_isBest_23 ?_
  refine r_if_ne C dX8_isBest_24 (tgt := 43) (by decide) (fun h24 => ?_) (fun h24 => ?_)
  · have hne : ¬ (vN S (fP S i j) (gP S i j) p = qN S j (p % 4) (bsP S j (p % 4)) ∧ vD S (fP S i j) (gP S i j) p = qD S j (p % 4) (bsP S j (p % 4))) := fun z => h24 ((lg_cmp_eq _ _).mpr (congrArg lI z.1))
    refine r_iconst C dX8_isBest_43 (v := nI 0) (by decide) ?_
    exact E.2.2.1 rfl _ _ _ _ dX8_isBest_44 (Or.inl rfl) ⟨_, rfl, ⟨⟨bF (fun q => by have z := (gbp_not hO hp).mp q; exact hne z), (hs1.2.2.1 12 (by decide)).trans hb1, hb4.tr (hs1.wk (by decide) (by decide) (by decide) (by decide))⟩, hM⟩⟩
  · refine r_aload_n C 0 dX8_isBest_27 rfl rfl ?_
    refine r_get C (CN := RX8) (T := TX8) (N := 21) k_36 rfl hin_X8 (j := 15) (by decide) hk_127 rfl rfl dX8_isBest_28 ?_
    refine r_setL (y := (lI (vD S (fP S i j) (gP S i j) p))) (hd1) ?_
    refine r_aload_n C 0 dX8_isBest_31 rfl rfl ?_
    refine r_get C (CN := RX8) (T := TX8) (N := 21) k_36 rfl hin_X8 (j := 19) (by decide) hk_168 rfl rfl dX8_isBest_32 ?_
    refine r_setL (y := (lI (qD S j (p % 4) (bsP S j (p % 4))))) ((hs1.2.2.2 11 (by decide)).trans hb3) ?_
    refine r_lcmp C dX8_isBest_35 ?_
    refine r_if_ne C dX8_isBest_36 (tgt := 43) (by decide) (fun h36 => ?_) (fun h36 => ?_)
    · have hne : ¬ (vN S (fP S i j) (gP S i j) p = qN S j (p % 4) (bsP S j (p % 4)) ∧ vD S (fP S i j) (gP S i j) p = qD S j (p % 4) (bsP S j (p % 4))) := fun z => h36 ((lg_cmp_eq _ _).mpr (congrArg lI z.2))
      refine r_iconst C dX8_isBest_43 (v := nI 0) (by decide) ?_
      exact E.2.2.1 rfl _ _ _ _ dX8_isBest_44 (Or.inl rfl) ⟨_, rfl, ⟨⟨bF (fun q => by have z := (gbp_not hO hp).mp q; exact hne z), (hs1.2.2.1 12 (by decide)).trans hb1, hb4.tr (hs1.wk (by decide) (by decide) (by decide) (by decide))⟩, hM⟩⟩
    · refine r_iconst C dX8_isBest_39 (v := nI 1) (by decide) ?_
      refine r_goto C dX8_isBest_40 (tgt := 44) (by decide) ?_
      exact E.2.2.1 rfl _ _ _ _ dX8_isBest_44 (Or.inr rfl) ⟨_, rfl, ⟨⟨bT ((gbp_not hO hp).mpr ⟨(lI_eq (by omega) (by omega) (by omega) (by omega)).mp ((lg_cmp_eq _ _).mp h24), (lI_eq (by omega) (by omega) (by omega) (by omega)).mp ((lg_cmp_eq _ _).mp h36)⟩), (hs1.2.2.1 12 (by decide)).trans hb1, hb4.tr (hs1.wk (by decide) (by decide) (by decide) (by decide))⟩, hM⟩⟩
def rmX8_rests : Room := { frames := 5, cells := 0, slots := 0, locals := 128 }
theorem pk_X8_rests : Pk yX8_rests RX8 3 := by decide +kernel
set_option maxHeartbeats 4000000 in
set_option maxRecDepth 100000 in
theorem c_X8_rests (l : Launch) (g : gE) (ad : Nat → Nat) (u : Me) (S : Sg) (hM : RepM S u) (hO : Ok S) (i s j t : Nat) (hi : i < sN S) (hs : s < sz S i) (hj : j < sN S) (ht : t < sz S j) (p : Nat) (hp0 : p = 4 * s + t) : Cti l yX8_rests wsX8_rests rmX8_rests g ad [.ref (ad 36), .int (nI (i)), .int (nI (j)), .int (nI (p))] u (fun r u' => (bI (restF S i s j t) = r ∧ Sm [44, 45] [] [10, 11, 12] [8, 9, 10, 11] u u') ∧ RepM S u') := by
  refine Ct.of (cc := cX8_rests) (nL := 4) (ret := (some .boolean)) RX8 (by decide) rfl rfl (Nat.le_of_ble_eq_true rfl) (fun kx C E => ?_)
  show G kx 0 0 (WW g ad u) 0 [(0, .ref (ad 36)), (1, .int (nI (i))), (2, .int (nI (j))), (3, .int (nI (p)))] []
  have hn := hO.n
  have hz1 := (hO.z i).2
  have hz2 := (hO.z j).2
  have e1 : 4 * s + t = p := hp0.symm
  have e2 : 4 * t + s = 4 * (p % 4) + p / 4 := by omega
  have e3 : p % 4 = t := by omega
  have e4 : (4 * (p % 4) + p / 4) % 4 = s := by omega
  have hp : VP S i j p := by rw [← e1]; exact VP_st hO hs ht
  have hp2 : VP S j i (4 * (p % 4) + p / 4) := by rw [← e2]; exact VP_st hO ht hs
  refine r_aload_n C 0 dX8_rests_0 rfl rfl ?_
  refine r_iload_n C 1 dX8_rests_1 rfl rfl ?_
  refine r_iload_n C 2 dX8_rests_2 rfl rfl ?_
  refine r_iload_n C 3 dX8_rests_3 rfl rfl ?_
  refine r_callVi C (rest := []) (c_X8_isBest l g ad u S hM hO i j (by assumption) (by assumption) p (by assumption)) gX8_rests_X8_isBest pk_X8_isBest k_36 dX8_rests_4 rfl rfl rfl rfl ⟨(Nat.le_of_ble_eq_true rfl), (Nat.le_of_ble_eq_true rfl)⟩ rfl rfl (Nat.le_of_ble_eq_true rfl) ⟨(Nat.le_of_ble_eq_true rfl), (Nat.le_of_ble_eq_true rfl)⟩ ?_
  rintro _ i1 ⟨⟨rfl, hi1, hs1⟩, hM⟩
  refine r_ifB_eq C dX8_rests_7 (tgt := 27) (by decide) (fun h7 => ?_) (fun h7 => ?_)
  · refine r_iconst C dX8_rests_27 (v := nI 0) (by decide) ?_
    exact E.2.2.1 rfl _ _ _ _ dX8_rests_28 (Or.inl rfl) ⟨_, rfl, ⟨⟨bF (fun q => by unfold restF at q; rw [e1, e2, ← e3, ← e4] at q; first | exact h7 q.1 | exact h20 q.2), hs1⟩, hM⟩⟩
  · refine r_aload_n C 0 dX8_rests_10 rfl rfl ?_
    refine r_iload_n C 2 dX8_rests_11 rfl rfl ?_
    refine r_iload_n C 1 dX8_rests_12 rfl rfl ?_
    refine r_iload_n C 3 dX8_rests_13 rfl rfl ?_
    refine r_callSi C (rest := [.int (nI (i)), .int (nI (j)), .ref (ad 36)]) (c_X8_turned l g ad i1 p (by omega)) gX8_rests_X8_turned pk_X8_turned dX8_rests_14 rfl rfl rfl rfl ⟨(Nat.le_of_ble_eq_true rfl), (Nat.le_of_ble_eq_true rfl)⟩ rfl (Nat.le_of_ble_eq_true rfl) ⟨(Nat.le_of_ble_eq_true rfl), (Nat.le_of_ble_eq_true rfl)⟩ ?_
    rintro _ _ ⟨rfl, rfl⟩
    refine r_callVi C (rest := []) (c_X8_isBest l g ad i1 S hM hO j i (by assumption) (by assumption) (4 * (p % 4) + p / 4) (by assumption)) gX8_rests_X8_isBest pk_X8_isBest k_36 dX8_rests_17 rfl rfl rfl rfl ⟨(Nat.le_of_ble_eq_true rfl), (Nat.le_of_ble_eq_true rfl)⟩ rfl rfl (Nat.le_of_ble_eq_true rfl) ⟨(Nat.le_of_ble_eq_true rfl), (Nat.le_of_ble_eq_true rfl)⟩ ?_
    rintro _ i2 ⟨⟨rfl, hi2, hs2⟩, hM⟩
    refine r_ifB_eq C dX8_rests_20 (tgt := 27) (by decide) (fun h20 => ?_) (fun h20 => ?_)
    · refine r_iconst C dX8_rests_27 (v := nI 0) (by decide) ?_
      exact E.2.2.1 rfl _ _ _ _ dX8_rests_28 (Or.inl rfl) ⟨_, rfl, ⟨⟨bF (fun q => by unfold restF at q; rw [e1, e2, ← e3, ← e4] at q; first | exact h7 q.1 | exact h20 q.2), hs1.tr hs2⟩, hM⟩⟩
    · refine r_iconst C dX8_rests_23 (v := nI 1) (by decide) ?_
      refine r_goto C dX8_rests_24 (tgt := 28) (by decide) ?_
      exact E.2.2.1 rfl _ _ _ _ dX8_rests_28 (Or.inr rfl) ⟨_, rfl, ⟨⟨bT (by unfold restF; rw [e1, e2, ← e3, ← e4]; exact ⟨h7, h20⟩), hs1.tr hs2⟩, hM⟩⟩
def rmX8_firstThatMoves : Room := { frames := 6, cells := 0, slots := 0, locals := 151 }
theorem pk_X8_firstThatMoves : Pk yX8_firstThatMoves RX8 2 := by decide +kernel
set_option maxHeartbeats 4000000 in
set_option maxRecDepth 100000 in
theorem c_X8_firstThatMoves (l : Launch) (g : gE) (ad : Nat → Nat) (u : Me) (S : Sg) (hM : RepM S u) (hO : Ok S) (i j : Nat) (hi : i < sN S) (hj : j < sN S) : Cti l yX8_firstThatMoves wsX8_firstThatMoves rmX8_firstThatMoves g ad [.ref (ad 36), .int (nI (i)), .int (nI (j))] u (fun r u' => ((match unr S i j with | some p => nI p | none => (-4 : Int32)) = r ∧ Sm [44, 45] [] [10, 11, 12] [8, 9, 10, 11] u u') ∧ RepM S u') := by
  refine Ct.of (cc := cX8_firstThatMoves) (nL := 5) (ret := (some .int)) RX8 (by decide) rfl rfl (Nat.le_of_ble_eq_true rfl) (fun kx C E => ?_)
  have hin_X8 : ∀ w ∈ u_ws RX8 TX8 21, w ∈ wsX8_firstThatMoves := by decide +kernel
  have hk_20 : Cond.fieldLink RX8 20 "AgainAgainModel" "many" "[I" ∈ wsX8_firstThatMoves := by decide +kernel
  show G kx 0 0 (WW g ad u) 0 [(0, .ref (ad 36)), (1, .int (nI (i))), (2, .int (nI (j)))] []
  have hn := hO.n
  have hz1 := (hO.z i).2
  have hz2 := (hO.z j).2
  refine r_iconst C dX8_firstThatMoves_0 (v := nI 0) (by decide) ?_
  refine r_istore_n C [(0, .ref (ad 36)), (1, .int (nI (i))), (2, .int (nI (j))), (3, .int (nI (0)))] [1, 2, 3, 0] dX8_firstThatMoves_1 rfl (by decide) rfl ?_
  have L2 : ∀ (fu : Nat) (s : Nat) (v : Me), sz S i < s + fu → (s ≤ sz S i) → (Sm [44, 45] [] [10, 11, 12] [8, 9, 10, 11] u v) → (RepM S v) → (∀ c, c < 4 * s → VP S i j c → restF S i (c / 4) j (c % 4)) → G kx 0 0 (WW g ad v) 2 [(0, .ref (ad 36)), (1, .int (nI (i))), (2, .int (nI (j))), (3, .int (nI (s)))] [] := by
    intro fu
    induction fu with
    | zero => intro s v hfu hsi hv hM hP; exact absurd hfu (by omega)
    | succ fu ih =>
      intro s v hfu hsi hv hM hP
      refine r_iload_n C 3 dX8_firstThatMoves_2 rfl rfl ?_
      refine r_aload_n C 0 dX8_firstThatMoves_3 rfl rfl ?_
      refine r_get C (CN := RX8) (T := TX8) (N := 21) k_36 rfl hin_X8 (j := 4) (by decide) hk_20 rfl rfl dX8_firstThatMoves_4 ?_
      refine r_iload_n C 1 dX8_firstThatMoves_7 rfl rfl ?_
      refine r_iald C k_38 (by omega) (by omega) dX8_firstThatMoves_8 ?_
      refine r_setI (y := (nI (sz S i))) (hM.z (by first | assumption | omega)) ?_
      refine r_icmpN_ge C dX8_firstThatMoves_9 (tgt := 60) (by decide) (by omega) (by omega) (fun h9 => ?_) (fun h9 => ?_)
      · refine r_bipush C dX8_firstThatMoves_60 (v := (-4)) (by decide) ?_
        exact E.2.1 rfl _ _ _ _ dX8_firstThatMoves_62 ⟨_, rfl, ⟨⟨by rw [show unr S i j = none from mn_none (fun c q => q.2 (hP c (by have := q.1.1; omega) q.1))], hv⟩, hM⟩⟩
      · have hs : s < sz S i := by omega
        refine r_iconst C dX8_firstThatMoves_12 (v := nI 0) (by decide) ?_
        refine r_istore C [(0, .ref (ad 36)), (1, .int (nI (i))), (2, .int (nI (j))), (3, .int (nI (s))), (4, .int (nI (0)))] [1, 2, 3, 4, 0] dX8_firstThatMoves_13 (by decide) rfl ?_
        have iho := ih
        have L15 : ∀ (fu : Nat) (t : Nat) (v : Me), sz S j < t + fu → (t ≤ sz S j) → (Sm [44, 45] [] [10, 11, 12] [8, 9, 10, 11] u v) → (RepM S v) → (∀ c, c < 4 * s + t → VP S i j c → restF S i (c / 4) j (c % 4)) → G kx 0 0 (WW g ad v) 15 [(0, .ref (ad 36)), (1, .int (nI (i))), (2, .int (nI (j))), (3, .int (nI (s))), (4, .int (nI (t)))] [] := by
          intro fu
          induction fu with
          | zero => intro t v hfu htj hv hM hP; exact absurd hfu (by omega)
          | succ fu ih =>
            intro t v hfu htj hv hM hP
            refine r_iload C 4 dX8_firstThatMoves_15 rfl ?_
            refine r_aload_n C 0 dX8_firstThatMoves_17 rfl rfl ?_
            refine r_get C (CN := RX8) (T := TX8) (N := 21) k_36 rfl hin_X8 (j := 4) (by decide) hk_20 rfl rfl dX8_firstThatMoves_18 ?_
            refine r_iload_n C 2 dX8_firstThatMoves_21 rfl rfl ?_
            refine r_iald C k_38 (by omega) (by omega) dX8_firstThatMoves_22 ?_
            refine r_setI (y := (nI (sz S j))) (hM.z (by first | assumption | omega)) ?_
            refine r_icmpN_ge C dX8_firstThatMoves_23 (tgt := 54) (by decide) (by omega) (by omega) (fun h23 => ?_) (fun h23 => ?_)
            · refine r_iinc C [(0, .ref (ad 36)), (1, .int (nI (i))), (2, .int (nI (j))), (3, .int (nI (s + 1))), (4, .int (nI (t)))] [1, 2, 3, 0, 4] 3 dX8_firstThatMoves_54 rfl (nI_add _ 1) (by decide) rfl ?_
              refine r_goto C dX8_firstThatMoves_57 (tgt := 2) (by decide) ?_
              refine r_lvs C [0, 1, 2, 3] (lv' := [(0, .ref (ad 36)), (1, .int (nI (i))), (2, .int (nI (j))), (3, .int (nI (s + 1)))]) rfl ?_
              exact iho (s + 1) v (by omega) (by omega) hv hM (fun c hc hV => hP c (by have := hV.2; have := hV.1; omega) hV)
            · have ht : t < sz S j := by omega
              refine r_aload_n C 0 dX8_firstThatMoves_26 rfl rfl ?_
              refine r_iload_n C 1 dX8_firstThatMoves_27 rfl rfl ?_
              refine r_iload_n C 2 dX8_firstThatMoves_28 rfl rfl ?_
              refine r_iconst C dX8_firstThatMoves_29 (v := nI 4) (by decide) ?_
              refine r_iload_n C 3 dX8_firstThatMoves_30 rfl rfl ?_
              refine r_imulN C dX8_firstThatMoves_31 ?_
              refine r_iload C 4 dX8_firstThatMoves_32 rfl ?_
              refine r_iaddN C dX8_firstThatMoves_34 ?_
              refine r_callVi C (rest := []) (c_X8_rests l g ad v S hM hO i s j t (by first | assumption | omega) hs (by first | assumption | omega) ht ((4 * s) + t) rfl) gX8_firstThatMoves_X8_rests pk_X8_rests k_36 dX8_firstThatMoves_35 rfl rfl rfl rfl ⟨(Nat.le_of_ble_eq_true rfl), (Nat.le_of_ble_eq_true rfl)⟩ rfl rfl (Nat.le_of_ble_eq_true rfl) ⟨(Nat.le_of_ble_eq_true rfl), (Nat.le_of_ble_eq_true rfl)⟩ ?_
              rintro _ f1 ⟨⟨rfl, hf1⟩, hM⟩
              refine r_ifB_ne C dX8_firstThatMoves_38 (tgt := 48) (by decide) (fun h38 => ?_) (fun h38 => ?_)
              · refine r_iinc C [(0, .ref (ad 36)), (1, .int (nI (i))), (2, .int (nI (j))), (3, .int (nI (s))), (4, .int (nI (t + 1)))] [1, 2, 3, 4, 0] 4 dX8_firstThatMoves_48 rfl (nI_add _ 1) (by decide) rfl ?_
                refine r_goto C dX8_firstThatMoves_51 (tgt := 15) (by decide) ?_
                exact ih (t + 1) _ (by omega) (by omega) (hv.tr hf1) hM (fun c hc hV => by
                  rcases Nat.lt_or_ge c (4 * s + t) with z | z
                  · exact hP c z hV
                  · have e1 : c / 4 = s := by omega
                    have e2 : c % 4 = t := by omega
                    rw [e1, e2]; exact h38)
              · refine r_iconst C dX8_firstThatMoves_41 (v := nI 4) (by decide) ?_
                refine r_iload_n C 3 dX8_firstThatMoves_42 rfl rfl ?_
                refine r_imulN C dX8_firstThatMoves_43 ?_
                refine r_iload C 4 dX8_firstThatMoves_44 rfl ?_
                refine r_iaddN C dX8_firstThatMoves_46 ?_
                exact E.2.1 rfl _ _ _ _ dX8_firstThatMoves_47 ⟨_, rfl, ⟨⟨by rw [show unr S i j = some (4 * s + t) from mn_some ⟨VP_st hO hs ht, by rw [show (4 * s + t) / 4 = s by omega, show (4 * s + t) % 4 = t by omega]; exact h38⟩ (fun c hc q => q.2 (hP c hc q.1))], hv.tr hf1⟩, hM⟩⟩
        exact L15 (sz S j + 1) 0 v (by omega) (by omega) hv hM (fun c hc hV => hP c (by omega) hV)
  exact L2 (sz S i + 1) 0 u (by omega) (by omega) Sm.rf hM (fun c hc => absurd hc (by omega))
