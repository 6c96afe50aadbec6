
/-! leaves of the class -/
theorem lnC_there {v : Nat} (h : ¬ lnC v = -1) : ¬ v = 0 := by
  rintro rfl; exact h rfl
theorem lnC_not {v : Nat} (hv : v ≤ 3) (h : lnC v = -1) : v = 0 := by
  rcases (show v = 0 ∨ v = 1 ∨ v = 2 ∨ v = 3 by omega) with rfl | rfl | rfl | rfl
  · rfl
  · exact absurd h (by decide)
  · exact absurd h (by decide)
  · exact absurd h (by decide)
def lowB (v : Nat) (x : Int32) : Int32 := if v = 0 then x.toInt8.toInt32 else if v = 1 then x.toInt16.toInt32 else x
theorem cmp_a {x y : Int64} (h : ¬ 0 ≤ lg_cmp x y) : lg_cmp x y = -1 := by
  unfold lg_cmp at *; split
  · rename_i q; rw [if_pos q] at h; exact absurd (by decide) h
  · rename_i q; split
    · rename_i q2; rw [if_neg q, if_pos q2] at h; exact absurd (by decide) h
    · rfl
theorem cmp_b {x y : Int64} (h : 0 ≤ lg_cmp x y) (h2 : lg_cmp x y = 0) : lg_cmp x y = nI 0 := h2
theorem cmp_c {x y : Int64} (h : 0 ≤ lg_cmp x y) (h2 : ¬ lg_cmp x y = 0) : lg_cmp x y = nI 1 := by
  unfold lg_cmp at *; split
  · rfl
  · rename_i q; split
    · rename_i q2; rw [if_neg q, if_pos q2] at h2; exact absurd rfl h2
    · rename_i q2; rw [if_neg q, if_neg q2] at h; exact absurd h (by decide)
def rmX7_within : Room := { frames := 0, cells := 0, slots := 0, locals := 0 }
theorem pk_X7_within : Pk yX7_within RX7 3 := by decide +kernel
set_option maxHeartbeats 4000000 in
set_option maxRecDepth 100000 in
theorem c_X7_within (l : Launch) (g : gE) (ad : Nat → Nat) (u : Me) (x y z : Int32) : Cti l yX7_within wsX7_within rmX7_within g ad [.int (x), .int (y), .int (z)] u (fun r u' => bI (y ≤ x ∧ x ≤ z) = r ∧ u = u') := by
  refine Ct.of (cc := cX7_within) (nL := 3) (ret := (some .boolean)) RX7 (by decide) rfl rfl (Nat.le_of_ble_eq_true rfl) (fun kx C E => ?_)
  show G kx 0 0 (WW g ad u) 0 [(0, .int (x)), (1, .int (y)), (2, .int (z))] []
  refine r_iload_n C 0 dX7_within_0 rfl rfl ?_
  refine r_iload_n C 1 dX7_within_1 rfl rfl ?_
  refine r_icmp_lt C dX7_within_2 (tgt := 14) (by decide) (fun h2 => ?_) (fun h2 => ?_)
  · refine r_iconst C dX7_within_14 (v := nI 0) (by decide) ?_
    exact E.2.2.1 rfl _ _ _ _ dX7_within_15 (Or.inl rfl) ⟨_, rfl, ⟨bF (fun q => by first | exact absurd q.1 (Int32.not_le.mpr h2) | exact absurd q.2 (Int32.not_le.mpr h7)), rfl⟩⟩
  · refine r_iload_n C 0 dX7_within_5 rfl rfl ?_
    refine r_iload_n C 2 dX7_within_6 rfl rfl ?_
    refine r_icmp_gt C dX7_within_7 (tgt := 14) (by decide) (fun h7 => ?_) (fun h7 => ?_)
    · refine r_iconst C dX7_within_14 (v := nI 0) (by decide) ?_
      exact E.2.2.1 rfl _ _ _ _ dX7_within_15 (Or.inl rfl) ⟨_, rfl, ⟨bF (fun q => by first | exact absurd q.1 (Int32.not_le.mpr h2) | exact absurd q.2 (Int32.not_le.mpr h7)), rfl⟩⟩
    · refine r_iconst C dX7_within_10 (v := nI 1) (by decide) ?_
      refine r_goto C dX7_within_11 (tgt := 15) (by decide) ?_
      exact E.2.2.1 rfl _ _ _ _ dX7_within_15 (Or.inr rfl) ⟨_, rfl, ⟨bT (⟨Int32.not_lt.mp h2, Int32.not_lt.mp h7⟩), rfl⟩⟩
def rmX7_isAction : Room := { frames := 1, cells := 0, slots := 0, locals := 22 }
theorem pk_X7_isAction : Pk yX7_isAction RX7 1 := by decide +kernel
set_option maxHeartbeats 4000000 in
set_option maxRecDepth 100000 in
theorem c_X7_isAction (l : Launch) (g : gE) (ad : Nat → Nat) (u : Me) (x : Int32) : Cti l yX7_isAction wsX7_isAction rmX7_isAction g ad [.int (x)] u (fun r u' => bI (isR 3 x) = r ∧ u = u') := by
  refine Ct.of (cc := cX7_isAction) (nL := 1) (ret := (some .boolean)) RX7 (by decide) rfl rfl (Nat.le_of_ble_eq_true rfl) (fun kx C E => ?_)
  show G kx 0 0 (WW g ad u) 0 [(0, .int (x))] []
  refine r_iload_n C 0 dX7_isAction_0 rfl rfl ?_
  refine r_iconst C dX7_isAction_1 (v := nI 0) (by decide) ?_
  refine r_iconst C dX7_isAction_2 (v := nI 2) (by decide) ?_
  refine r_callSi C (rest := []) (c_X7_within l g ad u x (nI 0) (nI 2)) gX7_isAction_X7_within pk_X7_within dX7_isAction_3 rfl rfl rfl rfl ⟨(Nat.le_of_ble_eq_true rfl), (Nat.le_of_ble_eq_true rfl)⟩ rfl (Nat.le_of_ble_eq_true rfl) ⟨(Nat.le_of_ble_eq_true rfl), (Nat.le_of_ble_eq_true rfl)⟩ ?_
  rintro _ _ ⟨rfl, rfl⟩
  refine r_setI (y := (bI (isR 3 x))) (bI_iff (isR_iff (n := 2) (by decide))) ?_
  exact E.2.2.1 rfl _ _ _ _ dX7_isAction_6 (bI_01 _) ⟨_, rfl, ⟨rfl, rfl⟩⟩
def rmX7_oneIf : Room := { frames := 0, cells := 0, slots := 0, locals := 0 }
theorem pk_X7_oneIf : Pk yX7_oneIf RX7 1 := by decide +kernel
set_option maxHeartbeats 4000000 in
set_option maxRecDepth 100000 in
theorem c_X7_oneIf (l : Launch) (g : gE) (ad : Nat → Nat) (u : Me) (P : Prop) : Cti l yX7_oneIf wsX7_oneIf rmX7_oneIf g ad [.int (bI (P))] u (fun r u' => bI P = r ∧ u = u') := by
  refine Ct.of (cc := cX7_oneIf) (nL := 1) (ret := (some .int)) RX7 (by decide) rfl rfl (Nat.le_of_ble_eq_true rfl) (fun kx C E => ?_)
  show G kx 0 0 (WW g ad u) 0 [(0, .int (bI (P)))] []
  refine r_iload_n C 0 dX7_oneIf_0 rfl rfl ?_
  refine r_ifB_eq C dX7_oneIf_1 (tgt := 8) (by decide) (fun h1 => ?_) (fun h1 => ?_)
  · refine r_iconst C dX7_oneIf_8 (v := nI 0) (by decide) ?_
    exact E.2.1 rfl _ _ _ _ dX7_oneIf_9 ⟨_, rfl, ⟨bF (h1), rfl⟩⟩
  · refine r_iconst C dX7_oneIf_4 (v := nI 1) (by decide) ?_
    refine r_goto C dX7_oneIf_5 (tgt := 9) (by decide) ?_
    exact E.2.1 rfl _ _ _ _ dX7_oneIf_9 ⟨_, rfl, ⟨bT (h1), rfl⟩⟩
def rmX0_setGain : Room := { frames := 0, cells := 0, slots := 0, locals := 0 }
theorem pk_X0_setGain : Pk yX0_setGain RX0 3 := by decide +kernel
set_option maxHeartbeats 4000000 in
set_option maxRecDepth 100000 in
theorem c_X0_setGain (l : Launch) (g : gE) (ad : Nat → Nat) (u : Me) (a b : Nat) (v : Int32) (ha : a < 3) (hb : b < 3) : Ctv l yX0_setGain wsX0_setGain rmX0_setGain g ad [.ref (ad 1), .int (nI (a)), .int (nI (b)), .int (v)] u (fun u' => sA u 2 (upd (mA u 2) (3 * a + b) v) = u') := by
  refine Ct.of (cc := cX0_setGain) (nL := 4) (ret := none) RX0 (by decide) rfl rfl (Nat.le_of_ble_eq_true rfl) (fun kx C E => ?_)
  have hin_X0 : ∀ w ∈ u_ws RX0 TX0 3, w ∈ wsX0_setGain := by decide +kernel
  have hk_9 : Cond.fieldLink RX0 9 "AgainAgain$Game" "gains" "[I" ∈ wsX0_setGain := by decide +kernel
  show G kx 0 0 (WW g ad u) 0 [(0, .ref (ad 1)), (1, .int (nI (a))), (2, .int (nI (b))), (3, .int (v))] []
  refine r_aload_n C 0 dX0_setGain_0 rfl rfl ?_
  refine r_get C (CN := RX0) (T := TX0) (N := 3) k_1 rfl hin_X0 (j := 0) (by decide) hk_9 rfl rfl dX0_setGain_1 ?_
  refine r_iconst C dX0_setGain_4 (v := nI 3) (by decide) ?_
  refine r_iload_n C 1 dX0_setGain_5 rfl rfl ?_
  refine r_imulN C dX0_setGain_6 ?_
  refine r_iload_n C 2 dX0_setGain_7 rfl rfl ?_
  refine r_iaddN C dX0_setGain_8 ?_
  refine r_iload_n C 3 dX0_setGain_9 rfl rfl ?_
  refine r_iast C k_2 (by omega) (by omega) dX0_setGain_10 ?_
  exact E.1 rfl _ _ _ dX0_setGain_11 ⟨rfl, rfl⟩
def rmX0_gain : Room := { frames := 0, cells := 0, slots := 0, locals := 0 }
theorem pk_X0_gain : Pk yX0_gain RX0 2 := by decide +kernel
set_option maxHeartbeats 4000000 in
set_option maxRecDepth 100000 in
theorem c_X0_gain (l : Launch) (g : gE) (ad : Nat → Nat) (u : Me) (S : Sg) (hC : RepC S u) (a b : Nat) (ha : a < 3) (hb : b < 3) : Cti l yX0_gain wsX0_gain rmX0_gain g ad [.ref (ad 1), .int (nI (a)), .int (nI (b))] u (fun r u' => iI (sp S a b) = r ∧ u = u') := by
  refine Ct.of (cc := cX0_gain) (nL := 3) (ret := (some .int)) RX0 (by decide) rfl rfl (Nat.le_of_ble_eq_true rfl) (fun kx C E => ?_)
  have hin_X0 : ∀ w ∈ u_ws RX0 TX0 3, w ∈ wsX0_gain := by decide +kernel
  have hk_9 : Cond.fieldLink RX0 9 "AgainAgain$Game" "gains" "[I" ∈ wsX0_gain := by decide +kernel
  show G kx 0 0 (WW g ad u) 0 [(0, .ref (ad 1)), (1, .int (nI (a))), (2, .int (nI (b)))] []
  refine r_aload_n C 0 dX0_gain_0 rfl rfl ?_
  refine r_get C (CN := RX0) (T := TX0) (N := 3) k_1 rfl hin_X0 (j := 0) (by decide) hk_9 rfl rfl dX0_gain_1 ?_
  refine r_iconst C dX0_gain_4 (v := nI 3) (by decide) ?_
  refine r_iload_n C 1 dX0_gain_5 rfl rfl ?_
  refine r_imulN C dX0_gain_6 ?_
  refine r_iload_n C 2 dX0_gain_7 rfl rfl ?_
  refine r_iaddN C dX0_gain_8 ?_
  refine r_iald C k_2 (by omega) (by omega) dX0_gain_9 ?_
  refine r_setI (y := (iI (sp S a b))) (hC.p ha hb) ?_
  exact E.2.1 rfl _ _ _ _ dX0_gain_10 ⟨_, rfl, ⟨rfl, rfl⟩⟩
def rmX0_setRate : Room := { frames := 0, cells := 0, slots := 0, locals := 0 }
theorem pk_X0_setRate : Pk yX0_setRate RX0 2 := by decide +kernel
set_option maxHeartbeats 4000000 in
set_option maxRecDepth 100000 in
theorem c_X0_setRate (l : Launch) (g : gE) (ad : Nat → Nat) (u : Me) (p q : Nat) (hp : p < 5) (hq : q < 5) : Ctv l yX0_setRate wsX0_setRate rmX0_setRate g ad [.ref (ad 1), .int (nI (p)), .int (nI (q))] u (fun u' => sL (sL u 0 (lI (p : Nat))) 1 (lI (q : Nat)) = u') := by
  refine Ct.of (cc := cX0_setRate) (nL := 3) (ret := none) RX0 (by decide) rfl rfl (Nat.le_of_ble_eq_true rfl) (fun kx C E => ?_)
  have hin_X0 : ∀ w ∈ u_ws RX0 TX0 3, w ∈ wsX0_setRate := by decide +kernel
  have hk_13 : Cond.fieldLink RX0 13 "AgainAgain$Game" "over" "J" ∈ wsX0_setRate := by decide +kernel
  have hk_19 : Cond.fieldLink RX0 19 "AgainAgain$Game" "under" "J" ∈ wsX0_setRate := by decide +kernel
  show G kx 0 0 (WW g ad u) 0 [(0, .ref (ad 1)), (1, .int (nI (p))), (2, .int (nI (q)))] []
  refine r_aload_n C 0 dX0_setRate_0 rfl rfl ?_
  refine r_iload_n C 1 dX0_setRate_1 rfl rfl ?_
  refine r_i2l C dX0_setRate_2 (v := lI (p : Nat)) (nI_lI (by omega)) ?_
  refine r_putL C (CN := RX0) (T := TX0) (N := 3) fL_0 rfl hin_X0 tyX0 tyX0_ok nmX0 (by decide) hk_13 rfl rfl (by decide +kernel) dX0_setRate_3 ?_
  refine r_aload_n C 0 dX0_setRate_6 rfl rfl ?_
  refine r_iload_n C 2 dX0_setRate_7 rfl rfl ?_
  refine r_i2l C dX0_setRate_8 (v := lI (q : Nat)) (nI_lI (by omega)) ?_
  refine r_putL C (CN := RX0) (T := TX0) (N := 3) fL_1 rfl hin_X0 tyX0 tyX0_ok nmX0 (by decide) hk_19 rfl rfl (by decide +kernel) dX0_setRate_9 ?_
  exact E.1 rfl _ _ _ dX0_setRate_12 ⟨rfl, rfl⟩
def rmX0_rateOver : Room := { frames := 0, cells := 0, slots := 0, locals := 0 }
theorem pk_X0_rateOver : Pk yX0_rateOver RX0 0 := by decide +kernel
set_option maxHeartbeats 4000000 in
set_option maxRecDepth 100000 in
theorem c_X0_rateOver (l : Launch) (g : gE) (ad : Nat → Nat) (u : Me) (S : Sg) (hC : RepC S u) : Ctl l yX0_rateOver wsX0_rateOver rmX0_rateOver g ad [.ref (ad 1)] u (fun r u' => lI (sU S) = r ∧ u = u') := by
  refine Ct.of (cc := cX0_rateOver) (nL := 1) (ret := (some .long)) RX0 (by decide) rfl rfl (Nat.le_of_ble_eq_true rfl) (fun kx C E => ?_)
  have hin_X0 : ∀ w ∈ u_ws RX0 TX0 3, w ∈ wsX0_rateOver := by decide +kernel
  have hk_13 : Cond.fieldLink RX0 13 "AgainAgain$Game" "over" "J" ∈ wsX0_rateOver := by decide +kernel
  show G kx 0 0 (WW g ad u) 0 [(0, .ref (ad 1))] []
  refine r_aload_n C 0 dX0_rateOver_0 rfl rfl ?_
  refine r_get C (CN := RX0) (T := TX0) (N := 3) k_1 rfl hin_X0 (j := 1) (by decide) hk_13 rfl rfl dX0_rateOver_1 ?_
  exact E.2.2.2 rfl _ _ _ _ dX0_rateOver_4 ⟨_, rfl, ⟨hC.u.symm, rfl⟩⟩
def rmX0_rateUnder : Room := { frames := 0, cells := 0, slots := 0, locals := 0 }
theorem pk_X0_rateUnder : Pk yX0_rateUnder RX0 0 := by decide +kernel
set_option maxHeartbeats 4000000 in
set_option maxRecDepth 100000 in
theorem c_X0_rateUnder (l : Launch) (g : gE) (ad : Nat → Nat) (u : Me) (S : Sg) (hC : RepC S u) : Ctl l yX0_rateUnder wsX0_rateUnder rmX0_rateUnder g ad [.ref (ad 1)] u (fun r u' => lI (sB S) = r ∧ u = u') := by
  refine Ct.of (cc := cX0_rateUnder) (nL := 1) (ret := (some .long)) RX0 (by decide) rfl rfl (Nat.le_of_ble_eq_true rfl) (fun kx C E => ?_)
  have hin_X0 : ∀ w ∈ u_ws RX0 TX0 3, w ∈ wsX0_rateUnder := by decide +kernel
  have hk_19 : Cond.fieldLink RX0 19 "AgainAgain$Game" "under" "J" ∈ wsX0_rateUnder := by decide +kernel
  show G kx 0 0 (WW g ad u) 0 [(0, .ref (ad 1))] []
  refine r_aload_n C 0 dX0_rateUnder_0 rfl rfl ?_
  refine r_get C (CN := RX0) (T := TX0) (N := 3) k_1 rfl hin_X0 (j := 2) (by decide) hk_19 rfl rfl dX0_rateUnder_1 ?_
  exact E.2.2.2 rfl _ _ _ _ dX0_rateUnder_4 ⟨_, rfl, ⟨hC.b.symm, rfl⟩⟩
def rmX2_many : Room := { frames := 0, cells := 0, slots := 0, locals := 0 }
theorem pk_X2_many : Pk yX2_many RX2 0 := by decide +kernel
set_option maxHeartbeats 4000000 in
set_option maxRecDepth 100000 in
theorem c_X2_many (l : Launch) (g : gE) (ad : Nat → Nat) (u : Me) (S : Sg) (hC : RepC S u) (hO : Ok S) : Cti l yX2_many wsX2_many rmX2_many g ad [.ref (ad 3)] u (fun r u' => nI (sN S) = r ∧ u = u') := by
  refine Ct.of (cc := cX2_many) (nL := 1) (ret := (some .int)) RX2 (by decide) rfl rfl (Nat.le_of_ble_eq_true rfl) (fun kx C E => ?_)
  have hin_X2 : ∀ w ∈ u_ws RX2 TX2 4, w ∈ wsX2_many := by decide +kernel
  have hk_21 : Cond.fieldLink RX2 21 "AgainAgain$Machines" "many" "I" ∈ wsX2_many := by decide +kernel
  show G kx 0 0 (WW g ad u) 0 [(0, .ref (ad 3))] []
  refine r_aload_n C 0 dX2_many_0 rfl rfl ?_
  refine r_get C (CN := RX2) (T := TX2) (N := 4) k_3 rfl hin_X2 (j := 3) (by decide) hk_21 rfl rfl dX2_many_1 ?_
  refine r_setI (y := (nI (sN S))) (hC.n) ?_
  exact E.2.1 rfl _ _ _ _ dX2_many_4 ⟨_, rfl, ⟨rfl, rfl⟩⟩
def rmX2_isFull : Room := { frames := 0, cells := 0, slots := 0, locals := 0 }
theorem pk_X2_isFull : Pk yX2_isFull RX2 0 := by decide +kernel
set_option maxHeartbeats 4000000 in
set_option maxRecDepth 100000 in
theorem c_X2_isFull (l : Launch) (g : gE) (ad : Nat → Nat) (u : Me) (S : Sg) (hC : RepC S u) (hO : Ok S) : Cti l yX2_isFull wsX2_isFull rmX2_isFull g ad [.ref (ad 3)] u (fun r u' => bI (12 ≤ sN S) = r ∧ u = u') := by
  refine Ct.of (cc := cX2_isFull) (nL := 1) (ret := (some .boolean)) RX2 (by decide) rfl rfl (Nat.le_of_ble_eq_true rfl) (fun kx C E => ?_)
  have hin_X2 : ∀ w ∈ u_ws RX2 TX2 4, w ∈ wsX2_isFull := by decide +kernel
  have hk_21 : Cond.fieldLink RX2 21 "AgainAgain$Machines" "many" "I" ∈ wsX2_isFull := by decide +kernel
  show G kx 0 0 (WW g ad u) 0 [(0, .ref (ad 3))] []
  have hn := hO.n
  refine r_aload_n C 0 dX2_isFull_0 rfl rfl ?_
  refine r_get C (CN := RX2) (T := TX2) (N := 4) k_3 rfl hin_X2 (j := 3) (by decide) hk_21 rfl rfl dX2_isFull_1 ?_
  refine r_setI (y := (nI (sN S))) (hC.n) ?_
  refine r_bipush C dX2_isFull_4 (v := nI 12) (by decide) ?_
  refine r_icmpN_lt C dX2_isFull_6 (tgt := 13) (by decide) (by omega) (by omega) (fun h6 => ?_) (fun h6 => ?_)
  · refine r_iconst C dX2_isFull_13 (v := nI 0) (by decide) ?_
    exact E.2.2.1 rfl _ _ _ _ dX2_isFull_14 (Or.inl rfl) ⟨_, rfl, ⟨bF (by omega), rfl⟩⟩
  · refine r_iconst C dX2_isFull_9 (v := nI 1) (by decide) ?_
    refine r_goto C dX2_isFull_10 (tgt := 14) (by decide) ?_
    exact E.2.2.1 rfl _ _ _ _ dX2_isFull_14 (Or.inr rfl) ⟨_, rfl, ⟨bT (by omega), rfl⟩⟩
def rmX2_has : Room := { frames := 0, cells := 0, slots := 0, locals := 0 }
theorem pk_X2_has : Pk yX2_has RX2 1 := by decide +kernel
set_option maxHeartbeats 4000000 in
set_option maxRecDepth 100000 in
theorem c_X2_has (l : Launch) (g : gE) (ad : Nat → Nat) (u : Me) (S : Sg) (hC : RepC S u) (hO : Ok S) (m : Int32) : Cti l yX2_has wsX2_has rmX2_has g ad [.ref (ad 3), .int (m)] u (fun r u' => bI (isM S m) = r ∧ u = u') := by
  refine Ct.of (cc := cX2_has) (nL := 2) (ret := (some .boolean)) RX2 (by decide) rfl rfl (Nat.le_of_ble_eq_true rfl) (fun kx C E => ?_)
  have hin_X2 : ∀ w ∈ u_ws RX2 TX2 4, w ∈ wsX2_has := by decide +kernel
  have hk_21 : Cond.fieldLink RX2 21 "AgainAgain$Machines" "many" "I" ∈ wsX2_has := by decide +kernel
  show G kx 0 0 (WW g ad u) 0 [(0, .ref (ad 3)), (1, .int (m))] []
  have hn := hO.n
  refine r_iload_n C 1 dX2_has_0 rfl rfl ?_
  refine r_if_lt C dX2_has_1 (tgt := 16) (by decide) (fun h1 => ?_) (fun h1 => ?_)
  · refine r_iconst C dX2_has_16 (v := nI 0) (by decide) ?_
    exact E.2.2.1 rfl _ _ _ _ dX2_has_17 (Or.inl rfl) ⟨_, rfl, ⟨bF (by first | exact isR_f1 (by omega) h1 | exact isR_f2 (by omega) h9), rfl⟩⟩
  · refine r_iload_n C 1 dX2_has_4 rfl rfl ?_
    refine r_aload_n C 0 dX2_has_5 rfl rfl ?_
    refine r_get C (CN := RX2) (T := TX2) (N := 4) k_3 rfl hin_X2 (j := 3) (by decide) hk_21 rfl rfl dX2_has_6 ?_
    refine r_setI (y := (nI (sN S))) (hC.n) ?_
    refine r_icmp_ge C dX2_has_9 (tgt := 16) (by decide) (fun h9 => ?_) (fun h9 => ?_)
    · refine r_iconst C dX2_has_16 (v := nI 0) (by decide) ?_
      exact E.2.2.1 rfl _ _ _ _ dX2_has_17 (Or.inl rfl) ⟨_, rfl, ⟨bF (by first | exact isR_f1 (by omega) h1 | exact isR_f2 (by omega) h9), rfl⟩⟩
    · refine r_iconst C dX2_has_12 (v := nI 1) (by decide) ?_
      refine r_goto C dX2_has_13 (tgt := 17) (by decide) ?_
      exact E.2.2.1 rfl _ _ _ _ dX2_has_17 (Or.inr rfl) ⟨_, rfl, ⟨bT (isR_t (by omega) h1 h9), rfl⟩⟩
def rmX2_hasState : Room := { frames := 1, cells := 0, slots := 0, locals := 21 }
theorem pk_X2_hasState : Pk yX2_hasState RX2 2 := by decide +kernel
set_option maxHeartbeats 4000000 in
set_option maxRecDepth 100000 in
theorem c_X2_hasState (l : Launch) (g : gE) (ad : Nat → Nat) (u : Me) (S : Sg) (hC : RepC S u) (hO : Ok S) (m s : Int32) : Cti l yX2_hasState wsX2_hasState rmX2_hasState g ad [.ref (ad 3), .int (m), .int (s)] u (fun r u' => bI (isS S m s) = r ∧ u = u') := by
  refine Ct.of (cc := cX2_hasState) (nL := 3) (ret := (some .boolean)) RX2 (by decide) rfl rfl (Nat.le_of_ble_eq_true rfl) (fun kx C E => ?_)
  have hin_X2 : ∀ w ∈ u_ws RX2 TX2 4, w ∈ wsX2_hasState := by decide +kernel
  have hk_9 : Cond.fieldLink RX2 9 "AgainAgain$Machines" "sizes" "[I" ∈ wsX2_hasState := by decide +kernel
  show G kx 0 0 (WW g ad u) 0 [(0, .ref (ad 3)), (1, .int (m)), (2, .int (s))] []
  refine r_aload_n C 0 dX2_hasState_0 rfl rfl ?_
  refine r_iload_n C 1 dX2_hasState_1 rfl rfl ?_
  refine r_callVi C (rest := []) (c_X2_has l g ad u S hC hO m) gX2_hasState_X2_has pk_X2_has k_3 dX2_hasState_2 rfl rfl rfl rfl ⟨(Nat.le_of_ble_eq_true rfl), (Nat.le_of_ble_eq_true rfl)⟩ rfl rfl (Nat.le_of_ble_eq_true rfl) ⟨(Nat.le_of_ble_eq_true rfl), (Nat.le_of_ble_eq_true rfl)⟩ ?_
  rintro _ _ ⟨rfl, rfl⟩
  refine r_ifB_eq C dX2_hasState_5 (tgt := 26) (by decide) (fun h5 => ?_) (fun h5 => ?_)
  · refine r_iconst C dX2_hasState_26 (v := nI 0) (by decide) ?_
    exact E.2.2.1 rfl _ _ _ _ dX2_hasState_27 (Or.inl rfl) ⟨_, rfl, ⟨bF (by first | exact isS_f1 h5 | exact fun q => isR_f1 (by omega) h9 ((isS_iff hO hi).mp q) | exact fun q => isR_f2 (by omega) h19 ((isS_iff hO hi).mp q)), rfl⟩⟩
  · obtain ⟨i, hi, rfl⟩ := h5
    have hz := hO.z i
    have hn := hO.n
    refine r_iload_n C 2 dX2_hasState_8 rfl rfl ?_
    refine r_if_lt C dX2_hasState_9 (tgt := 26) (by decide) (fun h9 => ?_) (fun h9 => ?_)
    · refine r_iconst C dX2_hasState_26 (v := nI 0) (by decide) ?_
      exact E.2.2.1 rfl _ _ _ _ dX2_hasState_27 (Or.inl rfl) ⟨_, rfl, ⟨bF (by first | exact isS_f1 h5 | exact fun q => isR_f1 (by omega) h9 ((isS_iff hO hi).mp q) | exact fun q => isR_f2 (by omega) h19 ((isS_iff hO hi).mp q)), rfl⟩⟩
    · refine r_iload_n C 2 dX2_hasState_12 rfl rfl ?_
      refine r_aload_n C 0 dX2_hasState_13 rfl rfl ?_
      refine r_get C (CN := RX2) (T := TX2) (N := 4) k_3 rfl hin_X2 (j := 0) (by decide) hk_9 rfl rfl dX2_hasState_14 ?_
      refine r_iload_n C 1 dX2_hasState_17 rfl rfl ?_
      refine r_iald C k_4 (by omega) (by omega) dX2_hasState_18 ?_
      refine r_setI (y := (nI (sz S i))) (hC.z hi) ?_
      refine r_icmp_ge C dX2_hasState_19 (tgt := 26) (by decide) (fun h19 => ?_) (fun h19 => ?_)
      · refine r_iconst C dX2_hasState_26 (v := nI 0) (by decide) ?_
        exact E.2.2.1 rfl _ _ _ _ dX2_hasState_27 (Or.inl rfl) ⟨_, rfl, ⟨bF (by first | exact isS_f1 h5 | exact fun q => isR_f1 (by omega) h9 ((isS_iff hO hi).mp q) | exact fun q => isR_f2 (by omega) h19 ((isS_iff hO hi).mp q)), rfl⟩⟩
      · refine r_iconst C dX2_hasState_22 (v := nI 1) (by decide) ?_
        refine r_goto C dX2_hasState_23 (tgt := 27) (by decide) ?_
        exact E.2.2.1 rfl _ _ _ _ dX2_hasState_27 (Or.inr rfl) ⟨_, rfl, ⟨bT ((isS_iff hO hi).mpr (isR_t (by omega) h9 h19)), rfl⟩⟩
def rmX2_statesOf : Room := { frames := 0, cells := 0, slots := 0, locals := 0 }
theorem pk_X2_statesOf : Pk yX2_statesOf RX2 1 := by decide +kernel
set_option maxHeartbeats 4000000 in
set_option maxRecDepth 100000 in
theorem c_X2_statesOf (l : Launch) (g : gE) (ad : Nat → Nat) (u : Me) (S : Sg) (hC : RepC S u) (hO : Ok S) (m : Nat) (hm : m < sN S) : Cti l yX2_statesOf wsX2_statesOf rmX2_statesOf g ad [.ref (ad 3), .int (nI (m))] u (fun r u' => nI (sz S m) = r ∧ u = u') := by
  refine Ct.of (cc := cX2_statesOf) (nL := 2) (ret := (some .int)) RX2 (by decide) rfl rfl (Nat.le_of_ble_eq_true rfl) (fun kx C E => ?_)
  have hin_X2 : ∀ w ∈ u_ws RX2 TX2 4, w ∈ wsX2_statesOf := by decide +kernel
  have hk_9 : Cond.fieldLink RX2 9 "AgainAgain$Machines" "sizes" "[I" ∈ wsX2_statesOf := by decide +kernel
  show G kx 0 0 (WW g ad u) 0 [(0, .ref (ad 3)), (1, .int (nI (m)))] []
  have hn := hO.n
  refine r_aload_n C 0 dX2_statesOf_0 rfl rfl ?_
  refine r_get C (CN := RX2) (T := TX2) (N := 4) k_3 rfl hin_X2 (j := 0) (by decide) hk_9 rfl rfl dX2_statesOf_1 ?_
  refine r_iload_n C 1 dX2_statesOf_4 rfl rfl ?_
  refine r_iald C k_4 (by omega) (by omega) dX2_statesOf_5 ?_
  refine r_setI (y := (nI (sz S m))) (hC.z hm) ?_
  exact E.2.1 rfl _ _ _ _ dX2_statesOf_6 ⟨_, rfl, ⟨rfl, rfl⟩⟩
def rmX2_actionOf : Room := { frames := 0, cells := 0, slots := 0, locals := 0 }
theorem pk_X2_actionOf : Pk yX2_actionOf RX2 2 := by decide +kernel
set_option maxHeartbeats 4000000 in
set_option maxRecDepth 100000 in
theorem c_X2_actionOf (l : Launch) (g : gE) (ad : Nat → Nat) (u : Me) (S : Sg) (hC : RepC S u) (hO : Ok S) (m : Nat) (hm : m < sN S) (s : Nat) (hs : s < sz S m) : Cti l yX2_actionOf wsX2_actionOf rmX2_actionOf g ad [.ref (ad 3), .int (nI (m)), .int (nI (s))] u (fun r u' => nI (sa S m s) = r ∧ u = u') := by
  refine Ct.of (cc := cX2_actionOf) (nL := 3) (ret := (some .int)) RX2 (by decide) rfl rfl (Nat.le_of_ble_eq_true rfl) (fun kx C E => ?_)
  have hin_X2 : ∀ w ∈ u_ws RX2 TX2 4, w ∈ wsX2_actionOf := by decide +kernel
  have hk_13 : Cond.fieldLink RX2 13 "AgainAgain$Machines" "actions" "[I" ∈ wsX2_actionOf := by decide +kernel
  show G kx 0 0 (WW g ad u) 0 [(0, .ref (ad 3)), (1, .int (nI (m))), (2, .int (nI (s)))] []
  have hn := hO.n
  have hz := hO.z m
  refine r_aload_n C 0 dX2_actionOf_0 rfl rfl ?_
  refine r_get C (CN := RX2) (T := TX2) (N := 4) k_3 rfl hin_X2 (j := 1) (by decide) hk_13 rfl rfl dX2_actionOf_1 ?_
  refine r_iconst C dX2_actionOf_4 (v := nI 4) (by decide) ?_
  refine r_iload_n C 1 dX2_actionOf_5 rfl rfl ?_
  refine r_imulN C dX2_actionOf_6 ?_
  refine r_iload_n C 2 dX2_actionOf_7 rfl rfl ?_
  refine r_iaddN C dX2_actionOf_8 ?_
  refine r_iald C k_5 (by omega) (by omega) dX2_actionOf_9 ?_
  refine r_setI (y := (nI (sa S m s))) (hC.a hm hs) ?_
  exact E.2.1 rfl _ _ _ _ dX2_actionOf_10 ⟨_, rfl, ⟨rfl, rfl⟩⟩
def rmX2_nextOf : Room := { frames := 0, cells := 0, slots := 0, locals := 0 }
theorem pk_X2_nextOf : Pk yX2_nextOf RX2 3 := by decide +kernel
set_option maxHeartbeats 4000000 in
set_option maxRecDepth 100000 in
theorem c_X2_nextOf (l : Launch) (g : gE) (ad : Nat → Nat) (u : Me) (S : Sg) (hC : RepC S u) (hO : Ok S) (m : Nat) (hm : m < sN S) (s b : Nat) (hs : s < sz S m) (hb : b < 3) : Cti l yX2_nextOf wsX2_nextOf rmX2_nextOf g ad [.ref (ad 3), .int (nI (m)), .int (nI (s)), .int (nI (b))] u (fun r u' => nI (sx S m s b) = r ∧ u = u') := by
  refine Ct.of (cc := cX2_nextOf) (nL := 4) (ret := (some .int)) RX2 (by decide) rfl rfl (Nat.le_of_ble_eq_true rfl) (fun kx C E => ?_)
  have hin_X2 : ∀ w ∈ u_ws RX2 TX2 4, w ∈ wsX2_nextOf := by decide +kernel
  have hk_18 : Cond.fieldLink RX2 18 "AgainAgain$Machines" "nexts" "[I" ∈ wsX2_nextOf := by decide +kernel
  show G kx 0 0 (WW g ad u) 0 [(0, .ref (ad 3)), (1, .int (nI (m))), (2, .int (nI (s))), (3, .int (nI (b)))] []
  have hn := hO.n
  have hz := hO.z m
  refine r_aload_n C 0 dX2_nextOf_0 rfl rfl ?_
  refine r_get C (CN := RX2) (T := TX2) (N := 4) k_3 rfl hin_X2 (j := 2) (by decide) hk_18 rfl rfl dX2_nextOf_1 ?_
  refine r_iconst C dX2_nextOf_4 (v := nI 4) (by decide) ?_
  refine r_iload_n C 1 dX2_nextOf_5 rfl rfl ?_
  refine r_imulN C dX2_nextOf_6 ?_
  refine r_iload_n C 2 dX2_nextOf_7 rfl rfl ?_
  refine r_iaddN C dX2_nextOf_8 ?_
  refine r_iconst C dX2_nextOf_9 (v := nI 3) (by decide) ?_
  refine r_imulN C dX2_nextOf_10 ?_
  refine r_iload_n C 3 dX2_nextOf_11 rfl rfl ?_
  refine r_iaddN C dX2_nextOf_12 ?_
  refine r_iald C k_6 (by omega) (by omega) dX2_nextOf_13 ?_
  refine r_setI (y := (nI (sx S m s b))) (hC.x hm hs hb) ?_
  exact E.2.1 rfl _ _ _ _ dX2_nextOf_14 ⟨_, rfl, ⟨rfl, rfl⟩⟩
def rmX2_setAction : Room := { frames := 0, cells := 0, slots := 0, locals := 0 }
theorem pk_X2_setAction : Pk yX2_setAction RX2 3 := by decide +kernel
set_option maxHeartbeats 4000000 in
set_option maxRecDepth 100000 in
theorem c_X2_setAction (l : Launch) (g : gE) (ad : Nat → Nat) (u : Me) (m s : Nat) (v : Int32) (hm : m < 12) (hs : s < 4) : Ctv l yX2_setAction wsX2_setAction rmX2_setAction g ad [.ref (ad 3), .int (nI (m)), .int (nI (s)), .int (v)] u (fun u' => sA u 5 (upd (mA u 5) (4 * m + s) v) = u') := by
  refine Ct.of (cc := cX2_setAction) (nL := 4) (ret := none) RX2 (by decide) rfl rfl (Nat.le_of_ble_eq_true rfl) (fun kx C E => ?_)
  have hin_X2 : ∀ w ∈ u_ws RX2 TX2 4, w ∈ wsX2_setAction := by decide +kernel
  have hk_13 : Cond.fieldLink RX2 13 "AgainAgain$Machines" "actions" "[I" ∈ wsX2_setAction := by decide +kernel
  show G kx 0 0 (WW g ad u) 0 [(0, .ref (ad 3)), (1, .int (nI (m))), (2, .int (nI (s))), (3, .int (v))] []
  refine r_aload_n C 0 dX2_setAction_0 rfl rfl ?_
  refine r_get C (CN := RX2) (T := TX2) (N := 4) k_3 rfl hin_X2 (j := 1) (by decide) hk_13 rfl rfl dX2_setAction_1 ?_
  refine r_iconst C dX2_setAction_4 (v := nI 4) (by decide) ?_
  refine r_iload_n C 1 dX2_setAction_5 rfl rfl ?_
  refine r_imulN C dX2_setAction_6 ?_
  refine r_iload_n C 2 dX2_setAction_7 rfl rfl ?_
  refine r_iaddN C dX2_setAction_8 ?_
  refine r_iload_n C 3 dX2_setAction_9 rfl rfl ?_
  refine r_iast C k_5 (by omega) (by omega) dX2_setAction_10 ?_
  exact E.1 rfl _ _ _ dX2_setAction_11 ⟨rfl, rfl⟩
def rmX2_setNext : Room := { frames := 0, cells := 0, slots := 0, locals := 0 }
theorem pk_X2_setNext : Pk yX2_setNext RX2 4 := by decide +kernel
set_option maxHeartbeats 4000000 in
set_option maxRecDepth 100000 in
theorem c_X2_setNext (l : Launch) (g : gE) (ad : Nat → Nat) (u : Me) (m s b : Nat) (v : Int32) (hm : m < 12) (hs : s < 4) (hb : b < 3) : Ctv l yX2_setNext wsX2_setNext rmX2_setNext g ad [.ref (ad 3), .int (nI (m)), .int (nI (s)), .int (nI (b)), .int (v)] u (fun u' => sA u 6 (upd (mA u 6) ((4 * m + s) * 3 + b) v) = u') := by
  refine Ct.of (cc := cX2_setNext) (nL := 5) (ret := none) RX2 (by decide) rfl rfl (Nat.le_of_ble_eq_true rfl) (fun kx C E => ?_)
  have hin_X2 : ∀ w ∈ u_ws RX2 TX2 4, w ∈ wsX2_setNext := by decide +kernel
  have hk_18 : Cond.fieldLink RX2 18 "AgainAgain$Machines" "nexts" "[I" ∈ wsX2_setNext := by decide +kernel
  show G kx 0 0 (WW g ad u) 0 [(0, .ref (ad 3)), (1, .int (nI (m))), (2, .int (nI (s))), (3, .int (nI (b))), (4, .int (v))] []
  refine r_aload_n C 0 dX2_setNext_0 rfl rfl ?_
  refine r_get C (CN := RX2) (T := TX2) (N := 4) k_3 rfl hin_X2 (j := 2) (by decide) hk_18 rfl rfl dX2_setNext_1 ?_
  refine r_iconst C dX2_setNext_4 (v := nI 4) (by decide) ?_
  refine r_iload_n C 1 dX2_setNext_5 rfl rfl ?_
  refine r_imulN C dX2_setNext_6 ?_
  refine r_iload_n C 2 dX2_setNext_7 rfl rfl ?_
  refine r_iaddN C dX2_setNext_8 ?_
  refine r_iconst C dX2_setNext_9 (v := nI 3) (by decide) ?_
  refine r_imulN C dX2_setNext_10 ?_
  refine r_iload_n C 3 dX2_setNext_11 rfl rfl ?_
  refine r_iaddN C dX2_setNext_12 ?_
  refine r_iload C 4 dX2_setNext_13 rfl ?_
  refine r_iast C k_6 (by omega) (by omega) dX2_setNext_15 ?_
  exact E.1 rfl _ _ _ dX2_setNext_16 ⟨rfl, rfl⟩
def rmX2_removeLatest : Room := { frames := 0, cells := 0, slots := 0, locals := 0 }
theorem pk_X2_removeLatest : Pk yX2_removeLatest RX2 0 := by decide +kernel
set_option maxHeartbeats 4000000 in
set_option maxRecDepth 100000 in
theorem c_X2_removeLatest (l : Launch) (g : gE) (ad : Nat → Nat) (u : Me) (S : Sg) (hC : RepC S u) (hO : Ok S) (h0 : 0 < sN S) : Cti l yX2_removeLatest wsX2_removeLatest rmX2_removeLatest g ad [.ref (ad 3)] u (fun r u' => nI (sN S - 1) = r ∧ sI u 0 (nI (sN S - 1)) = u') := by
  refine Ct.of (cc := cX2_removeLatest) (nL := 1) (ret := (some .int)) RX2 (by decide) rfl rfl (Nat.le_of_ble_eq_true rfl) (fun kx C E => ?_)
  have hin_X2 : ∀ w ∈ u_ws RX2 TX2 4, w ∈ wsX2_removeLatest := by decide +kernel
  have hk_21 : Cond.fieldLink RX2 21 "AgainAgain$Machines" "many" "I" ∈ wsX2_removeLatest := by decide +kernel
  show G kx 0 0 (WW g ad u) 0 [(0, .ref (ad 3))] []
  have hn := hO.n
  refine r_aload_n C 0 dX2_removeLatest_0 rfl rfl ?_
  refine r_dup C dX2_removeLatest_1 rfl ?_
  refine r_get C (CN := RX2) (T := TX2) (N := 4) k_3 rfl hin_X2 (j := 3) (by decide) hk_21 rfl rfl dX2_removeLatest_2 ?_
  refine r_setI (y := (nI (sN S))) (hC.n) ?_
  refine r_iconst C dX2_removeLatest_5 (v := nI 1) (by decide) ?_
  refine r_isubN C dX2_removeLatest_6 (by omega) ?_
  refine r_putI C (CN := RX2) (T := TX2) (N := 4) fI_0 rfl hin_X2 tyX2 tyX2_ok nmX2 (by decide) hk_21 rfl rfl (by decide +kernel) dX2_removeLatest_7 ?_
  refine r_aload_n C 0 dX2_removeLatest_10 rfl rfl ?_
  refine r_get C (CN := RX2) (T := TX2) (N := 4) k_3 rfl hin_X2 (j := 3) (by decide) hk_21 rfl rfl dX2_removeLatest_11 ?_
  refine r_setI (y := (nI (sN S - 1))) (rfl) ?_
  exact E.2.1 rfl _ _ _ _ dX2_removeLatest_14 ⟨_, rfl, ⟨rfl, rfl⟩⟩
def rmX5_isSheet : Room := { frames := 0, cells := 0, slots := 0, locals := 0 }
theorem pk_X5_isSheet : Pk yX5_isSheet RX5 1 := by decide +kernel
set_option maxHeartbeats 4000000 in
set_option maxRecDepth 100000 in
theorem c_X5_isSheet (l : Launch) (g : gE) (ad : Nat → Nat) (u : Me) (k : Int32) : Cti l yX5_isSheet wsX5_isSheet rmX5_isSheet g ad [.int (k)] u (fun r u' => bI (isR 4 k) = r ∧ u = u') := by
  refine Ct.of (cc := cX5_isSheet) (nL := 1) (ret := (some .boolean)) RX5 (by decide) rfl rfl (Nat.le_of_ble_eq_true rfl) (fun kx C E => ?_)
  show G kx 0 0 (WW g ad u) 0 [(0, .int (k))] []
  refine r_iload_n C 0 dX5_isSheet_0 rfl rfl ?_
  refine r_if_lt C dX5_isSheet_1 (tgt := 13) (by decide) (fun h1 => ?_) (fun h1 => ?_)
  · refine r_iconst C dX5_isSheet_13 (v := nI 0) (by decide) ?_
    exact E.2.2.1 rfl _ _ _ _ dX5_isSheet_14 (Or.inl rfl) ⟨_, rfl, ⟨bF (by first | exact isR_f1 (by decide) h1 | exact isR_f2 (by decide) h6), rfl⟩⟩
  · refine r_iload_n C 0 dX5_isSheet_4 rfl rfl ?_
    refine r_iconst C dX5_isSheet_5 (v := nI 4) (by decide) ?_
    refine r_icmp_ge C dX5_isSheet_6 (tgt := 13) (by decide) (fun h6 => ?_) (fun h6 => ?_)
    · refine r_iconst C dX5_isSheet_13 (v := nI 0) (by decide) ?_
      exact E.2.2.1 rfl _ _ _ _ dX5_isSheet_14 (Or.inl rfl) ⟨_, rfl, ⟨bF (by first | exact isR_f1 (by decide) h1 | exact isR_f2 (by decide) h6), rfl⟩⟩
    · refine r_iconst C dX5_isSheet_9 (v := nI 1) (by decide) ?_
      refine r_goto C dX5_isSheet_10 (tgt := 14) (by decide) ?_
      exact E.2.2.1 rfl _ _ _ _ dX5_isSheet_14 (Or.inr rfl) ⟨_, rfl, ⟨bT (isR_t (by decide) h1 h6), rfl⟩⟩
def rmX5_isLane : Room := { frames := 0, cells := 0, slots := 0, locals := 0 }
theorem pk_X5_isLane : Pk yX5_isLane RX5 1 := by decide +kernel
set_option maxHeartbeats 4000000 in
set_option maxRecDepth 100000 in
theorem c_X5_isLane (l : Launch) (g : gE) (ad : Nat → Nat) (u : Me) (k : Int32) : Cti l yX5_isLane wsX5_isLane rmX5_isLane g ad [.int (k)] u (fun r u' => bI (isR 3 k) = r ∧ u = u') := by
  refine Ct.of (cc := cX5_isLane) (nL := 1) (ret := (some .boolean)) RX5 (by decide) rfl rfl (Nat.le_of_ble_eq_true rfl) (fun kx C E => ?_)
  show G kx 0 0 (WW g ad u) 0 [(0, .int (k))] []
  refine r_iload_n C 0 dX5_isLane_0 rfl rfl ?_
  refine r_if_lt C dX5_isLane_1 (tgt := 13) (by decide) (fun h1 => ?_) (fun h1 => ?_)
  · refine r_iconst C dX5_isLane_13 (v := nI 0) (by decide) ?_
    exact E.2.2.1 rfl _ _ _ _ dX5_isLane_14 (Or.inl rfl) ⟨_, rfl, ⟨bF (by first | exact isR_f1 (by decide) h1 | exact fun q => absurd ((isR_iff (n := 2) (by decide)).mpr q).2 (Int32.not_le.mpr h6)), rfl⟩⟩
  · refine r_iload_n C 0 dX5_isLane_4 rfl rfl ?_
    refine r_iconst C dX5_isLane_5 (v := nI 2) (by decide) ?_
    refine r_icmp_gt C dX5_isLane_6 (tgt := 13) (by decide) (fun h6 => ?_) (fun h6 => ?_)
    · refine r_iconst C dX5_isLane_13 (v := nI 0) (by decide) ?_
      exact E.2.2.1 rfl _ _ _ _ dX5_isLane_14 (Or.inl rfl) ⟨_, rfl, ⟨bF (by first | exact isR_f1 (by decide) h1 | exact fun q => absurd ((isR_iff (n := 2) (by decide)).mpr q).2 (Int32.not_le.mpr h6)), rfl⟩⟩
    · refine r_iconst C dX5_isLane_9 (v := nI 1) (by decide) ?_
      refine r_goto C dX5_isLane_10 (tgt := 14) (by decide) ?_
      exact E.2.2.1 rfl _ _ _ _ dX5_isLane_14 (Or.inr rfl) ⟨_, rfl, ⟨bT ((isR_iff (n := 2) (by decide)).mp ⟨by rw [nI_0]; exact Int32.not_lt.mp h1, Int32.not_lt.mp h6⟩), rfl⟩⟩
def rmX5_isThere : Room := { frames := 0, cells := 0, slots := 0, locals := 0 }
theorem pk_X5_isThere : Pk yX5_isThere RX5 1 := by decide +kernel
set_option maxHeartbeats 4000000 in
set_option maxRecDepth 100000 in
theorem c_X5_isThere (l : Launch) (g : gE) (ad : Nat → Nat) (u : Me) (S : Sg) (hC : RepC S u) (hO : Ok S) (k : Nat) (hk : k < 4) : Cti l yX5_isThere wsX5_isThere rmX5_isThere g ad [.ref (ad 7), .int (nI (k))] u (fun r u' => bI (¬ sl S k = 0) = r ∧ u = u') := by
  refine Ct.of (cc := cX5_isThere) (nL := 2) (ret := (some .boolean)) RX5 (by decide) rfl rfl (Nat.le_of_ble_eq_true rfl) (fun kx C E => ?_)
  have hin_X5 : ∀ w ∈ u_ws RX5 TX5 3, w ∈ wsX5_isThere := by decide +kernel
  have hk_9 : Cond.fieldLink RX5 9 "AgainAgain$Sheets" "lanes" "[I" ∈ wsX5_isThere := by decide +kernel
  show G kx 0 0 (WW g ad u) 0 [(0, .ref (ad 7)), (1, .int (nI (k)))] []
  refine r_aload_n C 0 dX5_isThere_0 rfl rfl ?_
  refine r_get C (CN := RX5) (T := TX5) (N := 3) k_7 rfl hin_X5 (j := 0) (by decide) hk_9 rfl rfl dX5_isThere_1 ?_
  refine r_iload_n C 1 dX5_isThere_4 rfl rfl ?_
  refine r_iald C k_8 (by omega) (by omega) dX5_isThere_5 ?_
  refine r_setI (y := (lnC (sl S k))) (hC.l hk) ?_
  refine r_iconst C dX5_isThere_6 (v := (-1)) (by decide) ?_
  refine r_icmp_eq C dX5_isThere_7 (tgt := 14) (by decide) (fun h7 => ?_) (fun h7 => ?_)
  · refine r_iconst C dX5_isThere_14 (v := nI 0) (by decide) ?_
    exact E.2.2.1 rfl _ _ _ _ dX5_isThere_15 (Or.inl rfl) ⟨_, rfl, ⟨bF (by rw [Classical.not_not]; exact (lnC_not (hO.s k).1 h7)), rfl⟩⟩
  · refine r_iconst C dX5_isThere_10 (v := nI 1) (by decide) ?_
    refine r_goto C dX5_isThere_11 (tgt := 15) (by decide) ?_
    exact E.2.2.1 rfl _ _ _ _ dX5_isThere_15 (Or.inr rfl) ⟨_, rfl, ⟨bT (lnC_there h7), rfl⟩⟩
def rmX5_laneOf : Room := { frames := 0, cells := 0, slots := 0, locals := 0 }
theorem pk_X5_laneOf : Pk yX5_laneOf RX5 1 := by decide +kernel
set_option maxHeartbeats 4000000 in
set_option maxRecDepth 100000 in
theorem c_X5_laneOf (l : Launch) (g : gE) (ad : Nat → Nat) (u : Me) (S : Sg) (hC : RepC S u) (hO : Ok S) (k : Nat) (hk : k < 4) : Cti l yX5_laneOf wsX5_laneOf rmX5_laneOf g ad [.ref (ad 7), .int (nI (k))] u (fun r u' => lnC (sl S k) = r ∧ u = u') := by
  refine Ct.of (cc := cX5_laneOf) (nL := 2) (ret := (some .int)) RX5 (by decide) rfl rfl (Nat.le_of_ble_eq_true rfl) (fun kx C E => ?_)
  have hin_X5 : ∀ w ∈ u_ws RX5 TX5 3, w ∈ wsX5_laneOf := by decide +kernel
  have hk_9 : Cond.fieldLink RX5 9 "AgainAgain$Sheets" "lanes" "[I" ∈ wsX5_laneOf := by decide +kernel
  show G kx 0 0 (WW g ad u) 0 [(0, .ref (ad 7)), (1, .int (nI (k)))] []
  refine r_aload_n C 0 dX5_laneOf_0 rfl rfl ?_
  refine r_get C (CN := RX5) (T := TX5) (N := 3) k_7 rfl hin_X5 (j := 0) (by decide) hk_9 rfl rfl dX5_laneOf_1 ?_
  refine r_iload_n C 1 dX5_laneOf_4 rfl rfl ?_
  refine r_iald C k_8 (by omega) (by omega) dX5_laneOf_5 ?_
  refine r_setI (y := (lnC (sl S k))) (hC.l hk) ?_
  exact E.2.1 rfl _ _ _ _ dX5_laneOf_6 ⟨_, rfl, ⟨rfl, rfl⟩⟩
def rmX5_cellsOf : Room := { frames := 0, cells := 0, slots := 0, locals := 0 }
theorem pk_X5_cellsOf : Pk yX5_cellsOf RX5 1 := by decide +kernel
set_option maxHeartbeats 4000000 in
set_option maxRecDepth 100000 in
theorem c_X5_cellsOf (l : Launch) (g : gE) (ad : Nat → Nat) (u : Me) (S : Sg) (hC : RepC S u) (hO : Ok S) (k : Nat) (hk : k < 4) : Cti l yX5_cellsOf wsX5_cellsOf rmX5_cellsOf g ad [.ref (ad 7), .int (nI (k))] u (fun r u' => nI (sk S k) = r ∧ u = u') := by
  refine Ct.of (cc := cX5_cellsOf) (nL := 2) (ret := (some .int)) RX5 (by decide) rfl rfl (Nat.le_of_ble_eq_true rfl) (fun kx C E => ?_)
  have hin_X5 : ∀ w ∈ u_ws RX5 TX5 3, w ∈ wsX5_cellsOf := by decide +kernel
  have hk_13 : Cond.fieldLink RX5 13 "AgainAgain$Sheets" "sizes" "[I" ∈ wsX5_cellsOf := by decide +kernel
  show G kx 0 0 (WW g ad u) 0 [(0, .ref (ad 7)), (1, .int (nI (k)))] []
  refine r_aload_n C 0 dX5_cellsOf_0 rfl rfl ?_
  refine r_get C (CN := RX5) (T := TX5) (N := 3) k_7 rfl hin_X5 (j := 1) (by decide) hk_13 rfl rfl dX5_cellsOf_1 ?_
  refine r_iload_n C 1 dX5_cellsOf_4 rfl rfl ?_
  refine r_iald C k_9 (by omega) (by omega) dX5_cellsOf_5 ?_
  refine r_setI (y := (nI (sk S k))) (hC.k hk) ?_
  exact E.2.1 rfl _ _ _ _ dX5_cellsOf_6 ⟨_, rfl, ⟨rfl, rfl⟩⟩
def rmX5_hasCell : Room := { frames := 0, cells := 0, slots := 0, locals := 0 }
theorem pk_X5_hasCell : Pk yX5_hasCell RX5 2 := by decide +kernel
set_option maxHeartbeats 4000000 in
set_option maxRecDepth 100000 in
theorem c_X5_hasCell (l : Launch) (g : gE) (ad : Nat → Nat) (u : Me) (S : Sg) (hC : RepC S u) (hO : Ok S) (k : Nat) (hk : k < 4) (i : Int32) : Cti l yX5_hasCell wsX5_hasCell rmX5_hasCell g ad [.ref (ad 7), .int (nI (k)), .int (i)] u (fun r u' => bI (isR (sk S k) i) = r ∧ u = u') := by
  refine Ct.of (cc := cX5_hasCell) (nL := 3) (ret := (some .boolean)) RX5 (by decide) rfl rfl (Nat.le_of_ble_eq_true rfl) (fun kx C E => ?_)
  have hin_X5 : ∀ w ∈ u_ws RX5 TX5 3, w ∈ wsX5_hasCell := by decide +kernel
  have hk_13 : Cond.fieldLink RX5 13 "AgainAgain$Sheets" "sizes" "[I" ∈ wsX5_hasCell := by decide +kernel
  show G kx 0 0 (WW g ad u) 0 [(0, .ref (ad 7)), (1, .int (nI (k))), (2, .int (i))] []
  have hs := hO.s k
  refine r_iload_n C 2 dX5_hasCell_0 rfl rfl ?_
  refine r_if_lt C dX5_hasCell_1 (tgt := 18) (by decide) (fun h1 => ?_) (fun h1 => ?_)
  · refine r_iconst C dX5_hasCell_18 (v := nI 0) (by decide) ?_
    exact E.2.2.1 rfl _ _ _ _ dX5_hasCell_19 (Or.inl rfl) ⟨_, rfl, ⟨bF (by first | exact isR_f1 (by omega) h1 | exact isR_f2 (by omega) h11), rfl⟩⟩
  · refine r_iload_n C 2 dX5_hasCell_4 rfl rfl ?_
    refine r_aload_n C 0 dX5_hasCell_5 rfl rfl ?_
    refine r_get C (CN := RX5) (T := TX5) (N := 3) k_7 rfl hin_X5 (j := 1) (by decide) hk_13 rfl rfl dX5_hasCell_6 ?_
    refine r_iload_n C 1 dX5_hasCell_9 rfl rfl ?_
    refine r_iald C k_9 (by omega) (by omega) dX5_hasCell_10 ?_
    refine r_setI (y := (nI (sk S k))) (hC.k hk) ?_
    refine r_icmp_ge C dX5_hasCell_11 (tgt := 18) (by decide) (fun h11 => ?_) (fun h11 => ?_)
    · refine r_iconst C dX5_hasCell_18 (v := nI 0) (by decide) ?_
      exact E.2.2.1 rfl _ _ _ _ dX5_hasCell_19 (Or.inl rfl) ⟨_, rfl, ⟨bF (by first | exact isR_f1 (by omega) h1 | exact isR_f2 (by omega) h11), rfl⟩⟩
    · refine r_iconst C dX5_hasCell_14 (v := nI 1) (by decide) ?_
      refine r_goto C dX5_hasCell_15 (tgt := 19) (by decide) ?_
      exact E.2.2.1 rfl _ _ _ _ dX5_hasCell_19 (Or.inr rfl) ⟨_, rfl, ⟨bT (isR_t (by omega) h1 h11), rfl⟩⟩
def rmX5_cell : Room := { frames := 0, cells := 0, slots := 0, locals := 0 }
theorem pk_X5_cell : Pk yX5_cell RX5 2 := by decide +kernel
set_option maxHeartbeats 4000000 in
set_option maxRecDepth 100000 in
theorem c_X5_cell (l : Launch) (g : gE) (ad : Nat → Nat) (u : Me) (S : Sg) (hC : RepC S u) (hO : Ok S) (k : Nat) (hk : k < 4) (i : Nat) (hi : i < sk S k) : Cti l yX5_cell wsX5_cell rmX5_cell g ad [.ref (ad 7), .int (nI (k)), .int (nI (i))] u (fun r u' => sc S k i = r ∧ u = u') := by
  refine Ct.of (cc := cX5_cell) (nL := 3) (ret := (some .int)) RX5 (by decide) rfl rfl (Nat.le_of_ble_eq_true rfl) (fun kx C E => ?_)
  have hin_X5 : ∀ w ∈ u_ws RX5 TX5 3, w ∈ wsX5_cell := by decide +kernel
  have hk_16 : Cond.fieldLink RX5 16 "AgainAgain$Sheets" "cells" "[I" ∈ wsX5_cell := by decide +kernel
  show G kx 0 0 (WW g ad u) 0 [(0, .ref (ad 7)), (1, .int (nI (k))), (2, .int (nI (i)))] []
  have hs := hO.s k
  refine r_aload_n C 0 dX5_cell_0 rfl rfl ?_
  refine r_get C (CN := RX5) (T := TX5) (N := 3) k_7 rfl hin_X5 (j := 2) (by decide) hk_16 rfl rfl dX5_cell_1 ?_
  refine r_iload_n C 1 dX5_cell_4 rfl rfl ?_
  refine r_bipush C dX5_cell_5 (v := nI 60) (by decide) ?_
  refine r_imulN C dX5_cell_7 ?_
  refine r_iload_n C 2 dX5_cell_8 rfl rfl ?_
  refine r_iaddN C dX5_cell_9 ?_
  refine r_iald C k_10 (by omega) (by omega) dX5_cell_10 ?_
  refine r_setI (y := (sc S k i)) (hC.c hk hi) ?_
  exact E.2.1 rfl _ _ _ _ dX5_cell_11 ⟨_, rfl, ⟨rfl, rfl⟩⟩
def rmX5_lowestBits : Room := { frames := 0, cells := 0, slots := 0, locals := 0 }
theorem pk_X5_lowestBits : Pk yX5_lowestBits RX5 2 := by decide +kernel
set_option maxHeartbeats 4000000 in
set_option maxRecDepth 100000 in
theorem c_X5_lowestBits (l : Launch) (g : gE) (ad : Nat → Nat) (u : Me) (v : Nat) (x : Int32) (hv : v < 3) : Cti l yX5_lowestBits wsX5_lowestBits rmX5_lowestBits g ad [.int (nI (v)), .int (x)] u (fun r u' => lowB v x = r ∧ u = u') := by
  refine Ct.of (cc := cX5_lowestBits) (nL := 2) (ret := (some .int)) RX5 (by decide) rfl rfl (Nat.le_of_ble_eq_true rfl) (fun kx C E => ?_)
  show G kx 0 0 (WW g ad u) 0 [(0, .int (nI (v))), (1, .int (x))] []
  refine r_iload_n C 0 dX5_lowestBits_0 rfl rfl ?_
  refine r_ifN_ne C dX5_lowestBits_1 (tgt := 7) (by decide) (by omega) (fun h1 => ?_) (fun h1 => ?_)
  · refine r_iload_n C 0 dX5_lowestBits_7 rfl rfl ?_
    refine r_iconst C dX5_lowestBits_8 (v := nI 1) (by decide) ?_
    refine r_icmpN_ne C dX5_lowestBits_9 (tgt := 17) (by decide) (by omega) (by omega) (fun h9 => ?_) (fun h9 => ?_)
    · refine r_iload_n C 1 dX5_lowestBits_17 rfl rfl ?_
      exact E.2.1 rfl _ _ _ _ dX5_lowestBits_18 ⟨_, rfl, ⟨by unfold lowB; first | rw [if_pos h1] | rw [if_neg h1, if_pos h9] | rw [if_neg h1, if_neg h9], rfl⟩⟩
    · refine r_iload_n C 1 dX5_lowestBits_12 rfl rfl ?_
      refine r_i2s C dX5_lowestBits_13 (v := (x).toInt16.toInt32) rfl ?_
      refine r_goto C dX5_lowestBits_14 (tgt := 18) (by decide) ?_
      exact E.2.1 rfl _ _ _ _ dX5_lowestBits_18 ⟨_, rfl, ⟨by unfold lowB; first | rw [if_pos h1] | rw [if_neg h1, if_pos h9] | rw [if_neg h1, if_neg h9], rfl⟩⟩
  · refine r_iload_n C 1 dX5_lowestBits_4 rfl rfl ?_
    refine r_i2b C dX5_lowestBits_5 (v := (x).toInt8.toInt32) rfl ?_
    exact E.2.1 rfl _ _ _ _ dX5_lowestBits_6 ⟨_, rfl, ⟨by unfold lowB; first | rw [if_pos h1] | rw [if_neg h1, if_pos h9] | rw [if_neg h1, if_neg h9], rfl⟩⟩
def rmJ7_rangeCheck_23922 : Room := { frames := 0, cells := 0, slots := 0, locals := 0 }
theorem pk_J7_rangeCheck_23922 : Pk yJ7_rangeCheck_23922 RJ7 3 := by decide +kernel
set_option maxHeartbeats 4000000 in
set_option maxRecDepth 100000 in
theorem c_J7_rangeCheck_23922 (l : Launch) (g : gE) (ad : Nat → Nat) (u : Me) (n a b : Nat) (hab : a ≤ b) (hb : b ≤ n) (hn : n < 1000) : Ctv l yJ7_rangeCheck_23922 wsJ7_rangeCheck_23922 rmJ7_rangeCheck_23922 g ad [.int (nI (n)), .int (nI (a)), .int (nI (b))] u (fun u' => u = u') := by
  refine Ct.of (cc := cJ7_rangeCheck_23922) (nL := 3) (ret := none) RJ7 (by decide) rfl rfl (Nat.le_of_ble_eq_true rfl) (fun kx C E => ?_)
  show G kx 0 0 (WW g ad u) 0 [(0, .int (nI (n))), (1, .int (nI (a))), (2, .int (nI (b)))] []
  refine r_iload_n C 1 dJ7_rangeCheck_23922_0 rfl rfl ?_
  refine r_iload_n C 2 dJ7_rangeCheck_23922_1 rfl rfl ?_
  refine r_icmpN_le C dJ7_rangeCheck_23922_2 (tgt := 46) (by decide) (by omega) (by omega) (fun h2 => ?_) (fun h2 => ?_)
  · refine r_iload_n C 1 dJ7_rangeCheck_23922_46 rfl rfl ?_
    refine r_ifN_ge C dJ7_rangeCheck_23922_47 (tgt := 59) (by decide) (by omega) (fun h47 => ?_) (fun h47 => ?_)
    · refine r_iload_n C 2 dJ7_rangeCheck_23922_59 rfl rfl ?_
      refine r_iload_n C 0 dJ7_rangeCheck_23922_60 rfl rfl ?_
      refine r_icmpN_le C dJ7_rangeCheck_23922_61 (tgt := 73) (by decide) (by omega) (by omega) (fun h61 => ?_) (fun h61 => ?_)
      · exact E.1 rfl _ _ _ dJ7_rangeCheck_23922_73 ⟨rfl, rfl⟩
      · exact absurd hb h61
    · exact absurd (Nat.zero_le _) h47
  · exact absurd hab h2
def rmJ13_compare_74951 : Room := { frames := 0, cells := 0, slots := 0, locals := 0 }
theorem pk_J13_compare_74951 : Pk yJ13_compare_74951 RJ13 2 := by decide +kernel
set_option maxHeartbeats 4000000 in
set_option maxRecDepth 100000 in
theorem c_J13_compare_74951 (l : Launch) (g : gE) (ad : Nat → Nat) (u : Me) (x y : Int64) : Cti l yJ13_compare_74951 wsJ13_compare_74951 rmJ13_compare_74951 g ad [.long (x), .long (y)] u (fun r u' => lg_cmp x y = r ∧ u = u') := by
  refine Ct.of (cc := cJ13_compare_74951) (nL := 4) (ret := (some .int)) RJ13 (by decide) rfl rfl (Nat.le_of_ble_eq_true rfl) (fun kx C E => ?_)
  show G kx 0 0 (WW g ad u) 0 [(0, .long (x)), (2, .long (y))] []
  refine r_lload_n C 0 dJ13_compare_74951_0 rfl rfl ?_
  refine r_lload_n C 1 dJ13_compare_74951_1 rfl rfl ?_
  refine r_lcmp C dJ13_compare_74951_2 ?_
  refine r_if_ge C dJ13_compare_74951_3 (tgt := 10) (by decide) (fun h3 => ?_) (fun h3 => ?_)
  · refine r_lload_n C 0 dJ13_compare_74951_10 rfl rfl ?_
    refine r_lload_n C 1 dJ13_compare_74951_11 rfl rfl ?_
    refine r_lcmp C dJ13_compare_74951_12 ?_
    refine r_if_ne C dJ13_compare_74951_13 (tgt := 20) (by decide) (fun h13 => ?_) (fun h13 => ?_)
    · refine r_iconst C dJ13_compare_74951_20 (v := nI 1) (by decide) ?_
      exact E.2.1 rfl _ _ _ _ dJ13_compare_74951_21 ⟨_, rfl, ⟨cmp_c h3 h13, rfl⟩⟩
    · refine r_iconst C dJ13_compare_74951_16 (v := nI 0) (by decide) ?_
      refine r_goto C dJ13_compare_74951_17 (tgt := 21) (by decide) ?_
      exact E.2.1 rfl _ _ _ _ dJ13_compare_74951_21 ⟨_, rfl, ⟨cmp_b h3 h13, rfl⟩⟩
  · refine r_iconst C dJ13_compare_74951_6 (v := (-1)) (by decide) ?_
    refine r_goto C dJ13_compare_74951_7 (tgt := 21) (by decide) ?_
    exact E.2.1 rfl _ _ _ _ dJ13_compare_74951_21 ⟨_, rfl, ⟨cmp_a h3, rfl⟩⟩
