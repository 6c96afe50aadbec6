
theorem pos_abs {x : Int} (h1 : -4611686018427387904 < x) (h2 : x < 4611686018427387904) (h : 0 ≤ lg_cmp (lI x) (lI 0)) : lI x = lI (x.natAbs : Nat) := by
  have := (lI_le (by omega) (by omega) (by omega) (by omega)).mp ((lg_cmp_ge _ _).mp h)
  congr 1; omega
theorem neg_abs {x : Int} (h1 : -4611686018427387904 < x) (h2 : x < 4611686018427387904) (h : ¬ 0 ≤ lg_cmp (lI x) (lI 0)) : -lI x = lI (x.natAbs : Nat) := by
  have : ¬ (0 : Int) ≤ x := fun q => h ((lg_cmp_ge _ _).mpr ((lI_le (by omega) (by omega) (by omega) (by omega)).mpr q))
  rw [lI_neg]; congr 1; omega

section RS2
variable {k : KX} {cells slots : Nat} {ws : va_W} {pc : Nat} {lv : List (Nat × Value)} {st : List Value}
theorem r_st2 {a a0 b b0 : Int64} (ha : a0 = a) (hb : b0 = b) (kk : G k cells slots ws pc lv (.long a :: .long b :: st)) : G k cells slots ws pc lv (.long a0 :: .long b0 :: st) := by subst ha; subst hb; exact kk
end RS2
def rmX8_in : Room := { frames := 0, cells := 0, slots := 0, locals := 0 }
theorem pk_X8_in : Pk yX8_in RX8 3 := by decide +kernel
set_option maxHeartbeats 4000000 in
set_option maxRecDepth 100000 in
theorem c_X8_in (l : Launch) (g : gE) (ad : Nat → Nat) (u : Me) (x y z : Int64) : Cti l yX8_in wsX8_in rmX8_in g ad [.long (x), .long (y), .long (z)] u (fun r u' => bI (y ≤ x ∧ x ≤ z) = r ∧ u = u') := by
  refine Ct.of (cc := cX8_in) (nL := 6) (ret := (some .boolean)) RX8 (by decide) rfl rfl (Nat.le_of_ble_eq_true rfl) (fun kx C E => ?_)
  show G kx 0 0 (WW g ad u) 0 [(0, .long (x)), (2, .long (y)), (4, .long (z))] []
  refine r_lload_n C 0 dX8_in_0 rfl rfl ?_
  refine r_lload_n C 1 dX8_in_1 rfl rfl ?_
  refine r_lcmp C dX8_in_2 ?_
  refine r_if_lt C dX8_in_3 (tgt := 17) (by decide) (fun h3 => ?_) (fun h3 => ?_)
  · refine r_iconst C dX8_in_17 (v := nI 0) (by decide) ?_
    exact E.2.2.1 rfl _ _ _ _ dX8_in_18 (Or.inl rfl) ⟨_, rfl, ⟨bF (fun q => by first | exact absurd q.1 (Int64.not_le.mpr ((lg_cmp_lt _ _).mp h3)) | exact absurd q.2 (Int64.not_le.mpr ((lg_cmp_gt _ _).mp h10))), rfl⟩⟩
  · refine r_lload_n C 0 dX8_in_6 rfl rfl ?_
    refine r_lload C 2 dX8_in_7 rfl ?_
    refine r_lcmp C dX8_in_9 ?_
    refine r_if_gt C dX8_in_10 (tgt := 17) (by decide) (fun h10 => ?_) (fun h10 => ?_)
    · refine r_iconst C dX8_in_17 (v := nI 0) (by decide) ?_
      exact E.2.2.1 rfl _ _ _ _ dX8_in_18 (Or.inl rfl) ⟨_, rfl, ⟨bF (fun q => by first | exact absurd q.1 (Int64.not_le.mpr ((lg_cmp_lt _ _).mp h3)) | exact absurd q.2 (Int64.not_le.mpr ((lg_cmp_gt _ _).mp h10))), rfl⟩⟩
    · refine r_iconst C dX8_in_13 (v := nI 1) (by decide) ?_
      refine r_goto C dX8_in_14 (tgt := 18) (by decide) ?_
      exact E.2.2.1 rfl _ _ _ _ dX8_in_18 (Or.inr rfl) ⟨_, rfl, ⟨bT (⟨Int64.not_lt.mp (fun q => h3 ((lg_cmp_lt _ _).mpr q)), Int64.not_lt.mp (fun q => h10 ((lg_cmp_gt _ _).mpr q))⟩), rfl⟩⟩
def rmX8_isMachine : Room := { frames := 1, cells := 0, slots := 0, locals := 25 }
theorem pk_X8_isMachine : Pk yX8_isMachine RX8 1 := by decide +kernel
set_option maxHeartbeats 4000000 in
set_option maxRecDepth 100000 in
theorem c_X8_isMachine (l : Launch) (g : gE) (ad : Nat → Nat) (u : Me) (S : Sg) (hM : RepM S u) (hO : Ok S) (m : Int32) : Cti l yX8_isMachine wsX8_isMachine rmX8_isMachine g ad [.ref (ad 36), .int (m)] u (fun r u' => bI (isM S m) = r ∧ u = u') := by
  refine Ct.of (cc := cX8_isMachine) (nL := 2) (ret := (some .boolean)) RX8 (by decide) rfl rfl (Nat.le_of_ble_eq_true rfl) (fun kx C E => ?_)
  have hin_X8 : ∀ w ∈ u_ws RX8 TX8 21, w ∈ wsX8_isMachine := by decide +kernel
  have hk_63 : Cond.fieldLink RX8 63 "AgainAgainModel" "machines" "I" ∈ wsX8_isMachine := by decide +kernel
  show G kx 0 0 (WW g ad u) 0 [(0, .ref (ad 36)), (1, .int (m))] []
  have hn := hO.n
  refine r_iload_n C 1 dX8_isMachine_0 rfl rfl ?_
  refine r_i2l C dX8_isMachine_1 (v := (m).toInt64) rfl ?_
  refine r_lconst C dX8_isMachine_2 (v := lI 0) (by decide) ?_
  refine r_aload_n C 0 dX8_isMachine_3 rfl rfl ?_
  refine r_get C (CN := RX8) (T := TX8) (N := 21) k_36 rfl hin_X8 (j := 3) (by decide) hk_63 rfl rfl dX8_isMachine_4 ?_
  refine r_setI (y := (nI (sN S))) (hM.n) ?_
  refine r_iconst C dX8_isMachine_7 (v := nI 1) (by decide) ?_
  refine r_isub C dX8_isMachine_8 ?_
  refine r_setI (y := iI (((sN S) : Nat) - 1)) (iI_sub (((sN S) : Nat) : Int) ((1 : Nat) : Int)) ?_
  refine r_i2l C dX8_isMachine_9 (v := lI (((sN S) : Nat) - 1)) (iI_l (by omega) (by omega)) ?_
  refine r_callSi C (rest := []) (c_X8_in l g ad u ((m).toInt64) (lI 0) (lI (((sN S) : Nat) - 1))) gX8_isMachine_X8_in pk_X8_in dX8_isMachine_10 rfl rfl rfl rfl ⟨(Nat.le_of_ble_eq_true rfl), (Nat.le_of_ble_eq_true rfl)⟩ rfl (Nat.le_of_ble_eq_true rfl) ⟨(Nat.le_of_ble_eq_true rfl), (Nat.le_of_ble_eq_true rfl)⟩ ?_
  rintro _ _ ⟨rfl, rfl⟩
  refine r_setI (y := (bI (isR (sN S) m))) (bI_iff (inR_iff (n := sN S) (by omega))) ?_
  exact E.2.2.1 rfl _ _ _ _ dX8_isMachine_13 (bI_01 _) ⟨_, rfl, ⟨rfl, rfl⟩⟩
def rmX8_isState : Room := { frames := 2, cells := 0, slots := 0, locals := 46 }
theorem pk_X8_isState : Pk yX8_isState RX8 2 := by decide +kernel
set_option maxHeartbeats 4000000 in
set_option maxRecDepth 100000 in
theorem c_X8_isState (l : Launch) (g : gE) (ad : Nat → Nat) (u : Me) (S : Sg) (hM : RepM S u) (hO : Ok S) (m s : Int32) : Cti l yX8_isState wsX8_isState rmX8_isState g ad [.ref (ad 36), .int (m), .int (s)] u (fun r u' => bI (isS S m s) = r ∧ u = u') := by
  refine Ct.of (cc := cX8_isState) (nL := 3) (ret := (some .boolean)) RX8 (by decide) rfl rfl (Nat.le_of_ble_eq_true rfl) (fun kx C E => ?_)
  have hin_X8 : ∀ w ∈ u_ws RX8 TX8 21, w ∈ wsX8_isState := by decide +kernel
  have hk_20 : Cond.fieldLink RX8 20 "AgainAgainModel" "many" "[I" ∈ wsX8_isState := by decide +kernel
  show G kx 0 0 (WW g ad u) 0 [(0, .ref (ad 36)), (1, .int (m)), (2, .int (s))] []
  have hn := hO.n
  refine r_aload_n C 0 dX8_isState_0 rfl rfl ?_
  refine r_iload_n C 1 dX8_isState_1 rfl rfl ?_
  refine r_callVi C (rest := []) (c_X8_isMachine l g ad u S hM hO m) gX8_isState_X8_isMachine pk_X8_isMachine k_36 dX8_isState_2 rfl rfl rfl rfl ⟨(Nat.le_of_ble_eq_true rfl), (Nat.le_of_ble_eq_true rfl)⟩ rfl rfl (Nat.le_of_ble_eq_true rfl) ⟨(Nat.le_of_ble_eq_true rfl), (Nat.le_of_ble_eq_true rfl)⟩ ?_
  rintro _ _ ⟨rfl, rfl⟩
  refine r_ifB_eq C dX8_isState_5 (tgt := 30) (by decide) (fun h5 => ?_) (fun h5 => ?_)
  · refine r_iconst C dX8_isState_30 (v := nI 0) (by decide) ?_
    exact E.2.2.1 rfl _ _ _ _ dX8_isState_31 (Or.inl rfl) ⟨_, rfl, ⟨bF (by first | exact isS_f1 h5 | exact fun q => h23 ((isS_iff hO hi).mp q)), rfl⟩⟩
  · obtain ⟨i, hi, rfl⟩ := h5
    have hz := hO.z i
    refine r_iload_n C 2 dX8_isState_8 rfl rfl ?_
    refine r_i2l C dX8_isState_9 (v := (s).toInt64) rfl ?_
    refine r_lconst C dX8_isState_10 (v := lI 0) (by decide) ?_
    refine r_aload_n C 0 dX8_isState_11 rfl rfl ?_
    refine r_get C (CN := RX8) (T := TX8) (N := 21) k_36 rfl hin_X8 (j := 4) (by decide) hk_20 rfl rfl dX8_isState_12 ?_
    refine r_iload_n C 1 dX8_isState_15 rfl rfl ?_
    refine r_iald C k_38 (by omega) (by omega) dX8_isState_16 ?_
    refine r_setI (y := (nI (sz S i))) (hM.z (by first | assumption | omega)) ?_
    refine r_iconst C dX8_isState_17 (v := nI 1) (by decide) ?_
    refine r_isub C dX8_isState_18 ?_
    refine r_setI (y := iI (((sz S i) : Nat) - 1)) (iI_sub (((sz S i) : Nat) : Int) ((1 : Nat) : Int)) ?_
    refine r_i2l C dX8_isState_19 (v := lI (((sz S i) : Nat) - 1)) (iI_l (by omega) (by omega)) ?_
    refine r_callSi C (rest := []) (c_X8_in l g ad u ((s).toInt64) (lI 0) (lI (((sz S i) : Nat) - 1))) gX8_isState_X8_in pk_X8_in dX8_isState_20 rfl rfl rfl rfl ⟨(Nat.le_of_ble_eq_true rfl), (Nat.le_of_ble_eq_true rfl)⟩ rfl (Nat.le_of_ble_eq_true rfl) ⟨(Nat.le_of_ble_eq_true rfl), (Nat.le_of_ble_eq_true rfl)⟩ ?_
    rintro _ _ ⟨rfl, rfl⟩
    refine r_setI (y := (bI (isR (sz S i) s))) (bI_iff (inR_iff (n := sz S i) (by omega))) ?_
    refine r_ifB_eq C dX8_isState_23 (tgt := 30) (by decide) (fun h23 => ?_) (fun h23 => ?_)
    · refine r_iconst C dX8_isState_30 (v := nI 0) (by decide) ?_
      exact E.2.2.1 rfl _ _ _ _ dX8_isState_31 (Or.inl rfl) ⟨_, rfl, ⟨bF (by first | exact isS_f1 h5 | exact fun q => h23 ((isS_iff hO hi).mp q)), rfl⟩⟩
    · refine r_iconst C dX8_isState_26 (v := nI 1) (by decide) ?_
      refine r_goto C dX8_isState_27 (tgt := 31) (by decide) ?_
      exact E.2.2.1 rfl _ _ _ _ dX8_isState_31 (Or.inr rfl) ⟨_, rfl, ⟨bT ((isS_iff hO hi).mpr h23), rfl⟩⟩
def rmX8_areBoth : Room := { frames := 2, cells := 0, slots := 0, locals := 46 }
theorem pk_X8_areBoth : Pk yX8_areBoth RX8 2 := by decide +kernel
set_option maxHeartbeats 4000000 in
set_option maxRecDepth 100000 in
theorem c_X8_areBoth (l : Launch) (g : gE) (ad : Nat → Nat) (u : Me) (S : Sg) (hM : RepM S u) (hO : Ok S) (i j : Int32) : Cti l yX8_areBoth wsX8_areBoth rmX8_areBoth g ad [.ref (ad 36), .int (i), .int (j)] u (fun r u' => bI (isM S i ∧ isM S j) = r ∧ u = u') := by
  refine Ct.of (cc := cX8_areBoth) (nL := 3) (ret := (some .boolean)) RX8 (by decide) rfl rfl (Nat.le_of_ble_eq_true rfl) (fun kx C E => ?_)
  show G kx 0 0 (WW g ad u) 0 [(0, .ref (ad 36)), (1, .int (i)), (2, .int (j))] []
  refine r_aload_n C 0 dX8_areBoth_0 rfl rfl ?_
  refine r_iload_n C 1 dX8_areBoth_1 rfl rfl ?_
  refine r_callVi C (rest := []) (c_X8_isMachine l g ad u S hM hO i) gX8_areBoth_X8_isMachine pk_X8_isMachine k_36 dX8_areBoth_2 rfl rfl rfl rfl ⟨(Nat.le_of_ble_eq_true rfl), (Nat.le_of_ble_eq_true rfl)⟩ rfl rfl (Nat.le_of_ble_eq_true rfl) ⟨(Nat.le_of_ble_eq_true rfl), (Nat.le_of_ble_eq_true rfl)⟩ ?_
  rintro _ _ ⟨rfl, rfl⟩
  refine r_ifB_eq C dX8_areBoth_5 (tgt := 20) (by decide) (fun h5 => ?_) (fun h5 => ?_)
  · refine r_iconst C dX8_areBoth_20 (v := nI 0) (by decide) ?_
    exact E.2.2.1 rfl _ _ _ _ dX8_areBoth_21 (Or.inl rfl) ⟨_, rfl, ⟨bF (fun q => by first | exact h5 q.1 | exact h13 q.2), rfl⟩⟩
  · refine r_aload_n C 0 dX8_areBoth_8 rfl rfl ?_
    refine r_iload_n C 2 dX8_areBoth_9 rfl rfl ?_
    refine r_callVi C (rest := []) (c_X8_isMachine l g ad u S hM hO j) gX8_areBoth_X8_isMachine pk_X8_isMachine k_36 dX8_areBoth_10 rfl rfl rfl rfl ⟨(Nat.le_of_ble_eq_true rfl), (Nat.le_of_ble_eq_true rfl)⟩ rfl rfl (Nat.le_of_ble_eq_true rfl) ⟨(Nat.le_of_ble_eq_true rfl), (Nat.le_of_ble_eq_true rfl)⟩ ?_
    rintro _ _ ⟨rfl, rfl⟩
    refine r_ifB_eq C dX8_areBoth_13 (tgt := 20) (by decide) (fun h13 => ?_) (fun h13 => ?_)
    · refine r_iconst C dX8_areBoth_20 (v := nI 0) (by decide) ?_
      exact E.2.2.1 rfl _ _ _ _ dX8_areBoth_21 (Or.inl rfl) ⟨_, rfl, ⟨bF (fun q => by first | exact h5 q.1 | exact h13 q.2), rfl⟩⟩
    · refine r_iconst C dX8_areBoth_16 (v := nI 1) (by decide) ?_
      refine r_goto C dX8_areBoth_17 (tgt := 21) (by decide) ?_
      exact E.2.2.1 rfl _ _ _ _ dX8_areBoth_21 (Or.inr rfl) ⟨_, rfl, ⟨bT (⟨h5, h13⟩), rfl⟩⟩
def rmX8_mine : Room := { frames := 0, cells := 0, slots := 0, locals := 0 }
theorem pk_X8_mine : Pk yX8_mine RX8 2 := by decide +kernel
set_option maxHeartbeats 4000000 in
set_option maxRecDepth 100000 in
theorem c_X8_mine (l : Launch) (g : gE) (ad : Nat → Nat) (u : Me) (S : Sg) (hM : RepM S u) (hO : Ok S) (i p : Nat) (hi : i < sN S) (hp : p / 4 < sz S i) : Cti l yX8_mine wsX8_mine rmX8_mine g ad [.ref (ad 36), .int (nI (i)), .int (nI (p))] u (fun r u' => nI (sa S i (p / 4)) = r ∧ u = u') := by
  refine Ct.of (cc := cX8_mine) (nL := 3) (ret := (some .int)) RX8 (by decide) rfl rfl (Nat.le_of_ble_eq_true rfl) (fun kx C E => ?_)
  have hin_X8 : ∀ w ∈ u_ws RX8 TX8 21, w ∈ wsX8_mine := by decide +kernel
  have hk_23 : Cond.fieldLink RX8 23 "AgainAgainModel" "acts" "[I" ∈ wsX8_mine := by decide +kernel
  show G kx 0 0 (WW g ad u) 0 [(0, .ref (ad 36)), (1, .int (nI (i))), (2, .int (nI (p)))] []
  have hn := hO.n
  have hz := (hO.z i).2
  refine r_aload_n C 0 dX8_mine_0 rfl rfl ?_
  refine r_get C (CN := RX8) (T := TX8) (N := 21) k_36 rfl hin_X8 (j := 5) (by decide) hk_23 rfl rfl dX8_mine_1 ?_
  refine r_iconst C dX8_mine_4 (v := nI 4) (by decide) ?_
  refine r_iload_n C 1 dX8_mine_5 rfl rfl ?_
  refine r_imulN C dX8_mine_6 ?_
  refine r_iload_n C 2 dX8_mine_7 rfl rfl ?_
  refine r_iconst C dX8_mine_8 (v := nI 4) (by decide) ?_
  refine r_idivN C dX8_mine_9 (by omega) (by omega) (by omega) ?_
  refine r_iaddN C dX8_mine_10 ?_
  refine r_iald C k_39 (by omega) (by omega) dX8_mine_11 ?_
  refine r_setI (y := (nI (sa S i (p / 4)))) (hM.a (by assumption) (by first | assumption | omega)) ?_
  exact E.2.1 rfl _ _ _ _ dX8_mine_12 ⟨_, rfl, ⟨rfl, rfl⟩⟩
def rmX8_theirs : Room := { frames := 0, cells := 0, slots := 0, locals := 0 }
theorem pk_X8_theirs : Pk yX8_theirs RX8 2 := by decide +kernel
set_option maxHeartbeats 4000000 in
set_option maxRecDepth 100000 in
theorem c_X8_theirs (l : Launch) (g : gE) (ad : Nat → Nat) (u : Me) (S : Sg) (hM : RepM S u) (hO : Ok S) (j p : Nat) (hj : j < sN S) (hp : p % 4 < sz S j) (hp16 : p < 16) : Cti l yX8_theirs wsX8_theirs rmX8_theirs g ad [.ref (ad 36), .int (nI (j)), .int (nI (p))] u (fun r u' => nI (sa S j (p % 4)) = r ∧ u = u') := by
  refine Ct.of (cc := cX8_theirs) (nL := 3) (ret := (some .int)) RX8 (by decide) rfl rfl (Nat.le_of_ble_eq_true rfl) (fun kx C E => ?_)
  have hin_X8 : ∀ w ∈ u_ws RX8 TX8 21, w ∈ wsX8_theirs := by decide +kernel
  have hk_23 : Cond.fieldLink RX8 23 "AgainAgainModel" "acts" "[I" ∈ wsX8_theirs := by decide +kernel
  show G kx 0 0 (WW g ad u) 0 [(0, .ref (ad 36)), (1, .int (nI (j))), (2, .int (nI (p)))] []
  have hn := hO.n
  have hz := (hO.z j).2
  refine r_aload_n C 0 dX8_theirs_0 rfl rfl ?_
  refine r_get C (CN := RX8) (T := TX8) (N := 21) k_36 rfl hin_X8 (j := 5) (by decide) hk_23 rfl rfl dX8_theirs_1 ?_
  refine r_iconst C dX8_theirs_4 (v := nI 4) (by decide) ?_
  refine r_iload_n C 1 dX8_theirs_5 rfl rfl ?_
  refine r_imulN C dX8_theirs_6 ?_
  refine r_iload_n C 2 dX8_theirs_7 rfl rfl ?_
  refine r_iconst C dX8_theirs_8 (v := nI 4) (by decide) ?_
  refine r_iremN C dX8_theirs_9 (by omega) (by omega) (by omega) ?_
  refine r_iaddN C dX8_theirs_10 ?_
  refine r_iald C k_39 (by omega) (by omega) dX8_theirs_11 ?_
  refine r_setI (y := (nI (sa S j (p % 4)))) (hM.a (by assumption) (by first | assumption | omega)) ?_
  exact E.2.1 rfl _ _ _ _ dX8_theirs_12 ⟨_, rfl, ⟨rfl, rfl⟩⟩
def rmX8_after : Room := { frames := 0, cells := 0, slots := 0, locals := 0 }
theorem pk_X8_after : Pk yX8_after RX8 5 := by decide +kernel
set_option maxHeartbeats 4000000 in
set_option maxRecDepth 100000 in
theorem c_X8_after (l : Launch) (g : gE) (ad : Nat → Nat) (u : Me) (S : Sg) (hM : RepM S u) (hO : Ok S) (i j : Nat) (hi : i < sN S) (hj : j < sN S) (p : Nat) (hp : VP S i j p) (a b : Nat) (ha : a < 3) (hb : b < 3) : Cti l yX8_after wsX8_after rmX8_after g ad [.ref (ad 36), .int (nI (i)), .int (nI (j)), .int (nI (p)), .int (nI (a)), .int (nI (b))] u (fun r u' => nI (4 * sx S i (p / 4) b + sx S j (p % 4) a) = r ∧ u = u') := by
  refine Ct.of (cc := cX8_after) (nL := 6) (ret := (some .int)) RX8 (by decide) rfl rfl (Nat.le_of_ble_eq_true rfl) (fun kx C E => ?_)
  have hin_X8 : ∀ w ∈ u_ws RX8 TX8 21, w ∈ wsX8_after := by decide +kernel
  have hk_26 : Cond.fieldLink RX8 26 "AgainAgainModel" "nexts" "[I" ∈ wsX8_after := by decide +kernel
  show G kx 0 0 (WW g ad u) 0 [(0, .ref (ad 36)), (1, .int (nI (i))), (2, .int (nI (j))), (3, .int (nI (p))), (4, .int (nI (a))), (5, .int (nI (b)))] []
  have hn := hO.n
  have hz1 := (hO.z i).2
  have hz2 := (hO.z j).2
  have hp1 := hp.1
  have hp2 := hp.2
  have hp16 := VP_16 hO hp
  refine r_iconst C dX8_after_0 (v := nI 4) (by decide) ?_
  refine r_aload_n C 0 dX8_after_1 rfl rfl ?_
  refine r_get C (CN := RX8) (T := TX8) (N := 21) k_36 rfl hin_X8 (j := 6) (by decide) hk_26 rfl rfl dX8_after_2 ?_
  refine r_bipush C dX8_after_5 (v := nI 12) (by decide) ?_
  refine r_iload_n C 1 dX8_after_7 rfl rfl ?_
  refine r_imulN C dX8_after_8 ?_
  refine r_iconst C dX8_after_9 (v := nI 3) (by decide) ?_
  refine r_iload_n C 3 dX8_after_10 rfl rfl ?_
  refine r_iconst C dX8_after_11 (v := nI 4) (by decide) ?_
  refine r_idivN C dX8_after_12 (by omega) (by omega) (by omega) ?_
  refine r_imulN C dX8_after_13 ?_
  refine r_iaddN C dX8_after_14 ?_
  refine r_iload C 5 dX8_after_15 rfl ?_
  refine r_iaddN C dX8_after_17 ?_
  refine r_iald C k_40 (by omega) (by omega) dX8_after_18 ?_
  refine r_setI (y := (nI (sx S i (p / 4) b))) (hM.x (by assumption) (by first | assumption | omega) (by first | assumption | omega)) ?_
  refine r_imulN C dX8_after_19 ?_
  refine r_aload_n C 0 dX8_after_20 rfl rfl ?_
  refine r_get C (CN := RX8) (T := TX8) (N := 21) k_36 rfl hin_X8 (j := 6) (by decide) hk_26 rfl rfl dX8_after_21 ?_
  refine r_bipush C dX8_after_24 (v := nI 12) (by decide) ?_
  refine r_iload_n C 2 dX8_after_26 rfl rfl ?_
  refine r_imulN C dX8_after_27 ?_
  refine r_iconst C dX8_after_28 (v := nI 3) (by decide) ?_
  refine r_iload_n C 3 dX8_after_29 rfl rfl ?_
  refine r_iconst C dX8_after_30 (v := nI 4) (by decide) ?_
  refine r_iremN C dX8_after_31 (by omega) (by omega) (by omega) ?_
  refine r_imulN C dX8_after_32 ?_
  refine r_iaddN C dX8_after_33 ?_
  refine r_iload C 4 dX8_after_34 rfl ?_
  refine r_iaddN C dX8_after_36 ?_
  refine r_iald C k_40 (by omega) (by omega) dX8_after_37 ?_
  refine r_setI (y := (nI (sx S j (p % 4) a))) (hM.x (by assumption) (by first | assumption | omega) (by first | assumption | omega)) ?_
  refine r_iaddN C dX8_after_38 ?_
  exact E.2.1 rfl _ _ _ _ dX8_after_39 ⟨_, rfl, ⟨rfl, rfl⟩⟩
def rmX8_next : Room := { frames := 1, cells := 0, slots := 0, locals := 25 }
theorem pk_X8_next : Pk yX8_next RX8 3 := by decide +kernel
set_option maxHeartbeats 4000000 in
set_option maxRecDepth 100000 in
theorem c_X8_next (l : Launch) (g : gE) (ad : Nat → Nat) (u : Me) (S : Sg) (hM : RepM S u) (hO : Ok S) (i j : Nat) (hi : i < sN S) (hj : j < sN S) (p : Nat) (hp : VP S i j p) : Cti l yX8_next wsX8_next rmX8_next g ad [.ref (ad 36), .int (nI (i)), .int (nI (j)), .int (nI (p))] u (fun r u' => nI (fP S i j p) = r ∧ u = u') := by
  refine Ct.of (cc := cX8_next) (nL := 4) (ret := (some .int)) RX8 (by decide) rfl rfl (Nat.le_of_ble_eq_true rfl) (fun kx C E => ?_)
  show G kx 0 0 (WW g ad u) 0 [(0, .ref (ad 36)), (1, .int (nI (i))), (2, .int (nI (j))), (3, .int (nI (p)))] []
  have hn := hO.n
  have hz1 := (hO.z i).2
  have hz2 := (hO.z j).2
  have hp1 := hp.1
  have hp2 := hp.2
  have hp16 := VP_16 hO hp
  refine r_aload_n C 0 dX8_next_0 rfl rfl ?_
  refine r_iload_n C 1 dX8_next_1 rfl rfl ?_
  refine r_iload_n C 2 dX8_next_2 rfl rfl ?_
  refine r_iload_n C 3 dX8_next_3 rfl rfl ?_
  refine r_aload_n C 0 dX8_next_4 rfl rfl ?_
  refine r_iload_n C 1 dX8_next_5 rfl rfl ?_
  refine r_iload_n C 3 dX8_next_6 rfl rfl ?_
  refine r_callVi C (rest := [.int (nI (p)), .int (nI (j)), .int (nI (i)), .ref (ad 36)]) (c_X8_mine l g ad u S hM hO i p (by assumption) (by assumption)) gX8_next_X8_mine pk_X8_mine k_36 dX8_next_7 rfl rfl rfl rfl ⟨(Nat.le_of_ble_eq_true rfl), (Nat.le_of_ble_eq_true rfl)⟩ rfl rfl (Nat.le_of_ble_eq_true rfl) ⟨(Nat.le_of_ble_eq_true rfl), (Nat.le_of_ble_eq_true rfl)⟩ ?_
  rintro _ _ ⟨rfl, rfl⟩
  refine r_aload_n C 0 dX8_next_10 rfl rfl ?_
  refine r_iload_n C 2 dX8_next_11 rfl rfl ?_
  refine r_iload_n C 3 dX8_next_12 rfl rfl ?_
  refine r_callVi C (rest := [.int (nI (sa S i (p / 4))), .int (nI (p)), .int (nI (j)), .int (nI (i)), .ref (ad 36)]) (c_X8_theirs l g ad u S hM hO j p (by assumption) (by assumption) (by assumption)) gX8_next_X8_theirs pk_X8_theirs k_36 dX8_next_13 rfl rfl rfl rfl ⟨(Nat.le_of_ble_eq_true rfl), (Nat.le_of_ble_eq_true rfl)⟩ rfl rfl (Nat.le_of_ble_eq_true rfl) ⟨(Nat.le_of_ble_eq_true rfl), (Nat.le_of_ble_eq_true rfl)⟩ ?_
  rintro _ _ ⟨rfl, rfl⟩
  refine r_callVi C (rest := []) (c_X8_after l g ad u S hM hO i j hi hj p hp (sa S i (p / 4)) (sa S j (p % 4)) (by first | assumption | omega | exact hO.a _ _) (by first | assumption | omega | exact hO.a _ _)) gX8_next_X8_after pk_X8_after k_36 dX8_next_16 rfl rfl rfl rfl ⟨(Nat.le_of_ble_eq_true rfl), (Nat.le_of_ble_eq_true rfl)⟩ rfl rfl (Nat.le_of_ble_eq_true rfl) ⟨(Nat.le_of_ble_eq_true rfl), (Nat.le_of_ble_eq_true rfl)⟩ ?_
  rintro _ _ ⟨rfl, rfl⟩
  exact E.2.1 rfl _ _ _ _ dX8_next_19 ⟨_, rfl, ⟨rfl, rfl⟩⟩
def rmX8_payOf : Room := { frames := 1, cells := 0, slots := 0, locals := 22 }
theorem pk_X8_payOf : Pk yX8_payOf RX8 3 := by decide +kernel
set_option maxHeartbeats 4000000 in
set_option maxRecDepth 100000 in
theorem c_X8_payOf (l : Launch) (g : gE) (ad : Nat → Nat) (u : Me) (S : Sg) (hM : RepM S u) (hO : Ok S) (i j : Nat) (hi : i < sN S) (hj : j < sN S) (p : Nat) (hp : VP S i j p) : Cti l yX8_payOf wsX8_payOf rmX8_payOf g ad [.ref (ad 36), .int (nI (i)), .int (nI (j)), .int (nI (p))] u (fun r u' => iI (gP S i j p) = r ∧ u = u') := by
  refine Ct.of (cc := cX8_payOf) (nL := 4) (ret := (some .int)) RX8 (by decide) rfl rfl (Nat.le_of_ble_eq_true rfl) (fun kx C E => ?_)
  have hin_X8 : ∀ w ∈ u_ws RX8 TX8 21, w ∈ wsX8_payOf := by decide +kernel
  have hk_7 : Cond.fieldLink RX8 7 "AgainAgainModel" "pays" "[I" ∈ wsX8_payOf := by decide +kernel
  show G kx 0 0 (WW g ad u) 0 [(0, .ref (ad 36)), (1, .int (nI (i))), (2, .int (nI (j))), (3, .int (nI (p)))] []
  have hn := hO.n
  have hz1 := (hO.z i).2
  have hz2 := (hO.z j).2
  have hp1 := hp.1
  have hp2 := hp.2
  have hp16 := VP_16 hO hp
  have ha1 := hO.a i (p / 4)
  have ha2 := hO.a j (p % 4)
  refine r_aload_n C 0 dX8_payOf_0 rfl rfl ?_
  refine r_get C (CN := RX8) (T := TX8) (N := 21) k_36 rfl hin_X8 (j := 0) (by decide) hk_7 rfl rfl dX8_payOf_1 ?_
  refine r_iconst C dX8_payOf_4 (v := nI 3) (by decide) ?_
  refine r_aload_n C 0 dX8_payOf_5 rfl rfl ?_
  refine r_iload_n C 1 dX8_payOf_6 rfl rfl ?_
  refine r_iload_n C 3 dX8_payOf_7 rfl rfl ?_
  refine r_callVi C (rest := [.int (nI (3)), .ref (ad 37)]) (c_X8_mine l g ad u S hM hO i p (by assumption) (by assumption)) gX8_payOf_X8_mine pk_X8_mine k_36 dX8_payOf_8 rfl rfl rfl rfl ⟨(Nat.le_of_ble_eq_true rfl), (Nat.le_of_ble_eq_true rfl)⟩ rfl rfl (Nat.le_of_ble_eq_true rfl) ⟨(Nat.le_of_ble_eq_true rfl), (Nat.le_of_ble_eq_true rfl)⟩ ?_
  rintro _ _ ⟨rfl, rfl⟩
  refine r_imulN C dX8_payOf_11 ?_
  refine r_aload_n C 0 dX8_payOf_12 rfl rfl ?_
  refine r_iload_n C 2 dX8_payOf_13 rfl rfl ?_
  refine r_iload_n C 3 dX8_payOf_14 rfl rfl ?_
  refine r_callVi C (rest := [.int (nI (3 * (sa S i (p / 4)))), .ref (ad 37)]) (c_X8_theirs l g ad u S hM hO j p (by assumption) (by assumption) (by assumption)) gX8_payOf_X8_theirs pk_X8_theirs k_36 dX8_payOf_15 rfl rfl rfl rfl ⟨(Nat.le_of_ble_eq_true rfl), (Nat.le_of_ble_eq_true rfl)⟩ rfl rfl (Nat.le_of_ble_eq_true rfl) ⟨(Nat.le_of_ble_eq_true rfl), (Nat.le_of_ble_eq_true rfl)⟩ ?_
  rintro _ _ ⟨rfl, rfl⟩
  refine r_iaddN C dX8_payOf_18 ?_
  refine r_iald C k_37 (by omega) (by omega) dX8_payOf_19 ?_
  refine r_setI (y := (iI (gP S i j p))) (hM.p (hO.a _ _) (hO.a _ _)) ?_
  exact E.2.1 rfl _ _ _ _ dX8_payOf_20 ⟨_, rfl, ⟨rfl, rfl⟩⟩
def rmX8_power : Room := { frames := 0, cells := 0, slots := 0, locals := 0 }
theorem pk_X8_power : Pk yX8_power RX8 2 := by decide +kernel
set_option maxHeartbeats 4000000 in
set_option maxRecDepth 100000 in
theorem c_X8_power (l : Launch) (g : gE) (ad : Nat → Nat) (u : Me) (b : Int) (n : Nat) (hn : n < 2000) : Ctl l yX8_power wsX8_power rmX8_power g ad [.long (lI b), .int (nI (n))] u (fun r u' => lI (pw b n) = r ∧ u = u') := by
  refine Ct.of (cc := cX8_power) (nL := 6) (ret := (some .long)) RX8 (by decide) rfl rfl (Nat.le_of_ble_eq_true rfl) (fun kx C E => ?_)
  show G kx 0 0 (WW g ad u) 0 [(0, .long (lI b)), (2, .int (nI (n)))] []
  refine r_lconst C dX8_power_0 (v := lI 1) (by decide) ?_
  refine r_lstore_n C [(0, .long (lI b)), (2, .int (nI (n))), (3, .long (lI 1))] [1, 2, 0] dX8_power_1 rfl (by decide) rfl ?_
  refine r_iconst C dX8_power_2 (v := nI 0) (by decide) ?_
  refine r_istore C [(0, .long (lI b)), (2, .int (nI (n))), (3, .long (lI 1)), (5, .int (nI (0)))] [1, 2, 3, 0] dX8_power_3 (by decide) rfl ?_
  have L5 : ∀ (fu : Nat) (c : Nat), n < c + fu → (c ≤ n) → G kx 0 0 (WW g ad u) 5 [(0, .long (lI b)), (2, .int (nI (n))), (3, .long (lI (pw b c))), (5, .int (nI (c)))] [] := by
    intro fu
    induction fu with
    | zero => intro c hfu hc; exact absurd hfu (by omega)
    | succ fu ih =>
      intro c hfu hc
      refine r_iload C 3 dX8_power_5 rfl ?_
      refine r_iload_n C 1 dX8_power_7 rfl rfl ?_
      refine r_icmpN_ge C dX8_power_8 (tgt := 21) (by decide) (by omega) (by omega) (fun h8 => ?_) (fun h8 => ?_)
      · refine r_lload_n C 2 dX8_power_21 rfl rfl ?_
        exact E.2.2.2 rfl _ _ _ _ dX8_power_22 ⟨_, rfl, ⟨by rw [show c = n by omega], rfl⟩⟩
      · refine r_lload_n C 2 dX8_power_11 rfl rfl ?_
        refine r_lload_n C 0 dX8_power_12 rfl rfl ?_
        refine r_lmul C dX8_power_13 ?_
        refine r_setL (lI_mul _ _) ?_
        refine r_lstore_n C [(0, .long (lI b)), (2, .int (nI (n))), (3, .long (lI ((pw b c) * b))), (5, .int (nI (c)))] [1, 2, 0, 3] dX8_power_14 rfl (by decide) rfl ?_
        refine r_iinc C [(0, .long (lI b)), (2, .int (nI (n))), (3, .long (lI ((pw b c) * b))), (5, .int (nI (c + 1)))] [1, 2, 3, 0] 3 dX8_power_15 rfl (nI_add _ 1) (by decide) rfl ?_
        refine r_goto C dX8_power_18 (tgt := 5) (by decide) ?_
        exact ih (c + 1) (by omega) (by omega)
  exact L5 (n + 1) 0 (by omega) (by omega)
def rmX8_part : Room := { frames := 0, cells := 0, slots := 0, locals := 0 }
theorem pk_X8_part : Pk yX8_part RX8 1 := by decide +kernel
set_option maxHeartbeats 4000000 in
set_option maxRecDepth 100000 in
theorem c_X8_part (l : Launch) (g : gE) (ad : Nat → Nat) (u : Me) (what : Nat) (hw : what < 2) : Ctl l yX8_part wsX8_part rmX8_part g ad [.ref (ad 36), .int (nI (what))] u (fun r u' => (if what = 0 then mL u 8 else mL u 9) = r ∧ u = u') := by
  refine Ct.of (cc := cX8_part) (nL := 2) (ret := (some .long)) RX8 (by decide) rfl rfl (Nat.le_of_ble_eq_true rfl) (fun kx C E => ?_)
  have hin_X8 : ∀ w ∈ u_ws RX8 TX8 21, w ∈ wsX8_part := by decide +kernel
  have hk_123 : Cond.fieldLink RX8 123 "AgainAgainModel" "over" "J" ∈ wsX8_part := by decide +kernel
  have hk_127 : Cond.fieldLink RX8 127 "AgainAgainModel" "under" "J" ∈ wsX8_part := by decide +kernel
  show G kx 0 0 (WW g ad u) 0 [(0, .ref (ad 36)), (1, .int (nI (what)))] []
  refine r_iload_n C 1 dX8_part_0 rfl rfl ?_
  refine r_ifN_ne C dX8_part_1 (tgt := 11) (by decide) (by omega) (fun h1 => ?_) (fun h1 => ?_)
  · refine r_aload_n C 0 dX8_part_11 rfl rfl ?_
    refine r_get C (CN := RX8) (T := TX8) (N := 21) k_36 rfl hin_X8 (j := 15) (by decide) hk_127 rfl rfl dX8_part_12 ?_
    exact E.2.2.2 rfl _ _ _ _ dX8_part_15 ⟨_, rfl, ⟨if_neg h1, rfl⟩⟩
  · refine r_aload_n C 0 dX8_part_4 rfl rfl ?_
    refine r_get C (CN := RX8) (T := TX8) (N := 21) k_36 rfl hin_X8 (j := 14) (by decide) hk_123 rfl rfl dX8_part_5 ?_
    refine r_goto C dX8_part_8 (tgt := 15) (by decide) ?_
    exact E.2.2.2 rfl _ _ _ _ dX8_part_15 ⟨_, rfl, ⟨if_pos h1, rfl⟩⟩
def rmX8_lowest : Room := { frames := 0, cells := 0, slots := 0, locals := 0 }
theorem pk_X8_lowest : Pk yX8_lowest RX8 2 := by decide +kernel
set_option maxHeartbeats 4000000 in
set_option maxRecDepth 100000 in
theorem c_X8_lowest (l : Launch) (g : gE) (ad : Nat → Nat) (u : Me) (a b : Int) (ha1 : -4398046511104 < a) (ha2 : a < 4398046511104) (hb : 1 ≤ b) (hb2 : b ≤ 4294967296) : Ctv l yX8_lowest wsX8_lowest rmX8_lowest g ad [.ref (ad 36), .long (lI a), .long (lI b)] u (fun u' => sL (sL u 8 (lI (rdN a b))) 9 (lI (rdD a b)) = u') := by
  refine Ct.of (cc := cX8_lowest) (nL := 11) (ret := none) RX8 (by decide) rfl rfl (Nat.le_of_ble_eq_true rfl) (fun kx C E => ?_)
  have hin_X8 : ∀ w ∈ u_ws RX8 TX8 21, w ∈ wsX8_lowest := by decide +kernel
  have hk_123 : Cond.fieldLink RX8 123 "AgainAgainModel" "over" "J" ∈ wsX8_lowest := by decide +kernel
  have hk_127 : Cond.fieldLink RX8 127 "AgainAgainModel" "under" "J" ∈ wsX8_lowest := by decide +kernel
  show G kx 0 0 (WW g ad u) 0 [(0, .ref (ad 36)), (1, .long (lI a)), (3, .long (lI b))] []
  refine r_lload_n C 1 dX8_lowest_0 rfl rfl ?_
  refine r_lconst C dX8_lowest_1 (v := lI 0) (by decide) ?_
  refine r_lcmp C dX8_lowest_2 ?_
  refine r_if_ge C dX8_lowest_3 (tgt := 11) (by decide) (fun h3 => ?_) (fun h3 => ?_)
  · refine r_lload_n C 1 dX8_lowest_11 rfl rfl ?_
    refine r_setL (y := lI (a.natAbs : Nat)) (pos_abs (by omega) (by omega) h3) ?_
    refine r_lstore C [(0, .ref (ad 36)), (1, .long (lI a)), (3, .long (lI b)), (5, .long (lI (a.natAbs : Nat)))] [1, 2, 3, 0] dX8_lowest_12 (by decide) rfl ?_
    refine r_lload_n C 2 dX8_lowest_14 rfl rfl ?_
    refine r_lstore C [(0, .ref (ad 36)), (1, .long (lI a)), (3, .long (lI b)), (5, .long (lI (a.natAbs : Nat))), (7, .long (lI b))] [1, 2, 3, 4, 0] dX8_lowest_15 (by decide) rfl ?_
    have L17 : ∀ (fu : Nat) (G0 : Nat) (L0 : Nat), L0 < fu → (Nat.gcd G0 L0 = Nat.gcd a.natAbs b.natAbs) → (L0 = 0 → 0 < G0) → (G0 < 8796093022208) → (L0 < 8796093022208) → G kx 0 0 (WW g ad u) 17 [(0, .ref (ad 36)), (1, .long (lI a)), (3, .long (lI b)), (5, .long (lI (G0 : Nat))), (7, .long (lI (L0 : Nat)))] [] := by
      intro fu
      induction fu with
      | zero => intro G0 L0 hfu hg hG hGb hLb; exact absurd hfu (by omega)
      | succ fu ih =>
        intro G0 L0 hfu hg hG hGb hLb
        refine r_lload C 4 dX8_lowest_17 rfl ?_
        refine r_lconst C dX8_lowest_19 (v := lI 0) (by decide) ?_
        refine r_lcmp C dX8_lowest_20 ?_
        refine r_if_eq C dX8_lowest_21 (tgt := 42) (by decide) (fun h21 => ?_) (fun h21 => ?_)
        · have hL0 : L0 = 0 := by have := (lI_cmp0 (by omega) (by omega)).mp h21; omega
          have hG0 := hG hL0
          have hg0 : G0 = Nat.gcd a.natAbs b.natAbs := by rw [← hg, hL0, Nat.gcd_zero_right]
          refine r_aload_n C 0 dX8_lowest_42 rfl rfl ?_
          refine r_lload_n C 1 dX8_lowest_43 rfl rfl ?_
          refine r_lload C 3 dX8_lowest_44 rfl ?_
          refine r_ldiv C dX8_lowest_46 (lI_ne0 (by omega) (by omega)) ?_
          refine r_setL (y := lI (rdN a b)) ((lI_div (by omega) (by omega) (by omega) (by omega)).trans (by rw [hg0]; rfl)) ?_
          refine r_putL C (CN := RX8) (T := TX8) (N := 21) fL_8 rfl hin_X8 tyX8 tyX8_ok nmX8 (by decide) hk_123 rfl rfl (by decide +kernel) dX8_lowest_47 ?_
          refine r_aload_n C 0 dX8_lowest_50 rfl rfl ?_
          refine r_lload_n C 2 dX8_lowest_51 rfl rfl ?_
          refine r_lload C 3 dX8_lowest_52 rfl ?_
          refine r_ldiv C dX8_lowest_54 (lI_ne0 (by omega) (by omega)) ?_
          refine r_setL (y := lI (rdD a b)) ((lI_div (by omega) (by omega) (by omega) (by omega)).trans (by rw [hg0]; rfl)) ?_
          refine r_putL C (CN := RX8) (T := TX8) (N := 21) fL_9 rfl hin_X8 tyX8 tyX8_ok nmX8 (by decide) hk_127 rfl rfl (by decide +kernel) dX8_lowest_55 ?_
          exact E.1 rfl _ _ _ dX8_lowest_58 ⟨rfl, rfl⟩
        · have hL0 : ¬ L0 = 0 := fun z => h21 ((lI_cmp0 (by omega) (by omega)).mpr (by omega))
          refine r_lload C 3 dX8_lowest_24 rfl ?_
          refine r_lload C 4 dX8_lowest_26 rfl ?_
          refine r_lrem C dX8_lowest_28 (lI_ne0 (by omega) (by omega)) ?_
          refine r_setL (y := lI (G0 % L0 : Nat)) (lI_remN (by omega) (by omega) (by omega)) ?_
          have hml := Nat.mod_lt G0 (show 0 < L0 by omega)
          refine r_lstore C [(0, .ref (ad 36)), (1, .long (lI a)), (3, .long (lI b)), (5, .long (lI (G0 : Nat))), (7, .long (lI (L0 : Nat))), (9, .long (lI (G0 % L0 : Nat)))] [1, 2, 3, 4, 5, 0] dX8_lowest_29 (by decide) rfl ?_
          refine r_lload C 4 dX8_lowest_31 rfl ?_
          refine r_lstore C [(0, .ref (ad 36)), (1, .long (lI a)), (3, .long (lI b)), (5, .long (lI (L0 : Nat))), (7, .long (lI (L0 : Nat))), (9, .long (lI (G0 % L0 : Nat)))] [1, 2, 3, 0, 4, 5] dX8_lowest_33 (by decide) rfl ?_
          refine r_lload C 5 dX8_lowest_35 rfl ?_
          refine r_lstore C [(0, .ref (ad 36)), (1, .long (lI a)), (3, .long (lI b)), (5, .long (lI (L0 : Nat))), (7, .long (lI (G0 % L0 : Nat))), (9, .long (lI (G0 % L0 : Nat)))] [1, 2, 3, 4, 0, 5] dX8_lowest_37 (by decide) rfl ?_
          refine r_goto C dX8_lowest_39 (tgt := 17) (by decide) ?_
          refine r_lvs C [0, 1, 2, 3, 4] (lv' := [(0, .ref (ad 36)), (1, .long (lI a)), (3, .long (lI b)), (5, .long (lI (L0 : Nat))), (7, .long (lI (G0 % L0 : Nat)))]) rfl ?_
          exact ih L0 (G0 % L0) (by omega) (by rw [Nat.gcd_comm L0, ← Nat.gcd_rec, Nat.gcd_comm]; exact hg) (fun _ => by omega) hLb (by omega)
    have q := L17 (b.natAbs + 1) a.natAbs b.natAbs (by omega) rfl (fun z => absurd z (by omega)) (by omega) (by omega)
    rw [show ((b.natAbs : Nat) : Int) = b by omega] at q
    exact q
  · refine r_lload_n C 1 dX8_lowest_6 rfl rfl ?_
    refine r_lneg C dX8_lowest_7 ?_
    refine r_setL (y := lI (a.natAbs : Nat)) (neg_abs (by omega) (by omega) h3) ?_
    refine r_goto C dX8_lowest_8 (tgt := 12) (by decide) ?_
    refine r_lstore C [(0, .ref (ad 36)), (1, .long (lI a)), (3, .long (lI b)), (5, .long (lI (a.natAbs : Nat)))] [1, 2, 3, 0] dX8_lowest_12 (by decide) rfl ?_
    refine r_lload_n C 2 dX8_lowest_14 rfl rfl ?_
    refine r_lstore C [(0, .ref (ad 36)), (1, .long (lI a)), (3, .long (lI b)), (5, .long (lI (a.natAbs : Nat))), (7, .long (lI b))] [1, 2, 3, 4, 0] dX8_lowest_15 (by decide) rfl ?_
    have L17 : ∀ (fu : Nat) (G0 : Nat) (L0 : Nat), L0 < fu → (Nat.gcd G0 L0 = Nat.gcd a.natAbs b.natAbs) → (L0 = 0 → 0 < G0) → (G0 < 8796093022208) → (L0 < 8796093022208) → G kx 0 0 (WW g ad u) 17 [(0, .ref (ad 36)), (1, .long (lI a)), (3, .long (lI b)), (5, .long (lI (G0 : Nat))), (7, .long (lI (L0 : Nat)))] [] := by
      intro fu
      induction fu with
      | zero => intro G0 L0 hfu hg hG hGb hLb; exact absurd hfu (by omega)
      | succ fu ih =>
        intro G0 L0 hfu hg hG hGb hLb
        refine r_lload C 4 dX8_lowest_17 rfl ?_
        refine r_lconst C dX8_lowest_19 (v := lI 0) (by decide) ?_
        refine r_lcmp C dX8_lowest_20 ?_
        refine r_if_eq C dX8_lowest_21 (tgt := 42) (by decide) (fun h21 => ?_) (fun h21 => ?_)
        · have hL0 : L0 = 0 := by have := (lI_cmp0 (by omega) (by omega)).mp h21; omega
          have hG0 := hG hL0
          have hg0 : G0 = Nat.gcd a.natAbs b.natAbs := by rw [← hg, hL0, Nat.gcd_zero_right]
          refine r_aload_n C 0 dX8_lowest_42 rfl rfl ?_
          refine r_lload_n C 1 dX8_lowest_43 rfl rfl ?_
          refine r_lload C 3 dX8_lowest_44 rfl ?_
          refine r_ldiv C dX8_lowest_46 (lI_ne0 (by omega) (by omega)) ?_
          refine r_setL (y := lI (rdN a b)) ((lI_div (by omega) (by omega) (by omega) (by omega)).trans (by rw [hg0]; rfl)) ?_
          refine r_putL C (CN := RX8) (T := TX8) (N := 21) fL_8 rfl hin_X8 tyX8 tyX8_ok nmX8 (by decide) hk_123 rfl rfl (by decide +kernel) dX8_lowest_47 ?_
          refine r_aload_n C 0 dX8_lowest_50 rfl rfl ?_
          refine r_lload_n C 2 dX8_lowest_51 rfl rfl ?_
          refine r_lload C 3 dX8_lowest_52 rfl ?_
          refine r_ldiv C dX8_lowest_54 (lI_ne0 (by omega) (by omega)) ?_
          refine r_setL (y := lI (rdD a b)) ((lI_div (by omega) (by omega) (by omega) (by omega)).trans (by rw [hg0]; rfl)) ?_
          refine r_putL C (CN := RX8) (T := TX8) (N := 21) fL_9 rfl hin_X8 tyX8 tyX8_ok nmX8 (by decide) hk_127 rfl rfl (by decide +kernel) dX8_lowest_55 ?_
          exact E.1 rfl _ _ _ dX8_lowest_58 ⟨rfl, rfl⟩
        · have hL0 : ¬ L0 = 0 := fun z => h21 ((lI_cmp0 (by omega) (by omega)).mpr (by omega))
          refine r_lload C 3 dX8_lowest_24 rfl ?_
          refine r_lload C 4 dX8_lowest_26 rfl ?_
          refine r_lrem C dX8_lowest_28 (lI_ne0 (by omega) (by omega)) ?_
          refine r_setL (y := lI (G0 % L0 : Nat)) (lI_remN (by omega) (by omega) (by omega)) ?_
          have hml := Nat.mod_lt G0 (show 0 < L0 by omega)
          refine r_lstore C [(0, .ref (ad 36)), (1, .long (lI a)), (3, .long (lI b)), (5, .long (lI (G0 : Nat))), (7, .long (lI (L0 : Nat))), (9, .long (lI (G0 % L0 : Nat)))] [1, 2, 3, 4, 5, 0] dX8_lowest_29 (by decide) rfl ?_
          refine r_lload C 4 dX8_lowest_31 rfl ?_
          refine r_lstore C [(0, .ref (ad 36)), (1, .long (lI a)), (3, .long (lI b)), (5, .long (lI (L0 : Nat))), (7, .long (lI (L0 : Nat))), (9, .long (lI (G0 % L0 : Nat)))] [1, 2, 3, 0, 4, 5] dX8_lowest_33 (by decide) rfl ?_
          refine r_lload C 5 dX8_lowest_35 rfl ?_
          refine r_lstore C [(0, .ref (ad 36)), (1, .long (lI a)), (3, .long (lI b)), (5, .long (lI (L0 : Nat))), (7, .long (lI (G0 % L0 : Nat))), (9, .long (lI (G0 % L0 : Nat)))] [1, 2, 3, 4, 0, 5] dX8_lowest_37 (by decide) rfl ?_
          refine r_goto C dX8_lowest_39 (tgt := 17) (by decide) ?_
          refine r_lvs C [0, 1, 2, 3, 4] (lv' := [(0, .ref (ad 36)), (1, .long (lI a)), (3, .long (lI b)), (5, .long (lI (L0 : Nat))), (7, .long (lI (G0 % L0 : Nat)))]) rfl ?_
          exact ih L0 (G0 % L0) (by omega) (by rw [Nat.gcd_comm L0, ← Nat.gcd_rec, Nat.gcd_comm]; exact hg) (fun _ => by omega) hLb (by omega)
    have q := L17 (b.natAbs + 1) a.natAbs b.natAbs (by omega) rfl (fun z => absurd z (by omega)) (by omega) (by omega)
    rw [show ((b.natAbs : Nat) : Int) = b by omega] at q
    exact q
def rmX8_sumOf : Room := { frames := 0, cells := 0, slots := 0, locals := 0 }
theorem pk_X8_sumOf : Pk yX8_sumOf RX8 2 := by decide +kernel
set_option maxHeartbeats 4000000 in
set_option maxRecDepth 100000 in
theorem c_X8_sumOf (l : Launch) (g : gE) (ad : Nat → Nat) (u : Me) (f : Nat → Nat) (w : Nat → Int) (p0 : Nat) (hp : PLR u f w p0) (a b : Nat) (hab : a ≤ b) (hb : b ≤ tl f p0 + rg f p0) (h16 : tl f p0 + rg f p0 ≤ 16) : Cti l yX8_sumOf wsX8_sumOf rmX8_sumOf g ad [.ref (ad 36), .int (nI (a)), .int (nI (b))] u (fun r u' => iI (sg (fun r => w (it f p0 (a + r))) (b - a)) = r ∧ u = u') := by
  refine Ct.of (cc := cX8_sumOf) (nL := 5) (ret := (some .int)) RX8 (by decide) rfl rfl (Nat.le_of_ble_eq_true rfl) (fun kx C E => ?_)
  have hin_X8 : ∀ w ∈ u_ws RX8 TX8 21, w ∈ wsX8_sumOf := by decide +kernel
  have hk_38 : Cond.fieldLink RX8 38 "AgainAgainModel" "row" "[I" ∈ wsX8_sumOf := by decide +kernel
  show G kx 0 0 (WW g ad u) 0 [(0, .ref (ad 36)), (1, .int (nI (a))), (2, .int (nI (b)))] []
  refine r_iconst C dX8_sumOf_0 (v := nI 0) (by decide) ?_
  refine r_istore_n C [(0, .ref (ad 36)), (1, .int (nI (a))), (2, .int (nI (b))), (3, .int (nI (0)))] [1, 2, 3, 0] dX8_sumOf_1 rfl (by decide) rfl ?_
  refine r_iload_n C 1 dX8_sumOf_2 rfl rfl ?_
  refine r_istore C [(0, .ref (ad 36)), (1, .int (nI (a))), (2, .int (nI (b))), (3, .int (nI (0))), (4, .int (nI (a)))] [1, 2, 3, 4, 0] dX8_sumOf_3 (by decide) rfl ?_
  have L5 : ∀ (fu : Nat) (c : Nat), b < a + c + fu → (a + c ≤ b) → G kx 0 0 (WW g ad u) 5 [(0, .ref (ad 36)), (1, .int (nI (a))), (2, .int (nI (b))), (3, .int (iI (sg (fun r => w (it f p0 (a + r))) c))), (4, .int (nI (a + c)))] [] := by
    intro fu
    induction fu with
    | zero => intro c hfu hc; exact absurd hfu (by omega)
    | succ fu ih =>
      intro c hfu hc
      refine r_iload C 4 dX8_sumOf_5 rfl ?_
      refine r_iload_n C 2 dX8_sumOf_7 rfl rfl ?_
      refine r_icmpN_ge C dX8_sumOf_8 (tgt := 27) (by decide) (by omega) (by omega) (fun h8 => ?_) (fun h8 => ?_)
      · refine r_iload_n C 3 dX8_sumOf_27 rfl rfl ?_
        exact E.2.1 rfl _ _ _ _ dX8_sumOf_28 ⟨_, rfl, ⟨by rw [show c = b - a by omega], rfl⟩⟩
      · refine r_iload_n C 3 dX8_sumOf_11 rfl rfl ?_
        refine r_aload_n C 0 dX8_sumOf_12 rfl rfl ?_
        refine r_get C (CN := RX8) (T := TX8) (N := 21) k_36 rfl hin_X8 (j := 10) (by decide) hk_38 rfl rfl dX8_sumOf_13 ?_
        refine r_iload C 4 dX8_sumOf_16 rfl ?_
        refine r_iald C k_44 (by omega) (by omega) dX8_sumOf_18 ?_
        refine r_setI (y := (iI (w (it f p0 (a + c))))) (hp.2.2 _ (by omega)) ?_
        refine r_iadd C dX8_sumOf_19 ?_
        refine r_setI (iI_add _ _) ?_
        refine r_istore_n C [(0, .ref (ad 36)), (1, .int (nI (a))), (2, .int (nI (b))), (3, .int (iI ((sg (fun r => w (it f p0 (a + r))) c) + (w (it f p0 (a + c)))))), (4, .int (nI (a + c)))] [1, 2, 3, 0, 4] dX8_sumOf_20 rfl (by decide) rfl ?_
        refine r_iinc C [(0, .ref (ad 36)), (1, .int (nI (a))), (2, .int (nI (b))), (3, .int (iI ((sg (fun r => w (it f p0 (a + r))) c) + (w (it f p0 (a + c)))))), (4, .int (nI ((a + c) + 1)))] [1, 2, 3, 4, 0] 4 dX8_sumOf_21 rfl (nI_add _ 1) (by decide) rfl ?_
        refine r_goto C dX8_sumOf_24 (tgt := 5) (by decide) ?_
        exact ih (c + 1) (by omega) (by omega)
  exact L5 (b + 1) 0 (by omega) (by omega)
def rmX8_plays : Room := { frames := 2, cells := 0, slots := 0, locals := 48 }
theorem pk_X8_plays : Pk yX8_plays RX8 3 := by decide +kernel
set_option maxHeartbeats 4000000 in
set_option maxRecDepth 100000 in
theorem c_X8_plays (l : Launch) (g : gE) (ad : Nat → Nat) (u : Me) (S : Sg) (hM : RepM S u) (hO : Ok S) (i j : Nat) (hi : i < sN S) (hj : j < sN S) (p0 : Nat) (hp0 : VP S i j p0) : Ctv l yX8_plays wsX8_plays rmX8_plays g ad [.ref (ad 36), .int (nI (i)), .int (nI (j)), .int (nI (p0))] u (fun u' => (PLR u' (fP S i j) (gP S i j) p0 ∧ Sm [44, 45] [] [10, 11] [] u u') ∧ RepM S u') := by
  refine Ct.of (cc := cX8_plays) (nL := 6) (ret := none) RX8 (by decide) rfl rfl (Nat.le_of_ble_eq_true rfl) (fun kx C E => ?_)
  have hin_X8 : ∀ w ∈ u_ws RX8 TX8 21, w ∈ wsX8_plays := by decide +kernel
  have hk_38 : Cond.fieldLink RX8 38 "AgainAgainModel" "row" "[I" ∈ wsX8_plays := by decide +kernel
  have hk_41 : Cond.fieldLink RX8 41 "AgainAgainModel" "seenAt" "[I" ∈ wsX8_plays := by decide +kernel
  have hk_101 : Cond.fieldLink RX8 101 "AgainAgainModel" "tail" "I" ∈ wsX8_plays := by decide +kernel
  have hk_104 : Cond.fieldLink RX8 104 "AgainAgainModel" "ring" "I" ∈ wsX8_plays := by decide +kernel
  show G kx 0 0 (WW g ad u) 0 [(0, .ref (ad 36)), (1, .int (nI (i))), (2, .int (nI (j))), (3, .int (nI (p0)))] []
  have hn := hO.n
  have hN : ∀ r, it (fP S i j) p0 r < 16 := fun r => VP_16 hO (it_V (V := VP S i j) (fun p _ => VP_f hO) hp0 r)
  refine r_iconst C dX8_plays_0 (v := nI 0) (by decide) ?_
  refine r_istore C [(0, .ref (ad 36)), (1, .int (nI (i))), (2, .int (nI (j))), (3, .int (nI (p0))), (4, .int (nI (0)))] [1, 2, 3, 4, 0] dX8_plays_1 (by decide) rfl ?_
  have L3 : ∀ (fu : Nat) (c : Nat) (v : Me), 16 < c + fu → (c ≤ 16) → (Sm [44, 45] [] [] [] u v) → (∀ q, q < c → mA v 45 q = -4) → (RepM S v) → G kx 0 0 (WW g ad v) 3 [(0, .ref (ad 36)), (1, .int (nI (i))), (2, .int (nI (j))), (3, .int (nI (p0))), (4, .int (nI (c)))] [] := by
    intro fu
    induction fu with
    | zero => intro c v hfu hc hv h4 hM; exact absurd hfu (by omega)
    | succ fu ih =>
      intro c v hfu hc hv h4 hM
      refine r_iload C 4 dX8_plays_3 rfl ?_
      refine r_bipush C dX8_plays_5 (v := nI 16) (by decide) ?_
      refine r_icmpN_ge C dX8_plays_7 (tgt := 25) (by decide) (by omega) (by omega) (fun h7 => ?_) (fun h7 => ?_)
      · refine r_iload_n C 3 dX8_plays_25 rfl rfl ?_
        refine r_istore C [(0, .ref (ad 36)), (1, .int (nI (i))), (2, .int (nI (j))), (3, .int (nI (p0))), (4, .int (nI (p0)))] [1, 2, 3, 4, 0] dX8_plays_26 (by decide) rfl ?_
        refine r_iconst C dX8_plays_28 (v := nI 0) (by decide) ?_
        refine r_istore C [(0, .ref (ad 36)), (1, .int (nI (i))), (2, .int (nI (j))), (3, .int (nI (p0))), (4, .int (nI (p0))), (5, .int (nI (0)))] [1, 2, 3, 4, 5, 0] dX8_plays_29 (by decide) rfl ?_
        have L31 : ∀ (fu : Nat) (r : Nat) (v : Me), 16 < r + fu → (r ≤ 16) → (SRI u (fP S i j) (gP S i j) p0 r v) → (RepM S v) → G kx 0 0 (WW g ad v) 31 [(0, .ref (ad 36)), (1, .int (nI (i))), (2, .int (nI (j))), (3, .int (nI (p0))), (4, .int (nI (it (fP S i j) p0 r))), (5, .int (nI (r)))] [] := by
          intro fu
          induction fu with
          | zero => intro r v hfu hr16 hv hM; exact absurd hfu (by omega)
          | succ fu ih =>
            intro r v hfu hr16 hv hM
            have hV : VP S i j (it (fP S i j) p0 r) := it_V (V := VP S i j) (fun p _ => VP_f hO) hp0 r
            have hl := hN r
            refine r_aload_n C 0 dX8_plays_31 rfl rfl ?_
            refine r_get C (CN := RX8) (T := TX8) (N := 21) k_36 rfl hin_X8 (j := 11) (by decide) hk_41 rfl rfl dX8_plays_32 ?_
            refine r_iload C 4 dX8_plays_35 rfl ?_
            refine r_iald C k_45 (by omega) (by omega) dX8_plays_37 ?_
            refine r_bipush C dX8_plays_38 (v := (-4)) (by decide) ?_
            refine r_icmp_ne C dX8_plays_40 (tgt := 83) (by decide) (fun h40 => ?_) (fun h40 => ?_)
            · obtain ⟨a, ha, e⟩ := hv.hit hN h40
              refine r_aload_n C 0 dX8_plays_83 rfl rfl ?_
              refine r_aload_n C 0 dX8_plays_84 rfl rfl ?_
              refine r_get C (CN := RX8) (T := TX8) (N := 21) k_36 rfl hin_X8 (j := 11) (by decide) hk_41 rfl rfl dX8_plays_85 ?_
              refine r_iload C 4 dX8_plays_88 rfl ?_
              refine r_iald C k_45 (by omega) (by omega) dX8_plays_90 ?_
              refine r_setI (y := (nI (a))) (by rw [← e]; exact hv.2.2.1 a ha) ?_
              refine r_putI C (CN := RX8) (T := TX8) (N := 21) fI_10 rfl hin_X8 tyX8 tyX8_ok nmX8 (by decide) hk_101 rfl rfl (by decide +kernel) dX8_plays_91 ?_
              refine r_aload_n C 0 dX8_plays_94 rfl rfl ?_
              refine r_iload C 5 dX8_plays_95 rfl ?_
              refine r_aload_n C 0 dX8_plays_97 rfl rfl ?_
              refine r_get C (CN := RX8) (T := TX8) (N := 21) k_36 rfl hin_X8 (j := 12) (by decide) hk_101 rfl rfl dX8_plays_98 ?_
              refine r_setI (y := (nI (a))) (mI_sI_self _ _ _) ?_
              refine r_isubN C dX8_plays_101 (by omega) ?_
              refine r_putI C (CN := RX8) (T := TX8) (N := 21) fI_11 rfl hin_X8 tyX8 tyX8_ok nmX8 (by decide) hk_104 rfl rfl (by decide +kernel) dX8_plays_102 ?_
              exact E.1 rfl _ _ _ dX8_plays_105 ⟨rfl, ⟨hv.fin ha e, (hM.sI (c := 10) (by decide) _).sI (c := 11) (by decide) _⟩⟩
            · refine r_aload_n C 0 dX8_plays_43 rfl rfl ?_
              refine r_get C (CN := RX8) (T := TX8) (N := 21) k_36 rfl hin_X8 (j := 11) (by decide) hk_41 rfl rfl dX8_plays_44 ?_
              refine r_iload C 4 dX8_plays_47 rfl ?_
              refine r_iload C 5 dX8_plays_49 rfl ?_
              refine r_iast C k_45 (by omega) (by omega) dX8_plays_51 ?_
              have hr := hv.room hN h40
              have hM : RepM S (sA v (45) (upd (mA v (45)) (it (fP S i j) p0 r) (nI (r)))) := hM.sA (c := 45) (by decide) _
              refine r_aload_n C 0 dX8_plays_52 rfl rfl ?_
              refine r_get C (CN := RX8) (T := TX8) (N := 21) k_36 rfl hin_X8 (j := 10) (by decide) hk_38 rfl rfl dX8_plays_53 ?_
              refine r_iload C 5 dX8_plays_56 rfl ?_
              refine r_aload_n C 0 dX8_plays_58 rfl rfl ?_
              refine r_iload_n C 1 dX8_plays_59 rfl rfl ?_
              refine r_iload_n C 2 dX8_plays_60 rfl rfl ?_
              refine r_iload C 4 dX8_plays_61 rfl ?_
              refine r_callVi C (rest := [.int (nI (r)), .ref (ad 44)]) (c_X8_payOf l g ad (sA v (45) (upd (mA v (45)) (it (fP S i j) p0 r) (nI (r)))) S hM hO i j (by assumption) (by assumption) (it (fP S i j) p0 r) (by assumption)) gX8_plays_X8_payOf pk_X8_payOf k_36 dX8_plays_63 rfl rfl rfl rfl ⟨(Nat.le_of_ble_eq_true rfl), (Nat.le_of_ble_eq_true rfl)⟩ rfl rfl (Nat.le_of_ble_eq_true rfl) ⟨(Nat.le_of_ble_eq_true rfl), (Nat.le_of_ble_eq_true rfl)⟩ ?_
              rintro _ _ ⟨rfl, rfl⟩
              refine r_iast C k_44 (by omega) (by omega) dX8_plays_66 ?_
              have hM : RepM S (sA (sA v (45) (upd (mA v (45)) (it (fP S i j) p0 r) (nI (r)))) (44) (upd (mA (sA v (45) (upd (mA v (45)) (it (fP S i j) p0 r) (nI (r)))) (44)) r (iI (gP S i j (it (fP S i j) p0 r))))) := hM.sA (c := 44) (by decide) _
              refine r_iinc C [(0, .ref (ad 36)), (1, .int (nI (i))), (2, .int (nI (j))), (3, .int (nI (p0))), (4, .int (nI (it (fP S i j) p0 r))), (5, .int (nI (r + 1)))] [1, 2, 3, 4, 5, 0] 5 dX8_plays_67 rfl (nI_add _ 1) (by decide) rfl ?_
              refine r_aload_n C 0 dX8_plays_70 rfl rfl ?_
              refine r_iload_n C 1 dX8_plays_71 rfl rfl ?_
              refine r_iload_n C 2 dX8_plays_72 rfl rfl ?_
              refine r_iload C 4 dX8_plays_73 rfl ?_
              refine r_callVi C (rest := []) (c_X8_next l g ad (sA (sA v (45) (upd (mA v (45)) (it (fP S i j) p0 r) (nI (r)))) (44) (upd (mA (sA v (45) (upd (mA v (45)) (it (fP S i j) p0 r) (nI (r)))) (44)) r (iI (gP S i j (it (fP S i j) p0 r))))) S hM hO i j (by assumption) (by assumption) (it (fP S i j) p0 r) (by assumption)) gX8_plays_X8_next pk_X8_next k_36 dX8_plays_75 rfl rfl rfl rfl ⟨(Nat.le_of_ble_eq_true rfl), (Nat.le_of_ble_eq_true rfl)⟩ rfl rfl (Nat.le_of_ble_eq_true rfl) ⟨(Nat.le_of_ble_eq_true rfl), (Nat.le_of_ble_eq_true rfl)⟩ ?_
              rintro _ _ ⟨rfl, rfl⟩
              refine r_setI (y := (nI (it (fP S i j) p0 (r + 1)))) (rfl) ?_
              refine r_istore C [(0, .ref (ad 36)), (1, .int (nI (i))), (2, .int (nI (j))), (3, .int (nI (p0))), (4, .int (nI (it (fP S i j) p0 (r + 1)))), (5, .int (nI (r + 1)))] [1, 2, 3, 4, 0, 5] dX8_plays_78 (by decide) rfl ?_
              refine r_goto C dX8_plays_80 (tgt := 31) (by decide) ?_
              exact ih (r + 1) _ (by omega) (by omega) (hv.step hN h40) hM
        exact L31 17 0 v (by omega) (by omega) (SRI.init _ _ _ hv (fun j hj => h4 j (by omega))) hM
      · refine r_aload_n C 0 dX8_plays_10 rfl rfl ?_
        refine r_get C (CN := RX8) (T := TX8) (N := 21) k_36 rfl hin_X8 (j := 11) (by decide) hk_41 rfl rfl dX8_plays_11 ?_
        refine r_iload C 4 dX8_plays_14 rfl ?_
        refine r_bipush C dX8_plays_16 (v := (-4)) (by decide) ?_
        refine r_iast C k_45 (by omega) (by omega) dX8_plays_18 ?_
        refine r_iinc C [(0, .ref (ad 36)), (1, .int (nI (i))), (2, .int (nI (j))), (3, .int (nI (p0))), (4, .int (nI (c + 1)))] [1, 2, 3, 4, 0] 4 dX8_plays_19 rfl (nI_add _ 1) (by decide) rfl ?_
        refine r_goto C dX8_plays_22 (tgt := 3) (by decide) ?_
        exact ih (c + 1) _ (by omega) (by omega) (hv.sA (by decide) _) (fun q hq => by
          rw [mA_sA_self]; unfold upd
          by_cases z : q = c
          · rw [if_pos z]
          · rw [if_neg z]; exact h4 q (by omega)) (hM.sA (c := 45) (by decide) _)
  exact L3 17 0 u (by omega) (by omega) Sm.rf (fun q hq => absurd hq (by omega)) hM
def rmX8_worthOfRow : Room := { frames := 1, cells := 0, slots := 0, locals := 30 }
theorem pk_X8_worthOfRow : Pk yX8_worthOfRow RX8 0 := by decide +kernel
set_option maxHeartbeats 4000000 in
set_option maxRecDepth 100000 in
theorem c_X8_worthOfRow (l : Launch) (g : gE) (ad : Nat → Nat) (u : Me) (S : Sg) (hM : RepM S u) (hO : Ok S) (f : Nat → Nat) (w : Nat → Int) (p0 : Nat) (hp : PLR u f w p0) (hN16 : ∀ r, it f p0 r < 16) (hw50 : ∀ r, -50 ≤ w (it f p0 r) ∧ w (it f p0 r) ≤ 50) : Ctv l yX8_worthOfRow wsX8_worthOfRow rmX8_worthOfRow g ad [.ref (ad 36)] u (fun u' => mL u' 8 = lI (vN S f w p0) ∧ mL u' 9 = lI (vD S f w p0) ∧ Sm [] [] [] [8, 9] u u') := by
  refine Ct.of (cc := cX8_worthOfRow) (nL := 7) (ret := none) RX8 (by decide) rfl rfl (Nat.le_of_ble_eq_true rfl) (fun kx C E => ?_)
  have hin_X8 : ∀ w ∈ u_ws RX8 TX8 21, w ∈ wsX8_worthOfRow := by decide +kernel
  have hk_13 : Cond.fieldLink RX8 13 "AgainAgainModel" "up" "I" ∈ wsX8_worthOfRow := by decide +kernel
  have hk_17 : Cond.fieldLink RX8 17 "AgainAgainModel" "by" "I" ∈ wsX8_worthOfRow := by decide +kernel
  have hk_38 : Cond.fieldLink RX8 38 "AgainAgainModel" "row" "[I" ∈ wsX8_worthOfRow := by decide +kernel
  have hk_101 : Cond.fieldLink RX8 101 "AgainAgainModel" "tail" "I" ∈ wsX8_worthOfRow := by decide +kernel
  have hk_104 : Cond.fieldLink RX8 104 "AgainAgainModel" "ring" "I" ∈ wsX8_worthOfRow := by decide +kernel
  show G kx 0 0 (WW g ad u) 0 [(0, .ref (ad 36))] []
  have hd := hO.d
  have hb := way_bounds hO (w := w) hN16 hw50
  obtain ⟨hT, hT16⟩ := tlr_spec hN16
  refine r_lconst C dX8_worthOfRow_0 (v := lI 0) (by decide) ?_
  refine r_lstore_n C [(0, .ref (ad 36)), (1, .long (lI 0))] [1, 0] dX8_worthOfRow_1 rfl (by decide) rfl ?_
  refine r_iconst C dX8_worthOfRow_2 (v := nI 0) (by decide) ?_
  refine r_istore_n C [(0, .ref (ad 36)), (1, .long (lI 0)), (3, .int (nI (0)))] [1, 2, 0] dX8_worthOfRow_3 rfl (by decide) rfl ?_
  have L4 : ∀ (fu : Nat) (c : Nat), tl f p0 < c + fu → (c ≤ tl f p0) → G kx 0 0 (WW g ad u) 4 [(0, .ref (ad 36)), (1, .long (lI (sg (fun k => w (it f p0 k) * pw (sU S) k * pw (sB S) (tl f p0 - k)) c))), (3, .int (nI (c)))] [] := by
    intro fu
    induction fu with
    | zero => intro c hfu hc; exact absurd hfu (by omega)
    | succ fu ih =>
      intro c hfu hc
      refine r_iload_n C 2 dX8_worthOfRow_4 rfl rfl ?_
      refine r_aload_n C 0 dX8_worthOfRow_5 rfl rfl ?_
      refine r_get C (CN := RX8) (T := TX8) (N := 21) k_36 rfl hin_X8 (j := 12) (by decide) hk_101 rfl rfl dX8_worthOfRow_6 ?_
      refine r_setI (y := (nI (tl f p0))) (hp.1) ?_
      refine r_icmpN_ge C dX8_worthOfRow_9 (tgt := 53) (by decide) (by omega) (by omega) (fun h9 => ?_) (fun h9 => ?_)
      · refine r_lconst C dX8_worthOfRow_53 (v := lI 0) (by decide) ?_
        refine r_lstore_n C [(0, .ref (ad 36)), (1, .long (lI (sg (fun k => w (it f p0 k) * pw (sU S) k * pw (sB S) (tl f p0 - k)) c))), (3, .long (lI 0))] [1, 2, 0] dX8_worthOfRow_54 rfl (by decide) rfl ?_
        refine r_iconst C dX8_worthOfRow_55 (v := nI 0) (by decide) ?_
        refine r_istore C [(0, .ref (ad 36)), (1, .long (lI (sg (fun k => w (it f p0 k) * pw (sU S) k * pw (sB S) (tl f p0 - k)) c))), (3, .long (lI 0)), (5, .int (nI (0)))] [1, 2, 3, 0] dX8_worthOfRow_56 (by decide) rfl ?_
        rw [show c = tl f p0 by omega]
        have L58 : ∀ (fu : Nat) (c : Nat), rg f p0 < c + fu → (c ≤ rg f p0) → G kx 0 0 (WW g ad u) 58 [(0, .ref (ad 36)), (1, .long (lI (sg (fun k => w (it f p0 k) * pw (sU S) k * pw (sB S) (tl f p0 - k)) (tl f p0)))), (3, .long (lI (sg (fun k => w (it f p0 (tl f p0 + k)) * pw (sU S) k * pw (sB S) (rg f p0 - k)) c))), (5, .int (nI (c)))] [] := by
          intro fu
          induction fu with
          | zero => intro c hfu hc; exact absurd hfu (by omega)
          | succ fu ih =>
            intro c hfu hc
            refine r_iload C 3 dX8_worthOfRow_58 rfl ?_
            refine r_aload_n C 0 dX8_worthOfRow_60 rfl rfl ?_
            refine r_get C (CN := RX8) (T := TX8) (N := 21) k_36 rfl hin_X8 (j := 13) (by decide) hk_104 rfl rfl dX8_worthOfRow_61 ?_
            refine r_setI (y := (nI (rg f p0))) (hp.2.1) ?_
            refine r_icmpN_ge C dX8_worthOfRow_64 (tgt := 116) (by decide) (by omega) (by omega) (fun h64 => ?_) (fun h64 => ?_)
            · refine r_aload_n C 0 dX8_worthOfRow_116 rfl rfl ?_
              refine r_get C (CN := RX8) (T := TX8) (N := 21) k_36 rfl hin_X8 (j := 2) (by decide) hk_17 rfl rfl dX8_worthOfRow_117 ?_
              refine r_setI (y := (nI (sB S))) (hM.b) ?_
              refine r_i2l C dX8_worthOfRow_120 (v := lI ((sB S) : Nat)) (nI_lI (by omega)) ?_
              refine r_aload_n C 0 dX8_worthOfRow_121 rfl rfl ?_
              refine r_get C (CN := RX8) (T := TX8) (N := 21) k_36 rfl hin_X8 (j := 13) (by decide) hk_104 rfl rfl dX8_worthOfRow_122 ?_
              refine r_setI (y := (nI (rg f p0))) (hp.2.1) ?_
              refine r_callSl C (rest := []) (c_X8_power l g ad u ((sB S) : Nat) (rg f p0) (by omega)) gX8_worthOfRow_X8_power pk_X8_power dX8_worthOfRow_125 rfl rfl rfl rfl ⟨(Nat.le_of_ble_eq_true rfl), (Nat.le_of_ble_eq_true rfl)⟩ rfl (Nat.le_of_ble_eq_true rfl) ⟨(Nat.le_of_ble_eq_true rfl), (Nat.le_of_ble_eq_true rfl)⟩ ?_
              rintro _ _ ⟨rfl, rfl⟩
              refine r_aload_n C 0 dX8_worthOfRow_128 rfl rfl ?_
              refine r_get C (CN := RX8) (T := TX8) (N := 21) k_36 rfl hin_X8 (j := 1) (by decide) hk_13 rfl rfl dX8_worthOfRow_129 ?_
              refine r_setI (y := (nI (sU S))) (hM.u) ?_
              refine r_i2l C dX8_worthOfRow_132 (v := lI ((sU S) : Nat)) (nI_lI (by omega)) ?_
              refine r_aload_n C 0 dX8_worthOfRow_133 rfl rfl ?_
              refine r_get C (CN := RX8) (T := TX8) (N := 21) k_36 rfl hin_X8 (j := 13) (by decide) hk_104 rfl rfl dX8_worthOfRow_134 ?_
              refine r_setI (y := (nI (rg f p0))) (hp.2.1) ?_
              refine r_callSl C (rest := [.long (lI (pw ((sB S) : Nat) (rg f p0)))]) (c_X8_power l g ad u ((sU S) : Nat) (rg f p0) (by omega)) gX8_worthOfRow_X8_power pk_X8_power dX8_worthOfRow_137 rfl rfl rfl rfl ⟨(Nat.le_of_ble_eq_true rfl), (Nat.le_of_ble_eq_true rfl)⟩ rfl (Nat.le_of_ble_eq_true rfl) ⟨(Nat.le_of_ble_eq_true rfl), (Nat.le_of_ble_eq_true rfl)⟩ ?_
              rintro _ _ ⟨rfl, rfl⟩
              refine r_lsub C dX8_worthOfRow_140 ?_
              refine r_setL (lI_sub _ _) ?_
              refine r_lstore C [(0, .ref (ad 36)), (1, .long (lI (sg (fun k => w (it f p0 k) * pw (sU S) k * pw (sB S) (tl f p0 - k)) (tl f p0)))), (3, .long (lI (sg (fun k => w (it f p0 (tl f p0 + k)) * pw (sU S) k * pw (sB S) (rg f p0 - k)) c))), (5, .long (lI ((pw ((sB S) : Nat) (rg f p0)) - (pw ((sU S) : Nat) (rg f p0)))))] [1, 2, 3, 0] dX8_worthOfRow_141 (by decide) rfl ?_
              refine r_aload_n C 0 dX8_worthOfRow_143 rfl rfl ?_
              refine r_lload_n C 1 dX8_worthOfRow_144 rfl rfl ?_
              refine r_lload C 3 dX8_worthOfRow_145 rfl ?_
              refine r_lmul C dX8_worthOfRow_147 ?_
              refine r_setL (lI_mul _ _) ?_
              refine r_aload_n C 0 dX8_worthOfRow_148 rfl rfl ?_
              refine r_get C (CN := RX8) (T := TX8) (N := 21) k_36 rfl hin_X8 (j := 1) (by decide) hk_13 rfl rfl dX8_worthOfRow_149 ?_
              refine r_setI (y := (nI (sU S))) (hM.u) ?_
              refine r_i2l C dX8_worthOfRow_152 (v := lI ((sU S) : Nat)) (nI_lI (by omega)) ?_
              refine r_aload_n C 0 dX8_worthOfRow_153 rfl rfl ?_
              refine r_get C (CN := RX8) (T := TX8) (N := 21) k_36 rfl hin_X8 (j := 12) (by decide) hk_101 rfl rfl dX8_worthOfRow_154 ?_
              refine r_setI (y := (nI (tl f p0))) (hp.1) ?_
              refine r_callSl C (rest := [.long (lI ((sg (fun k => w (it f p0 k) * pw (sU S) k * pw (sB S) (tl f p0 - k)) (tl f p0)) * ((pw ((sB S) : Nat) (rg f p0)) - (pw ((sU S) : Nat) (rg f p0))))), .ref (ad 36)]) (c_X8_power l g ad u ((sU S) : Nat) (tl f p0) (by omega)) gX8_worthOfRow_X8_power pk_X8_power dX8_worthOfRow_157 rfl rfl rfl rfl ⟨(Nat.le_of_ble_eq_true rfl), (Nat.le_of_ble_eq_true rfl)⟩ rfl (Nat.le_of_ble_eq_true rfl) ⟨(Nat.le_of_ble_eq_true rfl), (Nat.le_of_ble_eq_true rfl)⟩ ?_
              rintro _ _ ⟨rfl, rfl⟩
              refine r_lload_n C 2 dX8_worthOfRow_160 rfl rfl ?_
              refine r_lmul C dX8_worthOfRow_161 ?_
              refine r_setL (lI_mul _ _) ?_
              refine r_ladd C dX8_worthOfRow_162 ?_
              refine r_setL (lI_add _ _) ?_
              refine r_aload_n C 0 dX8_worthOfRow_163 rfl rfl ?_
              refine r_get C (CN := RX8) (T := TX8) (N := 21) k_36 rfl hin_X8 (j := 2) (by decide) hk_17 rfl rfl dX8_worthOfRow_164 ?_
              refine r_setI (y := (nI (sB S))) (hM.b) ?_
              refine r_i2l C dX8_worthOfRow_167 (v := lI ((sB S) : Nat)) (nI_lI (by omega)) ?_
              refine r_aload_n C 0 dX8_worthOfRow_168 rfl rfl ?_
              refine r_get C (CN := RX8) (T := TX8) (N := 21) k_36 rfl hin_X8 (j := 12) (by decide) hk_101 rfl rfl dX8_worthOfRow_169 ?_
              refine r_setI (y := (nI (tl f p0))) (hp.1) ?_
              refine r_callSl C (rest := [.long (lI (((sg (fun k => w (it f p0 k) * pw (sU S) k * pw (sB S) (tl f p0 - k)) (tl f p0)) * ((pw ((sB S) : Nat) (rg f p0)) - (pw ((sU S) : Nat) (rg f p0)))) + ((pw ((sU S) : Nat) (tl f p0)) * (sg (fun k => w (it f p0 (tl f p0 + k)) * pw (sU S) k * pw (sB S) (rg f p0 - k)) c)))), .ref (ad 36)]) (c_X8_power l g ad u ((sB S) : Nat) (tl f p0) (by omega)) gX8_worthOfRow_X8_power pk_X8_power dX8_worthOfRow_172 rfl rfl rfl rfl ⟨(Nat.le_of_ble_eq_true rfl), (Nat.le_of_ble_eq_true rfl)⟩ rfl (Nat.le_of_ble_eq_true rfl) ⟨(Nat.le_of_ble_eq_true rfl), (Nat.le_of_ble_eq_true rfl)⟩ ?_
              rintro _ _ ⟨rfl, rfl⟩
              refine r_lload C 3 dX8_worthOfRow_175 rfl ?_
              refine r_lmul C dX8_worthOfRow_177 ?_
              refine r_setL (lI_mul _ _) ?_
              rw [show c = rg f p0 by omega]
              refine r_st2 (a := lI (dnF S f p0)) (b := lI (nmF S f w p0)) rfl (congrArg lI (NUM_M (fun r => w (it f p0 r)) (tl f p0) (rg f p0) (sU S) (sB S))) ?_
              refine r_callVv C (rest := []) (c_X8_lowest l g ad u (nmF S f w p0) (dnF S f p0) hb.1 hb.2.1 hb.2.2.1 hb.2.2.2) gX8_worthOfRow_X8_lowest pk_X8_lowest k_36 dX8_worthOfRow_178 rfl rfl rfl rfl ⟨(Nat.le_of_ble_eq_true rfl), (Nat.le_of_ble_eq_true rfl)⟩ rfl rfl (Nat.le_of_ble_eq_true rfl) ⟨(Nat.le_of_ble_eq_true rfl), (Nat.le_of_ble_eq_true rfl)⟩ ?_
              rintro _ rfl
              exact E.1 rfl _ _ _ dX8_worthOfRow_181 ⟨rfl, ⟨by rfl, by rfl, (Sm.rf.sL (c := 8) (by decide) _).sL (c := 9) (by decide) _⟩⟩
            · refine r_lload_n C 2 dX8_worthOfRow_67 rfl rfl ?_
              refine r_aload_n C 0 dX8_worthOfRow_68 rfl rfl ?_
              refine r_get C (CN := RX8) (T := TX8) (N := 21) k_36 rfl hin_X8 (j := 10) (by decide) hk_38 rfl rfl dX8_worthOfRow_69 ?_
              refine r_aload_n C 0 dX8_worthOfRow_72 rfl rfl ?_
              refine r_get C (CN := RX8) (T := TX8) (N := 21) k_36 rfl hin_X8 (j := 12) (by decide) hk_101 rfl rfl dX8_worthOfRow_73 ?_
              refine r_setI (y := (nI (tl f p0))) (hp.1) ?_
              refine r_iload C 3 dX8_worthOfRow_76 rfl ?_
              refine r_iaddN C dX8_worthOfRow_78 ?_
              refine r_iald C k_44 (by omega) (by omega) dX8_worthOfRow_79 ?_
              refine r_setI (y := (iI (w (it f p0 (tl f p0 + c))))) (hp.2.2 _ (by omega)) ?_
              have hw := hw50 (tl f p0 + c)
              refine r_i2l C dX8_worthOfRow_80 (v := lI (w (it f p0 (tl f p0 + c)))) (iI_l (by omega) (by omega)) ?_
              refine r_aload_n C 0 dX8_worthOfRow_81 rfl rfl ?_
              refine r_get C (CN := RX8) (T := TX8) (N := 21) k_36 rfl hin_X8 (j := 1) (by decide) hk_13 rfl rfl dX8_worthOfRow_82 ?_
              refine r_setI (y := (nI (sU S))) (hM.u) ?_
              refine r_i2l C dX8_worthOfRow_85 (v := lI ((sU S) : Nat)) (nI_lI (by omega)) ?_
              refine r_iload C 3 dX8_worthOfRow_86 rfl ?_
              refine r_callSl C (rest := [.long (lI (w (it f p0 (tl f p0 + c)))), .long (lI (sg (fun k => w (it f p0 (tl f p0 + k)) * pw (sU S) k * pw (sB S) (rg f p0 - k)) c))]) (c_X8_power l g ad u ((sU S) : Nat) c (by omega)) gX8_worthOfRow_X8_power pk_X8_power dX8_worthOfRow_88 rfl rfl rfl rfl ⟨(Nat.le_of_ble_eq_true rfl), (Nat.le_of_ble_eq_true rfl)⟩ rfl (Nat.le_of_ble_eq_true rfl) ⟨(Nat.le_of_ble_eq_true rfl), (Nat.le_of_ble_eq_true rfl)⟩ ?_
              rintro _ _ ⟨rfl, rfl⟩
              refine r_lmul C dX8_worthOfRow_91 ?_
              refine r_setL (lI_mul _ _) ?_
              refine r_aload_n C 0 dX8_worthOfRow_92 rfl rfl ?_
              refine r_get C (CN := RX8) (T := TX8) (N := 21) k_36 rfl hin_X8 (j := 2) (by decide) hk_17 rfl rfl dX8_worthOfRow_93 ?_
              refine r_setI (y := (nI (sB S))) (hM.b) ?_
              refine r_i2l C dX8_worthOfRow_96 (v := lI ((sB S) : Nat)) (nI_lI (by omega)) ?_
              refine r_aload_n C 0 dX8_worthOfRow_97 rfl rfl ?_
              refine r_get C (CN := RX8) (T := TX8) (N := 21) k_36 rfl hin_X8 (j := 13) (by decide) hk_104 rfl rfl dX8_worthOfRow_98 ?_
              refine r_setI (y := (nI (rg f p0))) (hp.2.1) ?_
              refine r_iload C 3 dX8_worthOfRow_101 rfl ?_
              refine r_isubN C dX8_worthOfRow_103 (by omega) ?_
              refine r_callSl C (rest := [.long (lI ((w (it f p0 (tl f p0 + c))) * (pw ((sU S) : Nat) c))), .long (lI (sg (fun k => w (it f p0 (tl f p0 + k)) * pw (sU S) k * pw (sB S) (rg f p0 - k)) c))]) (c_X8_power l g ad u ((sB S) : Nat) ((rg f p0) - c) (by omega)) gX8_worthOfRow_X8_power pk_X8_power dX8_worthOfRow_104 rfl rfl rfl rfl ⟨(Nat.le_of_ble_eq_true rfl), (Nat.le_of_ble_eq_true rfl)⟩ rfl (Nat.le_of_ble_eq_true rfl) ⟨(Nat.le_of_ble_eq_true rfl), (Nat.le_of_ble_eq_true rfl)⟩ ?_
              rintro _ _ ⟨rfl, rfl⟩
              refine r_lmul C dX8_worthOfRow_107 ?_
              refine r_setL (lI_mul _ _) ?_
              refine r_ladd C dX8_worthOfRow_108 ?_
              refine r_setL (lI_add _ _) ?_
              refine r_lstore_n C [(0, .ref (ad 36)), (1, .long (lI (sg (fun k => w (it f p0 k) * pw (sU S) k * pw (sB S) (tl f p0 - k)) (tl f p0)))), (3, .long (lI ((sg (fun k => w (it f p0 (tl f p0 + k)) * pw (sU S) k * pw (sB S) (rg f p0 - k)) c) + (((w (it f p0 (tl f p0 + c))) * (pw ((sU S) : Nat) c)) * (pw ((sB S) : Nat) ((rg f p0) - c)))))), (5, .int (nI (c)))] [1, 2, 0, 3] dX8_worthOfRow_109 rfl (by decide) rfl ?_
              refine r_iinc C [(0, .ref (ad 36)), (1, .long (lI (sg (fun k => w (it f p0 k) * pw (sU S) k * pw (sB S) (tl f p0 - k)) (tl f p0)))), (3, .long (lI ((sg (fun k => w (it f p0 (tl f p0 + k)) * pw (sU S) k * pw (sB S) (rg f p0 - k)) c) + (((w (it f p0 (tl f p0 + c))) * (pw ((sU S) : Nat) c)) * (pw ((sB S) : Nat) ((rg f p0) - c)))))), (5, .int (nI (c + 1)))] [1, 2, 3, 0] 3 dX8_worthOfRow_110 rfl (nI_add _ 1) (by decide) rfl ?_
              refine r_goto C dX8_worthOfRow_113 (tgt := 58) (by decide) ?_
              exact ih (c + 1) (by omega) (by omega)
        exact L58 (rg f p0 + 1) 0 (by omega) (by omega)
      · refine r_lload_n C 1 dX8_worthOfRow_12 rfl rfl ?_
        refine r_aload_n C 0 dX8_worthOfRow_13 rfl rfl ?_
        refine r_get C (CN := RX8) (T := TX8) (N := 21) k_36 rfl hin_X8 (j := 10) (by decide) hk_38 rfl rfl dX8_worthOfRow_14 ?_
        refine r_iload_n C 2 dX8_worthOfRow_17 rfl rfl ?_
        refine r_iald C k_44 (by omega) (by omega) dX8_worthOfRow_18 ?_
        refine r_setI (y := (iI (w (it f p0 c)))) (hp.2.2 _ (by omega)) ?_
        have hw := hw50 c
        refine r_i2l C dX8_worthOfRow_19 (v := lI (w (it f p0 c))) (iI_l (by omega) (by omega)) ?_
        refine r_aload_n C 0 dX8_worthOfRow_20 rfl rfl ?_
        refine r_get C (CN := RX8) (T := TX8) (N := 21) k_36 rfl hin_X8 (j := 1) (by decide) hk_13 rfl rfl dX8_worthOfRow_21 ?_
        refine r_setI (y := (nI (sU S))) (hM.u) ?_
        refine r_i2l C dX8_worthOfRow_24 (v := lI ((sU S) : Nat)) (nI_lI (by omega)) ?_
        refine r_iload_n C 2 dX8_worthOfRow_25 rfl rfl ?_
        refine r_callSl C (rest := [.long (lI (w (it f p0 c))), .long (lI (sg (fun k => w (it f p0 k) * pw (sU S) k * pw (sB S) (tl f p0 - k)) c))]) (c_X8_power l g ad u ((sU S) : Nat) c (by omega)) gX8_worthOfRow_X8_power pk_X8_power dX8_worthOfRow_26 rfl rfl rfl rfl ⟨(Nat.le_of_ble_eq_true rfl), (Nat.le_of_ble_eq_true rfl)⟩ rfl (Nat.le_of_ble_eq_true rfl) ⟨(Nat.le_of_ble_eq_true rfl), (Nat.le_of_ble_eq_true rfl)⟩ ?_
        rintro _ _ ⟨rfl, rfl⟩
        refine r_lmul C dX8_worthOfRow_29 ?_
        refine r_setL (lI_mul _ _) ?_
        refine r_aload_n C 0 dX8_worthOfRow_30 rfl rfl ?_
        refine r_get C (CN := RX8) (T := TX8) (N := 21) k_36 rfl hin_X8 (j := 2) (by decide) hk_17 rfl rfl dX8_worthOfRow_31 ?_
        refine r_setI (y := (nI (sB S))) (hM.b) ?_
        refine r_i2l C dX8_worthOfRow_34 (v := lI ((sB S) : Nat)) (nI_lI (by omega)) ?_
        refine r_aload_n C 0 dX8_worthOfRow_35 rfl rfl ?_
        refine r_get C (CN := RX8) (T := TX8) (N := 21) k_36 rfl hin_X8 (j := 12) (by decide) hk_101 rfl rfl dX8_worthOfRow_36 ?_
        refine r_setI (y := (nI (tl f p0))) (hp.1) ?_
        refine r_iload_n C 2 dX8_worthOfRow_39 rfl rfl ?_
        refine r_isubN C dX8_worthOfRow_40 (by omega) ?_
        refine r_callSl C (rest := [.long (lI ((w (it f p0 c)) * (pw ((sU S) : Nat) c))), .long (lI (sg (fun k => w (it f p0 k) * pw (sU S) k * pw (sB S) (tl f p0 - k)) c))]) (c_X8_power l g ad u ((sB S) : Nat) ((tl f p0) - c) (by omega)) gX8_worthOfRow_X8_power pk_X8_power dX8_worthOfRow_41 rfl rfl rfl rfl ⟨(Nat.le_of_ble_eq_true rfl), (Nat.le_of_ble_eq_true rfl)⟩ rfl (Nat.le_of_ble_eq_true rfl) ⟨(Nat.le_of_ble_eq_true rfl), (Nat.le_of_ble_eq_true rfl)⟩ ?_
        rintro _ _ ⟨rfl, rfl⟩
        refine r_lmul C dX8_worthOfRow_44 ?_
        refine r_setL (lI_mul _ _) ?_
        refine r_ladd C dX8_worthOfRow_45 ?_
        refine r_setL (lI_add _ _) ?_
        refine r_lstore_n C [(0, .ref (ad 36)), (1, .long (lI ((sg (fun k => w (it f p0 k) * pw (sU S) k * pw (sB S) (tl f p0 - k)) c) + (((w (it f p0 c)) * (pw ((sU S) : Nat) c)) * (pw ((sB S) : Nat) ((tl f p0) - c)))))), (3, .int (nI (c)))] [1, 0, 2] dX8_worthOfRow_46 rfl (by decide) rfl ?_
        refine r_iinc C [(0, .ref (ad 36)), (1, .long (lI ((sg (fun k => w (it f p0 k) * pw (sU S) k * pw (sB S) (tl f p0 - k)) c) + (((w (it f p0 c)) * (pw ((sU S) : Nat) c)) * (pw ((sB S) : Nat) ((tl f p0) - c)))))), (3, .int (nI (c + 1)))] [1, 2, 0] 2 dX8_worthOfRow_47 rfl (nI_add _ 1) (by decide) rfl ?_
        refine r_goto C dX8_worthOfRow_50 (tgt := 4) (by decide) ?_
        exact ih (c + 1) (by omega) (by omega)
  exact L4 (tl f p0 + 1) 0 (by omega) (by omega)
