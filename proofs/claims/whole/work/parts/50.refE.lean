
theorem nI_ne4 {p : Nat} (h : p < 1000) : ¬ nI p = -4 := by
  intro e
  have e2 := congrArg Int32.toInt e
  rw [nI_toInt (by omega)] at e2
  have e3 : ((-4 : Int32)).toInt = -4 := by decide
  omega
def rmX8_told : Room := { frames := 3, cells := 0, slots := 0, locals := 68 }
theorem pk_X8_told : Pk yX8_told RX8 3 := by decide +kernel
set_option maxHeartbeats 4000000 in
set_option maxRecDepth 100000 in
theorem c_X8_told (l : Launch) (g : gE) (ad : Nat → Nat) (u : Me) (S : Sg) (hM : RepM S u) (hO : Ok S) (m s w : Int32) : Cti l yX8_told wsX8_told rmX8_told g ad [.ref (ad 36), .int (m), .int (s), .int (w)] u (fun r u' => toldA S m s w = r ∧ RepM S u' ∧ SmR u u') := by
  refine Ct.of (cc := cX8_told) (nL := 4) (ret := (some .int)) RX8 (by decide) rfl rfl (Nat.le_of_ble_eq_true rfl) (fun kx C E => ?_)
  have hin_X8 : ∀ w ∈ u_ws RX8 TX8 21, w ∈ wsX8_told := by decide +kernel
  have hk_23 : Cond.fieldLink RX8 23 "AgainAgainModel" "acts" "[I" ∈ wsX8_told := by decide +kernel
  have hk_26 : Cond.fieldLink RX8 26 "AgainAgainModel" "nexts" "[I" ∈ wsX8_told := by decide +kernel
  have hk_74 : Cond.constantLong RX8 74 (3) ∈ wsX8_told := by decide +kernel
  show G kx 0 0 (WW g ad u) 0 [(0, .ref (ad 36)), (1, .int (m)), (2, .int (s)), (3, .int (w))] []
  have hn := hO.n
  refine r_aload_n C 0 dX8_told_0 rfl rfl ?_
  refine r_iload_n C 1 dX8_told_1 rfl rfl ?_
  refine r_iload_n C 2 dX8_told_2 rfl rfl ?_
  refine r_callVi C (rest := []) (c_X8_isState l g ad u S hM hO m s) gX8_told_X8_isState pk_X8_isState k_36 dX8_told_3 rfl rfl rfl rfl ⟨(Nat.le_of_ble_eq_true rfl), (Nat.le_of_ble_eq_true rfl)⟩ rfl rfl (Nat.le_of_ble_eq_true rfl) ⟨(Nat.le_of_ble_eq_true rfl), (Nat.le_of_ble_eq_true rfl)⟩ ?_
  rintro _ _ ⟨rfl, rfl⟩
  refine r_ifB_eq C dX8_told_6 (tgt := 21) (by decide) (fun h6 => ?_) (fun h6 => ?_)
  · refine r_iconst C dX8_told_21 (v := (-1)) (by decide) ?_
    refine r_goto C dX8_told_22 (tgt := 59) (by decide) ?_
    exact E.2.1 rfl _ _ _ _ dX8_told_59 ⟨_, rfl, ⟨ifp_f (fun q => by first | exact h6 q.1 | exact h18 q.2) _ _, hM, SmR.rf⟩⟩
  · obtain ⟨m0, hm, rfl, s0, hs, rfl⟩ := h6
    have hz := (hO.z m0).2
    refine r_iload_n C 3 dX8_told_9 rfl rfl ?_
    refine r_i2l C dX8_told_10 (v := (w).toInt64) rfl ?_
    refine r_lconst C dX8_told_11 (v := lI 0) (by decide) ?_
    refine r_ldc2 C (v := (3)) hk_74 dX8_told_12 ?_
    refine r_setL (y := lI (3)) (by decide) ?_
    refine r_callSi C (rest := []) (c_X8_in l g ad u ((w).toInt64) (lI 0) (lI (3))) gX8_told_X8_in pk_X8_in dX8_told_15 rfl rfl rfl rfl ⟨(Nat.le_of_ble_eq_true rfl), (Nat.le_of_ble_eq_true rfl)⟩ rfl (Nat.le_of_ble_eq_true rfl) ⟨(Nat.le_of_ble_eq_true rfl), (Nat.le_of_ble_eq_true rfl)⟩ ?_
    rintro _ _ ⟨rfl, rfl⟩
    refine r_setI (y := (bI (isR 4 w))) (bI_iff (inL_iff (n := 3) (by decide))) ?_
    refine r_ifB_ne C dX8_told_18 (tgt := 25) (by decide) (fun h18 => ?_) (fun h18 => ?_)
    · obtain ⟨w0, hw0, rfl⟩ := h18
      refine r_iload_n C 3 dX8_told_25 rfl rfl ?_
      refine r_ifN_ne C dX8_told_26 (tgt := 42) (by decide) (by omega) (fun h26 => ?_) (fun h26 => ?_)
      · refine r_aload_n C 0 dX8_told_42 rfl rfl ?_
        refine r_get C (CN := RX8) (T := TX8) (N := 21) k_36 rfl hin_X8 (j := 6) (by decide) hk_26 rfl rfl dX8_told_43 ?_
        refine r_bipush C dX8_told_46 (v := nI 12) (by decide) ?_
        refine r_iload_n C 1 dX8_told_48 rfl rfl ?_
        refine r_imulN C dX8_told_49 ?_
        refine r_iconst C dX8_told_50 (v := nI 3) (by decide) ?_
        refine r_iload_n C 2 dX8_told_51 rfl rfl ?_
        refine r_imulN C dX8_told_52 ?_
        refine r_iaddN C dX8_told_53 ?_
        refine r_iload_n C 3 dX8_told_54 rfl rfl ?_
        refine r_iaddN C dX8_told_55 ?_
        refine r_iconst C dX8_told_56 (v := nI 1) (by decide) ?_
        refine r_isubN C dX8_told_57 (by omega) ?_
        refine r_iald C k_40 (by omega) (by omega) dX8_told_58 ?_
        refine r_setI (y := (nI (sx S m0 s0 (w0 - 1)))) ((congrArg (mA u 40) (by omega)).trans (hM.x hm hs (b := w0 - 1) (by omega))) ?_
        exact E.2.1 rfl _ _ _ _ dX8_told_59 ⟨_, rfl, ⟨by unfold toldA; rw [ifp_t ⟨⟨m0, hm, rfl, s0, hs, rfl⟩, ⟨w0, hw0, rfl⟩⟩, cl_nI (show w0 < 2 ^ 31 by omega), if_neg h26, cl_nI (show m0 < 2 ^ 31 by omega), cl_nI (show s0 < 2 ^ 31 by omega)], hM, SmR.rf⟩⟩
      · refine r_aload_n C 0 dX8_told_29 rfl rfl ?_
        refine r_get C (CN := RX8) (T := TX8) (N := 21) k_36 rfl hin_X8 (j := 5) (by decide) hk_23 rfl rfl dX8_told_30 ?_
        refine r_iconst C dX8_told_33 (v := nI 4) (by decide) ?_
        refine r_iload_n C 1 dX8_told_34 rfl rfl ?_
        refine r_imulN C dX8_told_35 ?_
        refine r_iload_n C 2 dX8_told_36 rfl rfl ?_
        refine r_iaddN C dX8_told_37 ?_
        refine r_iald C k_39 (by omega) (by omega) dX8_told_38 ?_
        refine r_setI (y := (nI (sa S m0 s0))) (hM.a hm hs) ?_
        refine r_goto C dX8_told_39 (tgt := 59) (by decide) ?_
        exact E.2.1 rfl _ _ _ _ dX8_told_59 ⟨_, rfl, ⟨by unfold toldA; rw [ifp_t ⟨⟨m0, hm, rfl, s0, hs, rfl⟩, ⟨w0, hw0, rfl⟩⟩, cl_nI (show w0 < 2 ^ 31 by omega), if_pos h26, cl_nI (show m0 < 2 ^ 31 by omega), cl_nI (show s0 < 2 ^ 31 by omega)], hM, SmR.rf⟩⟩
    · refine r_iconst C dX8_told_21 (v := (-1)) (by decide) ?_
      refine r_goto C dX8_told_22 (tgt := 59) (by decide) ?_
      exact E.2.1 rfl _ _ _ _ dX8_told_59 ⟨_, rfl, ⟨ifp_f (fun q => by first | exact h6 q.1 | exact h18 q.2) _ _, hM, SmR.rf⟩⟩
def rmX8_drop : Room := { frames := 0, cells := 0, slots := 0, locals := 0 }
theorem pk_X8_drop : Pk yX8_drop RX8 0 := by decide +kernel
set_option maxHeartbeats 4000000 in
set_option maxRecDepth 100000 in
theorem c_X8_drop (l : Launch) (g : gE) (ad : Nat → Nat) (u : Me) (S : Sg) (hM : RepM S u) (hO : Ok S) : Cti l yX8_drop wsX8_drop rmX8_drop g ad [.ref (ad 36)] u (fun r u' => ∃ S', dropA S = (r, S') ∧ RepM S' u' ∧ SmR u u') := by
  refine Ct.of (cc := cX8_drop) (nL := 1) (ret := (some .int)) RX8 (by decide) rfl rfl (Nat.le_of_ble_eq_true rfl) (fun kx C E => ?_)
  have hin_X8 : ∀ w ∈ u_ws RX8 TX8 21, w ∈ wsX8_drop := by decide +kernel
  have hk_63 : Cond.fieldLink RX8 63 "AgainAgainModel" "machines" "I" ∈ wsX8_drop := by decide +kernel
  show G kx 0 0 (WW g ad u) 0 [(0, .ref (ad 36))] []
  have hn := hO.n
  refine r_aload_n C 0 dX8_drop_0 rfl rfl ?_
  refine r_get C (CN := RX8) (T := TX8) (N := 21) k_36 rfl hin_X8 (j := 3) (by decide) hk_63 rfl rfl dX8_drop_1 ?_
  refine r_setI (y := (nI (sN S))) (hM.n) ?_
  refine r_ifN_ne C dX8_drop_4 (tgt := 10) (by decide) (by omega) (fun h4 => ?_) (fun h4 => ?_)
  · refine r_aload_n C 0 dX8_drop_10 rfl rfl ?_
    refine r_dup C dX8_drop_11 rfl ?_
    refine r_get C (CN := RX8) (T := TX8) (N := 21) k_36 rfl hin_X8 (j := 3) (by decide) hk_63 rfl rfl dX8_drop_12 ?_
    refine r_setI (y := (nI (sN S))) (hM.n) ?_
    refine r_iconst C dX8_drop_15 (v := nI 1) (by decide) ?_
    refine r_isubN C dX8_drop_16 (by omega) ?_
    refine r_putI C (CN := RX8) (T := TX8) (N := 21) fI_9 rfl hin_X8 tyX8 tyX8_ok nmX8 (by decide) hk_63 rfl rfl (by decide +kernel) dX8_drop_17 ?_
    refine r_aload_n C 0 dX8_drop_20 rfl rfl ?_
    refine r_get C (CN := RX8) (T := TX8) (N := 21) k_36 rfl hin_X8 (j := 3) (by decide) hk_63 rfl rfl dX8_drop_21 ?_
    refine r_setI (y := (nI (sN S - 1))) (mI_sI_self _ _ _) ?_
    exact E.2.1 rfl _ _ _ _ dX8_drop_24 ⟨_, rfl, ⟨dropS S, by unfold dropA; rw [ifp_f h4], drop_M hM, SmR.of (Sm.rf.sI (c := 9) (fa := []) (fj := []) (fi := [9]) (fl := []) (by decide) _) (by decide) (by decide) (by decide) (by decide)⟩⟩
  · refine r_bipush C dX8_drop_7 (v := (-4)) (by decide) ?_
    exact E.2.1 rfl _ _ _ _ dX8_drop_9 ⟨_, rfl, ⟨S, (by unfold dropA; rw [ifp_t h4]), hM, SmR.rf⟩⟩
def rmX8_worth : Room := { frames := 4, cells := 0, slots := 0, locals := 96 }
theorem pk_X8_worth : Pk yX8_worth RX8 3 := by decide +kernel
set_option maxHeartbeats 4000000 in
set_option maxRecDepth 100000 in
theorem c_X8_worth (l : Launch) (g : gE) (ad : Nat → Nat) (u : Me) (S : Sg) (hM : RepM S u) (hO : Ok S) (i j w : Int32) : Ctl l yX8_worth wsX8_worth rmX8_worth g ad [.ref (ad 36), .int (i), .int (j), .int (w)] u (fun r u' => worA S i j w = r ∧ RepM S u' ∧ SmR u u') := by
  refine Ct.of (cc := cX8_worth) (nL := 4) (ret := (some .long)) RX8 (by decide) rfl rfl (Nat.le_of_ble_eq_true rfl) (fun kx C E => ?_)
  have hk_138 : Cond.constantLong RX8 138 (-1000000000000000) ∈ wsX8_worth := by decide +kernel
  show G kx 0 0 (WW g ad u) 0 [(0, .ref (ad 36)), (1, .int (i)), (2, .int (j)), (3, .int (w))] []
  have hn := hO.n
  refine r_aload_n C 0 dX8_worth_0 rfl rfl ?_
  refine r_iload_n C 1 dX8_worth_1 rfl rfl ?_
  refine r_iload_n C 2 dX8_worth_2 rfl rfl ?_
  refine r_callVi C (rest := []) (c_X8_areBoth l g ad u S hM hO i j) gX8_worth_X8_areBoth pk_X8_areBoth k_36 dX8_worth_3 rfl rfl rfl rfl ⟨(Nat.le_of_ble_eq_true rfl), (Nat.le_of_ble_eq_true rfl)⟩ rfl rfl (Nat.le_of_ble_eq_true rfl) ⟨(Nat.le_of_ble_eq_true rfl), (Nat.le_of_ble_eq_true rfl)⟩ ?_
  rintro _ _ ⟨rfl, rfl⟩
  refine r_ifB_eq C dX8_worth_6 (tgt := 19) (by decide) (fun h6 => ?_) (fun h6 => ?_)
  · refine r_ldc2 C (v := (-1000000000000000)) hk_138 dX8_worth_19 ?_
    refine r_setL (y := lI (-1000000000000000)) (by decide) ?_
    exact E.2.2.2 rfl _ _ _ _ dX8_worth_22 ⟨_, rfl, ⟨ifp_f (fun q => by first | exact h6 ⟨q.1, q.2.1⟩ | exact h16 q.2.2) _ _, hM, SmR.rf⟩⟩
  · obtain ⟨⟨i0, hi, rfl⟩, ⟨j0, hj, rfl⟩⟩ := h6
    refine r_iload_n C 3 dX8_worth_9 rfl rfl ?_
    refine r_i2l C dX8_worth_10 (v := (w).toInt64) rfl ?_
    refine r_lconst C dX8_worth_11 (v := lI 0) (by decide) ?_
    refine r_lconst C dX8_worth_12 (v := lI 1) (by decide) ?_
    refine r_callSi C (rest := []) (c_X8_in l g ad u ((w).toInt64) (lI 0) (lI 1)) gX8_worth_X8_in pk_X8_in dX8_worth_13 rfl rfl rfl rfl ⟨(Nat.le_of_ble_eq_true rfl), (Nat.le_of_ble_eq_true rfl)⟩ rfl (Nat.le_of_ble_eq_true rfl) ⟨(Nat.le_of_ble_eq_true rfl), (Nat.le_of_ble_eq_true rfl)⟩ ?_
    rintro _ _ ⟨rfl, rfl⟩
    refine r_setI (y := (bI (isR 2 w))) (bI_iff (inL_iff (n := 1) (by decide))) ?_
    refine r_ifB_ne C dX8_worth_16 (tgt := 23) (by decide) (fun h16 => ?_) (fun h16 => ?_)
    · obtain ⟨w0, hw0, rfl⟩ := h16
      refine r_aload_n C 0 dX8_worth_23 rfl rfl ?_
      refine r_iload_n C 1 dX8_worth_24 rfl rfl ?_
      refine r_iload_n C 2 dX8_worth_25 rfl rfl ?_
      refine r_iconst C dX8_worth_26 (v := nI 0) (by decide) ?_
      refine r_callVv C (rest := []) (c_X8_findWorth l g ad u S hM hO i0 j0 (by assumption) (by assumption) 0 (by first | assumption | exact VP_0 hO _ _)) gX8_worth_X8_findWorth pk_X8_findWorth k_36 dX8_worth_27 rfl rfl rfl rfl ⟨(Nat.le_of_ble_eq_true rfl), (Nat.le_of_ble_eq_true rfl)⟩ rfl rfl (Nat.le_of_ble_eq_true rfl) ⟨(Nat.le_of_ble_eq_true rfl), (Nat.le_of_ble_eq_true rfl)⟩ ?_
      rintro w1 ⟨⟨ht1, hd1, hs1⟩, hM⟩
      refine r_aload_n C 0 dX8_worth_30 rfl rfl ?_
      refine r_iload_n C 3 dX8_worth_31 rfl rfl ?_
      refine r_callVl C (rest := []) (c_X8_part l g ad w1 w0 (by omega)) gX8_worth_X8_part pk_X8_part k_36 dX8_worth_32 rfl rfl rfl rfl ⟨(Nat.le_of_ble_eq_true rfl), (Nat.le_of_ble_eq_true rfl)⟩ rfl rfl (Nat.le_of_ble_eq_true rfl) ⟨(Nat.le_of_ble_eq_true rfl), (Nat.le_of_ble_eq_true rfl)⟩ ?_
      rintro _ _ ⟨rfl, rfl⟩
      refine r_setL (y := (if w0 = 0 then lI (mN S i0 j0) else lI (mD S i0 j0))) (by by_cases z : w0 = 0; rw [if_pos z, if_pos z]; exact ht1; rw [if_neg z, if_neg z]; exact hd1) ?_
      exact E.2.2.2 rfl _ _ _ _ dX8_worth_35 ⟨_, rfl, ⟨by unfold worA; rw [ifp_t ⟨⟨i0, hi, rfl⟩, ⟨j0, hj, rfl⟩, ⟨w0, hw0, rfl⟩⟩, cl_nI (show i0 < 2 ^ 31 by omega), cl_nI (show j0 < 2 ^ 31 by omega), cl_nI (show w0 < 2 ^ 31 by omega)], hM, (SmR.of hs1 (by decide) (by decide) (by decide) (by decide))⟩⟩
    · refine r_ldc2 C (v := (-1000000000000000)) hk_138 dX8_worth_19 ?_
      refine r_setL (y := lI (-1000000000000000)) (by decide) ?_
      exact E.2.2.2 rfl _ _ _ _ dX8_worth_22 ⟨_, rfl, ⟨ifp_f (fun q => by first | exact h6 ⟨q.1, q.2.1⟩ | exact h16 q.2.2) _ _, hM, SmR.rf⟩⟩
def rmX8_bestWorth : Room := { frames := 4, cells := 0, slots := 0, locals := 105 }
theorem pk_X8_bestWorth : Pk yX8_bestWorth RX8 3 := by decide +kernel
set_option maxHeartbeats 4000000 in
set_option maxRecDepth 100000 in
theorem c_X8_bestWorth (l : Launch) (g : gE) (ad : Nat → Nat) (u : Me) (S : Sg) (hM : RepM S u) (hO : Ok S) (m s w : Int32) : Ctl l yX8_bestWorth wsX8_bestWorth rmX8_bestWorth g ad [.ref (ad 36), .int (m), .int (s), .int (w)] u (fun r u' => bwoA S m s w = r ∧ RepM S u' ∧ SmR u u') := by
  refine Ct.of (cc := cX8_bestWorth) (nL := 4) (ret := (some .long)) RX8 (by decide) rfl rfl (Nat.le_of_ble_eq_true rfl) (fun kx C E => ?_)
  have hin_X8 : ∀ w ∈ u_ws RX8 TX8 21, w ∈ wsX8_bestWorth := by decide +kernel
  have hk_138 : Cond.constantLong RX8 138 (-1000000000000000) ∈ wsX8_bestWorth := by decide +kernel
  have hk_168 : Cond.fieldLink RX8 168 "AgainAgainModel" "bestUnder" "J" ∈ wsX8_bestWorth := by decide +kernel
  have hk_171 : Cond.fieldLink RX8 171 "AgainAgainModel" "bestOver" "J" ∈ wsX8_bestWorth := by decide +kernel
  show G kx 0 0 (WW g ad u) 0 [(0, .ref (ad 36)), (1, .int (m)), (2, .int (s)), (3, .int (w))] []
  have hn := hO.n
  refine r_aload_n C 0 dX8_bestWorth_0 rfl rfl ?_
  refine r_iload_n C 1 dX8_bestWorth_1 rfl rfl ?_
  refine r_iload_n C 2 dX8_bestWorth_2 rfl rfl ?_
  refine r_callVi C (rest := []) (c_X8_isState l g ad u S hM hO m s) gX8_bestWorth_X8_isState pk_X8_isState k_36 dX8_bestWorth_3 rfl rfl rfl rfl ⟨(Nat.le_of_ble_eq_true rfl), (Nat.le_of_ble_eq_true rfl)⟩ rfl rfl (Nat.le_of_ble_eq_true rfl) ⟨(Nat.le_of_ble_eq_true rfl), (Nat.le_of_ble_eq_true rfl)⟩ ?_
  rintro _ _ ⟨rfl, rfl⟩
  refine r_ifB_eq C dX8_bestWorth_6 (tgt := 19) (by decide) (fun h6 => ?_) (fun h6 => ?_)
  · refine r_ldc2 C (v := (-1000000000000000)) hk_138 dX8_bestWorth_19 ?_
    refine r_setL (y := lI (-1000000000000000)) (by decide) ?_
    exact E.2.2.2 rfl _ _ _ _ dX8_bestWorth_22 ⟨_, rfl, ⟨ifp_f (fun q => by first | exact h6 q.1 | exact h16 q.2) _ _, hM, SmR.rf⟩⟩
  · obtain ⟨m0, hm, rfl, s0, hs, rfl⟩ := h6
    have hz := (hO.z m0).2
    refine r_iload_n C 3 dX8_bestWorth_9 rfl rfl ?_
    refine r_i2l C dX8_bestWorth_10 (v := (w).toInt64) rfl ?_
    refine r_lconst C dX8_bestWorth_11 (v := lI 0) (by decide) ?_
    refine r_lconst C dX8_bestWorth_12 (v := lI 1) (by decide) ?_
    refine r_callSi C (rest := []) (c_X8_in l g ad u ((w).toInt64) (lI 0) (lI 1)) gX8_bestWorth_X8_in pk_X8_in dX8_bestWorth_13 rfl rfl rfl rfl ⟨(Nat.le_of_ble_eq_true rfl), (Nat.le_of_ble_eq_true rfl)⟩ rfl (Nat.le_of_ble_eq_true rfl) ⟨(Nat.le_of_ble_eq_true rfl), (Nat.le_of_ble_eq_true rfl)⟩ ?_
    rintro _ _ ⟨rfl, rfl⟩
    refine r_setI (y := (bI (isR 2 w))) (bI_iff (inL_iff (n := 1) (by decide))) ?_
    refine r_ifB_ne C dX8_bestWorth_16 (tgt := 23) (by decide) (fun h16 => ?_) (fun h16 => ?_)
    · obtain ⟨w0, hw0, rfl⟩ := h16
      refine r_aload_n C 0 dX8_bestWorth_23 rfl rfl ?_
      refine r_iload_n C 1 dX8_bestWorth_24 rfl rfl ?_
      refine r_iload_n C 2 dX8_bestWorth_25 rfl rfl ?_
      refine r_callVv C (rest := []) (c_X8_findBest l g ad u S hM hO m0 s0 (by assumption) (by first | assumption | omega)) gX8_bestWorth_X8_findBest pk_X8_findBest k_36 dX8_bestWorth_26 rfl rfl rfl rfl ⟨(Nat.le_of_ble_eq_true rfl), (Nat.le_of_ble_eq_true rfl)⟩ rfl rfl (Nat.le_of_ble_eq_true rfl) ⟨(Nat.le_of_ble_eq_true rfl), (Nat.le_of_ble_eq_true rfl)⟩ ?_
      rintro b1 ⟨⟨hb1, hb2, hb3, hb4⟩, hM⟩
      refine r_iload_n C 3 dX8_bestWorth_29 rfl rfl ?_
      refine r_ifN_ne C dX8_bestWorth_30 (tgt := 40) (by decide) (by omega) (fun h30 => ?_) (fun h30 => ?_)
      · refine r_aload_n C 0 dX8_bestWorth_40 rfl rfl ?_
        refine r_get C (CN := RX8) (T := TX8) (N := 21) k_36 rfl hin_X8 (j := 19) (by decide) hk_168 rfl rfl dX8_bestWorth_41 ?_
        refine r_setL (y := (lI (qD S m0 s0 (bsP S m0 s0)))) (hb3) ?_
        exact E.2.2.2 rfl _ _ _ _ dX8_bestWorth_44 ⟨_, rfl, ⟨by unfold bwoA; rw [ifp_t ⟨⟨m0, hm, rfl, s0, hs, rfl⟩, ⟨w0, hw0, rfl⟩⟩, cl_nI (show m0 < 2 ^ 31 by omega), cl_nI (show s0 < 2 ^ 31 by omega), cl_nI (show w0 < 2 ^ 31 by omega), if_neg h30], hM, (SmR.of hb4 (by decide) (by decide) (by decide) (by decide))⟩⟩
      · refine r_aload_n C 0 dX8_bestWorth_33 rfl rfl ?_
        refine r_get C (CN := RX8) (T := TX8) (N := 21) k_36 rfl hin_X8 (j := 18) (by decide) hk_171 rfl rfl dX8_bestWorth_34 ?_
        refine r_setL (y := (lI (qN S m0 s0 (bsP S m0 s0)))) (hb2) ?_
        refine r_goto C dX8_bestWorth_37 (tgt := 44) (by decide) ?_
        exact E.2.2.2 rfl _ _ _ _ dX8_bestWorth_44 ⟨_, rfl, ⟨by unfold bwoA; rw [ifp_t ⟨⟨m0, hm, rfl, s0, hs, rfl⟩, ⟨w0, hw0, rfl⟩⟩, cl_nI (show m0 < 2 ^ 31 by omega), cl_nI (show s0 < 2 ^ 31 by omega), cl_nI (show w0 < 2 ^ 31 by omega), if_pos h30], hM, (SmR.of hb4 (by decide) (by decide) (by decide) (by decide))⟩⟩
    · refine r_ldc2 C (v := (-1000000000000000)) hk_138 dX8_bestWorth_19 ?_
      refine r_setL (y := lI (-1000000000000000)) (by decide) ?_
      exact E.2.2.2 rfl _ _ _ _ dX8_bestWorth_22 ⟨_, rfl, ⟨ifp_f (fun q => by first | exact h6 q.1 | exact h16 q.2) _ _, hM, SmR.rf⟩⟩
def rmX8_resists : Room := { frames := 6, cells := 0, slots := 0, locals := 151 }
theorem pk_X8_resists : Pk yX8_resists RX8 2 := by decide +kernel
set_option maxHeartbeats 4000000 in
set_option maxRecDepth 100000 in
theorem c_X8_resists (l : Launch) (g : gE) (ad : Nat → Nat) (u : Me) (S : Sg) (hM : RepM S u) (hO : Ok S) (j i : Int32) : Cti l yX8_resists wsX8_resists rmX8_resists g ad [.ref (ad 36), .int (j), .int (i)] u (fun r u' => rsiA S j i = r ∧ RepM S u' ∧ SmR u u') := by
  refine Ct.of (cc := cX8_resists) (nL := 3) (ret := (some .int)) RX8 (by decide) rfl rfl (Nat.le_of_ble_eq_true rfl) (fun kx C E => ?_)
  show G kx 0 0 (WW g ad u) 0 [(0, .ref (ad 36)), (1, .int (j)), (2, .int (i))] []
  have hn := hO.n
  refine r_aload_n C 0 dX8_resists_0 rfl rfl ?_
  refine r_iload_n C 2 dX8_resists_1 rfl rfl ?_
  refine r_iload_n C 1 dX8_resists_2 rfl rfl ?_
  refine r_callVi C (rest := []) (c_X8_areBoth l g ad u S hM hO i j) gX8_resists_X8_areBoth pk_X8_areBoth k_36 dX8_resists_3 rfl rfl rfl rfl ⟨(Nat.le_of_ble_eq_true rfl), (Nat.le_of_ble_eq_true rfl)⟩ rfl rfl (Nat.le_of_ble_eq_true rfl) ⟨(Nat.le_of_ble_eq_true rfl), (Nat.le_of_ble_eq_true rfl)⟩ ?_
  rintro _ _ ⟨rfl, rfl⟩
  refine r_ifB_eq C dX8_resists_6 (tgt := 14) (by decide) (fun h6 => ?_) (fun h6 => ?_)
  · refine r_iconst C dX8_resists_14 (v := (-1)) (by decide) ?_
    refine r_goto C dX8_resists_15 (tgt := 32) (by decide) ?_
    exact E.2.1 rfl _ _ _ _ dX8_resists_32 ⟨_, rfl, ⟨ifp_f (fun q => by first | exact h6 ⟨q.1, q.2.1⟩ | exact q.2.2 (by rw [h11])) _ _, hM, SmR.rf⟩⟩
  · obtain ⟨⟨i0, hi, rfl⟩, ⟨j0, hj, rfl⟩⟩ := h6
    refine r_iload_n C 2 dX8_resists_9 rfl rfl ?_
    refine r_iload_n C 1 dX8_resists_10 rfl rfl ?_
    refine r_icmpN_ne C dX8_resists_11 (tgt := 18) (by decide) (by omega) (by omega) (fun h11 => ?_) (fun h11 => ?_)
    · refine r_aload_n C 0 dX8_resists_18 rfl rfl ?_
      refine r_iload_n C 1 dX8_resists_19 rfl rfl ?_
      refine r_iload_n C 2 dX8_resists_20 rfl rfl ?_
      refine r_callVi C (rest := []) (c_X8_doesResist l g ad u S hM hO j0 i0 (by assumption) (by assumption)) gX8_resists_X8_doesResist pk_X8_doesResist k_36 dX8_resists_21 rfl rfl rfl rfl ⟨(Nat.le_of_ble_eq_true rfl), (Nat.le_of_ble_eq_true rfl)⟩ rfl rfl (Nat.le_of_ble_eq_true rfl) ⟨(Nat.le_of_ble_eq_true rfl), (Nat.le_of_ble_eq_true rfl)⟩ ?_
      rintro _ w1 ⟨⟨rfl, hw1⟩, hM⟩
      refine r_ifB_eq C dX8_resists_24 (tgt := 31) (by decide) (fun h24 => ?_) (fun h24 => ?_)
      · refine r_iconst C dX8_resists_31 (v := nI 0) (by decide) ?_
        exact E.2.1 rfl _ _ _ _ dX8_resists_32 ⟨_, rfl, ⟨by unfold rsiA; rw [ifp_t ⟨⟨i0, hi, rfl⟩, ⟨j0, hj, rfl⟩, fun z => h11 ((nI_eq (by omega) (by omega)).mp z)⟩, cl_nI (show i0 < 2 ^ 31 by omega), cl_nI (show j0 < 2 ^ 31 by omega)]; exact bF h24, hM, (SmR.of hw1 (by decide) (by decide) (by decide) (by decide))⟩⟩
      · refine r_iconst C dX8_resists_27 (v := nI 1) (by decide) ?_
        refine r_goto C dX8_resists_28 (tgt := 32) (by decide) ?_
        exact E.2.1 rfl _ _ _ _ dX8_resists_32 ⟨_, rfl, ⟨by unfold rsiA; rw [ifp_t ⟨⟨i0, hi, rfl⟩, ⟨j0, hj, rfl⟩, fun z => h11 ((nI_eq (by omega) (by omega)).mp z)⟩, cl_nI (show i0 < 2 ^ 31 by omega), cl_nI (show j0 < 2 ^ 31 by omega)]; exact bT h24, hM, (SmR.of hw1 (by decide) (by decide) (by decide) (by decide))⟩⟩
    · refine r_iconst C dX8_resists_14 (v := (-1)) (by decide) ?_
      refine r_goto C dX8_resists_15 (tgt := 32) (by decide) ?_
      exact E.2.1 rfl _ _ _ _ dX8_resists_32 ⟨_, rfl, ⟨ifp_f (fun q => by first | exact h6 ⟨q.1, q.2.1⟩ | exact q.2.2 (by rw [h11])) _ _, hM, SmR.rf⟩⟩
def rmX8_action : Room := { frames := 3, cells := 0, slots := 0, locals := 68 }
theorem pk_X8_action : Pk yX8_action RX8 3 := by decide +kernel
set_option maxHeartbeats 4000000 in
set_option maxRecDepth 100000 in
theorem c_X8_action (l : Launch) (g : gE) (ad : Nat → Nat) (u : Me) (S : Sg) (hM : RepM S u) (hO : Ok S) (i j n : Int32) : Cti l yX8_action wsX8_action rmX8_action g ad [.ref (ad 36), .int (i), .int (j), .int (n)] u (fun r u' => actA S i j n = r ∧ RepM S u' ∧ SmR u u') := by
  refine Ct.of (cc := cX8_action) (nL := 6) (ret := (some .int)) RX8 (by decide) rfl rfl (Nat.le_of_ble_eq_true rfl) (fun kx C E => ?_)
  have hk_110 : Cond.constantLong RX8 110 (1000) ∈ wsX8_action := by decide +kernel
  show G kx 0 0 (WW g ad u) 0 [(0, .ref (ad 36)), (1, .int (i)), (2, .int (j)), (3, .int (n))] []
  have hn := hO.n
  refine r_aload_n C 0 dX8_action_0 rfl rfl ?_
  refine r_iload_n C 1 dX8_action_1 rfl rfl ?_
  refine r_iload_n C 2 dX8_action_2 rfl rfl ?_
  refine r_callVi C (rest := []) (c_X8_areBoth l g ad u S hM hO i j) gX8_action_X8_areBoth pk_X8_areBoth k_36 dX8_action_3 rfl rfl rfl rfl ⟨(Nat.le_of_ble_eq_true rfl), (Nat.le_of_ble_eq_true rfl)⟩ rfl rfl (Nat.le_of_ble_eq_true rfl) ⟨(Nat.le_of_ble_eq_true rfl), (Nat.le_of_ble_eq_true rfl)⟩ ?_
  rintro _ _ ⟨rfl, rfl⟩
  refine r_ifB_eq C dX8_action_6 (tgt := 21) (by decide) (fun h6 => ?_) (fun h6 => ?_)
  · refine r_iconst C dX8_action_21 (v := (-1)) (by decide) ?_
    exact E.2.1 rfl _ _ _ _ dX8_action_22 ⟨_, rfl, ⟨ifp_f (fun q => by first | exact h6 ⟨q.1, q.2.1⟩ | exact h18 q.2.2) _ _, hM, SmR.rf⟩⟩
  · obtain ⟨⟨i0, hi, rfl⟩, ⟨j0, hj, rfl⟩⟩ := h6
    refine r_iload_n C 3 dX8_action_9 rfl rfl ?_
    refine r_i2l C dX8_action_10 (v := (n).toInt64) rfl ?_
    refine r_lconst C dX8_action_11 (v := lI 0) (by decide) ?_
    refine r_ldc2 C (v := (1000)) hk_110 dX8_action_12 ?_
    refine r_setL (y := lI (1000)) (by decide) ?_
    refine r_callSi C (rest := []) (c_X8_in l g ad u ((n).toInt64) (lI 0) (lI (1000))) gX8_action_X8_in pk_X8_in dX8_action_15 rfl rfl rfl rfl ⟨(Nat.le_of_ble_eq_true rfl), (Nat.le_of_ble_eq_true rfl)⟩ rfl (Nat.le_of_ble_eq_true rfl) ⟨(Nat.le_of_ble_eq_true rfl), (Nat.le_of_ble_eq_true rfl)⟩ ?_
    rintro _ _ ⟨rfl, rfl⟩
    refine r_setI (y := (bI (isR 1001 n))) (bI_iff (inL_iff (n := 1000) (by decide))) ?_
    refine r_ifB_ne C dX8_action_18 (tgt := 23) (by decide) (fun h18 => ?_) (fun h18 => ?_)
    · obtain ⟨n0, hn0, rfl⟩ := h18
      refine r_iconst C dX8_action_23 (v := nI 0) (by decide) ?_
      refine r_istore C [(0, .ref (ad 36)), (1, .int (nI (i0))), (2, .int (nI (j0))), (3, .int (nI (n0))), (4, .int (nI (0)))] [1, 2, 3, 4, 0] dX8_action_24 (by decide) rfl ?_
      refine r_iconst C dX8_action_26 (v := nI 0) (by decide) ?_
      refine r_istore C [(0, .ref (ad 36)), (1, .int (nI (i0))), (2, .int (nI (j0))), (3, .int (nI (n0))), (4, .int (nI (0))), (5, .int (nI (0)))] [1, 2, 3, 4, 5, 0] dX8_action_27 (by decide) rfl ?_
      have L29 : ∀ (fu : Nat) (c : Nat), n0 < c + fu → (c ≤ n0) → G kx 0 0 (WW g ad u) 29 [(0, .ref (ad 36)), (1, .int (nI (i0))), (2, .int (nI (j0))), (3, .int (nI (n0))), (4, .int (nI (it (fP S i0 j0) 0 c))), (5, .int (nI (c)))] [] := by
        intro fu
        induction fu with
        | zero => intro c hfu hc; exact absurd hfu (by omega)
        | succ fu ih =>
          intro c hfu hc
          have hV : VP S i0 j0 (it (fP S i0 j0) 0 c) := it_V (V := VP S i0 j0) (fun p _ => VP_f hO) (VP_0 hO i0 j0) c
          have hV1 := hV.1
          refine r_iload C 5 dX8_action_29 rfl ?_
          refine r_iload_n C 3 dX8_action_31 rfl rfl ?_
          refine r_icmpN_ge C dX8_action_32 (tgt := 51) (by decide) (by omega) (by omega) (fun h32 => ?_) (fun h32 => ?_)
          · refine r_aload_n C 0 dX8_action_51 rfl rfl ?_
            refine r_iload_n C 1 dX8_action_52 rfl rfl ?_
            refine r_iload C 4 dX8_action_53 rfl ?_
            refine r_callVi C (rest := []) (c_X8_mine l g ad u S hM hO i0 (it (fP S i0 j0) 0 c) (by assumption) (by assumption)) gX8_action_X8_mine pk_X8_mine k_36 dX8_action_55 rfl rfl rfl rfl ⟨(Nat.le_of_ble_eq_true rfl), (Nat.le_of_ble_eq_true rfl)⟩ rfl rfl (Nat.le_of_ble_eq_true rfl) ⟨(Nat.le_of_ble_eq_true rfl), (Nat.le_of_ble_eq_true rfl)⟩ ?_
            rintro _ _ ⟨rfl, rfl⟩
            exact E.2.1 rfl _ _ _ _ dX8_action_58 ⟨_, rfl, ⟨by unfold actA; rw [ifp_t ⟨⟨i0, hi, rfl⟩, ⟨j0, hj, rfl⟩, ⟨n0, hn0, rfl⟩⟩, cl_nI (show i0 < 2 ^ 31 by omega), cl_nI (show j0 < 2 ^ 31 by omega), cl_nI (show n0 < 2 ^ 31 by omega), show n0 = c by omega], hM, SmR.rf⟩⟩
          · refine r_aload_n C 0 dX8_action_35 rfl rfl ?_
            refine r_iload_n C 1 dX8_action_36 rfl rfl ?_
            refine r_iload_n C 2 dX8_action_37 rfl rfl ?_
            refine r_iload C 4 dX8_action_38 rfl ?_
            refine r_callVi C (rest := []) (c_X8_next l g ad u S hM hO i0 j0 (by assumption) (by assumption) (it (fP S i0 j0) 0 c) (by assumption)) gX8_action_X8_next pk_X8_next k_36 dX8_action_40 rfl rfl rfl rfl ⟨(Nat.le_of_ble_eq_true rfl), (Nat.le_of_ble_eq_true rfl)⟩ rfl rfl (Nat.le_of_ble_eq_true rfl) ⟨(Nat.le_of_ble_eq_true rfl), (Nat.le_of_ble_eq_true rfl)⟩ ?_
            rintro _ _ ⟨rfl, rfl⟩
            refine r_istore C [(0, .ref (ad 36)), (1, .int (nI (i0))), (2, .int (nI (j0))), (3, .int (nI (n0))), (4, .int (nI (fP S i0 j0 (it (fP S i0 j0) 0 c)))), (5, .int (nI (c)))] [1, 2, 3, 4, 0, 5] dX8_action_43 (by decide) rfl ?_
            refine r_iinc C [(0, .ref (ad 36)), (1, .int (nI (i0))), (2, .int (nI (j0))), (3, .int (nI (n0))), (4, .int (nI (fP S i0 j0 (it (fP S i0 j0) 0 c)))), (5, .int (nI (c + 1)))] [1, 2, 3, 4, 5, 0] 5 dX8_action_45 rfl (nI_add _ 1) (by decide) rfl ?_
            refine r_goto C dX8_action_48 (tgt := 29) (by decide) ?_
            exact ih (c + 1) (by omega) (by omega)
      exact L29 (n0 + 1) 0 (by omega) (by omega)
    · refine r_iconst C dX8_action_21 (v := (-1)) (by decide) ?_
      exact E.2.1 rfl _ _ _ _ dX8_action_22 ⟨_, rfl, ⟨ifp_f (fun q => by first | exact h6 ⟨q.1, q.2.1⟩ | exact h18 q.2.2) _ _, hM, SmR.rf⟩⟩
def rmX8_everywhere : Room := { frames := 7, cells := 0, slots := 0, locals := 175 }
theorem pk_X8_everywhere : Pk yX8_everywhere RX8 2 := by decide +kernel
set_option maxHeartbeats 4000000 in
set_option maxRecDepth 100000 in
theorem c_X8_everywhere (l : Launch) (g : gE) (ad : Nat → Nat) (u : Me) (S : Sg) (hM : RepM S u) (hO : Ok S) (i j : Int32) : Cti l yX8_everywhere wsX8_everywhere rmX8_everywhere g ad [.ref (ad 36), .int (i), .int (j)] u (fun r u' => eveA S i j = r ∧ RepM S u' ∧ SmR u u') := by
  refine Ct.of (cc := cX8_everywhere) (nL := 3) (ret := (some .int)) RX8 (by decide) rfl rfl (Nat.le_of_ble_eq_true rfl) (fun kx C E => ?_)
  show G kx 0 0 (WW g ad u) 0 [(0, .ref (ad 36)), (1, .int (i)), (2, .int (j))] []
  have hn := hO.n
  refine r_aload_n C 0 dX8_everywhere_0 rfl rfl ?_
  refine r_iload_n C 1 dX8_everywhere_1 rfl rfl ?_
  refine r_iload_n C 2 dX8_everywhere_2 rfl rfl ?_
  refine r_callVi C (rest := []) (c_X8_areBoth l g ad u S hM hO i j) gX8_everywhere_X8_areBoth pk_X8_areBoth k_36 dX8_everywhere_3 rfl rfl rfl rfl ⟨(Nat.le_of_ble_eq_true rfl), (Nat.le_of_ble_eq_true rfl)⟩ rfl rfl (Nat.le_of_ble_eq_true rfl) ⟨(Nat.le_of_ble_eq_true rfl), (Nat.le_of_ble_eq_true rfl)⟩ ?_
  rintro _ _ ⟨rfl, rfl⟩
  refine r_ifB_ne C dX8_everywhere_6 (tgt := 13) (by decide) (fun h6 => ?_) (fun h6 => ?_)
  · obtain ⟨⟨i0, hi, rfl⟩, ⟨j0, hj, rfl⟩⟩ := h6
    refine r_aload_n C 0 dX8_everywhere_13 rfl rfl ?_
    refine r_iload_n C 1 dX8_everywhere_14 rfl rfl ?_
    refine r_iload_n C 2 dX8_everywhere_15 rfl rfl ?_
    refine r_callVi C (rest := []) (c_X8_firstThatMoves l g ad u S hM hO i0 j0 hi hj) gX8_everywhere_X8_firstThatMoves pk_X8_firstThatMoves k_36 dX8_everywhere_16 rfl rfl rfl rfl ⟨(Nat.le_of_ble_eq_true rfl), (Nat.le_of_ble_eq_true rfl)⟩ rfl rfl (Nat.le_of_ble_eq_true rfl) ⟨(Nat.le_of_ble_eq_true rfl), (Nat.le_of_ble_eq_true rfl)⟩ ?_
    rintro fr f1 ⟨⟨hfr, hf1⟩, hM⟩
    refine r_bipush C dX8_everywhere_19 (v := (-4)) (by decide) ?_
    refine r_icmp_ne C dX8_everywhere_21 (tgt := 28) (by decide) (fun h21 => ?_) (fun h21 => ?_)
    · have hus : ∃ p : Nat, unr S i0 j0 = some p := by
        rcases hq : unr S i0 j0 with _ | p
        · rw [hq] at hfr; exact absurd hfr.symm h21
        · exact ⟨p, rfl⟩
      obtain ⟨p0, hu⟩ := hus
      refine r_iconst C dX8_everywhere_28 (v := nI 0) (by decide) ?_
      exact E.2.1 rfl _ _ _ _ dX8_everywhere_29 ⟨_, rfl, ⟨by unfold eveA; rw [ifp_t ⟨⟨i0, hi, rfl⟩, ⟨j0, hj, rfl⟩⟩, cl_nI (show i0 < 2 ^ 31 by omega), cl_nI (show j0 < 2 ^ 31 by omega), hu], hM, (SmR.of hf1 (by decide) (by decide) (by decide) (by decide))⟩⟩
    · have hun : unr S i0 j0 = none := by
        rcases hq : unr S i0 j0 with _ | p
        · rfl
        · rw [hq] at hfr; have hp16 := VP_16 hO (unr_V hq).1; exact absurd (hfr.trans h21) (nI_ne4 (by omega))
      refine r_iconst C dX8_everywhere_24 (v := nI 1) (by decide) ?_
      refine r_goto C dX8_everywhere_25 (tgt := 29) (by decide) ?_
      exact E.2.1 rfl _ _ _ _ dX8_everywhere_29 ⟨_, rfl, ⟨by unfold eveA; rw [ifp_t ⟨⟨i0, hi, rfl⟩, ⟨j0, hj, rfl⟩⟩, cl_nI (show i0 < 2 ^ 31 by omega), cl_nI (show j0 < 2 ^ 31 by omega), hun], hM, (SmR.of hf1 (by decide) (by decide) (by decide) (by decide))⟩⟩
  · refine r_iconst C dX8_everywhere_9 (v := (-1)) (by decide) ?_
    refine r_goto C dX8_everywhere_10 (tgt := 29) (by decide) ?_
    exact E.2.1 rfl _ _ _ _ dX8_everywhere_29 ⟨_, rfl, ⟨ifp_f h6 _ _, hM, SmR.rf⟩⟩
