def rmX8_pay : Room := { frames := 1, cells := 0, slots := 0, locals := 25 }
theorem pk_X8_pay : Pk yX8_pay RX8 3 := by decide +kernel
set_option maxHeartbeats 4000000 in
set_option maxRecDepth 100000 in
theorem c_X8_pay (l : Launch) (g : gE) (ad : Nat → Nat) (u : Me) (S : Sg) (hM : RepM S u) (hO : Ok S) (a b v : Int32) : Cti l yX8_pay wsX8_pay rmX8_pay g ad [.ref (ad 36), .int (a), .int (b), .int (v)] u (fun r u' => ∃ S', payA S a b v = (r, S') ∧ RepM S' u' ∧ SmR u u') := by
  refine Ct.of (cc := cX8_pay) (nL := 4) (ret := (some .int)) RX8 (by decide) rfl rfl (Nat.le_of_ble_eq_true rfl) (fun kx C E => ?_)
  have hin_X8 : ∀ w ∈ u_ws RX8 TX8 21, w ∈ wsX8_pay := by decide +kernel
  have hk_7 : Cond.fieldLink RX8 7 "AgainAgainModel" "pays" "[I" ∈ wsX8_pay := by decide +kernel
  have hk_51 : Cond.constantLong RX8 51 (2) ∈ wsX8_pay := by decide +kernel
  have hk_57 : Cond.constantLong RX8 57 (-50) ∈ wsX8_pay := by decide +kernel
  have hk_59 : Cond.constantLong RX8 59 (50) ∈ wsX8_pay := by decide +kernel
  show G kx 0 0 (WW g ad u) 0 [(0, .ref (ad 36)), (1, .int (a)), (2, .int (b)), (3, .int (v))] []
  have hn := hO.n
  refine r_iload_n C 1 dX8_pay_0 rfl rfl ?_
  refine r_i2l C dX8_pay_1 (v := (a).toInt64) rfl ?_
  refine r_lconst C dX8_pay_2 (v := lI 0) (by decide) ?_
  refine r_ldc2 C (v := (2)) hk_51 dX8_pay_3 ?_
  refine r_setL (y := lI (2)) (by decide) ?_
  refine r_callSi C (rest := []) (c_X8_in l g ad u ((a).toInt64) (lI 0) (lI (2))) gX8_pay_X8_in pk_X8_in dX8_pay_6 rfl rfl rfl rfl ⟨(Nat.le_of_ble_eq_true rfl), (Nat.le_of_ble_eq_true rfl)⟩ rfl (Nat.le_of_ble_eq_true rfl) ⟨(Nat.le_of_ble_eq_true rfl), (Nat.le_of_ble_eq_true rfl)⟩ ?_
  rintro _ _ ⟨rfl, rfl⟩
  refine r_setI (y := (bI (isR 3 a))) (bI_iff (inL_iff (n := 2) (by decide))) ?_
  refine r_ifB_eq C dX8_pay_9 (tgt := 38) (by decide) (fun h9 => ?_) (fun h9 => ?_)
  · refine r_iconst C dX8_pay_38 (v := (-1)) (by decide) ?_
    exact E.2.1 rfl _ _ _ _ dX8_pay_39 ⟨_, rfl, ⟨S, ifp_f (fun q => by first | exact h9 q.1 | exact h21 q.2.1 | exact h35 q.2.2) _ _, hM, SmR.rf⟩⟩
  · obtain ⟨a0, ha, rfl⟩ := h9
    refine r_iload_n C 2 dX8_pay_12 rfl rfl ?_
    refine r_i2l C dX8_pay_13 (v := (b).toInt64) rfl ?_
    refine r_lconst C dX8_pay_14 (v := lI 0) (by decide) ?_
    refine r_ldc2 C (v := (2)) hk_51 dX8_pay_15 ?_
    refine r_setL (y := lI (2)) (by decide) ?_
    refine r_callSi C (rest := []) (c_X8_in l g ad u ((b).toInt64) (lI 0) (lI (2))) gX8_pay_X8_in pk_X8_in dX8_pay_18 rfl rfl rfl rfl ⟨(Nat.le_of_ble_eq_true rfl), (Nat.le_of_ble_eq_true rfl)⟩ rfl (Nat.le_of_ble_eq_true rfl) ⟨(Nat.le_of_ble_eq_true rfl), (Nat.le_of_ble_eq_true rfl)⟩ ?_
    rintro _ _ ⟨rfl, rfl⟩
    refine r_setI (y := (bI (isR 3 b))) (bI_iff (inL_iff (n := 2) (by decide))) ?_
    refine r_ifB_eq C dX8_pay_21 (tgt := 38) (by decide) (fun h21 => ?_) (fun h21 => ?_)
    · refine r_iconst C dX8_pay_38 (v := (-1)) (by decide) ?_
      exact E.2.1 rfl _ _ _ _ dX8_pay_39 ⟨_, rfl, ⟨S, ifp_f (fun q => by first | exact h9 q.1 | exact h21 q.2.1 | exact h35 q.2.2) _ _, hM, SmR.rf⟩⟩
    · obtain ⟨b0, hb, rfl⟩ := h21
      refine r_iload_n C 3 dX8_pay_24 rfl rfl ?_
      refine r_i2l C dX8_pay_25 (v := (v).toInt64) rfl ?_
      refine r_ldc2 C (v := (-50)) hk_57 dX8_pay_26 ?_
      refine r_setL (y := lI (-50)) (by decide) ?_
      refine r_ldc2 C (v := (50)) hk_59 dX8_pay_29 ?_
      refine r_setL (y := lI (50)) (by decide) ?_
      refine r_callSi C (rest := []) (c_X8_in l g ad u ((v).toInt64) (lI (-50)) (lI (50))) gX8_pay_X8_in pk_X8_in dX8_pay_32 rfl rfl rfl rfl ⟨(Nat.le_of_ble_eq_true rfl), (Nat.le_of_ble_eq_true rfl)⟩ rfl (Nat.le_of_ble_eq_true rfl) ⟨(Nat.le_of_ble_eq_true rfl), (Nat.le_of_ble_eq_true rfl)⟩ ?_
      rintro _ _ ⟨rfl, rfl⟩
      refine r_setI (y := (bI (isZ2 (-50) 50 v))) (bI_iff (inZ2_iff (by decide) (by decide) (by decide) (by decide))) ?_
      refine r_ifB_ne C dX8_pay_35 (tgt := 40) (by decide) (fun h35 => ?_) (fun h35 => ?_)
      · obtain ⟨z, hz1, hz2, rfl⟩ := h35
        refine r_aload_n C 0 dX8_pay_40 rfl rfl ?_
        refine r_get C (CN := RX8) (T := TX8) (N := 21) k_36 rfl hin_X8 (j := 0) (by decide) hk_7 rfl rfl dX8_pay_41 ?_
        refine r_iconst C dX8_pay_44 (v := nI 3) (by decide) ?_
        refine r_iload_n C 1 dX8_pay_45 rfl rfl ?_
        refine r_imulN C dX8_pay_46 ?_
        refine r_iload_n C 2 dX8_pay_47 rfl rfl ?_
        refine r_iaddN C dX8_pay_48 ?_
        refine r_iload_n C 3 dX8_pay_49 rfl rfl ?_
        refine r_iast C k_37 (by omega) (by omega) dX8_pay_50 ?_
        refine r_iconst C dX8_pay_51 (v := nI 1) (by decide) ?_
        exact E.2.1 rfl _ _ _ _ dX8_pay_52 ⟨_, rfl, ⟨payS S a0 b0 z, by unfold payA; rw [ifp_t ⟨⟨a0, ha, rfl⟩, ⟨b0, hb, rfl⟩, ⟨z, hz1, hz2, rfl⟩⟩, cl_nI (show a0 < 2 ^ 31 by omega), cl_nI (show b0 < 2 ^ 31 by omega), iI_toInt (by omega) (by omega)], pay_M hM ha hb z, SmR.of (Sm.rf.sA (c := 37) (fa := [37]) (fj := []) (fi := []) (fl := []) (by decide) _) (by decide) (by decide) (by decide) (by decide)⟩⟩
      · refine r_iconst C dX8_pay_38 (v := (-1)) (by decide) ?_
        exact E.2.1 rfl _ _ _ _ dX8_pay_39 ⟨_, rfl, ⟨S, ifp_f (fun q => by first | exact h9 q.1 | exact h21 q.2.1 | exact h35 q.2.2) _ _, hM, SmR.rf⟩⟩
def rmX8_discount : Room := { frames := 1, cells := 0, slots := 0, locals := 25 }
theorem pk_X8_discount : Pk yX8_discount RX8 2 := by decide +kernel
set_option maxHeartbeats 4000000 in
set_option maxRecDepth 100000 in
theorem c_X8_discount (l : Launch) (g : gE) (ad : Nat → Nat) (u : Me) (S : Sg) (hM : RepM S u) (hO : Ok S) (p q : Int32) : Cti l yX8_discount wsX8_discount rmX8_discount g ad [.ref (ad 36), .int (p), .int (q)] u (fun r u' => ∃ S', discA S p q = (r, S') ∧ RepM S' u' ∧ SmR u u') := by
  refine Ct.of (cc := cX8_discount) (nL := 3) (ret := (some .int)) RX8 (by decide) rfl rfl (Nat.le_of_ble_eq_true rfl) (fun kx C E => ?_)
  have hin_X8 : ∀ w ∈ u_ws RX8 TX8 21, w ∈ wsX8_discount := by decide +kernel
  have hk_13 : Cond.fieldLink RX8 13 "AgainAgainModel" "up" "I" ∈ wsX8_discount := by decide +kernel
  have hk_17 : Cond.fieldLink RX8 17 "AgainAgainModel" "by" "I" ∈ wsX8_discount := by decide +kernel
  have hk_51 : Cond.constantLong RX8 51 (2) ∈ wsX8_discount := by decide +kernel
  have hk_61 : Cond.constantLong RX8 61 (4) ∈ wsX8_discount := by decide +kernel
  show G kx 0 0 (WW g ad u) 0 [(0, .ref (ad 36)), (1, .int (p)), (2, .int (q))] []
  have hn := hO.n
  refine r_iload_n C 2 dX8_discount_0 rfl rfl ?_
  refine r_i2l C dX8_discount_1 (v := (q).toInt64) rfl ?_
  refine r_ldc2 C (v := (2)) hk_51 dX8_discount_2 ?_
  refine r_setL (y := lI (2)) (by decide) ?_
  refine r_ldc2 C (v := (4)) hk_61 dX8_discount_5 ?_
  refine r_setL (y := lI (4)) (by decide) ?_
  refine r_callSi C (rest := []) (c_X8_in l g ad u ((q).toInt64) (lI (2)) (lI (4))) gX8_discount_X8_in pk_X8_in dX8_discount_8 rfl rfl rfl rfl ⟨(Nat.le_of_ble_eq_true rfl), (Nat.le_of_ble_eq_true rfl)⟩ rfl (Nat.le_of_ble_eq_true rfl) ⟨(Nat.le_of_ble_eq_true rfl), (Nat.le_of_ble_eq_true rfl)⟩ ?_
  rintro _ _ ⟨rfl, rfl⟩
  refine r_setI (y := (bI (isAB 2 4 q))) (bI_iff (inAB_iff (a := 2) (b := 4) (by decide) (by decide))) ?_
  refine r_ifB_eq C dX8_discount_11 (tgt := 27) (by decide) (fun h11 => ?_) (fun h11 => ?_)
  · refine r_iconst C dX8_discount_27 (v := (-1)) (by decide) ?_
    exact E.2.1 rfl _ _ _ _ dX8_discount_28 ⟨_, rfl, ⟨S, ifp_f (fun q => by first | exact h11 q.1 | exact h24 (by have z := q.2; rwa [cl_nI (show q0 < 2 ^ 31 by omega)] at z)) _ _, hM, SmR.rf⟩⟩
  · obtain ⟨q0, hq1, hq2, rfl⟩ := h11
    refine r_iload_n C 1 dX8_discount_14 rfl rfl ?_
    refine r_i2l C dX8_discount_15 (v := (p).toInt64) rfl ?_
    refine r_lconst C dX8_discount_16 (v := lI 1) (by decide) ?_
    refine r_iload_n C 2 dX8_discount_17 rfl rfl ?_
    refine r_iconst C dX8_discount_18 (v := nI 1) (by decide) ?_
    refine r_isub C dX8_discount_19 ?_
    refine r_setI (y := iI ((q0 : Nat) - 1)) (iI_sub ((q0 : Nat) : Int) ((1 : Nat) : Int)) ?_
    refine r_i2l C dX8_discount_20 (v := lI ((q0 : Nat) - 1)) (iI_l (by omega) (by omega)) ?_
    refine r_callSi C (rest := []) (c_X8_in l g ad u ((p).toInt64) (lI 1) (lI ((q0 : Nat) - 1))) gX8_discount_X8_in pk_X8_in dX8_discount_21 rfl rfl rfl rfl ⟨(Nat.le_of_ble_eq_true rfl), (Nat.le_of_ble_eq_true rfl)⟩ rfl (Nat.le_of_ble_eq_true rfl) ⟨(Nat.le_of_ble_eq_true rfl), (Nat.le_of_ble_eq_true rfl)⟩ ?_
    rintro _ _ ⟨rfl, rfl⟩
    refine r_setI (y := (bI (isAB 1 (q0 - 1) p))) (by rw [show ((q0 : Nat) : Int) - 1 = ((q0 - 1 : Nat) : Int) by omega]; exact bI_iff (inAB_iff (a := 1) (b := q0 - 1) (by decide) (by omega))) ?_
    refine r_ifB_ne C dX8_discount_24 (tgt := 29) (by decide) (fun h24 => ?_) (fun h24 => ?_)
    · obtain ⟨p0, hp1, hp2, rfl⟩ := h24
      refine r_aload_n C 0 dX8_discount_29 rfl rfl ?_
      refine r_iload_n C 1 dX8_discount_30 rfl rfl ?_
      refine r_putI C (CN := RX8) (T := TX8) (N := 21) fI_7 rfl hin_X8 tyX8 tyX8_ok nmX8 (by decide) hk_13 rfl rfl (by decide +kernel) dX8_discount_31 ?_
      refine r_aload_n C 0 dX8_discount_34 rfl rfl ?_
      refine r_iload_n C 2 dX8_discount_35 rfl rfl ?_
      refine r_putI C (CN := RX8) (T := TX8) (N := 21) fI_8 rfl hin_X8 tyX8 tyX8_ok nmX8 (by decide) hk_17 rfl rfl (by decide +kernel) dX8_discount_36 ?_
      refine r_iconst C dX8_discount_39 (v := nI 1) (by decide) ?_
      exact E.2.1 rfl _ _ _ _ dX8_discount_40 ⟨_, rfl, ⟨rateS S p0 q0, by unfold discA; rw [cl_nI (show q0 < 2 ^ 31 by omega), ifp_t ⟨⟨q0, hq1, hq2, rfl⟩, ⟨p0, hp1, hp2, rfl⟩⟩, cl_nI (show p0 < 2 ^ 31 by omega)], rate_M hM p0 q0, SmR.of ((Sm.rf.sI (c := 7) (fa := []) (fj := []) (fi := [7, 8]) (fl := []) (by decide) _).sI (c := 8) (by decide) _) (by decide) (by decide) (by decide) (by decide)⟩⟩
    · refine r_iconst C dX8_discount_27 (v := (-1)) (by decide) ?_
      exact E.2.1 rfl _ _ _ _ dX8_discount_28 ⟨_, rfl, ⟨S, ifp_f (fun q => by first | exact h11 q.1 | exact h24 (by have z := q.2; rwa [cl_nI (show q0 < 2 ^ 31 by omega)] at z)) _ _, hM, SmR.rf⟩⟩
def rmX8_does : Room := { frames := 3, cells := 0, slots := 0, locals := 68 }
theorem pk_X8_does : Pk yX8_does RX8 3 := by decide +kernel
set_option maxHeartbeats 4000000 in
set_option maxRecDepth 100000 in
theorem c_X8_does (l : Launch) (g : gE) (ad : Nat → Nat) (u : Me) (S : Sg) (hM : RepM S u) (hO : Ok S) (m s a : Int32) : Cti l yX8_does wsX8_does rmX8_does g ad [.ref (ad 36), .int (m), .int (s), .int (a)] u (fun r u' => ∃ S', doesA S m s a = (r, S') ∧ RepM S' u' ∧ SmR u u') := by
  refine Ct.of (cc := cX8_does) (nL := 4) (ret := (some .int)) RX8 (by decide) rfl rfl (Nat.le_of_ble_eq_true rfl) (fun kx C E => ?_)
  have hin_X8 : ∀ w ∈ u_ws RX8 TX8 21, w ∈ wsX8_does := by decide +kernel
  have hk_23 : Cond.fieldLink RX8 23 "AgainAgainModel" "acts" "[I" ∈ wsX8_does := by decide +kernel
  have hk_51 : Cond.constantLong RX8 51 (2) ∈ wsX8_does := by decide +kernel
  show G kx 0 0 (WW g ad u) 0 [(0, .ref (ad 36)), (1, .int (m)), (2, .int (s)), (3, .int (a))] []
  have hn := hO.n
  refine r_aload_n C 0 dX8_does_0 rfl rfl ?_
  refine r_iload_n C 1 dX8_does_1 rfl rfl ?_
  refine r_iload_n C 2 dX8_does_2 rfl rfl ?_
  refine r_callVi C (rest := []) (c_X8_isState l g ad u S hM hO m s) gX8_does_X8_isState pk_X8_isState k_36 dX8_does_3 rfl rfl rfl rfl ⟨(Nat.le_of_ble_eq_true rfl), (Nat.le_of_ble_eq_true rfl)⟩ rfl rfl (Nat.le_of_ble_eq_true rfl) ⟨(Nat.le_of_ble_eq_true rfl), (Nat.le_of_ble_eq_true rfl)⟩ ?_
  rintro _ _ ⟨rfl, rfl⟩
  refine r_ifB_eq C dX8_does_6 (tgt := 21) (by decide) (fun h6 => ?_) (fun h6 => ?_)
  · refine r_iconst C dX8_does_21 (v := (-1)) (by decide) ?_
    exact E.2.1 rfl _ _ _ _ dX8_does_22 ⟨_, rfl, ⟨S, ifp_f (fun q => by first | exact h6 q.1 | exact h18 q.2) _ _, hM, SmR.rf⟩⟩
  · obtain ⟨m0, hm, rfl, s0, hs, rfl⟩ := h6
    have hz := (hO.z m0).2
    refine r_iload_n C 3 dX8_does_9 rfl rfl ?_
    refine r_i2l C dX8_does_10 (v := (a).toInt64) rfl ?_
    refine r_lconst C dX8_does_11 (v := lI 0) (by decide) ?_
    refine r_ldc2 C (v := (2)) hk_51 dX8_does_12 ?_
    refine r_setL (y := lI (2)) (by decide) ?_
    refine r_callSi C (rest := []) (c_X8_in l g ad u ((a).toInt64) (lI 0) (lI (2))) gX8_does_X8_in pk_X8_in dX8_does_15 rfl rfl rfl rfl ⟨(Nat.le_of_ble_eq_true rfl), (Nat.le_of_ble_eq_true rfl)⟩ rfl (Nat.le_of_ble_eq_true rfl) ⟨(Nat.le_of_ble_eq_true rfl), (Nat.le_of_ble_eq_true rfl)⟩ ?_
    rintro _ _ ⟨rfl, rfl⟩
    refine r_setI (y := (bI (isR 3 a))) (bI_iff (inL_iff (n := 2) (by decide))) ?_
    refine r_ifB_ne C dX8_does_18 (tgt := 23) (by decide) (fun h18 => ?_) (fun h18 => ?_)
    · obtain ⟨a0, ha, rfl⟩ := h18
      refine r_aload_n C 0 dX8_does_23 rfl rfl ?_
      refine r_get C (CN := RX8) (T := TX8) (N := 21) k_36 rfl hin_X8 (j := 5) (by decide) hk_23 rfl rfl dX8_does_24 ?_
      refine r_iconst C dX8_does_27 (v := nI 4) (by decide) ?_
      refine r_iload_n C 1 dX8_does_28 rfl rfl ?_
      refine r_imulN C dX8_does_29 ?_
      refine r_iload_n C 2 dX8_does_30 rfl rfl ?_
      refine r_iaddN C dX8_does_31 ?_
      refine r_iload_n C 3 dX8_does_32 rfl rfl ?_
      refine r_iast C k_39 (by omega) (by omega) dX8_does_33 ?_
      refine r_iconst C dX8_does_34 (v := nI 1) (by decide) ?_
      exact E.2.1 rfl _ _ _ _ dX8_does_35 ⟨_, rfl, ⟨doesS S m0 s0 a0, by unfold doesA; rw [ifp_t ⟨⟨m0, hm, rfl, s0, hs, rfl⟩, ⟨a0, ha, rfl⟩⟩, cl_nI (show m0 < 2 ^ 31 by omega), cl_nI (show s0 < 2 ^ 31 by omega), cl_nI (show a0 < 2 ^ 31 by omega)], does_M hM hO hm hs a0, SmR.of (Sm.rf.sA (c := 39) (fa := [39]) (fj := []) (fi := []) (fl := []) (by decide) _) (by decide) (by decide) (by decide) (by decide)⟩⟩
    · refine r_iconst C dX8_does_21 (v := (-1)) (by decide) ?_
      exact E.2.1 rfl _ _ _ _ dX8_does_22 ⟨_, rfl, ⟨S, ifp_f (fun q => by first | exact h6 q.1 | exact h18 q.2) _ _, hM, SmR.rf⟩⟩
def rmX8_goes : Room := { frames := 3, cells := 0, slots := 0, locals := 68 }
theorem pk_X8_goes : Pk yX8_goes RX8 4 := by decide +kernel
set_option maxHeartbeats 4000000 in
set_option maxRecDepth 100000 in
theorem c_X8_goes (l : Launch) (g : gE) (ad : Nat → Nat) (u : Me) (S : Sg) (hM : RepM S u) (hO : Ok S) (m s a x : Int32) : Cti l yX8_goes wsX8_goes rmX8_goes g ad [.ref (ad 36), .int (m), .int (s), .int (a), .int (x)] u (fun r u' => ∃ S', goesA S m s a x = (r, S') ∧ RepM S' u' ∧ SmR u u') := by
  refine Ct.of (cc := cX8_goes) (nL := 5) (ret := (some .int)) RX8 (by decide) rfl rfl (Nat.le_of_ble_eq_true rfl) (fun kx C E => ?_)
  have hin_X8 : ∀ w ∈ u_ws RX8 TX8 21, w ∈ wsX8_goes := by decide +kernel
  have hk_26 : Cond.fieldLink RX8 26 "AgainAgainModel" "nexts" "[I" ∈ wsX8_goes := by decide +kernel
  have hk_51 : Cond.constantLong RX8 51 (2) ∈ wsX8_goes := by decide +kernel
  show G kx 0 0 (WW g ad u) 0 [(0, .ref (ad 36)), (1, .int (m)), (2, .int (s)), (3, .int (a)), (4, .int (x))] []
  have hn := hO.n
  refine r_aload_n C 0 dX8_goes_0 rfl rfl ?_
  refine r_iload_n C 1 dX8_goes_1 rfl rfl ?_
  refine r_iload_n C 2 dX8_goes_2 rfl rfl ?_
  refine r_callVi C (rest := []) (c_X8_isState l g ad u S hM hO m s) gX8_goes_X8_isState pk_X8_isState k_36 dX8_goes_3 rfl rfl rfl rfl ⟨(Nat.le_of_ble_eq_true rfl), (Nat.le_of_ble_eq_true rfl)⟩ rfl rfl (Nat.le_of_ble_eq_true rfl) ⟨(Nat.le_of_ble_eq_true rfl), (Nat.le_of_ble_eq_true rfl)⟩ ?_
  rintro _ _ ⟨rfl, rfl⟩
  refine r_ifB_eq C dX8_goes_6 (tgt := 31) (by decide) (fun h6 => ?_) (fun h6 => ?_)
  · refine r_iconst C dX8_goes_31 (v := (-1)) (by decide) ?_
    exact E.2.1 rfl _ _ _ _ dX8_goes_32 ⟨_, rfl, ⟨S, ifp_f (fun q => by first | exact h6 q.1 | exact h18 q.2.1 | exact h28 q.2.2) _ _, hM, SmR.rf⟩⟩
  · obtain ⟨m0, hm, rfl, s0, hs, rfl⟩ := h6
    have hz := (hO.z m0).2
    refine r_iload_n C 3 dX8_goes_9 rfl rfl ?_
    refine r_i2l C dX8_goes_10 (v := (a).toInt64) rfl ?_
    refine r_lconst C dX8_goes_11 (v := lI 0) (by decide) ?_
    refine r_ldc2 C (v := (2)) hk_51 dX8_goes_12 ?_
    refine r_setL (y := lI (2)) (by decide) ?_
    refine r_callSi C (rest := []) (c_X8_in l g ad u ((a).toInt64) (lI 0) (lI (2))) gX8_goes_X8_in pk_X8_in dX8_goes_15 rfl rfl rfl rfl ⟨(Nat.le_of_ble_eq_true rfl), (Nat.le_of_ble_eq_true rfl)⟩ rfl (Nat.le_of_ble_eq_true rfl) ⟨(Nat.le_of_ble_eq_true rfl), (Nat.le_of_ble_eq_true rfl)⟩ ?_
    rintro _ _ ⟨rfl, rfl⟩
    refine r_setI (y := (bI (isR 3 a))) (bI_iff (inL_iff (n := 2) (by decide))) ?_
    refine r_ifB_eq C dX8_goes_18 (tgt := 31) (by decide) (fun h18 => ?_) (fun h18 => ?_)
    · refine r_iconst C dX8_goes_31 (v := (-1)) (by decide) ?_
      exact E.2.1 rfl _ _ _ _ dX8_goes_32 ⟨_, rfl, ⟨S, ifp_f (fun q => by first | exact h6 q.1 | exact h18 q.2.1 | exact h28 q.2.2) _ _, hM, SmR.rf⟩⟩
    · obtain ⟨a0, ha, rfl⟩ := h18
      refine r_aload_n C 0 dX8_goes_21 rfl rfl ?_
      refine r_iload_n C 1 dX8_goes_22 rfl rfl ?_
      refine r_iload C 4 dX8_goes_23 rfl ?_
      refine r_callVi C (rest := []) (c_X8_isState l g ad u S hM hO (nI m0) x) gX8_goes_X8_isState pk_X8_isState k_36 dX8_goes_25 rfl rfl rfl rfl ⟨(Nat.le_of_ble_eq_true rfl), (Nat.le_of_ble_eq_true rfl)⟩ rfl rfl (Nat.le_of_ble_eq_true rfl) ⟨(Nat.le_of_ble_eq_true rfl), (Nat.le_of_ble_eq_true rfl)⟩ ?_
      rintro _ _ ⟨rfl, rfl⟩
      refine r_ifB_ne C dX8_goes_28 (tgt := 33) (by decide) (fun h28 => ?_) (fun h28 => ?_)
      · obtain ⟨x0, hx, rfl⟩ := (isS_iff hO hm).mp h28
        refine r_aload_n C 0 dX8_goes_33 rfl rfl ?_
        refine r_get C (CN := RX8) (T := TX8) (N := 21) k_36 rfl hin_X8 (j := 6) (by decide) hk_26 rfl rfl dX8_goes_34 ?_
        refine r_bipush C dX8_goes_37 (v := nI 12) (by decide) ?_
        refine r_iload_n C 1 dX8_goes_39 rfl rfl ?_
        refine r_imulN C dX8_goes_40 ?_
        refine r_iconst C dX8_goes_41 (v := nI 3) (by decide) ?_
        refine r_iload_n C 2 dX8_goes_42 rfl rfl ?_
        refine r_imulN C dX8_goes_43 ?_
        refine r_iaddN C dX8_goes_44 ?_
        refine r_iload_n C 3 dX8_goes_45 rfl rfl ?_
        refine r_iaddN C dX8_goes_46 ?_
        refine r_iload C 4 dX8_goes_47 rfl ?_
        refine r_iast C k_40 (by omega) (by omega) dX8_goes_49 ?_
        refine r_iconst C dX8_goes_50 (v := nI 1) (by decide) ?_
        exact E.2.1 rfl _ _ _ _ dX8_goes_51 ⟨_, rfl, ⟨goesS S m0 s0 a0 x0, by unfold goesA; rw [ifp_t ⟨⟨m0, hm, rfl, s0, hs, rfl⟩, ⟨a0, ha, rfl⟩, (isS_iff hO hm).mpr ⟨x0, hx, rfl⟩⟩, cl_nI (show m0 < 2 ^ 31 by omega), cl_nI (show s0 < 2 ^ 31 by omega), cl_nI (show a0 < 2 ^ 31 by omega), cl_nI (show x0 < 2 ^ 31 by omega)], goes_M hM hO hm hs ha x0, SmR.of (Sm.rf.sA (c := 40) (fa := [40]) (fj := []) (fi := []) (fl := []) (by decide) _) (by decide) (by decide) (by decide) (by decide)⟩⟩
      · refine r_iconst C dX8_goes_31 (v := (-1)) (by decide) ?_
        exact E.2.1 rfl _ _ _ _ dX8_goes_32 ⟨_, rfl, ⟨S, ifp_f (fun q => by first | exact h6 q.1 | exact h18 q.2.1 | exact h28 q.2.2) _ _, hM, SmR.rf⟩⟩
def rmX8_sum : Room := { frames := 3, cells := 0, slots := 0, locals := 74 }
theorem pk_X8_sum : Pk yX8_sum RX8 3 := by decide +kernel
set_option maxHeartbeats 4000000 in
set_option maxRecDepth 100000 in
theorem c_X8_sum (l : Launch) (g : gE) (ad : Nat → Nat) (u : Me) (S : Sg) (hM : RepM S u) (hO : Ok S) (i j n : Int32) : Cti l yX8_sum wsX8_sum rmX8_sum g ad [.ref (ad 36), .int (i), .int (j), .int (n)] u (fun r u' => sumA S i j n = r ∧ RepM S u' ∧ SmR u u') := by
  refine Ct.of (cc := cX8_sum) (nL := 4) (ret := (some .int)) RX8 (by decide) rfl rfl (Nat.le_of_ble_eq_true rfl) (fun kx C E => ?_)
  have hk_110 : Cond.constantLong RX8 110 (1000) ∈ wsX8_sum := by decide +kernel
  have hk_112 : Cond.constant RX8 112 (-1000000) ∈ wsX8_sum := by decide +kernel
  show G kx 0 0 (WW g ad u) 0 [(0, .ref (ad 36)), (1, .int (i)), (2, .int (j)), (3, .int (n))] []
  have hn := hO.n
  refine r_aload_n C 0 dX8_sum_0 rfl rfl ?_
  refine r_iload_n C 1 dX8_sum_1 rfl rfl ?_
  refine r_iload_n C 2 dX8_sum_2 rfl rfl ?_
  refine r_callVi C (rest := []) (c_X8_areBoth l g ad u S hM hO i j) gX8_sum_X8_areBoth pk_X8_areBoth k_36 dX8_sum_3 rfl rfl rfl rfl ⟨(Nat.le_of_ble_eq_true rfl), (Nat.le_of_ble_eq_true rfl)⟩ rfl rfl (Nat.le_of_ble_eq_true rfl) ⟨(Nat.le_of_ble_eq_true rfl), (Nat.le_of_ble_eq_true rfl)⟩ ?_
  rintro _ _ ⟨rfl, rfl⟩
  refine r_ifB_eq C dX8_sum_6 (tgt := 31) (by decide) (fun h6 => ?_) (fun h6 => ?_)
  · refine r_ldc C (v := (-1000000)) hk_112 dX8_sum_31 ?_
    exact E.2.1 rfl _ _ _ _ dX8_sum_33 ⟨_, rfl, ⟨ifp_f (fun q => by first | exact h6 ⟨q.1, q.2.1⟩ | exact h18 q.2.2) _ _, hM, SmR.rf⟩⟩
  · obtain ⟨⟨i0, hi, rfl⟩, ⟨j0, hj, rfl⟩⟩ := h6
    refine r_iload_n C 3 dX8_sum_9 rfl rfl ?_
    refine r_i2l C dX8_sum_10 (v := (n).toInt64) rfl ?_
    refine r_lconst C dX8_sum_11 (v := lI 0) (by decide) ?_
    refine r_ldc2 C (v := (1000)) hk_110 dX8_sum_12 ?_
    refine r_setL (y := lI (1000)) (by decide) ?_
    refine r_callSi C (rest := []) (c_X8_in l g ad u ((n).toInt64) (lI 0) (lI (1000))) gX8_sum_X8_in pk_X8_in dX8_sum_15 rfl rfl rfl rfl ⟨(Nat.le_of_ble_eq_true rfl), (Nat.le_of_ble_eq_true rfl)⟩ rfl (Nat.le_of_ble_eq_true rfl) ⟨(Nat.le_of_ble_eq_true rfl), (Nat.le_of_ble_eq_true rfl)⟩ ?_
    rintro _ _ ⟨rfl, rfl⟩
    refine r_setI (y := (bI (isR 1001 n))) (bI_iff (inL_iff (n := 1000) (by decide))) ?_
    refine r_ifB_eq C dX8_sum_18 (tgt := 31) (by decide) (fun h18 => ?_) (fun h18 => ?_)
    · refine r_ldc C (v := (-1000000)) hk_112 dX8_sum_31 ?_
      exact E.2.1 rfl _ _ _ _ dX8_sum_33 ⟨_, rfl, ⟨ifp_f (fun q => by first | exact h6 ⟨q.1, q.2.1⟩ | exact h18 q.2.2) _ _, hM, SmR.rf⟩⟩
    · obtain ⟨n0, hn0, rfl⟩ := h18
      refine r_aload_n C 0 dX8_sum_21 rfl rfl ?_
      refine r_iload_n C 1 dX8_sum_22 rfl rfl ?_
      refine r_iload_n C 2 dX8_sum_23 rfl rfl ?_
      refine r_iload_n C 3 dX8_sum_24 rfl rfl ?_
      refine r_callVi C (rest := []) (c_X8_sumUp l g ad u S hM hO i0 j0 (by assumption) (by assumption) n0 (by omega)) gX8_sum_X8_sumUp pk_X8_sumUp k_36 dX8_sum_25 rfl rfl rfl rfl ⟨(Nat.le_of_ble_eq_true rfl), (Nat.le_of_ble_eq_true rfl)⟩ rfl rfl (Nat.le_of_ble_eq_true rfl) ⟨(Nat.le_of_ble_eq_true rfl), (Nat.le_of_ble_eq_true rfl)⟩ ?_
      rintro _ _ ⟨rfl, rfl⟩
      refine r_goto C dX8_sum_28 (tgt := 33) (by decide) ?_
      exact E.2.1 rfl _ _ _ _ dX8_sum_33 ⟨_, rfl, ⟨by unfold sumA; rw [ifp_t ⟨⟨i0, hi, rfl⟩, ⟨j0, hj, rfl⟩, ⟨n0, hn0, rfl⟩⟩, cl_nI (show i0 < 2 ^ 31 by omega), cl_nI (show j0 < 2 ^ 31 by omega), cl_nI (show n0 < 2 ^ 31 by omega)], hM, SmR.rf⟩⟩
def rmX8_like : Room := { frames := 3, cells := 0, slots := 0, locals := 68 }
theorem pk_X8_like : Pk yX8_like RX8 2 := by decide +kernel
set_option maxHeartbeats 4000000 in
set_option maxRecDepth 100000 in
theorem c_X8_like (l : Launch) (g : gE) (ad : Nat → Nat) (u : Me) (S : Sg) (hM : RepM S u) (hO : Ok S) (i j : Int32) : Cti l yX8_like wsX8_like rmX8_like g ad [.ref (ad 36), .int (i), .int (j)] u (fun r u' => likA S i j = r ∧ RepM S u' ∧ SmR u u') := by
  refine Ct.of (cc := cX8_like) (nL := 3) (ret := (some .int)) RX8 (by decide) rfl rfl (Nat.le_of_ble_eq_true rfl) (fun kx C E => ?_)
  show G kx 0 0 (WW g ad u) 0 [(0, .ref (ad 36)), (1, .int (i)), (2, .int (j))] []
  have hn := hO.n
  refine r_aload_n C 0 dX8_like_0 rfl rfl ?_
  refine r_iload_n C 1 dX8_like_1 rfl rfl ?_
  refine r_iload_n C 2 dX8_like_2 rfl rfl ?_
  refine r_callVi C (rest := []) (c_X8_areBoth l g ad u S hM hO i j) gX8_like_X8_areBoth pk_X8_areBoth k_36 dX8_like_3 rfl rfl rfl rfl ⟨(Nat.le_of_ble_eq_true rfl), (Nat.le_of_ble_eq_true rfl)⟩ rfl rfl (Nat.le_of_ble_eq_true rfl) ⟨(Nat.le_of_ble_eq_true rfl), (Nat.le_of_ble_eq_true rfl)⟩ ?_
  rintro _ _ ⟨rfl, rfl⟩
  refine r_ifB_ne C dX8_like_6 (tgt := 13) (by decide) (fun h6 => ?_) (fun h6 => ?_)
  · obtain ⟨⟨i0, hi, rfl⟩, ⟨j0, hj, rfl⟩⟩ := h6
    refine r_aload_n C 0 dX8_like_13 rfl rfl ?_
    refine r_iload_n C 1 dX8_like_14 rfl rfl ?_
    refine r_iload_n C 2 dX8_like_15 rfl rfl ?_
    refine r_callVi C (rest := []) (c_X8_areLike l g ad u S hM hO i0 j0 (by first | assumption | omega) (by first | assumption | omega)) gX8_like_X8_areLike pk_X8_areLike k_36 dX8_like_16 rfl rfl rfl rfl ⟨(Nat.le_of_ble_eq_true rfl), (Nat.le_of_ble_eq_true rfl)⟩ rfl rfl (Nat.le_of_ble_eq_true rfl) ⟨(Nat.le_of_ble_eq_true rfl), (Nat.le_of_ble_eq_true rfl)⟩ ?_
    rintro _ k1 ⟨⟨rfl, hsk⟩, hM⟩
    refine r_ifB_eq C dX8_like_19 (tgt := 26) (by decide) (fun h19 => ?_) (fun h19 => ?_)
    · refine r_iconst C dX8_like_26 (v := nI 0) (by decide) ?_
      exact E.2.1 rfl _ _ _ _ dX8_like_27 ⟨_, rfl, ⟨by unfold likA; rw [ifp_t ⟨⟨i0, hi, rfl⟩, ⟨j0, hj, rfl⟩⟩, cl_nI (show i0 < 2 ^ 31 by omega), cl_nI (show j0 < 2 ^ 31 by omega)]; exact bF h19, hM, (SmR.of hsk (by decide) (by decide) (by decide) (by decide))⟩⟩
    · refine r_iconst C dX8_like_22 (v := nI 1) (by decide) ?_
      refine r_goto C dX8_like_23 (tgt := 27) (by decide) ?_
      exact E.2.1 rfl _ _ _ _ dX8_like_27 ⟨_, rfl, ⟨by unfold likA; rw [ifp_t ⟨⟨i0, hi, rfl⟩, ⟨j0, hj, rfl⟩⟩, cl_nI (show i0 < 2 ^ 31 by omega), cl_nI (show j0 < 2 ^ 31 by omega)]; exact bT h19, hM, (SmR.of hsk (by decide) (by decide) (by decide) (by decide))⟩⟩
  · refine r_iconst C dX8_like_9 (v := (-1)) (by decide) ?_
    refine r_goto C dX8_like_10 (tgt := 27) (by decide) ?_
    exact E.2.1 rfl _ _ _ _ dX8_like_27 ⟨_, rfl, ⟨ifp_f h6 _ _, hM, SmR.rf⟩⟩
def rmX8_best : Room := { frames := 4, cells := 0, slots := 0, locals := 105 }
theorem pk_X8_best : Pk yX8_best RX8 2 := by decide +kernel
set_option maxHeartbeats 4000000 in
set_option maxRecDepth 100000 in
theorem c_X8_best (l : Launch) (g : gE) (ad : Nat → Nat) (u : Me) (S : Sg) (hM : RepM S u) (hO : Ok S) (m s : Int32) : Cti l yX8_best wsX8_best rmX8_best g ad [.ref (ad 36), .int (m), .int (s)] u (fun r u' => besA S m s = r ∧ RepM S u' ∧ SmR u u') := by
  refine Ct.of (cc := cX8_best) (nL := 3) (ret := (some .int)) RX8 (by decide) rfl rfl (Nat.le_of_ble_eq_true rfl) (fun kx C E => ?_)
  have hin_X8 : ∀ w ∈ u_ws RX8 TX8 21, w ∈ wsX8_best := by decide +kernel
  have hk_159 : Cond.fieldLink RX8 159 "AgainAgainModel" "bestPlan" "I" ∈ wsX8_best := by decide +kernel
  show G kx 0 0 (WW g ad u) 0 [(0, .ref (ad 36)), (1, .int (m)), (2, .int (s))] []
  have hn := hO.n
  refine r_aload_n C 0 dX8_best_0 rfl rfl ?_
  refine r_iload_n C 1 dX8_best_1 rfl rfl ?_
  refine r_iload_n C 2 dX8_best_2 rfl rfl ?_
  refine r_callVi C (rest := []) (c_X8_isState l g ad u S hM hO m s) gX8_best_X8_isState pk_X8_isState k_36 dX8_best_3 rfl rfl rfl rfl ⟨(Nat.le_of_ble_eq_true rfl), (Nat.le_of_ble_eq_true rfl)⟩ rfl rfl (Nat.le_of_ble_eq_true rfl) ⟨(Nat.le_of_ble_eq_true rfl), (Nat.le_of_ble_eq_true rfl)⟩ ?_
  rintro _ _ ⟨rfl, rfl⟩
  refine r_ifB_ne C dX8_best_6 (tgt := 11) (by decide) (fun h6 => ?_) (fun h6 => ?_)
  · obtain ⟨m0, hm, rfl, s0, hs, rfl⟩ := h6
    have hz := (hO.z m0).2
    refine r_aload_n C 0 dX8_best_11 rfl rfl ?_
    refine r_iload_n C 1 dX8_best_12 rfl rfl ?_
    refine r_iload_n C 2 dX8_best_13 rfl rfl ?_
    refine r_callVv C (rest := []) (c_X8_findBest l g ad u S hM hO m0 s0 (by assumption) (by first | assumption | omega)) gX8_best_X8_findBest pk_X8_findBest k_36 dX8_best_14 rfl rfl rfl rfl ⟨(Nat.le_of_ble_eq_true rfl), (Nat.le_of_ble_eq_true rfl)⟩ rfl rfl (Nat.le_of_ble_eq_true rfl) ⟨(Nat.le_of_ble_eq_true rfl), (Nat.le_of_ble_eq_true rfl)⟩ ?_
    rintro b1 ⟨⟨hb1, hb2, hb3, hb4⟩, hM⟩
    refine r_aload_n C 0 dX8_best_17 rfl rfl ?_
    refine r_get C (CN := RX8) (T := TX8) (N := 21) k_36 rfl hin_X8 (j := 17) (by decide) hk_159 rfl rfl dX8_best_18 ?_
    refine r_setI (y := (nI (bsP S m0 s0))) (hb1) ?_
    exact E.2.1 rfl _ _ _ _ dX8_best_21 ⟨_, rfl, ⟨by unfold besA; rw [ifp_t ⟨m0, hm, rfl, s0, hs, rfl⟩, cl_nI (show m0 < 2 ^ 31 by omega), cl_nI (show s0 < 2 ^ 31 by omega)], hM, (SmR.of hb4 (by decide) (by decide) (by decide) (by decide))⟩⟩
  · refine r_iconst C dX8_best_9 (v := (-1)) (by decide) ?_
    exact E.2.1 rfl _ _ _ _ dX8_best_10 ⟨_, rfl, ⟨ifp_f h6 _ _, hM, SmR.rf⟩⟩
def rmX8_rest : Room := { frames := 6, cells := 0, slots := 0, locals := 151 }
theorem pk_X8_rest : Pk yX8_rest RX8 2 := by decide +kernel
set_option maxHeartbeats 4000000 in
set_option maxRecDepth 100000 in
theorem c_X8_rest (l : Launch) (g : gE) (ad : Nat → Nat) (u : Me) (S : Sg) (hM : RepM S u) (hO : Ok S) (i j : Int32) : Cti l yX8_rest wsX8_rest rmX8_rest g ad [.ref (ad 36), .int (i), .int (j)] u (fun r u' => resA S i j = r ∧ RepM S u' ∧ SmR u u') := by
  refine Ct.of (cc := cX8_rest) (nL := 3) (ret := (some .int)) RX8 (by decide) rfl rfl (Nat.le_of_ble_eq_true rfl) (fun kx C E => ?_)
  show G kx 0 0 (WW g ad u) 0 [(0, .ref (ad 36)), (1, .int (i)), (2, .int (j))] []
  have hn := hO.n
  refine r_aload_n C 0 dX8_rest_0 rfl rfl ?_
  refine r_iload_n C 1 dX8_rest_1 rfl rfl ?_
  refine r_iload_n C 2 dX8_rest_2 rfl rfl ?_
  refine r_callVi C (rest := []) (c_X8_areBoth l g ad u S hM hO i j) gX8_rest_X8_areBoth pk_X8_areBoth k_36 dX8_rest_3 rfl rfl rfl rfl ⟨(Nat.le_of_ble_eq_true rfl), (Nat.le_of_ble_eq_true rfl)⟩ rfl rfl (Nat.le_of_ble_eq_true rfl) ⟨(Nat.le_of_ble_eq_true rfl), (Nat.le_of_ble_eq_true rfl)⟩ ?_
  rintro _ _ ⟨rfl, rfl⟩
  refine r_ifB_ne C dX8_rest_6 (tgt := 13) (by decide) (fun h6 => ?_) (fun h6 => ?_)
  · obtain ⟨⟨i0, hi, rfl⟩, ⟨j0, hj, rfl⟩⟩ := h6
    refine r_aload_n C 0 dX8_rest_13 rfl rfl ?_
    refine r_iload_n C 1 dX8_rest_14 rfl rfl ?_
    refine r_iload_n C 2 dX8_rest_15 rfl rfl ?_
    refine r_iconst C dX8_rest_16 (v := nI 0) (by decide) ?_
    refine r_callVi C (rest := []) (c_X8_rests l g ad u S hM hO i0 0 j0 0 (by first | assumption | omega) (hO.z _).1 (by first | assumption | omega) (hO.z _).1 0 rfl) gX8_rest_X8_rests pk_X8_rests k_36 dX8_rest_17 rfl rfl rfl rfl ⟨(Nat.le_of_ble_eq_true rfl), (Nat.le_of_ble_eq_true rfl)⟩ rfl rfl (Nat.le_of_ble_eq_true rfl) ⟨(Nat.le_of_ble_eq_true rfl), (Nat.le_of_ble_eq_true rfl)⟩ ?_
    rintro _ f1 ⟨⟨rfl, hf1⟩, hM⟩
    refine r_ifB_eq C dX8_rest_20 (tgt := 27) (by decide) (fun h20 => ?_) (fun h20 => ?_)
    · refine r_iconst C dX8_rest_27 (v := nI 0) (by decide) ?_
      exact E.2.1 rfl _ _ _ _ dX8_rest_28 ⟨_, rfl, ⟨by unfold resA; rw [ifp_t ⟨⟨i0, hi, rfl⟩, ⟨j0, hj, rfl⟩⟩, cl_nI (show i0 < 2 ^ 31 by omega), cl_nI (show j0 < 2 ^ 31 by omega)]; exact bF h20, hM, (SmR.of hf1 (by decide) (by decide) (by decide) (by decide))⟩⟩
    · refine r_iconst C dX8_rest_23 (v := nI 1) (by decide) ?_
      refine r_goto C dX8_rest_24 (tgt := 28) (by decide) ?_
      exact E.2.1 rfl _ _ _ _ dX8_rest_28 ⟨_, rfl, ⟨by unfold resA; rw [ifp_t ⟨⟨i0, hi, rfl⟩, ⟨j0, hj, rfl⟩⟩, cl_nI (show i0 < 2 ^ 31 by omega), cl_nI (show j0 < 2 ^ 31 by omega)]; exact bT h20, hM, (SmR.of hf1 (by decide) (by decide) (by decide) (by decide))⟩⟩
  · refine r_iconst C dX8_rest_9 (v := (-1)) (by decide) ?_
    refine r_goto C dX8_rest_10 (tgt := 28) (by decide) ?_
    exact E.2.1 rfl _ _ _ _ dX8_rest_28 ⟨_, rfl, ⟨ifp_f h6 _ _, hM, SmR.rf⟩⟩
def rmX8_score : Room := { frames := 4, cells := 0, slots := 0, locals := 98 }
theorem pk_X8_score : Pk yX8_score RX8 2 := by decide +kernel
set_option maxHeartbeats 4000000 in
set_option maxRecDepth 100000 in
theorem c_X8_score (l : Launch) (g : gE) (ad : Nat → Nat) (u : Me) (S : Sg) (hM : RepM S u) (hO : Ok S) (i n : Int32) : Cti l yX8_score wsX8_score rmX8_score g ad [.ref (ad 36), .int (i), .int (n)] u (fun r u' => scoA S i n = r ∧ RepM S u' ∧ SmR u u') := by
  refine Ct.of (cc := cX8_score) (nL := 3) (ret := (some .int)) RX8 (by decide) rfl rfl (Nat.le_of_ble_eq_true rfl) (fun kx C E => ?_)
  have hk_110 : Cond.constantLong RX8 110 (1000) ∈ wsX8_score := by decide +kernel
  have hk_112 : Cond.constant RX8 112 (-1000000) ∈ wsX8_score := by decide +kernel
  show G kx 0 0 (WW g ad u) 0 [(0, .ref (ad 36)), (1, .int (i)), (2, .int (n))] []
  have hn := hO.n
  refine r_aload_n C 0 dX8_score_0 rfl rfl ?_
  refine r_iload_n C 1 dX8_score_1 rfl rfl ?_
  refine r_callVi C (rest := []) (c_X8_isMachine l g ad u S hM hO i) gX8_score_X8_isMachine pk_X8_isMachine k_36 dX8_score_2 rfl rfl rfl rfl ⟨(Nat.le_of_ble_eq_true rfl), (Nat.le_of_ble_eq_true rfl)⟩ rfl rfl (Nat.le_of_ble_eq_true rfl) ⟨(Nat.le_of_ble_eq_true rfl), (Nat.le_of_ble_eq_true rfl)⟩ ?_
  rintro _ _ ⟨rfl, rfl⟩
  refine r_ifB_eq C dX8_score_5 (tgt := 29) (by decide) (fun h5 => ?_) (fun h5 => ?_)
  · refine r_ldc C (v := (-1000000)) hk_112 dX8_score_29 ?_
    exact E.2.1 rfl _ _ _ _ dX8_score_31 ⟨_, rfl, ⟨ifp_f (fun q => by first | exact h5 q.1 | exact h17 q.2) _ _, hM, SmR.rf⟩⟩
  · obtain ⟨i0, hi, rfl⟩ := h5
    refine r_iload_n C 2 dX8_score_8 rfl rfl ?_
    refine r_i2l C dX8_score_9 (v := (n).toInt64) rfl ?_
    refine r_lconst C dX8_score_10 (v := lI 0) (by decide) ?_
    refine r_ldc2 C (v := (1000)) hk_110 dX8_score_11 ?_
    refine r_setL (y := lI (1000)) (by decide) ?_
    refine r_callSi C (rest := []) (c_X8_in l g ad u ((n).toInt64) (lI 0) (lI (1000))) gX8_score_X8_in pk_X8_in dX8_score_14 rfl rfl rfl rfl ⟨(Nat.le_of_ble_eq_true rfl), (Nat.le_of_ble_eq_true rfl)⟩ rfl (Nat.le_of_ble_eq_true rfl) ⟨(Nat.le_of_ble_eq_true rfl), (Nat.le_of_ble_eq_true rfl)⟩ ?_
    rintro _ _ ⟨rfl, rfl⟩
    refine r_setI (y := (bI (isR 1001 n))) (bI_iff (inL_iff (n := 1000) (by decide))) ?_
    refine r_ifB_eq C dX8_score_17 (tgt := 29) (by decide) (fun h17 => ?_) (fun h17 => ?_)
    · refine r_ldc C (v := (-1000000)) hk_112 dX8_score_29 ?_
      exact E.2.1 rfl _ _ _ _ dX8_score_31 ⟨_, rfl, ⟨ifp_f (fun q => by first | exact h5 q.1 | exact h17 q.2) _ _, hM, SmR.rf⟩⟩
    · obtain ⟨n0, hn0, rfl⟩ := h17
      refine r_aload_n C 0 dX8_score_20 rfl rfl ?_
      refine r_iload_n C 1 dX8_score_21 rfl rfl ?_
      refine r_iload_n C 2 dX8_score_22 rfl rfl ?_
      refine r_callVi C (rest := []) (c_X8_scoreOf l g ad u S hM hO i0 n0 (by first | assumption | omega) (by omega)) gX8_score_X8_scoreOf pk_X8_scoreOf k_36 dX8_score_23 rfl rfl rfl rfl ⟨(Nat.le_of_ble_eq_true rfl), (Nat.le_of_ble_eq_true rfl)⟩ rfl rfl (Nat.le_of_ble_eq_true rfl) ⟨(Nat.le_of_ble_eq_true rfl), (Nat.le_of_ble_eq_true rfl)⟩ ?_
      rintro _ _ ⟨rfl, rfl⟩
      refine r_goto C dX8_score_26 (tgt := 31) (by decide) ?_
      exact E.2.1 rfl _ _ _ _ dX8_score_31 ⟨_, rfl, ⟨by unfold scoA; rw [ifp_t ⟨⟨i0, hi, rfl⟩, ⟨n0, hn0, rfl⟩⟩, cl_nI (show i0 < 2 ^ 31 by omega), cl_nI (show n0 < 2 ^ 31 by omega)], hM, SmR.rf⟩⟩
