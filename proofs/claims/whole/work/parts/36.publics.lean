def rmX7_pay : Room := { frames := 2, cells := 0, slots := 0, locals := 42 }
theorem pk_X7_pay : Pk yX7_pay RX7 3 := by decide +kernel
set_option maxHeartbeats 4000000 in
set_option maxRecDepth 100000 in
theorem c_X7_pay (l : Launch) (g : gE) (ad : Nat → Nat) (u : Me) (S : Sg) (hC : RepC S u) (hO : Ok S) (a b v : Int32) : Cti l yX7_pay wsX7_pay rmX7_pay g ad [.ref (ad 0), .int (a), .int (b), .int (v)] u (fun r u' => ∃ S', payA S a b v = (r, S') ∧ RepC S' u' ∧ SmC u u') := by
  refine Ct.of (cc := cX7_pay) (nL := 4) (ret := (some .int)) RX7 (by decide) rfl rfl (Nat.le_of_ble_eq_true rfl) (fun kx C E => ?_)
  have hin_X7 : ∀ w ∈ u_ws RX7 TX7 10, w ∈ wsX7_pay := by decide +kernel
  have hk_10 : Cond.fieldLink RX7 10 "AgainAgain" "game" "LAgainAgain$Game;" ∈ wsX7_pay := by decide +kernel
  show G kx 0 0 (WW g ad u) 0 [(0, .ref (ad 0)), (1, .int (a)), (2, .int (b)), (3, .int (v))] []
  have hn := hO.n
  refine r_iload_n C 1 dX7_pay_0 rfl rfl ?_
  refine r_callSi C (rest := []) (c_X7_isAction l g ad u a) gX7_pay_X7_isAction pk_X7_isAction dX7_pay_1 rfl rfl rfl rfl ⟨(Nat.le_of_ble_eq_true rfl), (Nat.le_of_ble_eq_true rfl)⟩ rfl (Nat.le_of_ble_eq_true rfl) ⟨(Nat.le_of_ble_eq_true rfl), (Nat.le_of_ble_eq_true rfl)⟩ ?_
  rintro _ _ ⟨rfl, rfl⟩
  refine r_ifB_eq C dX7_pay_4 (tgt := 25) (by decide) (fun h4 => ?_) (fun h4 => ?_)
  · refine r_iconst C dX7_pay_25 (v := (-1)) (by decide) ?_
    exact E.2.1 rfl _ _ _ _ dX7_pay_26 ⟨_, rfl, ⟨S, ifp_f (fun q => by first | exact h4 q.1 | exact h11 q.2.1 | exact h22 q.2.2) _ _, hC, SmC.rf⟩⟩
  · obtain ⟨a0, ha, rfl⟩ := h4
    refine r_iload_n C 2 dX7_pay_7 rfl rfl ?_
    refine r_callSi C (rest := []) (c_X7_isAction l g ad u b) gX7_pay_X7_isAction pk_X7_isAction dX7_pay_8 rfl rfl rfl rfl ⟨(Nat.le_of_ble_eq_true rfl), (Nat.le_of_ble_eq_true rfl)⟩ rfl (Nat.le_of_ble_eq_true rfl) ⟨(Nat.le_of_ble_eq_true rfl), (Nat.le_of_ble_eq_true rfl)⟩ ?_
    rintro _ _ ⟨rfl, rfl⟩
    refine r_ifB_eq C dX7_pay_11 (tgt := 25) (by decide) (fun h11 => ?_) (fun h11 => ?_)
    · refine r_iconst C dX7_pay_25 (v := (-1)) (by decide) ?_
      exact E.2.1 rfl _ _ _ _ dX7_pay_26 ⟨_, rfl, ⟨S, ifp_f (fun q => by first | exact h4 q.1 | exact h11 q.2.1 | exact h22 q.2.2) _ _, hC, SmC.rf⟩⟩
    · obtain ⟨b0, hb, rfl⟩ := h11
      refine r_iload_n C 3 dX7_pay_14 rfl rfl ?_
      refine r_bipush C dX7_pay_15 (v := (-50)) (by decide) ?_
      refine r_bipush C dX7_pay_17 (v := nI 50) (by decide) ?_
      refine r_callSi C (rest := []) (c_X7_within l g ad u v (-50) (nI 50)) gX7_pay_X7_within pk_X7_within dX7_pay_19 rfl rfl rfl rfl ⟨(Nat.le_of_ble_eq_true rfl), (Nat.le_of_ble_eq_true rfl)⟩ rfl (Nat.le_of_ble_eq_true rfl) ⟨(Nat.le_of_ble_eq_true rfl), (Nat.le_of_ble_eq_true rfl)⟩ ?_
      rintro _ _ ⟨rfl, rfl⟩
      refine r_setI (y := (bI (isZ2 (-50) 50 v))) (bI_iff (isZ2_iff (a := -50) (b := 50) (by decide) (by decide) (by decide) (by decide))) ?_
      refine r_ifB_ne C dX7_pay_22 (tgt := 27) (by decide) (fun h22 => ?_) (fun h22 => ?_)
      · obtain ⟨z, hz1, hz2, rfl⟩ := h22
        refine r_aload_n C 0 dX7_pay_27 rfl rfl ?_
        refine r_get C (CN := RX7) (T := TX7) (N := 10) k_0 rfl hin_X7 (j := 0) (by decide) hk_10 rfl rfl dX7_pay_28 ?_
        refine r_iload_n C 1 dX7_pay_31 rfl rfl ?_
        refine r_iload_n C 2 dX7_pay_32 rfl rfl ?_
        refine r_iload_n C 3 dX7_pay_33 rfl rfl ?_
        refine r_callVv C (rest := []) (c_X0_setGain l g ad u a0 b0 (iI z) (by omega) (by omega)) gX7_pay_X0_setGain pk_X0_setGain k_1 dX7_pay_34 rfl rfl rfl rfl ⟨(Nat.le_of_ble_eq_true rfl), (Nat.le_of_ble_eq_true rfl)⟩ rfl rfl (Nat.le_of_ble_eq_true rfl) ⟨(Nat.le_of_ble_eq_true rfl), (Nat.le_of_ble_eq_true rfl)⟩ ?_
        rintro _ rfl
        refine r_iconst C dX7_pay_37 (v := nI 1) (by decide) ?_
        exact E.2.1 rfl _ _ _ _ dX7_pay_38 ⟨_, rfl, ⟨payS S a0 b0 z, by unfold payA; rw [ifp_t ⟨⟨a0, ha, rfl⟩, ⟨b0, hb, rfl⟩, ⟨z, hz1, hz2, rfl⟩⟩, cl_nI (show a0 < 2 ^ 31 by omega), cl_nI (show b0 < 2 ^ 31 by omega), iI_toInt (by omega) (by omega)], hC.pay ha hb z, SmC.of (Sm.rf.sA (c := 2) (fa := [2]) (fj := []) (fi := []) (fl := []) (by decide) _) (by decide) (by decide) (by decide) (by decide)⟩⟩
      · refine r_iconst C dX7_pay_25 (v := (-1)) (by decide) ?_
        exact E.2.1 rfl _ _ _ _ dX7_pay_26 ⟨_, rfl, ⟨S, ifp_f (fun q => by first | exact h4 q.1 | exact h11 q.2.1 | exact h22 q.2.2) _ _, hC, SmC.rf⟩⟩
def rmX7_discount : Room := { frames := 1, cells := 0, slots := 0, locals := 22 }
theorem pk_X7_discount : Pk yX7_discount RX7 2 := by decide +kernel
set_option maxHeartbeats 4000000 in
set_option maxRecDepth 100000 in
theorem c_X7_discount (l : Launch) (g : gE) (ad : Nat → Nat) (u : Me) (S : Sg) (hC : RepC S u) (hO : Ok S) (p q : Int32) : Cti l yX7_discount wsX7_discount rmX7_discount g ad [.ref (ad 0), .int (p), .int (q)] u (fun r u' => ∃ S', discA S p q = (r, S') ∧ RepC S' u' ∧ SmC u u') := by
  refine Ct.of (cc := cX7_discount) (nL := 3) (ret := (some .int)) RX7 (by decide) rfl rfl (Nat.le_of_ble_eq_true rfl) (fun kx C E => ?_)
  have hin_X7 : ∀ w ∈ u_ws RX7 TX7 10, w ∈ wsX7_discount := by decide +kernel
  have hk_10 : Cond.fieldLink RX7 10 "AgainAgain" "game" "LAgainAgain$Game;" ∈ wsX7_discount := by decide +kernel
  show G kx 0 0 (WW g ad u) 0 [(0, .ref (ad 0)), (1, .int (p)), (2, .int (q))] []
  have hn := hO.n
  refine r_iload_n C 2 dX7_discount_0 rfl rfl ?_
  refine r_iconst C dX7_discount_1 (v := nI 2) (by decide) ?_
  refine r_iconst C dX7_discount_2 (v := nI 4) (by decide) ?_
  refine r_callSi C (rest := []) (c_X7_within l g ad u q (nI 2) (nI 4)) gX7_discount_X7_within pk_X7_within dX7_discount_3 rfl rfl rfl rfl ⟨(Nat.le_of_ble_eq_true rfl), (Nat.le_of_ble_eq_true rfl)⟩ rfl (Nat.le_of_ble_eq_true rfl) ⟨(Nat.le_of_ble_eq_true rfl), (Nat.le_of_ble_eq_true rfl)⟩ ?_
  rintro _ _ ⟨rfl, rfl⟩
  refine r_setI (y := (bI (isAB 2 4 q))) (bI_iff (isAB_iff (by decide) (by omega))) ?_
  refine r_ifB_eq C dX7_discount_6 (tgt := 20) (by decide) (fun h6 => ?_) (fun h6 => ?_)
  · refine r_iconst C dX7_discount_20 (v := (-1)) (by decide) ?_
    exact E.2.1 rfl _ _ _ _ dX7_discount_21 ⟨_, rfl, ⟨S, ifp_f (fun q => by first | exact h6 q.1 | exact h17 (by have z := q.2; rwa [cl_nI (show q0 < 2 ^ 31 by omega)] at z)) _ _, hC, SmC.rf⟩⟩
  · obtain ⟨q0, hq1, hq2, rfl⟩ := h6
    refine r_iload_n C 1 dX7_discount_9 rfl rfl ?_
    refine r_iconst C dX7_discount_10 (v := nI 1) (by decide) ?_
    refine r_iload_n C 2 dX7_discount_11 rfl rfl ?_
    refine r_iconst C dX7_discount_12 (v := nI 1) (by decide) ?_
    refine r_isubN C dX7_discount_13 (by omega) ?_
    refine r_callSi C (rest := []) (c_X7_within l g ad u p (nI 1) (nI (q0 - 1))) gX7_discount_X7_within pk_X7_within dX7_discount_14 rfl rfl rfl rfl ⟨(Nat.le_of_ble_eq_true rfl), (Nat.le_of_ble_eq_true rfl)⟩ rfl (Nat.le_of_ble_eq_true rfl) ⟨(Nat.le_of_ble_eq_true rfl), (Nat.le_of_ble_eq_true rfl)⟩ ?_
    rintro _ _ ⟨rfl, rfl⟩
    refine r_setI (y := (bI (isAB 1 (q0 - 1) p))) (bI_iff (isAB_iff (by decide) (by omega))) ?_
    refine r_ifB_ne C dX7_discount_17 (tgt := 22) (by decide) (fun h17 => ?_) (fun h17 => ?_)
    · obtain ⟨p0, hp1, hp2, rfl⟩ := h17
      refine r_aload_n C 0 dX7_discount_22 rfl rfl ?_
      refine r_get C (CN := RX7) (T := TX7) (N := 10) k_0 rfl hin_X7 (j := 0) (by decide) hk_10 rfl rfl dX7_discount_23 ?_
      refine r_iload_n C 1 dX7_discount_26 rfl rfl ?_
      refine r_iload_n C 2 dX7_discount_27 rfl rfl ?_
      refine r_callVv C (rest := []) (c_X0_setRate l g ad u p0 q0 (by omega) (by omega)) gX7_discount_X0_setRate pk_X0_setRate k_1 dX7_discount_28 rfl rfl rfl rfl ⟨(Nat.le_of_ble_eq_true rfl), (Nat.le_of_ble_eq_true rfl)⟩ rfl rfl (Nat.le_of_ble_eq_true rfl) ⟨(Nat.le_of_ble_eq_true rfl), (Nat.le_of_ble_eq_true rfl)⟩ ?_
      rintro _ rfl
      refine r_iconst C dX7_discount_31 (v := nI 1) (by decide) ?_
      exact E.2.1 rfl _ _ _ _ dX7_discount_32 ⟨_, rfl, ⟨rateS S p0 q0, by unfold discA; rw [cl_nI (show q0 < 2 ^ 31 by omega), ifp_t ⟨⟨q0, hq1, hq2, rfl⟩, ⟨p0, hp1, hp2, rfl⟩⟩, cl_nI (show p0 < 2 ^ 31 by omega)], hC.rate p0 q0, SmC.of ((Sm.rf.sL (c := 0) (fa := []) (fj := []) (fi := []) (fl := [0, 1]) (by decide) _).sL (c := 1) (by decide) _) (by decide) (by decide) (by decide) (by decide)⟩⟩
    · refine r_iconst C dX7_discount_20 (v := (-1)) (by decide) ?_
      exact E.2.1 rfl _ _ _ _ dX7_discount_21 ⟨_, rfl, ⟨S, ifp_f (fun q => by first | exact h6 q.1 | exact h17 (by have z := q.2; rwa [cl_nI (show q0 < 2 ^ 31 by omega)] at z)) _ _, hC, SmC.rf⟩⟩
def rmX7_machine : Room := { frames := 2, cells := 0, slots := 0, locals := 48 }
theorem pk_X7_machine : Pk yX7_machine RX7 1 := by decide +kernel
set_option maxHeartbeats 4000000 in
set_option maxRecDepth 100000 in
theorem c_X7_machine (l : Launch) (g : gE) (ad : Nat → Nat) (u : Me) (S : Sg) (hC : RepC S u) (hO : Ok S) (n : Int32) : Cti l yX7_machine wsX7_machine rmX7_machine g ad [.ref (ad 0), .int (n)] u (fun r u' => ∃ S', machA S n = (r, S') ∧ RepC S' u' ∧ SmC u u') := by
  refine Ct.of (cc := cX7_machine) (nL := 2) (ret := (some .int)) RX7 (by decide) rfl rfl (Nat.le_of_ble_eq_true rfl) (fun kx C E => ?_)
  have hin_X7 : ∀ w ∈ u_ws RX7 TX7 10, w ∈ wsX7_machine := by decide +kernel
  have hk_19 : Cond.fieldLink RX7 19 "AgainAgain" "machines" "LAgainAgain$Machines;" ∈ wsX7_machine := by decide +kernel
  show G kx 0 0 (WW g ad u) 0 [(0, .ref (ad 0)), (1, .int (n))] []
  have hn := hO.n
  refine r_iload_n C 1 dX7_machine_0 rfl rfl ?_
  refine r_iconst C dX7_machine_1 (v := nI 1) (by decide) ?_
  refine r_iconst C dX7_machine_2 (v := nI 4) (by decide) ?_
  refine r_callSi C (rest := []) (c_X7_within l g ad u n (nI 1) (nI 4)) gX7_machine_X7_within pk_X7_within dX7_machine_3 rfl rfl rfl rfl ⟨(Nat.le_of_ble_eq_true rfl), (Nat.le_of_ble_eq_true rfl)⟩ rfl (Nat.le_of_ble_eq_true rfl) ⟨(Nat.le_of_ble_eq_true rfl), (Nat.le_of_ble_eq_true rfl)⟩ ?_
  rintro _ _ ⟨rfl, rfl⟩
  refine r_setI (y := (bI (isAB 1 4 n))) (bI_iff (isAB_iff (by decide) (by omega))) ?_
  refine r_ifB_ne C dX7_machine_6 (tgt := 11) (by decide) (fun h6 => ?_) (fun h6 => ?_)
  · obtain ⟨n0, hn1, hn4, rfl⟩ := h6
    refine r_aload_n C 0 dX7_machine_11 rfl rfl ?_
    refine r_get C (CN := RX7) (T := TX7) (N := 10) k_0 rfl hin_X7 (j := 1) (by decide) hk_19 rfl rfl dX7_machine_12 ?_
    refine r_callVi C (rest := []) (c_X2_isFull l g ad u S hC hO) gX7_machine_X2_isFull pk_X2_isFull k_3 dX7_machine_15 rfl rfl rfl rfl ⟨(Nat.le_of_ble_eq_true rfl), (Nat.le_of_ble_eq_true rfl)⟩ rfl rfl (Nat.le_of_ble_eq_true rfl) ⟨(Nat.le_of_ble_eq_true rfl), (Nat.le_of_ble_eq_true rfl)⟩ ?_
    rintro _ _ ⟨rfl, rfl⟩
    refine r_ifB_eq C dX7_machine_18 (tgt := 26) (by decide) (fun h18 => ?_) (fun h18 => ?_)
    · have h12 : sN S < 12 := by omega
      refine r_aload_n C 0 dX7_machine_26 rfl rfl ?_
      refine r_get C (CN := RX7) (T := TX7) (N := 10) k_0 rfl hin_X7 (j := 1) (by decide) hk_19 rfl rfl dX7_machine_27 ?_
      refine r_iload_n C 1 dX7_machine_30 rfl rfl ?_
      refine r_callVi C (rest := []) (c_X2_add l g ad u S hC hO n0 h12 (by omega) (by omega)) gX7_machine_X2_add pk_X2_add k_3 dX7_machine_31 rfl rfl rfl rfl ⟨(Nat.le_of_ble_eq_true rfl), (Nat.le_of_ble_eq_true rfl)⟩ rfl rfl (Nat.le_of_ble_eq_true rfl) ⟨(Nat.le_of_ble_eq_true rfl), (Nat.le_of_ble_eq_true rfl)⟩ ?_
      rintro _ u1 ⟨rfl, hC1, hs1⟩
      exact E.2.1 rfl _ _ _ _ dX7_machine_34 ⟨_, rfl, ⟨addS S n0, by unfold machA; rw [ifp_t ⟨n0, hn1, hn4, rfl⟩, ifp_f (show ¬ sN S = 12 by omega), cl_nI (show n0 < 2 ^ 31 by omega)], hC1, SmC.of hs1 (by decide) (by decide) (by decide) (by decide)⟩⟩
    · have h12e : sN S = 12 := by omega
      refine r_bipush C dX7_machine_21 (v := (-3)) (by decide) ?_
      refine r_goto C dX7_machine_23 (tgt := 34) (by decide) ?_
      exact E.2.1 rfl _ _ _ _ dX7_machine_34 ⟨_, rfl, ⟨S, (by unfold machA; rw [ifp_t ⟨n0, hn1, hn4, rfl⟩, ifp_t h12e]), hC, SmC.rf⟩⟩
  · refine r_iconst C dX7_machine_9 (v := (-1)) (by decide) ?_
    exact E.2.1 rfl _ _ _ _ dX7_machine_10 ⟨_, rfl, ⟨S, ifp_f h6 _ _, hC, SmC.rf⟩⟩
def rmX7_does : Room := { frames := 2, cells := 0, slots := 0, locals := 43 }
theorem pk_X7_does : Pk yX7_does RX7 3 := by decide +kernel
set_option maxHeartbeats 4000000 in
set_option maxRecDepth 100000 in
theorem c_X7_does (l : Launch) (g : gE) (ad : Nat → Nat) (u : Me) (S : Sg) (hC : RepC S u) (hO : Ok S) (m s a : Int32) : Cti l yX7_does wsX7_does rmX7_does g ad [.ref (ad 0), .int (m), .int (s), .int (a)] u (fun r u' => ∃ S', doesA S m s a = (r, S') ∧ RepC S' u' ∧ SmC u u') := by
  refine Ct.of (cc := cX7_does) (nL := 4) (ret := (some .int)) RX7 (by decide) rfl rfl (Nat.le_of_ble_eq_true rfl) (fun kx C E => ?_)
  have hin_X7 : ∀ w ∈ u_ws RX7 TX7 10, w ∈ wsX7_does := by decide +kernel
  have hk_19 : Cond.fieldLink RX7 19 "AgainAgain" "machines" "LAgainAgain$Machines;" ∈ wsX7_does := by decide +kernel
  show G kx 0 0 (WW g ad u) 0 [(0, .ref (ad 0)), (1, .int (m)), (2, .int (s)), (3, .int (a))] []
  have hn := hO.n
  refine r_aload_n C 0 dX7_does_0 rfl rfl ?_
  refine r_get C (CN := RX7) (T := TX7) (N := 10) k_0 rfl hin_X7 (j := 1) (by decide) hk_19 rfl rfl dX7_does_1 ?_
  refine r_iload_n C 1 dX7_does_4 rfl rfl ?_
  refine r_iload_n C 2 dX7_does_5 rfl rfl ?_
  refine r_callVi C (rest := []) (c_X2_hasState l g ad u S hC hO m s) gX7_does_X2_hasState pk_X2_hasState k_3 dX7_does_6 rfl rfl rfl rfl ⟨(Nat.le_of_ble_eq_true rfl), (Nat.le_of_ble_eq_true rfl)⟩ rfl rfl (Nat.le_of_ble_eq_true rfl) ⟨(Nat.le_of_ble_eq_true rfl), (Nat.le_of_ble_eq_true rfl)⟩ ?_
  rintro _ _ ⟨rfl, rfl⟩
  refine r_ifB_eq C dX7_does_9 (tgt := 19) (by decide) (fun h9 => ?_) (fun h9 => ?_)
  · refine r_iconst C dX7_does_19 (v := (-1)) (by decide) ?_
    exact E.2.1 rfl _ _ _ _ dX7_does_20 ⟨_, rfl, ⟨S, ifp_f (fun q => by first | exact h9 q.1 | exact h16 q.2) _ _, hC, SmC.rf⟩⟩
  · obtain ⟨m0, hm, rfl, s0, hs, rfl⟩ := h9
    have hz := (hO.z m0).2
    refine r_iload_n C 3 dX7_does_12 rfl rfl ?_
    refine r_callSi C (rest := []) (c_X7_isAction l g ad u a) gX7_does_X7_isAction pk_X7_isAction dX7_does_13 rfl rfl rfl rfl ⟨(Nat.le_of_ble_eq_true rfl), (Nat.le_of_ble_eq_true rfl)⟩ rfl (Nat.le_of_ble_eq_true rfl) ⟨(Nat.le_of_ble_eq_true rfl), (Nat.le_of_ble_eq_true rfl)⟩ ?_
    rintro _ _ ⟨rfl, rfl⟩
    refine r_ifB_ne C dX7_does_16 (tgt := 21) (by decide) (fun h16 => ?_) (fun h16 => ?_)
    · obtain ⟨a0, ha, rfl⟩ := h16
      refine r_aload_n C 0 dX7_does_21 rfl rfl ?_
      refine r_get C (CN := RX7) (T := TX7) (N := 10) k_0 rfl hin_X7 (j := 1) (by decide) hk_19 rfl rfl dX7_does_22 ?_
      refine r_iload_n C 1 dX7_does_25 rfl rfl ?_
      refine r_iload_n C 2 dX7_does_26 rfl rfl ?_
      refine r_iload_n C 3 dX7_does_27 rfl rfl ?_
      refine r_callVv C (rest := []) (c_X2_setAction l g ad u m0 s0 (nI (a0)) (by omega) (by omega)) gX7_does_X2_setAction pk_X2_setAction k_3 dX7_does_28 rfl rfl rfl rfl ⟨(Nat.le_of_ble_eq_true rfl), (Nat.le_of_ble_eq_true rfl)⟩ rfl rfl (Nat.le_of_ble_eq_true rfl) ⟨(Nat.le_of_ble_eq_true rfl), (Nat.le_of_ble_eq_true rfl)⟩ ?_
      rintro _ rfl
      refine r_iconst C dX7_does_31 (v := nI 1) (by decide) ?_
      exact E.2.1 rfl _ _ _ _ dX7_does_32 ⟨_, rfl, ⟨doesS S m0 s0 a0, by unfold doesA; rw [ifp_t ⟨⟨m0, hm, rfl, s0, hs, rfl⟩, ⟨a0, ha, rfl⟩⟩, cl_nI (show m0 < 2 ^ 31 by omega), cl_nI (show s0 < 2 ^ 31 by omega), cl_nI (show a0 < 2 ^ 31 by omega)], hC.does hO hm hs a0, SmC.of (Sm.rf.sA (c := 5) (fa := [5]) (fj := []) (fi := []) (fl := []) (by decide) _) (by decide) (by decide) (by decide) (by decide)⟩⟩
    · refine r_iconst C dX7_does_19 (v := (-1)) (by decide) ?_
      exact E.2.1 rfl _ _ _ _ dX7_does_20 ⟨_, rfl, ⟨S, ifp_f (fun q => by first | exact h9 q.1 | exact h16 q.2) _ _, hC, SmC.rf⟩⟩
def rmX7_goes : Room := { frames := 2, cells := 0, slots := 0, locals := 43 }
theorem pk_X7_goes : Pk yX7_goes RX7 4 := by decide +kernel
set_option maxHeartbeats 4000000 in
set_option maxRecDepth 100000 in
theorem c_X7_goes (l : Launch) (g : gE) (ad : Nat → Nat) (u : Me) (S : Sg) (hC : RepC S u) (hO : Ok S) (m s a x : Int32) : Cti l yX7_goes wsX7_goes rmX7_goes g ad [.ref (ad 0), .int (m), .int (s), .int (a), .int (x)] u (fun r u' => ∃ S', goesA S m s a x = (r, S') ∧ RepC S' u' ∧ SmC u u') := by
  refine Ct.of (cc := cX7_goes) (nL := 5) (ret := (some .int)) RX7 (by decide) rfl rfl (Nat.le_of_ble_eq_true rfl) (fun kx C E => ?_)
  have hin_X7 : ∀ w ∈ u_ws RX7 TX7 10, w ∈ wsX7_goes := by decide +kernel
  have hk_19 : Cond.fieldLink RX7 19 "AgainAgain" "machines" "LAgainAgain$Machines;" ∈ wsX7_goes := by decide +kernel
  show G kx 0 0 (WW g ad u) 0 [(0, .ref (ad 0)), (1, .int (m)), (2, .int (s)), (3, .int (a)), (4, .int (x))] []
  have hn := hO.n
  refine r_aload_n C 0 dX7_goes_0 rfl rfl ?_
  refine r_get C (CN := RX7) (T := TX7) (N := 10) k_0 rfl hin_X7 (j := 1) (by decide) hk_19 rfl rfl dX7_goes_1 ?_
  refine r_iload_n C 1 dX7_goes_4 rfl rfl ?_
  refine r_iload_n C 2 dX7_goes_5 rfl rfl ?_
  refine r_callVi C (rest := []) (c_X2_hasState l g ad u S hC hO m s) gX7_goes_X2_hasState pk_X2_hasState k_3 dX7_goes_6 rfl rfl rfl rfl ⟨(Nat.le_of_ble_eq_true rfl), (Nat.le_of_ble_eq_true rfl)⟩ rfl rfl (Nat.le_of_ble_eq_true rfl) ⟨(Nat.le_of_ble_eq_true rfl), (Nat.le_of_ble_eq_true rfl)⟩ ?_
  rintro _ _ ⟨rfl, rfl⟩
  refine r_ifB_eq C dX7_goes_9 (tgt := 32) (by decide) (fun h9 => ?_) (fun h9 => ?_)
  · refine r_iconst C dX7_goes_32 (v := (-1)) (by decide) ?_
    exact E.2.1 rfl _ _ _ _ dX7_goes_33 ⟨_, rfl, ⟨S, ifp_f (fun q => by first | exact h9 q.1 | exact h16 q.2.1 | exact h29 q.2.2) _ _, hC, SmC.rf⟩⟩
  · obtain ⟨m0, hm, rfl, s0, hs, rfl⟩ := h9
    have hz := (hO.z m0).2
    refine r_iload_n C 3 dX7_goes_12 rfl rfl ?_
    refine r_callSi C (rest := []) (c_X7_isAction l g ad u a) gX7_goes_X7_isAction pk_X7_isAction dX7_goes_13 rfl rfl rfl rfl ⟨(Nat.le_of_ble_eq_true rfl), (Nat.le_of_ble_eq_true rfl)⟩ rfl (Nat.le_of_ble_eq_true rfl) ⟨(Nat.le_of_ble_eq_true rfl), (Nat.le_of_ble_eq_true rfl)⟩ ?_
    rintro _ _ ⟨rfl, rfl⟩
    refine r_ifB_eq C dX7_goes_16 (tgt := 32) (by decide) (fun h16 => ?_) (fun h16 => ?_)
    · refine r_iconst C dX7_goes_32 (v := (-1)) (by decide) ?_
      exact E.2.1 rfl _ _ _ _ dX7_goes_33 ⟨_, rfl, ⟨S, ifp_f (fun q => by first | exact h9 q.1 | exact h16 q.2.1 | exact h29 q.2.2) _ _, hC, SmC.rf⟩⟩
    · obtain ⟨a0, ha, rfl⟩ := h16
      refine r_aload_n C 0 dX7_goes_19 rfl rfl ?_
      refine r_get C (CN := RX7) (T := TX7) (N := 10) k_0 rfl hin_X7 (j := 1) (by decide) hk_19 rfl rfl dX7_goes_20 ?_
      refine r_iload_n C 1 dX7_goes_23 rfl rfl ?_
      refine r_iload C 4 dX7_goes_24 rfl ?_
      refine r_callVi C (rest := []) (c_X2_hasState l g ad u S hC hO (nI m0) x) gX7_goes_X2_hasState pk_X2_hasState k_3 dX7_goes_26 rfl rfl rfl rfl ⟨(Nat.le_of_ble_eq_true rfl), (Nat.le_of_ble_eq_true rfl)⟩ rfl rfl (Nat.le_of_ble_eq_true rfl) ⟨(Nat.le_of_ble_eq_true rfl), (Nat.le_of_ble_eq_true rfl)⟩ ?_
      rintro _ _ ⟨rfl, rfl⟩
      refine r_ifB_ne C dX7_goes_29 (tgt := 34) (by decide) (fun h29 => ?_) (fun h29 => ?_)
      · obtain ⟨x0, hx, rfl⟩ := (isS_iff hO hm).mp h29
        refine r_aload_n C 0 dX7_goes_34 rfl rfl ?_
        refine r_get C (CN := RX7) (T := TX7) (N := 10) k_0 rfl hin_X7 (j := 1) (by decide) hk_19 rfl rfl dX7_goes_35 ?_
        refine r_iload_n C 1 dX7_goes_38 rfl rfl ?_
        refine r_iload_n C 2 dX7_goes_39 rfl rfl ?_
        refine r_iload_n C 3 dX7_goes_40 rfl rfl ?_
        refine r_iload C 4 dX7_goes_41 rfl ?_
        refine r_callVv C (rest := []) (c_X2_setNext l g ad u m0 s0 a0 (nI (x0)) (by omega) (by omega) (by omega)) gX7_goes_X2_setNext pk_X2_setNext k_3 dX7_goes_43 rfl rfl rfl rfl ⟨(Nat.le_of_ble_eq_true rfl), (Nat.le_of_ble_eq_true rfl)⟩ rfl rfl (Nat.le_of_ble_eq_true rfl) ⟨(Nat.le_of_ble_eq_true rfl), (Nat.le_of_ble_eq_true rfl)⟩ ?_
        rintro _ rfl
        refine r_iconst C dX7_goes_46 (v := nI 1) (by decide) ?_
        exact E.2.1 rfl _ _ _ _ dX7_goes_47 ⟨_, rfl, ⟨goesS S m0 s0 a0 x0, by unfold goesA; rw [ifp_t ⟨⟨m0, hm, rfl, s0, hs, rfl⟩, ⟨a0, ha, rfl⟩, (isS_iff hO hm).mpr ⟨x0, hx, rfl⟩⟩, cl_nI (show m0 < 2 ^ 31 by omega), cl_nI (show s0 < 2 ^ 31 by omega), cl_nI (show a0 < 2 ^ 31 by omega), cl_nI (show x0 < 2 ^ 31 by omega)], hC.goes hO hm hs ha x0, SmC.of (Sm.rf.sA (c := 6) (fa := [6]) (fj := []) (fi := []) (fl := []) (by decide) _) (by decide) (by decide) (by decide) (by decide)⟩⟩
      · refine r_iconst C dX7_goes_32 (v := (-1)) (by decide) ?_
        exact E.2.1 rfl _ _ _ _ dX7_goes_33 ⟨_, rfl, ⟨S, ifp_f (fun q => by first | exact h9 q.1 | exact h16 q.2.1 | exact h29 q.2.2) _ _, hC, SmC.rf⟩⟩
def rmX7_told : Room := { frames := 2, cells := 0, slots := 0, locals := 43 }
theorem pk_X7_told : Pk yX7_told RX7 3 := by decide +kernel
set_option maxHeartbeats 4000000 in
set_option maxRecDepth 100000 in
theorem c_X7_told (l : Launch) (g : gE) (ad : Nat → Nat) (u : Me) (S : Sg) (hC : RepC S u) (hO : Ok S) (m s w : Int32) : Cti l yX7_told wsX7_told rmX7_told g ad [.ref (ad 0), .int (m), .int (s), .int (w)] u (fun r u' => toldA S m s w = r ∧ RepC S u' ∧ SmC u u') := by
  refine Ct.of (cc := cX7_told) (nL := 4) (ret := (some .int)) RX7 (by decide) rfl rfl (Nat.le_of_ble_eq_true rfl) (fun kx C E => ?_)
  have hin_X7 : ∀ w ∈ u_ws RX7 TX7 10, w ∈ wsX7_told := by decide +kernel
  have hk_19 : Cond.fieldLink RX7 19 "AgainAgain" "machines" "LAgainAgain$Machines;" ∈ wsX7_told := by decide +kernel
  show G kx 0 0 (WW g ad u) 0 [(0, .ref (ad 0)), (1, .int (m)), (2, .int (s)), (3, .int (w))] []
  have hn := hO.n
  refine r_aload_n C 0 dX7_told_0 rfl rfl ?_
  refine r_get C (CN := RX7) (T := TX7) (N := 10) k_0 rfl hin_X7 (j := 1) (by decide) hk_19 rfl rfl dX7_told_1 ?_
  refine r_iload_n C 1 dX7_told_4 rfl rfl ?_
  refine r_iload_n C 2 dX7_told_5 rfl rfl ?_
  refine r_callVi C (rest := []) (c_X2_hasState l g ad u S hC hO m s) gX7_told_X2_hasState pk_X2_hasState k_3 dX7_told_6 rfl rfl rfl rfl ⟨(Nat.le_of_ble_eq_true rfl), (Nat.le_of_ble_eq_true rfl)⟩ rfl rfl (Nat.le_of_ble_eq_true rfl) ⟨(Nat.le_of_ble_eq_true rfl), (Nat.le_of_ble_eq_true rfl)⟩ ?_
  rintro _ _ ⟨rfl, rfl⟩
  refine r_ifB_eq C dX7_told_9 (tgt := 21) (by decide) (fun h9 => ?_) (fun h9 => ?_)
  · refine r_iconst C dX7_told_21 (v := (-1)) (by decide) ?_
    exact E.2.1 rfl _ _ _ _ dX7_told_22 ⟨_, rfl, ⟨ifp_f (fun q => by first | exact h9 q.1 | exact h18 q.2) _ _, hC, SmC.rf⟩⟩
  · obtain ⟨m0, hm, rfl, s0, hs, rfl⟩ := h9
    have hz := (hO.z m0).2
    refine r_iload_n C 3 dX7_told_12 rfl rfl ?_
    refine r_iconst C dX7_told_13 (v := nI 0) (by decide) ?_
    refine r_iconst C dX7_told_14 (v := nI 3) (by decide) ?_
    refine r_callSi C (rest := []) (c_X7_within l g ad u w (nI 0) (nI 3)) gX7_told_X7_within pk_X7_within dX7_told_15 rfl rfl rfl rfl ⟨(Nat.le_of_ble_eq_true rfl), (Nat.le_of_ble_eq_true rfl)⟩ rfl (Nat.le_of_ble_eq_true rfl) ⟨(Nat.le_of_ble_eq_true rfl), (Nat.le_of_ble_eq_true rfl)⟩ ?_
    rintro _ _ ⟨rfl, rfl⟩
    refine r_setI (y := (bI (isR 4 w))) (bI_iff (isR_iff (n := 3) (by decide))) ?_
    refine r_ifB_ne C dX7_told_18 (tgt := 23) (by decide) (fun h18 => ?_) (fun h18 => ?_)
    · obtain ⟨w0, hw, rfl⟩ := h18
      refine r_iload_n C 3 dX7_told_23 rfl rfl ?_
      refine r_ifN_ne C dX7_told_24 (tgt := 39) (by decide) (by omega) (fun h24 => ?_) (fun h24 => ?_)
      · refine r_aload_n C 0 dX7_told_39 rfl rfl ?_
        refine r_get C (CN := RX7) (T := TX7) (N := 10) k_0 rfl hin_X7 (j := 1) (by decide) hk_19 rfl rfl dX7_told_40 ?_
        refine r_iload_n C 1 dX7_told_43 rfl rfl ?_
        refine r_iload_n C 2 dX7_told_44 rfl rfl ?_
        refine r_iload_n C 3 dX7_told_45 rfl rfl ?_
        refine r_iconst C dX7_told_46 (v := nI 1) (by decide) ?_
        refine r_isubN C dX7_told_47 (by omega) ?_
        refine r_callVi C (rest := []) (c_X2_nextOf l g ad u S hC hO m0 (by assumption) s0 (w0 - 1) (by first | assumption | omega) (by first | assumption | omega | exact hO.a _ _)) gX7_told_X2_nextOf pk_X2_nextOf k_3 dX7_told_48 rfl rfl rfl rfl ⟨(Nat.le_of_ble_eq_true rfl), (Nat.le_of_ble_eq_true rfl)⟩ rfl rfl (Nat.le_of_ble_eq_true rfl) ⟨(Nat.le_of_ble_eq_true rfl), (Nat.le_of_ble_eq_true rfl)⟩ ?_
        rintro _ _ ⟨rfl, rfl⟩
        exact E.2.1 rfl _ _ _ _ dX7_told_51 ⟨_, rfl, ⟨by unfold toldA; rw [ifp_t ⟨⟨m0, hm, rfl, s0, hs, rfl⟩, ⟨w0, hw, rfl⟩⟩, cl_nI (show w0 < 2 ^ 31 by omega), if_neg h24, cl_nI (show m0 < 2 ^ 31 by omega), cl_nI (show s0 < 2 ^ 31 by omega)], hC, SmC.rf⟩⟩
      · refine r_aload_n C 0 dX7_told_27 rfl rfl ?_
        refine r_get C (CN := RX7) (T := TX7) (N := 10) k_0 rfl hin_X7 (j := 1) (by decide) hk_19 rfl rfl dX7_told_28 ?_
        refine r_iload_n C 1 dX7_told_31 rfl rfl ?_
        refine r_iload_n C 2 dX7_told_32 rfl rfl ?_
        refine r_callVi C (rest := []) (c_X2_actionOf l g ad u S hC hO m0 (by assumption) s0 (by first | assumption | omega)) gX7_told_X2_actionOf pk_X2_actionOf k_3 dX7_told_33 rfl rfl rfl rfl ⟨(Nat.le_of_ble_eq_true rfl), (Nat.le_of_ble_eq_true rfl)⟩ rfl rfl (Nat.le_of_ble_eq_true rfl) ⟨(Nat.le_of_ble_eq_true rfl), (Nat.le_of_ble_eq_true rfl)⟩ ?_
        rintro _ _ ⟨rfl, rfl⟩
        refine r_goto C dX7_told_36 (tgt := 51) (by decide) ?_
        exact E.2.1 rfl _ _ _ _ dX7_told_51 ⟨_, rfl, ⟨by unfold toldA; rw [ifp_t ⟨⟨m0, hm, rfl, s0, hs, rfl⟩, ⟨w0, hw, rfl⟩⟩, cl_nI (show w0 < 2 ^ 31 by omega), if_pos h24, cl_nI (show m0 < 2 ^ 31 by omega), cl_nI (show s0 < 2 ^ 31 by omega)], hC, SmC.rf⟩⟩
    · refine r_iconst C dX7_told_21 (v := (-1)) (by decide) ?_
      exact E.2.1 rfl _ _ _ _ dX7_told_22 ⟨_, rfl, ⟨ifp_f (fun q => by first | exact h9 q.1 | exact h18 q.2) _ _, hC, SmC.rf⟩⟩
def rmX7_drop : Room := { frames := 1, cells := 0, slots := 0, locals := 20 }
theorem pk_X7_drop : Pk yX7_drop RX7 0 := by decide +kernel
set_option maxHeartbeats 4000000 in
set_option maxRecDepth 100000 in
theorem c_X7_drop (l : Launch) (g : gE) (ad : Nat → Nat) (u : Me) (S : Sg) (hC : RepC S u) (hO : Ok S) : Cti l yX7_drop wsX7_drop rmX7_drop g ad [.ref (ad 0)] u (fun r u' => ∃ S', dropA S = (r, S') ∧ RepC S' u' ∧ SmC u u') := by
  refine Ct.of (cc := cX7_drop) (nL := 1) (ret := (some .int)) RX7 (by decide) rfl rfl (Nat.le_of_ble_eq_true rfl) (fun kx C E => ?_)
  have hin_X7 : ∀ w ∈ u_ws RX7 TX7 10, w ∈ wsX7_drop := by decide +kernel
  have hk_19 : Cond.fieldLink RX7 19 "AgainAgain" "machines" "LAgainAgain$Machines;" ∈ wsX7_drop := by decide +kernel
  show G kx 0 0 (WW g ad u) 0 [(0, .ref (ad 0))] []
  have hn := hO.n
  refine r_aload_n C 0 dX7_drop_0 rfl rfl ?_
  refine r_get C (CN := RX7) (T := TX7) (N := 10) k_0 rfl hin_X7 (j := 1) (by decide) hk_19 rfl rfl dX7_drop_1 ?_
  refine r_callVi C (rest := []) (c_X2_many l g ad u S hC hO) gX7_drop_X2_many pk_X2_many k_3 dX7_drop_4 rfl rfl rfl rfl ⟨(Nat.le_of_ble_eq_true rfl), (Nat.le_of_ble_eq_true rfl)⟩ rfl rfl (Nat.le_of_ble_eq_true rfl) ⟨(Nat.le_of_ble_eq_true rfl), (Nat.le_of_ble_eq_true rfl)⟩ ?_
  rintro _ _ ⟨rfl, rfl⟩
  refine r_ifN_ne C dX7_drop_7 (tgt := 15) (by decide) (by omega) (fun h7 => ?_) (fun h7 => ?_)
  · refine r_aload_n C 0 dX7_drop_15 rfl rfl ?_
    refine r_get C (CN := RX7) (T := TX7) (N := 10) k_0 rfl hin_X7 (j := 1) (by decide) hk_19 rfl rfl dX7_drop_16 ?_
    refine r_callVi C (rest := []) (c_X2_removeLatest l g ad u S hC hO (by omega)) gX7_drop_X2_removeLatest pk_X2_removeLatest k_3 dX7_drop_19 rfl rfl rfl rfl ⟨(Nat.le_of_ble_eq_true rfl), (Nat.le_of_ble_eq_true rfl)⟩ rfl rfl (Nat.le_of_ble_eq_true rfl) ⟨(Nat.le_of_ble_eq_true rfl), (Nat.le_of_ble_eq_true rfl)⟩ ?_
    rintro _ _ ⟨rfl, rfl⟩
    exact E.2.1 rfl _ _ _ _ dX7_drop_22 ⟨_, rfl, ⟨dropS S, by unfold dropA; rw [ifp_f h7], hC.drop, SmC.of (Sm.rf.sI (c := 0) (fa := []) (fj := []) (fi := [0]) (fl := []) (by decide) _) (by decide) (by decide) (by decide) (by decide)⟩⟩
  · refine r_bipush C dX7_drop_10 (v := (-4)) (by decide) ?_
    refine r_goto C dX7_drop_12 (tgt := 22) (by decide) ?_
    exact E.2.1 rfl _ _ _ _ dX7_drop_22 ⟨_, rfl, ⟨S, (by unfold dropA; rw [ifp_t h7]), hC, SmC.rf⟩⟩
def rmX7_sheet : Room := { frames := 3, cells := 0, slots := 0, locals := 69 }
theorem pk_X7_sheet : Pk yX7_sheet RX7 3 := by decide +kernel
set_option maxHeartbeats 4000000 in
set_option maxRecDepth 100000 in
theorem c_X7_sheet (l : Launch) (g : gE) (ad : Nat → Nat) (u : Me) (S : Sg) (hC : RepC S u) (hO : Ok S) (kk v n : Int32) : Cti l yX7_sheet wsX7_sheet rmX7_sheet g ad [.ref (ad 0), .int (kk), .int (v), .int (n)] u (fun r u' => ∃ S', shetA S kk v n = (r, S') ∧ RepC S' u' ∧ SmC u u') := by
  refine Ct.of (cc := cX7_sheet) (nL := 4) (ret := (some .int)) RX7 (by decide) rfl rfl (Nat.le_of_ble_eq_true rfl) (fun kx C E => ?_)
  have hin_X7 : ∀ w ∈ u_ws RX7 TX7 10, w ∈ wsX7_sheet := by decide +kernel
  have hk_26 : Cond.fieldLink RX7 26 "AgainAgain" "sheets" "LAgainAgain$Sheets;" ∈ wsX7_sheet := by decide +kernel
  show G kx 0 0 (WW g ad u) 0 [(0, .ref (ad 0)), (1, .int (kk)), (2, .int (v)), (3, .int (n))] []
  have hn := hO.n
  refine r_iload_n C 1 dX7_sheet_0 rfl rfl ?_
  refine r_callSi C (rest := []) (c_X5_isSheet l g ad u kk) gX7_sheet_X5_isSheet pk_X5_isSheet dX7_sheet_1 rfl rfl rfl rfl ⟨(Nat.le_of_ble_eq_true rfl), (Nat.le_of_ble_eq_true rfl)⟩ rfl (Nat.le_of_ble_eq_true rfl) ⟨(Nat.le_of_ble_eq_true rfl), (Nat.le_of_ble_eq_true rfl)⟩ ?_
  rintro _ _ ⟨rfl, rfl⟩
  refine r_ifB_eq C dX7_sheet_4 (tgt := 20) (by decide) (fun h4 => ?_) (fun h4 => ?_)
  · refine r_iconst C dX7_sheet_20 (v := (-1)) (by decide) ?_
    exact E.2.1 rfl _ _ _ _ dX7_sheet_21 ⟨_, rfl, ⟨S, ifp_f (fun q => by first | exact h4 q.1 | exact h11 q.2.1 | exact h17 q.2.2) _ _, hC, SmC.rf⟩⟩
  · obtain ⟨k0, hk, rfl⟩ := h4
    refine r_iload_n C 2 dX7_sheet_7 rfl rfl ?_
    refine r_callSi C (rest := []) (c_X5_isLane l g ad u v) gX7_sheet_X5_isLane pk_X5_isLane dX7_sheet_8 rfl rfl rfl rfl ⟨(Nat.le_of_ble_eq_true rfl), (Nat.le_of_ble_eq_true rfl)⟩ rfl (Nat.le_of_ble_eq_true rfl) ⟨(Nat.le_of_ble_eq_true rfl), (Nat.le_of_ble_eq_true rfl)⟩ ?_
    rintro _ _ ⟨rfl, rfl⟩
    refine r_ifB_eq C dX7_sheet_11 (tgt := 20) (by decide) (fun h11 => ?_) (fun h11 => ?_)
    · refine r_iconst C dX7_sheet_20 (v := (-1)) (by decide) ?_
      exact E.2.1 rfl _ _ _ _ dX7_sheet_21 ⟨_, rfl, ⟨S, ifp_f (fun q => by first | exact h4 q.1 | exact h11 q.2.1 | exact h17 q.2.2) _ _, hC, SmC.rf⟩⟩
    · obtain ⟨v0, hv, rfl⟩ := h11
      refine r_iload_n C 3 dX7_sheet_14 rfl rfl ?_
      refine r_bipush C dX7_sheet_15 (v := nI 60) (by decide) ?_
      refine r_icmp_le C dX7_sheet_17 (tgt := 22) (by decide) (fun h17 => ?_) (fun h17 => ?_)
      · refine r_iload_n C 3 dX7_sheet_22 rfl rfl ?_
        refine r_if_ge C dX7_sheet_23 (tgt := 29) (by decide) (fun h23 => ?_) (fun h23 => ?_)
        · obtain ⟨n0, hn0, rfl⟩ := nI_of (Int32.not_lt.mpr h23)
          have hn60 := (nI_leI hn0 (by decide)).mp h17
          refine r_aload_n C 0 dX7_sheet_29 rfl rfl ?_
          refine r_get C (CN := RX7) (T := TX7) (N := 10) k_0 rfl hin_X7 (j := 2) (by decide) hk_26 rfl rfl dX7_sheet_30 ?_
          refine r_iload_n C 1 dX7_sheet_33 rfl rfl ?_
          refine r_iload_n C 2 dX7_sheet_34 rfl rfl ?_
          refine r_iload_n C 3 dX7_sheet_35 rfl rfl ?_
          refine r_callVv C (rest := []) (c_X5_layOut l g ad u S hC hO k0 v0 n0 (by omega) (by omega) (by omega)) gX7_sheet_X5_layOut pk_X5_layOut k_7 dX7_sheet_36 rfl rfl rfl rfl ⟨(Nat.le_of_ble_eq_true rfl), (Nat.le_of_ble_eq_true rfl)⟩ rfl rfl (Nat.le_of_ble_eq_true rfl) ⟨(Nat.le_of_ble_eq_true rfl), (Nat.le_of_ble_eq_true rfl)⟩ ?_
          rintro u1 ⟨hC1, hs1⟩
          refine r_iconst C dX7_sheet_39 (v := nI 1) (by decide) ?_
          exact E.2.1 rfl _ _ _ _ dX7_sheet_40 ⟨_, rfl, ⟨sheetS S k0 v0 n0, by unfold shetA; rw [ifp_t ⟨⟨k0, hk, rfl⟩, ⟨v0, hv, rfl⟩, h17⟩, ifp_f (Int32.not_lt.mpr h23), cl_nI (show k0 < 2 ^ 31 by omega), cl_nI (show v0 < 2 ^ 31 by omega), cl_nI (show n0 < 2 ^ 31 by omega)], hC1, SmC.of hs1 (by decide) (by decide) (by decide) (by decide)⟩⟩
        · refine r_bipush C dX7_sheet_26 (v := (-14)) (by decide) ?_
          exact E.2.1 rfl _ _ _ _ dX7_sheet_28 ⟨_, rfl, ⟨S, (by unfold shetA; rw [ifp_t ⟨⟨k0, hk, rfl⟩, ⟨v0, hv, rfl⟩, h17⟩, ifp_t (Int32.not_le.mp h23)]), hC, SmC.rf⟩⟩
      · refine r_iconst C dX7_sheet_20 (v := (-1)) (by decide) ?_
        exact E.2.1 rfl _ _ _ _ dX7_sheet_21 ⟨_, rfl, ⟨S, ifp_f (fun q => by first | exact h4 q.1 | exact h11 q.2.1 | exact h17 q.2.2) _ _, hC, SmC.rf⟩⟩
def rmX7_lay : Room := { frames := 2, cells := 0, slots := 0, locals := 44 }
theorem pk_X7_lay : Pk yX7_lay RX7 3 := by decide +kernel
set_option maxHeartbeats 4000000 in
set_option maxRecDepth 100000 in
theorem c_X7_lay (l : Launch) (g : gE) (ad : Nat → Nat) (u : Me) (S : Sg) (hC : RepC S u) (hO : Ok S) (kk i v : Int32) : Cti l yX7_lay wsX7_lay rmX7_lay g ad [.ref (ad 0), .int (kk), .int (i), .int (v)] u (fun r u' => ∃ S', layA S kk i v = (r, S') ∧ RepC S' u' ∧ SmC u u') := by
  refine Ct.of (cc := cX7_lay) (nL := 4) (ret := (some .int)) RX7 (by decide) rfl rfl (Nat.le_of_ble_eq_true rfl) (fun kx C E => ?_)
  have hin_X7 : ∀ w ∈ u_ws RX7 TX7 10, w ∈ wsX7_lay := by decide +kernel
  have hk_26 : Cond.fieldLink RX7 26 "AgainAgain" "sheets" "LAgainAgain$Sheets;" ∈ wsX7_lay := by decide +kernel
  show G kx 0 0 (WW g ad u) 0 [(0, .ref (ad 0)), (1, .int (kk)), (2, .int (i)), (3, .int (v))] []
  have hn := hO.n
  refine r_iload_n C 1 dX7_lay_0 rfl rfl ?_
  refine r_callSi C (rest := []) (c_X5_isSheet l g ad u kk) gX7_lay_X5_isSheet pk_X5_isSheet dX7_lay_1 rfl rfl rfl rfl ⟨(Nat.le_of_ble_eq_true rfl), (Nat.le_of_ble_eq_true rfl)⟩ rfl (Nat.le_of_ble_eq_true rfl) ⟨(Nat.le_of_ble_eq_true rfl), (Nat.le_of_ble_eq_true rfl)⟩ ?_
  rintro _ _ ⟨rfl, rfl⟩
  refine r_ifB_ne C dX7_lay_4 (tgt := 9) (by decide) (fun h4 => ?_) (fun h4 => ?_)
  · obtain ⟨k0, hk, rfl⟩ := h4
    refine r_aload_n C 0 dX7_lay_9 rfl rfl ?_
    refine r_get C (CN := RX7) (T := TX7) (N := 10) k_0 rfl hin_X7 (j := 2) (by decide) hk_26 rfl rfl dX7_lay_10 ?_
    refine r_iload_n C 1 dX7_lay_13 rfl rfl ?_
    refine r_callVi C (rest := []) (c_X5_isThere l g ad u S hC hO k0 (by omega)) gX7_lay_X5_isThere pk_X5_isThere k_7 dX7_lay_14 rfl rfl rfl rfl ⟨(Nat.le_of_ble_eq_true rfl), (Nat.le_of_ble_eq_true rfl)⟩ rfl rfl (Nat.le_of_ble_eq_true rfl) ⟨(Nat.le_of_ble_eq_true rfl), (Nat.le_of_ble_eq_true rfl)⟩ ?_
    rintro _ _ ⟨rfl, rfl⟩
    refine r_ifB_ne C dX7_lay_17 (tgt := 23) (by decide) (fun h17 => ?_) (fun h17 => ?_)
    · refine r_aload_n C 0 dX7_lay_23 rfl rfl ?_
      refine r_get C (CN := RX7) (T := TX7) (N := 10) k_0 rfl hin_X7 (j := 2) (by decide) hk_26 rfl rfl dX7_lay_24 ?_
      refine r_iload_n C 1 dX7_lay_27 rfl rfl ?_
      refine r_iload_n C 2 dX7_lay_28 rfl rfl ?_
      refine r_callVi C (rest := []) (c_X5_hasCell l g ad u S hC hO k0 (by omega) i) gX7_lay_X5_hasCell pk_X5_hasCell k_7 dX7_lay_29 rfl rfl rfl rfl ⟨(Nat.le_of_ble_eq_true rfl), (Nat.le_of_ble_eq_true rfl)⟩ rfl rfl (Nat.le_of_ble_eq_true rfl) ⟨(Nat.le_of_ble_eq_true rfl), (Nat.le_of_ble_eq_true rfl)⟩ ?_
      rintro _ _ ⟨rfl, rfl⟩
      refine r_ifB_ne C dX7_lay_32 (tgt := 38) (by decide) (fun h32 => ?_) (fun h32 => ?_)
      · obtain ⟨i0, hi, rfl⟩ := h32
        refine r_aload_n C 0 dX7_lay_38 rfl rfl ?_
        refine r_get C (CN := RX7) (T := TX7) (N := 10) k_0 rfl hin_X7 (j := 2) (by decide) hk_26 rfl rfl dX7_lay_39 ?_
        refine r_iload_n C 1 dX7_lay_42 rfl rfl ?_
        refine r_iload_n C 2 dX7_lay_43 rfl rfl ?_
        refine r_iload_n C 3 dX7_lay_44 rfl rfl ?_
        refine r_callVv C (rest := []) (c_X5_setCell l g ad u S hC hO k0 i0 (by omega) hi h17 v) gX7_lay_X5_setCell pk_X5_setCell k_7 dX7_lay_45 rfl rfl rfl rfl ⟨(Nat.le_of_ble_eq_true rfl), (Nat.le_of_ble_eq_true rfl)⟩ rfl rfl (Nat.le_of_ble_eq_true rfl) ⟨(Nat.le_of_ble_eq_true rfl), (Nat.le_of_ble_eq_true rfl)⟩ ?_
        rintro u1 ⟨hC1, hs1⟩
        refine r_iconst C dX7_lay_48 (v := nI 1) (by decide) ?_
        exact E.2.1 rfl _ _ _ _ dX7_lay_49 ⟨_, rfl, ⟨layS S k0 i0 v, by unfold layA; rw [ifp_t ⟨k0, hk, rfl⟩, cl_nI (show k0 < 2 ^ 31 by omega), ifp_f h17, ifp_t ⟨i0, hi, rfl⟩, cl_nI (show i0 < 2 ^ 31 by have := (hO.s k0).2; omega)], hC1, SmC.of hs1 (by decide) (by decide) (by decide) (by decide)⟩⟩
      · refine r_bipush C dX7_lay_35 (v := (-12)) (by decide) ?_
        exact E.2.1 rfl _ _ _ _ dX7_lay_37 ⟨_, rfl, ⟨S, (by unfold layA; rw [ifp_t ⟨k0, hk, rfl⟩, cl_nI (show k0 < 2 ^ 31 by omega), ifp_f h17, ifp_f h32]), hC, SmC.rf⟩⟩
    · refine r_bipush C dX7_lay_20 (v := (-11)) (by decide) ?_
      exact E.2.1 rfl _ _ _ _ dX7_lay_22 ⟨_, rfl, ⟨S, (by unfold layA; rw [ifp_t ⟨k0, hk, rfl⟩, cl_nI (show k0 < 2 ^ 31 by omega), ifp_t (Classical.not_not.mp h17)]), hC, SmC.rf⟩⟩
  · refine r_iconst C dX7_lay_7 (v := (-1)) (by decide) ?_
    exact E.2.1 rfl _ _ _ _ dX7_lay_8 ⟨_, rfl, ⟨S, ifp_f h4 _ _, hC, SmC.rf⟩⟩
def rmX7_draw : Room := { frames := 3, cells := 0, slots := 0, locals := 75 }
theorem pk_X7_draw : Pk yX7_draw RX7 4 := by decide +kernel
set_option maxHeartbeats 4000000 in
set_option maxRecDepth 100000 in
theorem c_X7_draw (l : Launch) (g : gE) (ad : Nat → Nat) (u : Me) (S : Sg) (hC : RepC S u) (hO : Ok S) (kk v f n : Int32) : Cti l yX7_draw wsX7_draw rmX7_draw g ad [.ref (ad 0), .int (kk), .int (v), .int (f), .int (n)] u (fun r u' => ∃ S', drawA S kk v f n = (r, S') ∧ RepC S' u' ∧ SmC u u') := by
  refine Ct.of (cc := cX7_draw) (nL := 6) (ret := (some .int)) RX7 (by decide) rfl rfl (Nat.le_of_ble_eq_true rfl) (fun kx C E => ?_)
  have hin_X7 : ∀ w ∈ u_ws RX7 TX7 10, w ∈ wsX7_draw := by decide +kernel
  have hk_19 : Cond.fieldLink RX7 19 "AgainAgain" "machines" "LAgainAgain$Machines;" ∈ wsX7_draw := by decide +kernel
  have hk_26 : Cond.fieldLink RX7 26 "AgainAgain" "sheets" "LAgainAgain$Sheets;" ∈ wsX7_draw := by decide +kernel
  show G kx 0 0 (WW g ad u) 0 [(0, .ref (ad 0)), (1, .int (kk)), (2, .int (v)), (3, .int (f)), (4, .int (n))] []
  have hn := hO.n
  refine r_iload_n C 1 dX7_draw_0 rfl rfl ?_
  refine r_callSi C (rest := []) (c_X5_isSheet l g ad u kk) gX7_draw_X5_isSheet pk_X5_isSheet dX7_draw_1 rfl rfl rfl rfl ⟨(Nat.le_of_ble_eq_true rfl), (Nat.le_of_ble_eq_true rfl)⟩ rfl (Nat.le_of_ble_eq_true rfl) ⟨(Nat.le_of_ble_eq_true rfl), (Nat.le_of_ble_eq_true rfl)⟩ ?_
  rintro _ _ ⟨rfl, rfl⟩
  refine r_ifB_eq C dX7_draw_4 (tgt := 24) (by decide) (fun h4 => ?_) (fun h4 => ?_)
  · refine r_iconst C dX7_draw_24 (v := (-1)) (by decide) ?_
    exact E.2.1 rfl _ _ _ _ dX7_draw_25 ⟨_, rfl, ⟨S, ifp_f (fun q => by first | exact h4 q.1 | exact h11 q.2.1 | exact h21 q.2.2) _ _, hC, SmC.rf⟩⟩
  · obtain ⟨k0, hk, rfl⟩ := h4
    refine r_iload_n C 2 dX7_draw_7 rfl rfl ?_
    refine r_callSi C (rest := []) (c_X5_isLane l g ad u v) gX7_draw_X5_isLane pk_X5_isLane dX7_draw_8 rfl rfl rfl rfl ⟨(Nat.le_of_ble_eq_true rfl), (Nat.le_of_ble_eq_true rfl)⟩ rfl (Nat.le_of_ble_eq_true rfl) ⟨(Nat.le_of_ble_eq_true rfl), (Nat.le_of_ble_eq_true rfl)⟩ ?_
    rintro _ _ ⟨rfl, rfl⟩
    refine r_ifB_eq C dX7_draw_11 (tgt := 24) (by decide) (fun h11 => ?_) (fun h11 => ?_)
    · refine r_iconst C dX7_draw_24 (v := (-1)) (by decide) ?_
      exact E.2.1 rfl _ _ _ _ dX7_draw_25 ⟨_, rfl, ⟨S, ifp_f (fun q => by first | exact h4 q.1 | exact h11 q.2.1 | exact h21 q.2.2) _ _, hC, SmC.rf⟩⟩
    · obtain ⟨v0, hv, rfl⟩ := h11
      refine r_iload C 4 dX7_draw_14 rfl ?_
      refine r_iconst C dX7_draw_16 (v := nI 1) (by decide) ?_
      refine r_iconst C dX7_draw_17 (v := nI 4) (by decide) ?_
      refine r_callSi C (rest := []) (c_X7_within l g ad u n (nI 1) (nI 4)) gX7_draw_X7_within pk_X7_within dX7_draw_18 rfl rfl rfl rfl ⟨(Nat.le_of_ble_eq_true rfl), (Nat.le_of_ble_eq_true rfl)⟩ rfl (Nat.le_of_ble_eq_true rfl) ⟨(Nat.le_of_ble_eq_true rfl), (Nat.le_of_ble_eq_true rfl)⟩ ?_
      rintro _ _ ⟨rfl, rfl⟩
      refine r_setI (y := (bI (isAB 1 4 n))) (bI_iff (isAB_iff (by decide) (by omega))) ?_
      refine r_ifB_ne C dX7_draw_21 (tgt := 26) (by decide) (fun h21 => ?_) (fun h21 => ?_)
      · obtain ⟨n0, hn1, hn4, rfl⟩ := h21
        have h60 := (hO.s k0).2
        have hl3 := (hO.s k0).1
        refine r_aload_n C 0 dX7_draw_26 rfl rfl ?_
        refine r_get C (CN := RX7) (T := TX7) (N := 10) k_0 rfl hin_X7 (j := 2) (by decide) hk_26 rfl rfl dX7_draw_27 ?_
        refine r_iload_n C 1 dX7_draw_30 rfl rfl ?_
        refine r_callVi C (rest := []) (c_X5_isThere l g ad u S hC hO k0 (by omega)) gX7_draw_X5_isThere pk_X5_isThere k_7 dX7_draw_31 rfl rfl rfl rfl ⟨(Nat.le_of_ble_eq_true rfl), (Nat.le_of_ble_eq_true rfl)⟩ rfl rfl (Nat.le_of_ble_eq_true rfl) ⟨(Nat.le_of_ble_eq_true rfl), (Nat.le_of_ble_eq_true rfl)⟩ ?_
        rintro _ _ ⟨rfl, rfl⟩
        refine r_ifB_ne C dX7_draw_34 (tgt := 40) (by decide) (fun h34 => ?_) (fun h34 => ?_)
        · refine r_aload_n C 0 dX7_draw_40 rfl rfl ?_
          refine r_get C (CN := RX7) (T := TX7) (N := 10) k_0 rfl hin_X7 (j := 2) (by decide) hk_26 rfl rfl dX7_draw_41 ?_
          refine r_iload_n C 1 dX7_draw_44 rfl rfl ?_
          refine r_callVi C (rest := []) (c_X5_laneOf l g ad u S hC hO k0 (by omega)) gX7_draw_X5_laneOf pk_X5_laneOf k_7 dX7_draw_45 rfl rfl rfl rfl ⟨(Nat.le_of_ble_eq_true rfl), (Nat.le_of_ble_eq_true rfl)⟩ rfl rfl (Nat.le_of_ble_eq_true rfl) ⟨(Nat.le_of_ble_eq_true rfl), (Nat.le_of_ble_eq_true rfl)⟩ ?_
          rintro _ _ ⟨rfl, rfl⟩
          refine r_iload_n C 2 dX7_draw_48 rfl rfl ?_
          refine r_icmp_eq C dX7_draw_49 (tgt := 55) (by decide) (fun h49 => ?_) (fun h49 => ?_)
          · have hle : sl S k0 = v0 + 1 := by
              unfold lnC at h49; rw [if_neg h34] at h49
              have := (nI_eq (by omega) (by omega)).mp h49; omega
            by_cases hf : isR (sk S k0) f
            · obtain ⟨f0, hf0, rfl⟩ := hf
              have hcf : cfA S k0 n0 (nI f0) = cfF S k0 n0 f0 0 (4 * n0) := by unfold cfA; rw [ifp_t ⟨f0, hf0, rfl⟩, nI_clamp (show f0 < 2 ^ 31 by omega)]
              refine r_aload_n C 0 dX7_draw_55 rfl rfl ?_
              refine r_iload_n C 1 dX7_draw_56 rfl rfl ?_
              refine r_iload_n C 3 dX7_draw_57 rfl rfl ?_
              refine r_iload C 4 dX7_draw_58 rfl ?_
              refine r_callVi C (rest := []) (c_X7_cellFault l g ad u S hC hO k0 n0 f0 hk hn1 hn4 (by omega)) gX7_draw_X7_cellFault pk_X7_cellFault k_0 dX7_draw_60 rfl rfl rfl rfl ⟨(Nat.le_of_ble_eq_true rfl), (Nat.le_of_ble_eq_true rfl)⟩ rfl rfl (Nat.le_of_ble_eq_true rfl) ⟨(Nat.le_of_ble_eq_true rfl), (Nat.le_of_ble_eq_true rfl)⟩ ?_
              rintro _ _ ⟨rfl, rfl⟩
              refine r_istore C [(0, .ref (ad 0)), (1, .int (nI (k0))), (2, .int (nI (v0))), (3, .int (nI (f0))), (4, .int (nI (n0))), (5, .int (cfF S k0 n0 f0 0 (4 * n0)))] [1, 2, 3, 4, 5, 0] dX7_draw_63 (by decide) rfl ?_
              refine r_iload C 5 dX7_draw_65 rfl ?_
              refine r_if_eq C dX7_draw_67 (tgt := 73) (by decide) (fun h67 => ?_) (fun h67 => ?_)
              · have hall : ∀ j, j < 4 * n0 → f0 + j < sk S k0 ∧ isR (mst n0 j) (sc S k0 (f0 + j)) := fun j hj => cfF_ok (4 * n0) 0 (by omega) h67 j (by omega) (by omega)
                refine r_aload_n C 0 dX7_draw_73 rfl rfl ?_
                refine r_get C (CN := RX7) (T := TX7) (N := 10) k_0 rfl hin_X7 (j := 1) (by decide) hk_19 rfl rfl dX7_draw_74 ?_
                refine r_callVi C (rest := []) (c_X2_isFull l g ad u S hC hO) gX7_draw_X2_isFull pk_X2_isFull k_3 dX7_draw_77 rfl rfl rfl rfl ⟨(Nat.le_of_ble_eq_true rfl), (Nat.le_of_ble_eq_true rfl)⟩ rfl rfl (Nat.le_of_ble_eq_true rfl) ⟨(Nat.le_of_ble_eq_true rfl), (Nat.le_of_ble_eq_true rfl)⟩ ?_
                rintro _ _ ⟨rfl, rfl⟩
                refine r_ifB_eq C dX7_draw_80 (tgt := 88) (by decide) (fun h80 => ?_) (fun h80 => ?_)
                · have h12 : sN S < 12 := by omega
                  refine r_aload_n C 0 dX7_draw_88 rfl rfl ?_
                  refine r_iload_n C 1 dX7_draw_89 rfl rfl ?_
                  refine r_iload_n C 3 dX7_draw_90 rfl rfl ?_
                  refine r_iload C 4 dX7_draw_91 rfl ?_
                  refine r_callVi C (rest := []) (c_X7_readMachine l g ad u S hC hO k0 f0 n0 hk h12 hn1 hn4 hall) gX7_draw_X7_readMachine pk_X7_readMachine k_0 dX7_draw_93 rfl rfl rfl rfl ⟨(Nat.le_of_ble_eq_true rfl), (Nat.le_of_ble_eq_true rfl)⟩ rfl rfl (Nat.le_of_ble_eq_true rfl) ⟨(Nat.le_of_ble_eq_true rfl), (Nat.le_of_ble_eq_true rfl)⟩ ?_
                  rintro _ u1 ⟨rfl, hC1, hs1⟩
                  exact E.2.1 rfl _ _ _ _ dX7_draw_96 ⟨_, rfl, ⟨PD S k0 f0 n0 (4 * n0), by unfold drawA; rw [ifp_t ⟨⟨k0, hk, rfl⟩, ⟨v0, hv, rfl⟩, ⟨n0, hn1, hn4, rfl⟩⟩, cl_nI (show k0 < 2 ^ 31 by omega), ifp_f h34, cl_nI (show v0 < 2 ^ 31 by omega), ifp_t hle, cl_nI (show n0 < 2 ^ 31 by omega), hcf, ifp_t h67, ifp_f (show ¬ sN S = 12 by omega), cl_nI (show f0 < 2 ^ 31 by omega)], hC1, SmC.of hs1 (by decide) (by decide) (by decide) (by decide)⟩⟩
                · have h12e : sN S = 12 := by omega
                  refine r_bipush C dX7_draw_83 (v := (-3)) (by decide) ?_
                  refine r_goto C dX7_draw_85 (tgt := 96) (by decide) ?_
                  exact E.2.1 rfl _ _ _ _ dX7_draw_96 ⟨_, rfl, ⟨S, (by unfold drawA; rw [ifp_t ⟨⟨k0, hk, rfl⟩, ⟨v0, hv, rfl⟩, ⟨n0, hn1, hn4, rfl⟩⟩, cl_nI (show k0 < 2 ^ 31 by omega), ifp_f h34, cl_nI (show v0 < 2 ^ 31 by omega), ifp_t hle, cl_nI (show n0 < 2 ^ 31 by omega), hcf, ifp_t h67, ifp_t h12e]), hC, SmC.rf⟩⟩
              · refine r_iload C 5 dX7_draw_70 rfl ?_
                exact E.2.1 rfl _ _ _ _ dX7_draw_72 ⟨_, rfl, ⟨S, (by unfold drawA; rw [ifp_t ⟨⟨k0, hk, rfl⟩, ⟨v0, hv, rfl⟩, ⟨n0, hn1, hn4, rfl⟩⟩, cl_nI (show k0 < 2 ^ 31 by omega), ifp_f h34, cl_nI (show v0 < 2 ^ 31 by omega), ifp_t hle, cl_nI (show n0 < 2 ^ 31 by omega), hcf, ifp_f h67]), hC, SmC.rf⟩⟩
            · refine r_aload_n C 0 dX7_draw_55 rfl rfl ?_
              refine r_iload_n C 1 dX7_draw_56 rfl rfl ?_
              refine r_iload_n C 3 dX7_draw_57 rfl rfl ?_
              refine r_iload C 4 dX7_draw_58 rfl ?_
              refine r_callVi C (rest := []) (c_X7_cellFault0 l g ad u S hC hO k0 n0 f hk hn1 hn4 hf) gX7_draw_X7_cellFault pk_X7_cellFault k_0 dX7_draw_60 rfl rfl rfl rfl ⟨(Nat.le_of_ble_eq_true rfl), (Nat.le_of_ble_eq_true rfl)⟩ rfl rfl (Nat.le_of_ble_eq_true rfl) ⟨(Nat.le_of_ble_eq_true rfl), (Nat.le_of_ble_eq_true rfl)⟩ ?_
              rintro _ _ ⟨rfl, rfl⟩
              refine r_istore C [(0, .ref (ad 0)), (1, .int (nI (k0))), (2, .int (nI (v0))), (3, .int (f)), (4, .int (nI (n0))), (5, .int ((-12)))] [1, 2, 3, 4, 5, 0] dX7_draw_63 (by decide) rfl ?_
              refine r_iload C 5 dX7_draw_65 rfl ?_
              refine r_if_eq C dX7_draw_67 (tgt := 73) (by decide) (fun h67 => ?_) (fun h67 => ?_)
              · exact absurd h67 (by decide)
              · refine r_iload C 5 dX7_draw_70 rfl ?_
                exact E.2.1 rfl _ _ _ _ dX7_draw_72 ⟨_, rfl, ⟨S, (by unfold drawA; rw [ifp_t ⟨⟨k0, hk, rfl⟩, ⟨v0, hv, rfl⟩, ⟨n0, hn1, hn4, rfl⟩⟩, cl_nI (show k0 < 2 ^ 31 by omega), ifp_f h34, cl_nI (show v0 < 2 ^ 31 by omega), ifp_t hle, cl_nI (show n0 < 2 ^ 31 by omega), show cfA S k0 n0 f = -12 from ifp_f hf _ _, ifp_f (show ¬ ((-12 : Int32) = 0) by decide)]), hC, SmC.rf⟩⟩
          · have hln : ¬ sl S k0 = v0 + 1 := fun z => h49 (by unfold lnC; rw [if_neg h34, z, show v0 + 1 - 1 = v0 by omega])
            refine r_bipush C dX7_draw_52 (v := (-13)) (by decide) ?_
            exact E.2.1 rfl _ _ _ _ dX7_draw_54 ⟨_, rfl, ⟨S, (by unfold drawA; rw [ifp_t ⟨⟨k0, hk, rfl⟩, ⟨v0, hv, rfl⟩, ⟨n0, hn1, hn4, rfl⟩⟩, cl_nI (show k0 < 2 ^ 31 by omega), ifp_f h34, cl_nI (show v0 < 2 ^ 31 by omega), ifp_f hln]), hC, SmC.rf⟩⟩
        · refine r_bipush C dX7_draw_37 (v := (-11)) (by decide) ?_
          exact E.2.1 rfl _ _ _ _ dX7_draw_39 ⟨_, rfl, ⟨S, (by unfold drawA; rw [ifp_t ⟨⟨k0, hk, rfl⟩, ⟨v0, hv, rfl⟩, ⟨n0, hn1, hn4, rfl⟩⟩, cl_nI (show k0 < 2 ^ 31 by omega), ifp_t (Classical.not_not.mp h34)]), hC, SmC.rf⟩⟩
      · refine r_iconst C dX7_draw_24 (v := (-1)) (by decide) ?_
        exact E.2.1 rfl _ _ _ _ dX7_draw_25 ⟨_, rfl, ⟨S, ifp_f (fun q => by first | exact h4 q.1 | exact h11 q.2.1 | exact h21 q.2.2) _ _, hC, SmC.rf⟩⟩
def rmX7_action : Room := { frames := 3, cells := 0, slots := 0, locals := 73 }
theorem pk_X7_action : Pk yX7_action RX7 3 := by decide +kernel
set_option maxHeartbeats 4000000 in
set_option maxRecDepth 100000 in
theorem c_X7_action (l : Launch) (g : gE) (ad : Nat → Nat) (u : Me) (S : Sg) (hC : RepC S u) (hO : Ok S) (i j n : Int32) : Cti l yX7_action wsX7_action rmX7_action g ad [.ref (ad 0), .int (i), .int (j), .int (n)] u (fun r u' => actA S i j n = r ∧ RepC S u' ∧ SmC u u') := by
  refine Ct.of (cc := cX7_action) (nL := 4) (ret := (some .int)) RX7 (by decide) rfl rfl (Nat.le_of_ble_eq_true rfl) (fun kx C E => ?_)
  have hin_X7 : ∀ w ∈ u_ws RX7 TX7 10, w ∈ wsX7_action := by decide +kernel
  have hk_19 : Cond.fieldLink RX7 19 "AgainAgain" "machines" "LAgainAgain$Machines;" ∈ wsX7_action := by decide +kernel
  have hk_47 : Cond.fieldLink RX7 47 "AgainAgain" "walk" "LAgainAgain$Walk;" ∈ wsX7_action := by decide +kernel
  show G kx 0 0 (WW g ad u) 0 [(0, .ref (ad 0)), (1, .int (i)), (2, .int (j)), (3, .int (n))] []
  have hn := hO.n
  refine r_aload_n C 0 dX7_action_0 rfl rfl ?_
  refine r_iload_n C 1 dX7_action_1 rfl rfl ?_
  refine r_iload_n C 2 dX7_action_2 rfl rfl ?_
  refine r_callVi C (rest := []) (c_X7_areMachines l g ad u S hC hO i j) gX7_action_X7_areMachines pk_X7_areMachines k_0 dX7_action_3 rfl rfl rfl rfl ⟨(Nat.le_of_ble_eq_true rfl), (Nat.le_of_ble_eq_true rfl)⟩ rfl rfl (Nat.le_of_ble_eq_true rfl) ⟨(Nat.le_of_ble_eq_true rfl), (Nat.le_of_ble_eq_true rfl)⟩ ?_
  rintro _ _ ⟨rfl, rfl⟩
  refine r_ifB_eq C dX7_action_6 (tgt := 20) (by decide) (fun h6 => ?_) (fun h6 => ?_)
  · refine r_iconst C dX7_action_20 (v := (-1)) (by decide) ?_
    exact E.2.1 rfl _ _ _ _ dX7_action_21 ⟨_, rfl, ⟨ifp_f (fun q => by first | exact h6 ⟨q.1, q.2.1⟩ | exact h17 q.2.2) _ _, hC, SmC.rf⟩⟩
  · obtain ⟨⟨i0, hi, rfl⟩, ⟨j0, hj, rfl⟩⟩ := h6
    refine r_iload_n C 3 dX7_action_9 rfl rfl ?_
    refine r_iconst C dX7_action_10 (v := nI 0) (by decide) ?_
    refine r_sipush C dX7_action_11 (v := nI 1000) (by decide) ?_
    refine r_callSi C (rest := []) (c_X7_within l g ad u n (nI 0) (nI 1000)) gX7_action_X7_within pk_X7_within dX7_action_14 rfl rfl rfl rfl ⟨(Nat.le_of_ble_eq_true rfl), (Nat.le_of_ble_eq_true rfl)⟩ rfl (Nat.le_of_ble_eq_true rfl) ⟨(Nat.le_of_ble_eq_true rfl), (Nat.le_of_ble_eq_true rfl)⟩ ?_
    rintro _ _ ⟨rfl, rfl⟩
    refine r_setI (y := (bI (isR 1001 n))) (bI_iff (isR_iff (n := 1000) (by decide))) ?_
    refine r_ifB_ne C dX7_action_17 (tgt := 22) (by decide) (fun h17 => ?_) (fun h17 => ?_)
    · obtain ⟨n0, hn0, rfl⟩ := h17
      refine r_aload_n C 0 dX7_action_22 rfl rfl ?_
      refine r_iload_n C 1 dX7_action_23 rfl rfl ?_
      refine r_iload_n C 2 dX7_action_24 rfl rfl ?_
      refine r_callVv C (rest := []) (c_X7_playOut l g ad u S hC hO i0 j0 (by assumption) (by assumption)) gX7_action_X7_playOut pk_X7_playOut k_0 dX7_action_25 rfl rfl rfl rfl ⟨(Nat.le_of_ble_eq_true rfl), (Nat.le_of_ble_eq_true rfl)⟩ rfl rfl (Nat.le_of_ble_eq_true rfl) ⟨(Nat.le_of_ble_eq_true rfl), (Nat.le_of_ble_eq_true rfl)⟩ ?_
      rintro mp ⟨⟨hp, hsp⟩, hC⟩
      refine r_aload_n C 0 dX7_action_28 rfl rfl ?_
      refine r_get C (CN := RX7) (T := TX7) (N := 10) k_0 rfl hin_X7 (j := 1) (by decide) hk_19 rfl rfl dX7_action_29 ?_
      refine r_iload_n C 1 dX7_action_32 rfl rfl ?_
      refine r_aload_n C 0 dX7_action_33 rfl rfl ?_
      refine r_get C (CN := RX7) (T := TX7) (N := 10) k_0 rfl hin_X7 (j := 5) (by decide) hk_47 rfl rfl dX7_action_34 ?_
      refine r_iload_n C 3 dX7_action_37 rfl rfl ?_
      refine r_callVi C (rest := [.int (nI (i0)), .ref (ad 3)]) (c_X6_placeIn l g ad mp 1 (by decide) _ _ _ 0 hp n0 (by omega)) gX7_action_X6_placeIn pk_X6_placeIn k_22 dX7_action_38 rfl rfl rfl rfl ⟨(Nat.le_of_ble_eq_true rfl), (Nat.le_of_ble_eq_true rfl)⟩ rfl rfl (Nat.le_of_ble_eq_true rfl) ⟨(Nat.le_of_ble_eq_true rfl), (Nat.le_of_ble_eq_true rfl)⟩ ?_
      rintro _ _ ⟨rfl, rfl⟩
      have hV1 : VP S i0 j0 (it (fP S i0 j0) 0 n0) := hp.1.V hp.2.1 _
      have hVa := hV1.1
      have hVb := hV1.2
      have hV16 := VP_16 hO hV1
      refine r_callSi C (rest := [.int (nI (i0)), .ref (ad 3)]) (c_X6_mine l g ad mp (it (fP S i0 j0) 0 n0) (by omega)) gX7_action_X6_mine pk_X6_mine dX7_action_41 rfl rfl rfl rfl ⟨(Nat.le_of_ble_eq_true rfl), (Nat.le_of_ble_eq_true rfl)⟩ rfl (Nat.le_of_ble_eq_true rfl) ⟨(Nat.le_of_ble_eq_true rfl), (Nat.le_of_ble_eq_true rfl)⟩ ?_
      rintro _ _ ⟨rfl, rfl⟩
      refine r_callVi C (rest := []) (c_X2_actionOf l g ad mp S hC hO i0 (by assumption) ((it (fP S i0 j0) 0 n0) / 4) (by first | assumption | omega)) gX7_action_X2_actionOf pk_X2_actionOf k_3 dX7_action_44 rfl rfl rfl rfl ⟨(Nat.le_of_ble_eq_true rfl), (Nat.le_of_ble_eq_true rfl)⟩ rfl rfl (Nat.le_of_ble_eq_true rfl) ⟨(Nat.le_of_ble_eq_true rfl), (Nat.le_of_ble_eq_true rfl)⟩ ?_
      rintro _ _ ⟨rfl, rfl⟩
      exact E.2.1 rfl _ _ _ _ dX7_action_47 ⟨_, rfl, ⟨by unfold actA; rw [ifp_t ⟨⟨i0, hi, rfl⟩, ⟨j0, hj, rfl⟩, ⟨n0, hn0, rfl⟩⟩, cl_nI (show i0 < 2 ^ 31 by omega), cl_nI (show j0 < 2 ^ 31 by omega), cl_nI (show n0 < 2 ^ 31 by omega)], hC, (SmC.of hsp (by decide) (by decide) (by decide) (by decide))⟩⟩
    · refine r_iconst C dX7_action_20 (v := (-1)) (by decide) ?_
      exact E.2.1 rfl _ _ _ _ dX7_action_21 ⟨_, rfl, ⟨ifp_f (fun q => by first | exact h6 ⟨q.1, q.2.1⟩ | exact h17 q.2.2) _ _, hC, SmC.rf⟩⟩
def rmX7_match : Room := { frames := 3, cells := 0, slots := 0, locals := 73 }
theorem pk_X7_match : Pk yX7_match RX7 3 := by decide +kernel
set_option maxHeartbeats 4000000 in
set_option maxRecDepth 100000 in
theorem c_X7_match (l : Launch) (g : gE) (ad : Nat → Nat) (u : Me) (S : Sg) (hC : RepC S u) (hO : Ok S) (i j w : Int32) : Cti l yX7_match wsX7_match rmX7_match g ad [.ref (ad 0), .int (i), .int (j), .int (w)] u (fun r u' => matA S i j w = r ∧ RepC S u' ∧ SmC u u') := by
  refine Ct.of (cc := cX7_match) (nL := 4) (ret := (some .int)) RX7 (by decide) rfl rfl (Nat.le_of_ble_eq_true rfl) (fun kx C E => ?_)
  have hin_X7 : ∀ w ∈ u_ws RX7 TX7 10, w ∈ wsX7_match := by decide +kernel
  have hk_47 : Cond.fieldLink RX7 47 "AgainAgain" "walk" "LAgainAgain$Walk;" ∈ wsX7_match := by decide +kernel
  have hk_157 : Cond.constant RX7 157 (-1000000) ∈ wsX7_match := by decide +kernel
  show G kx 0 0 (WW g ad u) 0 [(0, .ref (ad 0)), (1, .int (i)), (2, .int (j)), (3, .int (w))] []
  have hn := hO.n
  refine r_aload_n C 0 dX7_match_0 rfl rfl ?_
  refine r_iload_n C 1 dX7_match_1 rfl rfl ?_
  refine r_iload_n C 2 dX7_match_2 rfl rfl ?_
  refine r_callVi C (rest := []) (c_X7_areMachines l g ad u S hC hO i j) gX7_match_X7_areMachines pk_X7_areMachines k_0 dX7_match_3 rfl rfl rfl rfl ⟨(Nat.le_of_ble_eq_true rfl), (Nat.le_of_ble_eq_true rfl)⟩ rfl rfl (Nat.le_of_ble_eq_true rfl) ⟨(Nat.le_of_ble_eq_true rfl), (Nat.le_of_ble_eq_true rfl)⟩ ?_
  rintro _ _ ⟨rfl, rfl⟩
  refine r_ifB_eq C dX7_match_6 (tgt := 18) (by decide) (fun h6 => ?_) (fun h6 => ?_)
  · refine r_ldc C (v := (-1000000)) hk_157 dX7_match_18 ?_
    exact E.2.1 rfl _ _ _ _ dX7_match_20 ⟨_, rfl, ⟨ifp_f (fun q => by first | exact h6 ⟨q.1, q.2.1⟩ | exact h15 q.2.2) _ _, hC, SmC.rf⟩⟩
  · obtain ⟨⟨i0, hi, rfl⟩, ⟨j0, hj, rfl⟩⟩ := h6
    refine r_iload_n C 3 dX7_match_9 rfl rfl ?_
    refine r_iconst C dX7_match_10 (v := nI 0) (by decide) ?_
    refine r_iconst C dX7_match_11 (v := nI 3) (by decide) ?_
    refine r_callSi C (rest := []) (c_X7_within l g ad u w (nI 0) (nI 3)) gX7_match_X7_within pk_X7_within dX7_match_12 rfl rfl rfl rfl ⟨(Nat.le_of_ble_eq_true rfl), (Nat.le_of_ble_eq_true rfl)⟩ rfl (Nat.le_of_ble_eq_true rfl) ⟨(Nat.le_of_ble_eq_true rfl), (Nat.le_of_ble_eq_true rfl)⟩ ?_
    rintro _ _ ⟨rfl, rfl⟩
    refine r_setI (y := (bI (isR 4 w))) (bI_iff (isR_iff (n := 3) (by decide))) ?_
    refine r_ifB_ne C dX7_match_15 (tgt := 21) (by decide) (fun h15 => ?_) (fun h15 => ?_)
    · obtain ⟨w0, hw0, rfl⟩ := h15
      refine r_aload_n C 0 dX7_match_21 rfl rfl ?_
      refine r_iload_n C 1 dX7_match_22 rfl rfl ?_
      refine r_iload_n C 2 dX7_match_23 rfl rfl ?_
      refine r_callVv C (rest := []) (c_X7_playOut l g ad u S hC hO i0 j0 (by assumption) (by assumption)) gX7_match_X7_playOut pk_X7_playOut k_0 dX7_match_24 rfl rfl rfl rfl ⟨(Nat.le_of_ble_eq_true rfl), (Nat.le_of_ble_eq_true rfl)⟩ rfl rfl (Nat.le_of_ble_eq_true rfl) ⟨(Nat.le_of_ble_eq_true rfl), (Nat.le_of_ble_eq_true rfl)⟩ ?_
      rintro mp ⟨⟨hp, hsp⟩, hC⟩
      refine r_iload_n C 3 dX7_match_27 rfl rfl ?_
      rcases (show w0 = 0 ∨ w0 = 1 ∨ w0 = 2 ∨ w0 = 3 by omega) with hw | hw | hw | hw
      · refine r_tableIn C dX7_match_28 (off := 28) (tgt := 56) (by rw [nI_toInt (by omega)]; omega) (by rw [nI_toInt (by omega)]; omega) (by rw [nI_toInt (by omega), hw]; rfl) (by decide) ?_
        refine r_aload_n C 0 dX7_match_56 rfl rfl ?_
        refine r_get C (CN := RX7) (T := TX7) (N := 10) k_0 rfl hin_X7 (j := 5) (by decide) hk_47 rfl rfl dX7_match_57 ?_
        refine r_callVi C (rest := []) (c_X6_tail l g ad mp 1 (by decide) _ _ _ 0 hp) gX7_match_X6_tail pk_X6_tail k_22 dX7_match_60 rfl rfl rfl rfl ⟨(Nat.le_of_ble_eq_true rfl), (Nat.le_of_ble_eq_true rfl)⟩ rfl rfl (Nat.le_of_ble_eq_true rfl) ⟨(Nat.le_of_ble_eq_true rfl), (Nat.le_of_ble_eq_true rfl)⟩ ?_
        rintro _ _ ⟨rfl, rfl⟩
        exact E.2.1 rfl _ _ _ _ dX7_match_63 ⟨_, rfl, ⟨by unfold matA; rw [ifp_t ⟨⟨i0, hi, rfl⟩, ⟨j0, hj, rfl⟩, ⟨w0, hw0, rfl⟩⟩, cl_nI (show i0 < 2 ^ 31 by omega), cl_nI (show j0 < 2 ^ 31 by omega), cl_nI (show w0 < 2 ^ 31 by omega), hw]; rfl, hC, (SmC.of hsp (by decide) (by decide) (by decide) (by decide))⟩⟩
      · refine r_tableIn C dX7_match_28 (off := 36) (tgt := 64) (by rw [nI_toInt (by omega)]; omega) (by rw [nI_toInt (by omega)]; omega) (by rw [nI_toInt (by omega), hw]; rfl) (by decide) ?_
        refine r_aload_n C 0 dX7_match_64 rfl rfl ?_
        refine r_get C (CN := RX7) (T := TX7) (N := 10) k_0 rfl hin_X7 (j := 5) (by decide) hk_47 rfl rfl dX7_match_65 ?_
        refine r_callVi C (rest := []) (c_X6_ring l g ad mp 1 (by decide) _ _ _ 0 hp) gX7_match_X6_ring pk_X6_ring k_22 dX7_match_68 rfl rfl rfl rfl ⟨(Nat.le_of_ble_eq_true rfl), (Nat.le_of_ble_eq_true rfl)⟩ rfl rfl (Nat.le_of_ble_eq_true rfl) ⟨(Nat.le_of_ble_eq_true rfl), (Nat.le_of_ble_eq_true rfl)⟩ ?_
        rintro _ _ ⟨rfl, rfl⟩
        exact E.2.1 rfl _ _ _ _ dX7_match_71 ⟨_, rfl, ⟨by unfold matA; rw [ifp_t ⟨⟨i0, hi, rfl⟩, ⟨j0, hj, rfl⟩, ⟨w0, hw0, rfl⟩⟩, cl_nI (show i0 < 2 ^ 31 by omega), cl_nI (show j0 < 2 ^ 31 by omega), cl_nI (show w0 < 2 ^ 31 by omega), hw]; rfl, hC, (SmC.of hsp (by decide) (by decide) (by decide) (by decide))⟩⟩
      · refine r_tableIn C dX7_match_28 (off := 44) (tgt := 72) (by rw [nI_toInt (by omega)]; omega) (by rw [nI_toInt (by omega)]; omega) (by rw [nI_toInt (by omega), hw]; rfl) (by decide) ?_
        refine r_aload_n C 0 dX7_match_72 rfl rfl ?_
        refine r_get C (CN := RX7) (T := TX7) (N := 10) k_0 rfl hin_X7 (j := 5) (by decide) hk_47 rfl rfl dX7_match_73 ?_
        refine r_callVi C (rest := []) (c_X6_tailGains l g ad mp 1 (by decide) _ _ _ 0 hp) gX7_match_X6_tailGains pk_X6_tailGains k_22 dX7_match_76 rfl rfl rfl rfl ⟨(Nat.le_of_ble_eq_true rfl), (Nat.le_of_ble_eq_true rfl)⟩ rfl rfl (Nat.le_of_ble_eq_true rfl) ⟨(Nat.le_of_ble_eq_true rfl), (Nat.le_of_ble_eq_true rfl)⟩ ?_
        rintro _ _ ⟨rfl, rfl⟩
        exact E.2.1 rfl _ _ _ _ dX7_match_79 ⟨_, rfl, ⟨by unfold matA; rw [ifp_t ⟨⟨i0, hi, rfl⟩, ⟨j0, hj, rfl⟩, ⟨w0, hw0, rfl⟩⟩, cl_nI (show i0 < 2 ^ 31 by omega), cl_nI (show j0 < 2 ^ 31 by omega), cl_nI (show w0 < 2 ^ 31 by omega), hw]; rfl, hC, (SmC.of hsp (by decide) (by decide) (by decide) (by decide))⟩⟩
      · refine r_tableOut C dX7_match_28 (tgt := 80) (by rw [nI_toInt (by omega)]; omega) (by decide) ?_
        refine r_aload_n C 0 dX7_match_80 rfl rfl ?_
        refine r_get C (CN := RX7) (T := TX7) (N := 10) k_0 rfl hin_X7 (j := 5) (by decide) hk_47 rfl rfl dX7_match_81 ?_
        refine r_callVi C (rest := []) (c_X6_ringGains l g ad mp 1 (by decide) _ _ _ 0 hp) gX7_match_X6_ringGains pk_X6_ringGains k_22 dX7_match_84 rfl rfl rfl rfl ⟨(Nat.le_of_ble_eq_true rfl), (Nat.le_of_ble_eq_true rfl)⟩ rfl rfl (Nat.le_of_ble_eq_true rfl) ⟨(Nat.le_of_ble_eq_true rfl), (Nat.le_of_ble_eq_true rfl)⟩ ?_
        rintro _ _ ⟨rfl, rfl⟩
        refine r_setI (y := (iI (meN S i0 j0))) (rfl) ?_
        exact E.2.1 rfl _ _ _ _ dX7_match_87 ⟨_, rfl, ⟨by unfold matA; rw [ifp_t ⟨⟨i0, hi, rfl⟩, ⟨j0, hj, rfl⟩, ⟨w0, hw0, rfl⟩⟩, cl_nI (show i0 < 2 ^ 31 by omega), cl_nI (show j0 < 2 ^ 31 by omega), cl_nI (show w0 < 2 ^ 31 by omega), hw]; rfl, hC, (SmC.of hsp (by decide) (by decide) (by decide) (by decide))⟩⟩
    · refine r_ldc C (v := (-1000000)) hk_157 dX7_match_18 ?_
      exact E.2.1 rfl _ _ _ _ dX7_match_20 ⟨_, rfl, ⟨ifp_f (fun q => by first | exact h6 ⟨q.1, q.2.1⟩ | exact h15 q.2.2) _ _, hC, SmC.rf⟩⟩
def rmX7_sum : Room := { frames := 4, cells := 0, slots := 0, locals := 96 }
theorem pk_X7_sum : Pk yX7_sum RX7 3 := by decide +kernel
set_option maxHeartbeats 4000000 in
set_option maxRecDepth 100000 in
theorem c_X7_sum (l : Launch) (g : gE) (ad : Nat → Nat) (u : Me) (S : Sg) (hC : RepC S u) (hO : Ok S) (i j n : Int32) : Cti l yX7_sum wsX7_sum rmX7_sum g ad [.ref (ad 0), .int (i), .int (j), .int (n)] u (fun r u' => sumA S i j n = r ∧ RepC S u' ∧ SmC u u') := by
  refine Ct.of (cc := cX7_sum) (nL := 4) (ret := (some .int)) RX7 (by decide) rfl rfl (Nat.le_of_ble_eq_true rfl) (fun kx C E => ?_)
  have hk_157 : Cond.constant RX7 157 (-1000000) ∈ wsX7_sum := by decide +kernel
  show G kx 0 0 (WW g ad u) 0 [(0, .ref (ad 0)), (1, .int (i)), (2, .int (j)), (3, .int (n))] []
  have hn := hO.n
  refine r_aload_n C 0 dX7_sum_0 rfl rfl ?_
  refine r_iload_n C 1 dX7_sum_1 rfl rfl ?_
  refine r_iload_n C 2 dX7_sum_2 rfl rfl ?_
  refine r_callVi C (rest := []) (c_X7_areMachines l g ad u S hC hO i j) gX7_sum_X7_areMachines pk_X7_areMachines k_0 dX7_sum_3 rfl rfl rfl rfl ⟨(Nat.le_of_ble_eq_true rfl), (Nat.le_of_ble_eq_true rfl)⟩ rfl rfl (Nat.le_of_ble_eq_true rfl) ⟨(Nat.le_of_ble_eq_true rfl), (Nat.le_of_ble_eq_true rfl)⟩ ?_
  rintro _ _ ⟨rfl, rfl⟩
  refine r_ifB_eq C dX7_sum_6 (tgt := 20) (by decide) (fun h6 => ?_) (fun h6 => ?_)
  · refine r_ldc C (v := (-1000000)) hk_157 dX7_sum_20 ?_
    exact E.2.1 rfl _ _ _ _ dX7_sum_22 ⟨_, rfl, ⟨ifp_f (fun q => by first | exact h6 ⟨q.1, q.2.1⟩ | exact h17 q.2.2) _ _, hC, SmC.rf⟩⟩
  · obtain ⟨⟨i0, hi, rfl⟩, ⟨j0, hj, rfl⟩⟩ := h6
    refine r_iload_n C 3 dX7_sum_9 rfl rfl ?_
    refine r_iconst C dX7_sum_10 (v := nI 0) (by decide) ?_
    refine r_sipush C dX7_sum_11 (v := nI 1000) (by decide) ?_
    refine r_callSi C (rest := []) (c_X7_within l g ad u n (nI 0) (nI 1000)) gX7_sum_X7_within pk_X7_within dX7_sum_14 rfl rfl rfl rfl ⟨(Nat.le_of_ble_eq_true rfl), (Nat.le_of_ble_eq_true rfl)⟩ rfl (Nat.le_of_ble_eq_true rfl) ⟨(Nat.le_of_ble_eq_true rfl), (Nat.le_of_ble_eq_true rfl)⟩ ?_
    rintro _ _ ⟨rfl, rfl⟩
    refine r_setI (y := (bI (isR 1001 n))) (bI_iff (isR_iff (n := 1000) (by decide))) ?_
    refine r_ifB_ne C dX7_sum_17 (tgt := 23) (by decide) (fun h17 => ?_) (fun h17 => ?_)
    · obtain ⟨n0, hn0, rfl⟩ := h17
      refine r_aload_n C 0 dX7_sum_23 rfl rfl ?_
      refine r_iload_n C 1 dX7_sum_24 rfl rfl ?_
      refine r_iload_n C 2 dX7_sum_25 rfl rfl ?_
      refine r_iload_n C 3 dX7_sum_26 rfl rfl ?_
      refine r_callVi C (rest := []) (c_X7_gainsOf l g ad u S hC hO i0 j0 hi hj n0 (by omega)) gX7_sum_X7_gainsOf pk_X7_gainsOf k_0 dX7_sum_27 rfl rfl rfl rfl ⟨(Nat.le_of_ble_eq_true rfl), (Nat.le_of_ble_eq_true rfl)⟩ rfl rfl (Nat.le_of_ble_eq_true rfl) ⟨(Nat.le_of_ble_eq_true rfl), (Nat.le_of_ble_eq_true rfl)⟩ ?_
      rintro _ g1 ⟨rfl, hg1, hC⟩
      exact E.2.1 rfl _ _ _ _ dX7_sum_30 ⟨_, rfl, ⟨by unfold sumA; rw [ifp_t ⟨⟨i0, hi, rfl⟩, ⟨j0, hj, rfl⟩, ⟨n0, hn0, rfl⟩⟩, cl_nI (show i0 < 2 ^ 31 by omega), cl_nI (show j0 < 2 ^ 31 by omega), cl_nI (show n0 < 2 ^ 31 by omega)], hC, (SmC.of hg1 (by decide) (by decide) (by decide) (by decide))⟩⟩
    · refine r_ldc C (v := (-1000000)) hk_157 dX7_sum_20 ?_
      exact E.2.1 rfl _ _ _ _ dX7_sum_22 ⟨_, rfl, ⟨ifp_f (fun q => by first | exact h6 ⟨q.1, q.2.1⟩ | exact h17 q.2.2) _ _, hC, SmC.rf⟩⟩
def rmX7_mean : Room := { frames := 3, cells := 0, slots := 0, locals := 73 }
theorem pk_X7_mean : Pk yX7_mean RX7 3 := by decide +kernel
set_option maxHeartbeats 4000000 in
set_option maxRecDepth 100000 in
theorem c_X7_mean (l : Launch) (g : gE) (ad : Nat → Nat) (u : Me) (S : Sg) (hC : RepC S u) (hO : Ok S) (i j w : Int32) : Ctl l yX7_mean wsX7_mean rmX7_mean g ad [.ref (ad 0), .int (i), .int (j), .int (w)] u (fun r u' => meaA S i j w = r ∧ RepC S u' ∧ SmC u u') := by
  refine Ct.of (cc := cX7_mean) (nL := 4) (ret := (some .long)) RX7 (by decide) rfl rfl (Nat.le_of_ble_eq_true rfl) (fun kx C E => ?_)
  have hin_X7 : ∀ w ∈ u_ws RX7 TX7 10, w ∈ wsX7_mean := by decide +kernel
  have hk_47 : Cond.fieldLink RX7 47 "AgainAgain" "walk" "LAgainAgain$Walk;" ∈ wsX7_mean := by decide +kernel
  have hk_57 : Cond.fieldLink RX7 57 "AgainAgain" "ratio" "LAgainAgain$Ratio;" ∈ wsX7_mean := by decide +kernel
  have hk_173 : Cond.constantLong RX7 173 (-1000000000000000) ∈ wsX7_mean := by decide +kernel
  show G kx 0 0 (WW g ad u) 0 [(0, .ref (ad 0)), (1, .int (i)), (2, .int (j)), (3, .int (w))] []
  have hn := hO.n
  refine r_aload_n C 0 dX7_mean_0 rfl rfl ?_
  refine r_iload_n C 1 dX7_mean_1 rfl rfl ?_
  refine r_iload_n C 2 dX7_mean_2 rfl rfl ?_
  refine r_callVi C (rest := []) (c_X7_areMachines l g ad u S hC hO i j) gX7_mean_X7_areMachines pk_X7_areMachines k_0 dX7_mean_3 rfl rfl rfl rfl ⟨(Nat.le_of_ble_eq_true rfl), (Nat.le_of_ble_eq_true rfl)⟩ rfl rfl (Nat.le_of_ble_eq_true rfl) ⟨(Nat.le_of_ble_eq_true rfl), (Nat.le_of_ble_eq_true rfl)⟩ ?_
  rintro _ _ ⟨rfl, rfl⟩
  refine r_ifB_eq C dX7_mean_6 (tgt := 18) (by decide) (fun h6 => ?_) (fun h6 => ?_)
  · refine r_ldc2 C (v := (-1000000000000000)) hk_173 dX7_mean_18 ?_
    refine r_setL (y := lI (-1000000000000000)) (by decide) ?_
    exact E.2.2.2 rfl _ _ _ _ dX7_mean_21 ⟨_, rfl, ⟨ifp_f (fun q => by first | exact h6 ⟨q.1, q.2.1⟩ | exact h15 q.2.2) _ _, hC, SmC.rf⟩⟩
  · obtain ⟨⟨i0, hi, rfl⟩, ⟨j0, hj, rfl⟩⟩ := h6
    refine r_iload_n C 3 dX7_mean_9 rfl rfl ?_
    refine r_iconst C dX7_mean_10 (v := nI 0) (by decide) ?_
    refine r_iconst C dX7_mean_11 (v := nI 1) (by decide) ?_
    refine r_callSi C (rest := []) (c_X7_within l g ad u w (nI 0) (nI 1)) gX7_mean_X7_within pk_X7_within dX7_mean_12 rfl rfl rfl rfl ⟨(Nat.le_of_ble_eq_true rfl), (Nat.le_of_ble_eq_true rfl)⟩ rfl (Nat.le_of_ble_eq_true rfl) ⟨(Nat.le_of_ble_eq_true rfl), (Nat.le_of_ble_eq_true rfl)⟩ ?_
    rintro _ _ ⟨rfl, rfl⟩
    refine r_setI (y := (bI (isR 2 w))) (bI_iff (isR_iff (n := 1) (by decide))) ?_
    refine r_ifB_ne C dX7_mean_15 (tgt := 22) (by decide) (fun h15 => ?_) (fun h15 => ?_)
    · obtain ⟨w0, hw0, rfl⟩ := h15
      refine r_aload_n C 0 dX7_mean_22 rfl rfl ?_
      refine r_iload_n C 1 dX7_mean_23 rfl rfl ?_
      refine r_iload_n C 2 dX7_mean_24 rfl rfl ?_
      refine r_callVv C (rest := []) (c_X7_playOut l g ad u S hC hO i0 j0 (by assumption) (by assumption)) gX7_mean_X7_playOut pk_X7_playOut k_0 dX7_mean_25 rfl rfl rfl rfl ⟨(Nat.le_of_ble_eq_true rfl), (Nat.le_of_ble_eq_true rfl)⟩ rfl rfl (Nat.le_of_ble_eq_true rfl) ⟨(Nat.le_of_ble_eq_true rfl), (Nat.le_of_ble_eq_true rfl)⟩ ?_
      rintro mp ⟨⟨hp, hsp⟩, hC⟩
      have hTR := hp.tr
      have hR1 := hTR.1.1
      have hme := meN_bd hO i0 j0 (by have := hTR.2; omega)
      have hR16 := hTR.2
      refine r_aload_n C 0 dX7_mean_28 rfl rfl ?_
      refine r_get C (CN := RX7) (T := TX7) (N := 10) k_0 rfl hin_X7 (j := 7) (by decide) hk_57 rfl rfl dX7_mean_29 ?_
      refine r_aload_n C 0 dX7_mean_32 rfl rfl ?_
      refine r_get C (CN := RX7) (T := TX7) (N := 10) k_0 rfl hin_X7 (j := 5) (by decide) hk_47 rfl rfl dX7_mean_33 ?_
      refine r_callVi C (rest := [.ref (ad 33)]) (c_X6_ringGains l g ad mp 1 (by decide) _ _ _ 0 hp) gX7_mean_X6_ringGains pk_X6_ringGains k_22 dX7_mean_36 rfl rfl rfl rfl ⟨(Nat.le_of_ble_eq_true rfl), (Nat.le_of_ble_eq_true rfl)⟩ rfl rfl (Nat.le_of_ble_eq_true rfl) ⟨(Nat.le_of_ble_eq_true rfl), (Nat.le_of_ble_eq_true rfl)⟩ ?_
      rintro _ _ ⟨rfl, rfl⟩
      refine r_setI (y := (iI (meN S i0 j0))) (rfl) ?_
      refine r_i2l C dX7_mean_39 (v := lI (meN S i0 j0)) (iI_l (by omega) (by omega)) ?_
      refine r_aload_n C 0 dX7_mean_40 rfl rfl ?_
      refine r_get C (CN := RX7) (T := TX7) (N := 10) k_0 rfl hin_X7 (j := 5) (by decide) hk_47 rfl rfl dX7_mean_41 ?_
      refine r_callVi C (rest := [.long (lI (meN S i0 j0)), .ref (ad 33)]) (c_X6_ring l g ad mp 1 (by decide) _ _ _ 0 hp) gX7_mean_X6_ring pk_X6_ring k_22 dX7_mean_44 rfl rfl rfl rfl ⟨(Nat.le_of_ble_eq_true rfl), (Nat.le_of_ble_eq_true rfl)⟩ rfl rfl (Nat.le_of_ble_eq_true rfl) ⟨(Nat.le_of_ble_eq_true rfl), (Nat.le_of_ble_eq_true rfl)⟩ ?_
      rintro _ _ ⟨rfl, rfl⟩
      refine r_i2l C dX7_mean_47 (v := lI ((rg (fP S i0 j0) 0) : Nat)) (nI_lI (by omega)) ?_
      refine r_callVv C (rest := []) (c_X4_become l g ad mp 1 (by decide) (meN S i0 j0) (rg (fP S i0 j0) 0 : Nat) (by omega) (by omega) (by omega) (by omega)) gX7_mean_X4_become pk_X4_become k_33 dX7_mean_48 rfl rfl rfl rfl ⟨(Nat.le_of_ble_eq_true rfl), (Nat.le_of_ble_eq_true rfl)⟩ rfl rfl (Nat.le_of_ble_eq_true rfl) ⟨(Nat.le_of_ble_eq_true rfl), (Nat.le_of_ble_eq_true rfl)⟩ ?_
      rintro _ rfl
      refine r_aload_n C 0 dX7_mean_51 rfl rfl ?_
      refine r_get C (CN := RX7) (T := TX7) (N := 10) k_0 rfl hin_X7 (j := 7) (by decide) hk_57 rfl rfl dX7_mean_52 ?_
      refine r_iload_n C 3 dX7_mean_55 rfl rfl ?_
      refine r_callVl C (rest := []) (c_X4_part l g ad (sL (sL mp (2 + 2 * 1) (lI (rdN (meN S i0 j0) (rg (fP S i0 j0) 0 : Nat)))) (3 + 2 * 1) (lI (rdD (meN S i0 j0) (rg (fP S i0 j0) 0 : Nat)))) 1 (by decide) w0 (by omega)) gX7_mean_X4_part pk_X4_part k_33 dX7_mean_56 rfl rfl rfl rfl ⟨(Nat.le_of_ble_eq_true rfl), (Nat.le_of_ble_eq_true rfl)⟩ rfl rfl (Nat.le_of_ble_eq_true rfl) ⟨(Nat.le_of_ble_eq_true rfl), (Nat.le_of_ble_eq_true rfl)⟩ ?_
      rintro _ _ ⟨rfl, rfl⟩
      refine r_setL (y := (if w0 = 0 then lI (rdN (meN S i0 j0) (rg (fP S i0 j0) 0 : Nat)) else lI (rdD (meN S i0 j0) (rg (fP S i0 j0) 0 : Nat)))) (rfl) ?_
      exact E.2.2.2 rfl _ _ _ _ dX7_mean_59 ⟨_, rfl, ⟨by unfold meaA; rw [ifp_t ⟨⟨i0, hi, rfl⟩, ⟨j0, hj, rfl⟩, ⟨w0, hw0, rfl⟩⟩, cl_nI (show i0 < 2 ^ 31 by omega), cl_nI (show j0 < 2 ^ 31 by omega), cl_nI (show w0 < 2 ^ 31 by omega)], (hC.sL (c := 2 + 2 * 1) (by decide) _).sL (c := 3 + 2 * 1) (by decide) _, ((SmC.of hsp (by decide) (by decide) (by decide) (by decide))).tr (SmC.of ((Sm.rf.sL (c := 2 + 2 * 1) (fa := []) (fj := []) (fi := []) (fl := [4, 5]) (by decide) _).sL (c := 3 + 2 * 1) (by decide) _) (by decide) (by decide) (by decide) (by decide))⟩⟩
    · refine r_ldc2 C (v := (-1000000000000000)) hk_173 dX7_mean_18 ?_
      refine r_setL (y := lI (-1000000000000000)) (by decide) ?_
      exact E.2.2.2 rfl _ _ _ _ dX7_mean_21 ⟨_, rfl, ⟨ifp_f (fun q => by first | exact h6 ⟨q.1, q.2.1⟩ | exact h15 q.2.2) _ _, hC, SmC.rf⟩⟩
def rmX7_worth : Room := { frames := 4, cells := 0, slots := 0, locals := 109 }
theorem pk_X7_worth : Pk yX7_worth RX7 3 := by decide +kernel
set_option maxHeartbeats 4000000 in
set_option maxRecDepth 100000 in
theorem c_X7_worth (l : Launch) (g : gE) (ad : Nat → Nat) (u : Me) (S : Sg) (hC : RepC S u) (hO : Ok S) (i j w : Int32) : Ctl l yX7_worth wsX7_worth rmX7_worth g ad [.ref (ad 0), .int (i), .int (j), .int (w)] u (fun r u' => worA S i j w = r ∧ RepC S u' ∧ SmC u u') := by
  refine Ct.of (cc := cX7_worth) (nL := 4) (ret := (some .long)) RX7 (by decide) rfl rfl (Nat.le_of_ble_eq_true rfl) (fun kx C E => ?_)
  have hin_X7 : ∀ w ∈ u_ws RX7 TX7 10, w ∈ wsX7_worth := by decide +kernel
  have hk_57 : Cond.fieldLink RX7 57 "AgainAgain" "ratio" "LAgainAgain$Ratio;" ∈ wsX7_worth := by decide +kernel
  have hk_173 : Cond.constantLong RX7 173 (-1000000000000000) ∈ wsX7_worth := by decide +kernel
  show G kx 0 0 (WW g ad u) 0 [(0, .ref (ad 0)), (1, .int (i)), (2, .int (j)), (3, .int (w))] []
  have hn := hO.n
  refine r_aload_n C 0 dX7_worth_0 rfl rfl ?_
  refine r_iload_n C 1 dX7_worth_1 rfl rfl ?_
  refine r_iload_n C 2 dX7_worth_2 rfl rfl ?_
  refine r_callVi C (rest := []) (c_X7_areMachines l g ad u S hC hO i j) gX7_worth_X7_areMachines pk_X7_areMachines k_0 dX7_worth_3 rfl rfl rfl rfl ⟨(Nat.le_of_ble_eq_true rfl), (Nat.le_of_ble_eq_true rfl)⟩ rfl rfl (Nat.le_of_ble_eq_true rfl) ⟨(Nat.le_of_ble_eq_true rfl), (Nat.le_of_ble_eq_true rfl)⟩ ?_
  rintro _ _ ⟨rfl, rfl⟩
  refine r_ifB_eq C dX7_worth_6 (tgt := 18) (by decide) (fun h6 => ?_) (fun h6 => ?_)
  · refine r_ldc2 C (v := (-1000000000000000)) hk_173 dX7_worth_18 ?_
    refine r_setL (y := lI (-1000000000000000)) (by decide) ?_
    exact E.2.2.2 rfl _ _ _ _ dX7_worth_21 ⟨_, rfl, ⟨ifp_f (fun q => by first | exact h6 ⟨q.1, q.2.1⟩ | exact h15 q.2.2) _ _, hC, SmC.rf⟩⟩
  · obtain ⟨⟨i0, hi, rfl⟩, ⟨j0, hj, rfl⟩⟩ := h6
    refine r_iload_n C 3 dX7_worth_9 rfl rfl ?_
    refine r_iconst C dX7_worth_10 (v := nI 0) (by decide) ?_
    refine r_iconst C dX7_worth_11 (v := nI 1) (by decide) ?_
    refine r_callSi C (rest := []) (c_X7_within l g ad u w (nI 0) (nI 1)) gX7_worth_X7_within pk_X7_within dX7_worth_12 rfl rfl rfl rfl ⟨(Nat.le_of_ble_eq_true rfl), (Nat.le_of_ble_eq_true rfl)⟩ rfl (Nat.le_of_ble_eq_true rfl) ⟨(Nat.le_of_ble_eq_true rfl), (Nat.le_of_ble_eq_true rfl)⟩ ?_
    rintro _ _ ⟨rfl, rfl⟩
    refine r_setI (y := (bI (isR 2 w))) (bI_iff (isR_iff (n := 1) (by decide))) ?_
    refine r_ifB_ne C dX7_worth_15 (tgt := 22) (by decide) (fun h15 => ?_) (fun h15 => ?_)
    · obtain ⟨w0, hw0, rfl⟩ := h15
      refine r_aload_n C 0 dX7_worth_22 rfl rfl ?_
      refine r_iload_n C 1 dX7_worth_23 rfl rfl ?_
      refine r_iload_n C 2 dX7_worth_24 rfl rfl ?_
      refine r_aload_n C 0 dX7_worth_25 rfl rfl ?_
      refine r_get C (CN := RX7) (T := TX7) (N := 10) k_0 rfl hin_X7 (j := 7) (by decide) hk_57 rfl rfl dX7_worth_26 ?_
      refine r_callVv C (rest := []) (c_X7_matchWorth l g ad u S hC hO i0 j0 hi hj 1 (by decide)) gX7_worth_X7_matchWorth pk_X7_matchWorth k_0 dX7_worth_29 rfl rfl rfl rfl ⟨(Nat.le_of_ble_eq_true rfl), (Nat.le_of_ble_eq_true rfl)⟩ rfl rfl (Nat.le_of_ble_eq_true rfl) ⟨(Nat.le_of_ble_eq_true rfl), (Nat.le_of_ble_eq_true rfl)⟩ ?_
      rintro mw ⟨ht1, hd1, hs1, hC⟩
      refine r_aload_n C 0 dX7_worth_32 rfl rfl ?_
      refine r_get C (CN := RX7) (T := TX7) (N := 10) k_0 rfl hin_X7 (j := 7) (by decide) hk_57 rfl rfl dX7_worth_33 ?_
      refine r_iload_n C 3 dX7_worth_36 rfl rfl ?_
      refine r_callVl C (rest := []) (c_X4_part l g ad mw 1 (by decide) w0 (by omega)) gX7_worth_X4_part pk_X4_part k_33 dX7_worth_37 rfl rfl rfl rfl ⟨(Nat.le_of_ble_eq_true rfl), (Nat.le_of_ble_eq_true rfl)⟩ rfl rfl (Nat.le_of_ble_eq_true rfl) ⟨(Nat.le_of_ble_eq_true rfl), (Nat.le_of_ble_eq_true rfl)⟩ ?_
      rintro _ _ ⟨rfl, rfl⟩
      refine r_setL (y := (if w0 = 0 then lI (mN S i0 j0) else lI (mD S i0 j0))) (by rw [ht1, hd1]) ?_
      exact E.2.2.2 rfl _ _ _ _ dX7_worth_40 ⟨_, rfl, ⟨by unfold worA; rw [ifp_t ⟨⟨i0, hi, rfl⟩, ⟨j0, hj, rfl⟩, ⟨w0, hw0, rfl⟩⟩, cl_nI (show i0 < 2 ^ 31 by omega), cl_nI (show j0 < 2 ^ 31 by omega), cl_nI (show w0 < 2 ^ 31 by omega)], hC, (SmC.of hs1 (by decide) (by decide) (by decide) (by decide))⟩⟩
    · refine r_ldc2 C (v := (-1000000000000000)) hk_173 dX7_worth_18 ?_
      refine r_setL (y := lI (-1000000000000000)) (by decide) ?_
      exact E.2.2.2 rfl _ _ _ _ dX7_worth_21 ⟨_, rfl, ⟨ifp_f (fun q => by first | exact h6 ⟨q.1, q.2.1⟩ | exact h15 q.2.2) _ _, hC, SmC.rf⟩⟩
def rmX7_slip : Room := { frames := 3, cells := 0, slots := 0, locals := 73 }
theorem pk_X7_slip : Pk yX7_slip RX7 3 := by decide +kernel
set_option maxHeartbeats 4000000 in
set_option maxRecDepth 100000 in
theorem c_X7_slip (l : Launch) (g : gE) (ad : Nat → Nat) (u : Me) (S : Sg) (hC : RepC S u) (hO : Ok S) (i j n : Int32) : Cti l yX7_slip wsX7_slip rmX7_slip g ad [.ref (ad 0), .int (i), .int (j), .int (n)] u (fun r u' => sliA S i j n = r ∧ RepC S u' ∧ SmC u u') := by
  refine Ct.of (cc := cX7_slip) (nL := 5) (ret := (some .int)) RX7 (by decide) rfl rfl (Nat.le_of_ble_eq_true rfl) (fun kx C E => ?_)
  have hin_X7 : ∀ w ∈ u_ws RX7 TX7 10, w ∈ wsX7_slip := by decide +kernel
  have hk_47 : Cond.fieldLink RX7 47 "AgainAgain" "walk" "LAgainAgain$Walk;" ∈ wsX7_slip := by decide +kernel
  show G kx 0 0 (WW g ad u) 0 [(0, .ref (ad 0)), (1, .int (i)), (2, .int (j)), (3, .int (n))] []
  have hn := hO.n
  refine r_aload_n C 0 dX7_slip_0 rfl rfl ?_
  refine r_iload_n C 1 dX7_slip_1 rfl rfl ?_
  refine r_iload_n C 2 dX7_slip_2 rfl rfl ?_
  refine r_callVi C (rest := []) (c_X7_areMachines l g ad u S hC hO i j) gX7_slip_X7_areMachines pk_X7_areMachines k_0 dX7_slip_3 rfl rfl rfl rfl ⟨(Nat.le_of_ble_eq_true rfl), (Nat.le_of_ble_eq_true rfl)⟩ rfl rfl (Nat.le_of_ble_eq_true rfl) ⟨(Nat.le_of_ble_eq_true rfl), (Nat.le_of_ble_eq_true rfl)⟩ ?_
  rintro _ _ ⟨rfl, rfl⟩
  refine r_ifB_eq C dX7_slip_6 (tgt := 19) (by decide) (fun h6 => ?_) (fun h6 => ?_)
  · refine r_iconst C dX7_slip_19 (v := (-1)) (by decide) ?_
    exact E.2.1 rfl _ _ _ _ dX7_slip_20 ⟨_, rfl, ⟨ifp_f (fun q => by first | exact h6 ⟨q.1, q.2.1⟩ | exact h16 q.2.2) _ _, hC, SmC.rf⟩⟩
  · obtain ⟨⟨i0, hi, rfl⟩, ⟨j0, hj, rfl⟩⟩ := h6
    refine r_iload_n C 3 dX7_slip_9 rfl rfl ?_
    refine r_iconst C dX7_slip_10 (v := nI 0) (by decide) ?_
    refine r_bipush C dX7_slip_11 (v := nI 100) (by decide) ?_
    refine r_callSi C (rest := []) (c_X7_within l g ad u n (nI 0) (nI 100)) gX7_slip_X7_within pk_X7_within dX7_slip_13 rfl rfl rfl rfl ⟨(Nat.le_of_ble_eq_true rfl), (Nat.le_of_ble_eq_true rfl)⟩ rfl (Nat.le_of_ble_eq_true rfl) ⟨(Nat.le_of_ble_eq_true rfl), (Nat.le_of_ble_eq_true rfl)⟩ ?_
    rintro _ _ ⟨rfl, rfl⟩
    refine r_setI (y := (bI (isR 101 n))) (bI_iff (isR_iff (n := 100) (by decide))) ?_
    refine r_ifB_ne C dX7_slip_16 (tgt := 21) (by decide) (fun h16 => ?_) (fun h16 => ?_)
    · obtain ⟨n0, hn0, rfl⟩ := h16
      refine r_aload_n C 0 dX7_slip_21 rfl rfl ?_
      refine r_iload_n C 1 dX7_slip_22 rfl rfl ?_
      refine r_iload_n C 2 dX7_slip_23 rfl rfl ?_
      refine r_callVv C (rest := []) (c_X7_playOut l g ad u S hC hO i0 j0 (by assumption) (by assumption)) gX7_slip_X7_playOut pk_X7_playOut k_0 dX7_slip_24 rfl rfl rfl rfl ⟨(Nat.le_of_ble_eq_true rfl), (Nat.le_of_ble_eq_true rfl)⟩ rfl rfl (Nat.le_of_ble_eq_true rfl) ⟨(Nat.le_of_ble_eq_true rfl), (Nat.le_of_ble_eq_true rfl)⟩ ?_
      rintro mp ⟨⟨hp, hsp⟩, hC⟩
      refine r_aload_n C 0 dX7_slip_27 rfl rfl ?_
      refine r_get C (CN := RX7) (T := TX7) (N := 10) k_0 rfl hin_X7 (j := 5) (by decide) hk_47 rfl rfl dX7_slip_28 ?_
      refine r_aload_n C 0 dX7_slip_31 rfl rfl ?_
      refine r_get C (CN := RX7) (T := TX7) (N := 10) k_0 rfl hin_X7 (j := 5) (by decide) hk_47 rfl rfl dX7_slip_32 ?_
      refine r_iload_n C 3 dX7_slip_35 rfl rfl ?_
      refine r_iconst C dX7_slip_36 (v := nI 1) (by decide) ?_
      refine r_iaddN C dX7_slip_37 ?_
      refine r_callVi C (rest := [.ref (ad 22)]) (c_X6_placeIn l g ad mp 1 (by decide) _ _ _ 0 hp (n0 + 1) (by omega)) gX7_slip_X6_placeIn pk_X6_placeIn k_22 dX7_slip_38 rfl rfl rfl rfl ⟨(Nat.le_of_ble_eq_true rfl), (Nat.le_of_ble_eq_true rfl)⟩ rfl rfl (Nat.le_of_ble_eq_true rfl) ⟨(Nat.le_of_ble_eq_true rfl), (Nat.le_of_ble_eq_true rfl)⟩ ?_
      rintro _ _ ⟨rfl, rfl⟩
      have hV1 : VP S i0 j0 (it (fP S i0 j0) 0 (n0 + 1)) := hp.1.V hp.2.1 _
      have hVa := hV1.1
      have hVb := hV1.2
      have hV16 := VP_16 hO hV1
      refine r_aload_n C 0 dX7_slip_41 rfl rfl ?_
      refine r_iload_n C 1 dX7_slip_42 rfl rfl ?_
      refine r_iload_n C 2 dX7_slip_43 rfl rfl ?_
      refine r_aload_n C 0 dX7_slip_44 rfl rfl ?_
      refine r_get C (CN := RX7) (T := TX7) (N := 10) k_0 rfl hin_X7 (j := 5) (by decide) hk_47 rfl rfl dX7_slip_45 ?_
      refine r_iload_n C 3 dX7_slip_48 rfl rfl ?_
      refine r_callVi C (rest := [.int (nI (j0)), .int (nI (i0)), .ref (ad 0), .int (nI (it (fP S i0 j0) 0 (n0 + 1))), .ref (ad 22)]) (c_X6_placeIn l g ad mp 1 (by decide) _ _ _ 0 hp n0 (by omega)) gX7_slip_X6_placeIn pk_X6_placeIn k_22 dX7_slip_49 rfl rfl rfl rfl ⟨(Nat.le_of_ble_eq_true rfl), (Nat.le_of_ble_eq_true rfl)⟩ rfl rfl (Nat.le_of_ble_eq_true rfl) ⟨(Nat.le_of_ble_eq_true rfl), (Nat.le_of_ble_eq_true rfl)⟩ ?_
      rintro _ _ ⟨rfl, rfl⟩
      have hV2 : VP S i0 j0 (it (fP S i0 j0) 0 n0) := hp.1.V hp.2.1 _
      have hVa := hV2.1
      have hVb := hV2.2
      have hV16 := VP_16 hO hV2
      refine r_callVi C (rest := [.int (nI (it (fP S i0 j0) 0 (n0 + 1))), .ref (ad 22)]) (c_X7_placeBehindSlip l g ad mp S hC hO i0 j0 hi hj (it (fP S i0 j0) 0 n0) (hp.1.V hp.2.1 _)) gX7_slip_X7_placeBehindSlip pk_X7_placeBehindSlip k_0 dX7_slip_52 rfl rfl rfl rfl ⟨(Nat.le_of_ble_eq_true rfl), (Nat.le_of_ble_eq_true rfl)⟩ rfl rfl (Nat.le_of_ble_eq_true rfl) ⟨(Nat.le_of_ble_eq_true rfl), (Nat.le_of_ble_eq_true rfl)⟩ ?_
      rintro _ _ ⟨rfl, rfl⟩
      refine r_callVi C (rest := []) (c_X6_meeting l g ad mp 1 (by decide) _ _ _ (it (fP S i0 j0) 0 (n0 + 1)) (slP S i0 j0 (it (fP S i0 j0) 0 n0)) hp.1 (hp.1.V hp.2.1 _) (slP_V hO)) gX7_slip_X6_meeting pk_X6_meeting k_22 dX7_slip_55 rfl rfl rfl rfl ⟨(Nat.le_of_ble_eq_true rfl), (Nat.le_of_ble_eq_true rfl)⟩ rfl rfl (Nat.le_of_ble_eq_true rfl) ⟨(Nat.le_of_ble_eq_true rfl), (Nat.le_of_ble_eq_true rfl)⟩ ?_
      rintro mt _ ⟨hmt, rfl⟩
      refine r_istore C [(0, .ref (ad 0)), (1, .int (nI (i0))), (2, .int (nI (j0))), (3, .int (nI (n0))), (4, .int (mt))] [1, 2, 3, 4, 0] dX7_slip_58 (by decide) rfl ?_
      refine r_iload C 4 dX7_slip_60 rfl ?_
      refine r_if_ge C dX7_slip_62 (tgt := 70) (by decide) (fun h62 => ?_) (fun h62 => ?_)
      · have hms : ∃ m : Nat, mtF (fP S i0 j0) (it (fP S i0 j0) 0 (n0 + 1)) (slP S i0 j0 (it (fP S i0 j0) 0 n0)) = some m ∧ mt = nI m := by
          rcases hmt with ⟨m, q1, q2, q3⟩ | ⟨-, q3⟩
          · exact ⟨m, mtF_some q1 q2, q3⟩
          · rw [q3] at h62; exact absurd h62 (by decide)
        obtain ⟨mm, hm1, rfl⟩ := hms
        refine r_iload C 4 dX7_slip_70 rfl ?_
        refine r_iconst C dX7_slip_72 (v := nI 1) (by decide) ?_
        refine r_iadd C dX7_slip_73 ?_
        exact E.2.1 rfl _ _ _ _ dX7_slip_74 ⟨_, rfl, ⟨by unfold sliA; rw [ifp_t ⟨⟨i0, hi, rfl⟩, ⟨j0, hj, rfl⟩, ⟨n0, hn0, rfl⟩⟩, cl_nI (show i0 < 2 ^ 31 by omega), cl_nI (show j0 < 2 ^ 31 by omega), cl_nI (show n0 < 2 ^ 31 by omega)]; unfold sliN; rw [hm1], hC, (SmC.of hsp (by decide) (by decide) (by decide) (by decide))⟩⟩
      · have hmn : mtF (fP S i0 j0) (it (fP S i0 j0) 0 (n0 + 1)) (slP S i0 j0 (it (fP S i0 j0) 0 n0)) = none := by
          rcases hmt with ⟨m, q1, q2, q3⟩ | ⟨q1, -⟩
          · have hm257 := meet_lt (fun r => hp.1.lt (hp.1.V hp.2.1 _) r) (fun r => hp.1.lt (slP_V hO) r) q1 q2
            exact absurd (by rw [q3]; exact nI_pos' (by omega)) h62
          · exact mtF_none q1
        refine r_bipush C dX7_slip_65 (v := (-4)) (by decide) ?_
        refine r_goto C dX7_slip_67 (tgt := 74) (by decide) ?_
        exact E.2.1 rfl _ _ _ _ dX7_slip_74 ⟨_, rfl, ⟨by unfold sliA; rw [ifp_t ⟨⟨i0, hi, rfl⟩, ⟨j0, hj, rfl⟩, ⟨n0, hn0, rfl⟩⟩, cl_nI (show i0 < 2 ^ 31 by omega), cl_nI (show j0 < 2 ^ 31 by omega), cl_nI (show n0 < 2 ^ 31 by omega)]; unfold sliN; rw [hmn], hC, (SmC.of hsp (by decide) (by decide) (by decide) (by decide))⟩⟩
    · refine r_iconst C dX7_slip_19 (v := (-1)) (by decide) ?_
      exact E.2.1 rfl _ _ _ _ dX7_slip_20 ⟨_, rfl, ⟨ifp_f (fun q => by first | exact h6 ⟨q.1, q.2.1⟩ | exact h16 q.2.2) _ _, hC, SmC.rf⟩⟩
def rmX7_like : Room := { frames := 3, cells := 0, slots := 0, locals := 78 }
theorem pk_X7_like : Pk yX7_like RX7 2 := by decide +kernel
set_option maxHeartbeats 4000000 in
set_option maxRecDepth 100000 in
theorem c_X7_like (l : Launch) (g : gE) (ad : Nat → Nat) (u : Me) (S : Sg) (hC : RepC S u) (hO : Ok S) (i j : Int32) : Cti l yX7_like wsX7_like rmX7_like g ad [.ref (ad 0), .int (i), .int (j)] u (fun r u' => likA S i j = r ∧ RepC S u' ∧ SmC u u') := by
  refine Ct.of (cc := cX7_like) (nL := 3) (ret := (some .int)) RX7 (by decide) rfl rfl (Nat.le_of_ble_eq_true rfl) (fun kx C E => ?_)
  have hin_X7 : ∀ w ∈ u_ws RX7 TX7 10, w ∈ wsX7_like := by decide +kernel
  have hk_19 : Cond.fieldLink RX7 19 "AgainAgain" "machines" "LAgainAgain$Machines;" ∈ wsX7_like := by decide +kernel
  have hk_33 : Cond.fieldLink RX7 33 "AgainAgain" "likeness" "LAgainAgain$Likeness;" ∈ wsX7_like := by decide +kernel
  show G kx 0 0 (WW g ad u) 0 [(0, .ref (ad 0)), (1, .int (i)), (2, .int (j))] []
  have hn := hO.n
  refine r_aload_n C 0 dX7_like_0 rfl rfl ?_
  refine r_iload_n C 1 dX7_like_1 rfl rfl ?_
  refine r_iload_n C 2 dX7_like_2 rfl rfl ?_
  refine r_callVi C (rest := []) (c_X7_areMachines l g ad u S hC hO i j) gX7_like_X7_areMachines pk_X7_areMachines k_0 dX7_like_3 rfl rfl rfl rfl ⟨(Nat.le_of_ble_eq_true rfl), (Nat.le_of_ble_eq_true rfl)⟩ rfl rfl (Nat.le_of_ble_eq_true rfl) ⟨(Nat.le_of_ble_eq_true rfl), (Nat.le_of_ble_eq_true rfl)⟩ ?_
  rintro _ _ ⟨rfl, rfl⟩
  refine r_ifB_ne C dX7_like_6 (tgt := 11) (by decide) (fun h6 => ?_) (fun h6 => ?_)
  · obtain ⟨⟨i0, hi, rfl⟩, ⟨j0, hj, rfl⟩⟩ := h6
    refine r_aload_n C 0 dX7_like_11 rfl rfl ?_
    refine r_get C (CN := RX7) (T := TX7) (N := 10) k_0 rfl hin_X7 (j := 3) (by decide) hk_33 rfl rfl dX7_like_12 ?_
    refine r_aload_n C 0 dX7_like_15 rfl rfl ?_
    refine r_get C (CN := RX7) (T := TX7) (N := 10) k_0 rfl hin_X7 (j := 1) (by decide) hk_19 rfl rfl dX7_like_16 ?_
    refine r_iload_n C 1 dX7_like_19 rfl rfl ?_
    refine r_iload_n C 2 dX7_like_20 rfl rfl ?_
    refine r_callVi C (rest := []) (c_X1_areLike l g ad u S hC hO i0 j0 (by first | assumption | omega) (by first | assumption | omega)) gX7_like_X1_areLike pk_X1_areLike k_11 dX7_like_21 rfl rfl rfl rfl ⟨(Nat.le_of_ble_eq_true rfl), (Nat.le_of_ble_eq_true rfl)⟩ rfl rfl (Nat.le_of_ble_eq_true rfl) ⟨(Nat.le_of_ble_eq_true rfl), (Nat.le_of_ble_eq_true rfl)⟩ ?_
    rintro _ vl1 ⟨rfl, hsL⟩
    have hC : RepC S vl1 := hC.sm hsL (by unfold leC; decide)
    refine r_callSi C (rest := []) (c_X7_oneIf l g ad vl1 (Lk S i0 0 j0 0)) gX7_like_X7_oneIf pk_X7_oneIf dX7_like_24 rfl rfl rfl rfl ⟨(Nat.le_of_ble_eq_true rfl), (Nat.le_of_ble_eq_true rfl)⟩ rfl (Nat.le_of_ble_eq_true rfl) ⟨(Nat.le_of_ble_eq_true rfl), (Nat.le_of_ble_eq_true rfl)⟩ ?_
    rintro _ _ ⟨rfl, rfl⟩
    exact E.2.1 rfl _ _ _ _ dX7_like_27 ⟨_, rfl, ⟨by unfold likA; rw [ifp_t ⟨⟨i0, hi, rfl⟩, ⟨j0, hj, rfl⟩⟩, cl_nI (show i0 < 2 ^ 31 by omega), cl_nI (show j0 < 2 ^ 31 by omega)], hC, (SmC.of hsL (by decide) (by decide) (by decide) (by decide))⟩⟩
  · refine r_iconst C dX7_like_9 (v := (-1)) (by decide) ?_
    exact E.2.1 rfl _ _ _ _ dX7_like_10 ⟨_, rfl, ⟨ifp_f h6 _ _, hC, SmC.rf⟩⟩
def rmX7_smallest : Room := { frames := 4, cells := 0, slots := 0, locals := 105 }
theorem pk_X7_smallest : Pk yX7_smallest RX7 1 := by decide +kernel
set_option maxHeartbeats 4000000 in
set_option maxRecDepth 100000 in
theorem c_X7_smallest (l : Launch) (g : gE) (ad : Nat → Nat) (u : Me) (S : Sg) (hC : RepC S u) (hO : Ok S) (m : Int32) : Cti l yX7_smallest wsX7_smallest rmX7_smallest g ad [.ref (ad 0), .int (m)] u (fun r u' => smaA S m = r ∧ RepC S u' ∧ SmC u u') := by
  refine Ct.of (cc := cX7_smallest) (nL := 2) (ret := (some .int)) RX7 (by decide) rfl rfl (Nat.le_of_ble_eq_true rfl) (fun kx C E => ?_)
  have hin_X7 : ∀ w ∈ u_ws RX7 TX7 10, w ∈ wsX7_smallest := by decide +kernel
  have hk_19 : Cond.fieldLink RX7 19 "AgainAgain" "machines" "LAgainAgain$Machines;" ∈ wsX7_smallest := by decide +kernel
  have hk_33 : Cond.fieldLink RX7 33 "AgainAgain" "likeness" "LAgainAgain$Likeness;" ∈ wsX7_smallest := by decide +kernel
  show G kx 0 0 (WW g ad u) 0 [(0, .ref (ad 0)), (1, .int (m))] []
  have hn := hO.n
  refine r_aload_n C 0 dX7_smallest_0 rfl rfl ?_
  refine r_get C (CN := RX7) (T := TX7) (N := 10) k_0 rfl hin_X7 (j := 1) (by decide) hk_19 rfl rfl dX7_smallest_1 ?_
  refine r_iload_n C 1 dX7_smallest_4 rfl rfl ?_
  refine r_callVi C (rest := []) (c_X2_has l g ad u S hC hO m) gX7_smallest_X2_has pk_X2_has k_3 dX7_smallest_5 rfl rfl rfl rfl ⟨(Nat.le_of_ble_eq_true rfl), (Nat.le_of_ble_eq_true rfl)⟩ rfl rfl (Nat.le_of_ble_eq_true rfl) ⟨(Nat.le_of_ble_eq_true rfl), (Nat.le_of_ble_eq_true rfl)⟩ ?_
  rintro _ _ ⟨rfl, rfl⟩
  refine r_ifB_ne C dX7_smallest_8 (tgt := 13) (by decide) (fun h8 => ?_) (fun h8 => ?_)
  · obtain ⟨m0, hm, rfl⟩ := h8
    refine r_aload_n C 0 dX7_smallest_13 rfl rfl ?_
    refine r_get C (CN := RX7) (T := TX7) (N := 10) k_0 rfl hin_X7 (j := 3) (by decide) hk_33 rfl rfl dX7_smallest_14 ?_
    refine r_aload_n C 0 dX7_smallest_17 rfl rfl ?_
    refine r_get C (CN := RX7) (T := TX7) (N := 10) k_0 rfl hin_X7 (j := 1) (by decide) hk_19 rfl rfl dX7_smallest_18 ?_
    refine r_iload_n C 1 dX7_smallest_21 rfl rfl ?_
    refine r_callVi C (rest := []) (c_X1_unlikeStates l g ad u S hC hO m0 hm) gX7_smallest_X1_unlikeStates pk_X1_unlikeStates k_11 dX7_smallest_22 rfl rfl rfl rfl ⟨(Nat.le_of_ble_eq_true rfl), (Nat.le_of_ble_eq_true rfl)⟩ rfl rfl (Nat.le_of_ble_eq_true rfl) ⟨(Nat.le_of_ble_eq_true rfl), (Nat.le_of_ble_eq_true rfl)⟩ ?_
    rintro _ u1 ⟨rfl, hs1⟩
    exact E.2.1 rfl _ _ _ _ dX7_smallest_25 ⟨_, rfl, ⟨by unfold smaA; rw [ifp_t ⟨m0, hm, rfl⟩, cl_nI (show m0 < 2 ^ 31 by omega)], hC.sm hs1 (by unfold leC; decide), (SmC.of hs1 (by decide) (by decide) (by decide) (by decide))⟩⟩
  · refine r_iconst C dX7_smallest_11 (v := (-1)) (by decide) ?_
    exact E.2.1 rfl _ _ _ _ dX7_smallest_12 ⟨_, rfl, ⟨ifp_f h8 _ _, hC, SmC.rf⟩⟩
def rmX7_best : Room := { frames := 5, cells := 0, slots := 0, locals := 137 }
theorem pk_X7_best : Pk yX7_best RX7 2 := by decide +kernel
set_option maxHeartbeats 4000000 in
set_option maxRecDepth 100000 in
theorem c_X7_best (l : Launch) (g : gE) (ad : Nat → Nat) (u : Me) (S : Sg) (hC : RepC S u) (hO : Ok S) (m s : Int32) : Cti l yX7_best wsX7_best rmX7_best g ad [.ref (ad 0), .int (m), .int (s)] u (fun r u' => besA S m s = r ∧ RepC S u' ∧ SmC u u') := by
  refine Ct.of (cc := cX7_best) (nL := 3) (ret := (some .int)) RX7 (by decide) rfl rfl (Nat.le_of_ble_eq_true rfl) (fun kx C E => ?_)
  have hin_X7 : ∀ w ∈ u_ws RX7 TX7 10, w ∈ wsX7_best := by decide +kernel
  have hk_10 : Cond.fieldLink RX7 10 "AgainAgain" "game" "LAgainAgain$Game;" ∈ wsX7_best := by decide +kernel
  have hk_19 : Cond.fieldLink RX7 19 "AgainAgain" "machines" "LAgainAgain$Machines;" ∈ wsX7_best := by decide +kernel
  have hk_40 : Cond.fieldLink RX7 40 "AgainAgain" "plans" "LAgainAgain$Plans;" ∈ wsX7_best := by decide +kernel
  show G kx 0 0 (WW g ad u) 0 [(0, .ref (ad 0)), (1, .int (m)), (2, .int (s))] []
  have hn := hO.n
  refine r_aload_n C 0 dX7_best_0 rfl rfl ?_
  refine r_get C (CN := RX7) (T := TX7) (N := 10) k_0 rfl hin_X7 (j := 1) (by decide) hk_19 rfl rfl dX7_best_1 ?_
  refine r_iload_n C 1 dX7_best_4 rfl rfl ?_
  refine r_iload_n C 2 dX7_best_5 rfl rfl ?_
  refine r_callVi C (rest := []) (c_X2_hasState l g ad u S hC hO m s) gX7_best_X2_hasState pk_X2_hasState k_3 dX7_best_6 rfl rfl rfl rfl ⟨(Nat.le_of_ble_eq_true rfl), (Nat.le_of_ble_eq_true rfl)⟩ rfl rfl (Nat.le_of_ble_eq_true rfl) ⟨(Nat.le_of_ble_eq_true rfl), (Nat.le_of_ble_eq_true rfl)⟩ ?_
  rintro _ _ ⟨rfl, rfl⟩
  refine r_ifB_ne C dX7_best_9 (tgt := 14) (by decide) (fun h9 => ?_) (fun h9 => ?_)
  · obtain ⟨m0, hm, rfl, s0, hs, rfl⟩ := h9
    have hz := (hO.z m0).2
    refine r_aload_n C 0 dX7_best_14 rfl rfl ?_
    refine r_get C (CN := RX7) (T := TX7) (N := 10) k_0 rfl hin_X7 (j := 4) (by decide) hk_40 rfl rfl dX7_best_15 ?_
    refine r_aload_n C 0 dX7_best_18 rfl rfl ?_
    refine r_get C (CN := RX7) (T := TX7) (N := 10) k_0 rfl hin_X7 (j := 0) (by decide) hk_10 rfl rfl dX7_best_19 ?_
    refine r_aload_n C 0 dX7_best_22 rfl rfl ?_
    refine r_get C (CN := RX7) (T := TX7) (N := 10) k_0 rfl hin_X7 (j := 1) (by decide) hk_19 rfl rfl dX7_best_23 ?_
    refine r_iload_n C 1 dX7_best_26 rfl rfl ?_
    refine r_iload_n C 2 dX7_best_27 rfl rfl ?_
    refine r_callVv C (rest := []) (c_X3_learn l g ad u S hC hO m0 s0 hm hs) gX7_best_X3_learn pk_X3_learn k_13 dX7_best_28 rfl rfl rfl rfl ⟨(Nat.le_of_ble_eq_true rfl), (Nat.le_of_ble_eq_true rfl)⟩ rfl rfl (Nat.le_of_ble_eq_true rfl) ⟨(Nat.le_of_ble_eq_true rfl), (Nat.le_of_ble_eq_true rfl)⟩ ?_
    rintro ul ⟨⟨hl1, hl2, hl3⟩, hC⟩
    refine r_aload_n C 0 dX7_best_31 rfl rfl ?_
    refine r_get C (CN := RX7) (T := TX7) (N := 10) k_0 rfl hin_X7 (j := 4) (by decide) hk_40 rfl rfl dX7_best_32 ?_
    refine r_iload_n C 1 dX7_best_35 rfl rfl ?_
    refine r_iload_n C 2 dX7_best_36 rfl rfl ?_
    refine r_callVi C (rest := []) (c_X3_bestPlan l g ad ul m0 s0 _ (by omega) (by omega) hl1.1) gX7_best_X3_bestPlan pk_X3_bestPlan k_13 dX7_best_37 rfl rfl rfl rfl ⟨(Nat.le_of_ble_eq_true rfl), (Nat.le_of_ble_eq_true rfl)⟩ rfl rfl (Nat.le_of_ble_eq_true rfl) ⟨(Nat.le_of_ble_eq_true rfl), (Nat.le_of_ble_eq_true rfl)⟩ ?_
    rintro _ _ ⟨rfl, rfl⟩
    exact E.2.1 rfl _ _ _ _ dX7_best_40 ⟨_, rfl, ⟨by unfold besA; rw [ifp_t ⟨m0, hm, rfl, s0, hs, rfl⟩, cl_nI (show m0 < 2 ^ 31 by omega), cl_nI (show s0 < 2 ^ 31 by omega)], hC, (SmC.of hl3 (by decide) (by decide) (by decide) (by decide))⟩⟩
  · refine r_iconst C dX7_best_12 (v := (-1)) (by decide) ?_
    exact E.2.1 rfl _ _ _ _ dX7_best_13 ⟨_, rfl, ⟨ifp_f h9 _ _, hC, SmC.rf⟩⟩
def rmX7_bestWorth : Room := { frames := 5, cells := 0, slots := 0, locals := 137 }
theorem pk_X7_bestWorth : Pk yX7_bestWorth RX7 3 := by decide +kernel
set_option maxHeartbeats 4000000 in
set_option maxRecDepth 100000 in
theorem c_X7_bestWorth (l : Launch) (g : gE) (ad : Nat → Nat) (u : Me) (S : Sg) (hC : RepC S u) (hO : Ok S) (m s w : Int32) : Ctl l yX7_bestWorth wsX7_bestWorth rmX7_bestWorth g ad [.ref (ad 0), .int (m), .int (s), .int (w)] u (fun r u' => bwoA S m s w = r ∧ RepC S u' ∧ SmC u u') := by
  refine Ct.of (cc := cX7_bestWorth) (nL := 4) (ret := (some .long)) RX7 (by decide) rfl rfl (Nat.le_of_ble_eq_true rfl) (fun kx C E => ?_)
  have hin_X7 : ∀ w ∈ u_ws RX7 TX7 10, w ∈ wsX7_bestWorth := by decide +kernel
  have hk_10 : Cond.fieldLink RX7 10 "AgainAgain" "game" "LAgainAgain$Game;" ∈ wsX7_bestWorth := by decide +kernel
  have hk_19 : Cond.fieldLink RX7 19 "AgainAgain" "machines" "LAgainAgain$Machines;" ∈ wsX7_bestWorth := by decide +kernel
  have hk_40 : Cond.fieldLink RX7 40 "AgainAgain" "plans" "LAgainAgain$Plans;" ∈ wsX7_bestWorth := by decide +kernel
  have hk_173 : Cond.constantLong RX7 173 (-1000000000000000) ∈ wsX7_bestWorth := by decide +kernel
  show G kx 0 0 (WW g ad u) 0 [(0, .ref (ad 0)), (1, .int (m)), (2, .int (s)), (3, .int (w))] []
  have hn := hO.n
  refine r_aload_n C 0 dX7_bestWorth_0 rfl rfl ?_
  refine r_get C (CN := RX7) (T := TX7) (N := 10) k_0 rfl hin_X7 (j := 1) (by decide) hk_19 rfl rfl dX7_bestWorth_1 ?_
  refine r_iload_n C 1 dX7_bestWorth_4 rfl rfl ?_
  refine r_iload_n C 2 dX7_bestWorth_5 rfl rfl ?_
  refine r_callVi C (rest := []) (c_X2_hasState l g ad u S hC hO m s) gX7_bestWorth_X2_hasState pk_X2_hasState k_3 dX7_bestWorth_6 rfl rfl rfl rfl ⟨(Nat.le_of_ble_eq_true rfl), (Nat.le_of_ble_eq_true rfl)⟩ rfl rfl (Nat.le_of_ble_eq_true rfl) ⟨(Nat.le_of_ble_eq_true rfl), (Nat.le_of_ble_eq_true rfl)⟩ ?_
  rintro _ _ ⟨rfl, rfl⟩
  refine r_ifB_eq C dX7_bestWorth_9 (tgt := 21) (by decide) (fun h9 => ?_) (fun h9 => ?_)
  · refine r_ldc2 C (v := (-1000000000000000)) hk_173 dX7_bestWorth_21 ?_
    refine r_setL (y := lI (-1000000000000000)) (by decide) ?_
    exact E.2.2.2 rfl _ _ _ _ dX7_bestWorth_24 ⟨_, rfl, ⟨ifp_f (fun q => by first | exact h9 q.1 | exact h18 q.2) _ _, hC, SmC.rf⟩⟩
  · obtain ⟨m0, hm, rfl, s0, hs, rfl⟩ := h9
    have hz := (hO.z m0).2
    refine r_iload_n C 3 dX7_bestWorth_12 rfl rfl ?_
    refine r_iconst C dX7_bestWorth_13 (v := nI 0) (by decide) ?_
    refine r_iconst C dX7_bestWorth_14 (v := nI 1) (by decide) ?_
    refine r_callSi C (rest := []) (c_X7_within l g ad u w (nI 0) (nI 1)) gX7_bestWorth_X7_within pk_X7_within dX7_bestWorth_15 rfl rfl rfl rfl ⟨(Nat.le_of_ble_eq_true rfl), (Nat.le_of_ble_eq_true rfl)⟩ rfl (Nat.le_of_ble_eq_true rfl) ⟨(Nat.le_of_ble_eq_true rfl), (Nat.le_of_ble_eq_true rfl)⟩ ?_
    rintro _ _ ⟨rfl, rfl⟩
    refine r_setI (y := (bI (isR 2 w))) (bI_iff (isR_iff (n := 1) (by decide))) ?_
    refine r_ifB_ne C dX7_bestWorth_18 (tgt := 25) (by decide) (fun h18 => ?_) (fun h18 => ?_)
    · obtain ⟨w0, hw0, rfl⟩ := h18
      refine r_aload_n C 0 dX7_bestWorth_25 rfl rfl ?_
      refine r_get C (CN := RX7) (T := TX7) (N := 10) k_0 rfl hin_X7 (j := 4) (by decide) hk_40 rfl rfl dX7_bestWorth_26 ?_
      refine r_aload_n C 0 dX7_bestWorth_29 rfl rfl ?_
      refine r_get C (CN := RX7) (T := TX7) (N := 10) k_0 rfl hin_X7 (j := 0) (by decide) hk_10 rfl rfl dX7_bestWorth_30 ?_
      refine r_aload_n C 0 dX7_bestWorth_33 rfl rfl ?_
      refine r_get C (CN := RX7) (T := TX7) (N := 10) k_0 rfl hin_X7 (j := 1) (by decide) hk_19 rfl rfl dX7_bestWorth_34 ?_
      refine r_iload_n C 1 dX7_bestWorth_37 rfl rfl ?_
      refine r_iload_n C 2 dX7_bestWorth_38 rfl rfl ?_
      refine r_callVv C (rest := []) (c_X3_learn l g ad u S hC hO m0 s0 hm hs) gX7_bestWorth_X3_learn pk_X3_learn k_13 dX7_bestWorth_39 rfl rfl rfl rfl ⟨(Nat.le_of_ble_eq_true rfl), (Nat.le_of_ble_eq_true rfl)⟩ rfl rfl (Nat.le_of_ble_eq_true rfl) ⟨(Nat.le_of_ble_eq_true rfl), (Nat.le_of_ble_eq_true rfl)⟩ ?_
      rintro ul ⟨⟨hl1, hl2, hl3⟩, hC⟩
      refine r_aload_n C 0 dX7_bestWorth_42 rfl rfl ?_
      refine r_get C (CN := RX7) (T := TX7) (N := 10) k_0 rfl hin_X7 (j := 4) (by decide) hk_40 rfl rfl dX7_bestWorth_43 ?_
      refine r_iload_n C 1 dX7_bestWorth_46 rfl rfl ?_
      refine r_iload_n C 2 dX7_bestWorth_47 rfl rfl ?_
      refine r_iload_n C 3 dX7_bestWorth_48 rfl rfl ?_
      refine r_callVl C (rest := []) (c_X3_bestPart l g ad ul m0 s0 (by omega) (by omega) _ _ hl1.2.1 hl1.2.2 w0 (by omega)) gX7_bestWorth_X3_bestPart pk_X3_bestPart k_13 dX7_bestWorth_49 rfl rfl rfl rfl ⟨(Nat.le_of_ble_eq_true rfl), (Nat.le_of_ble_eq_true rfl)⟩ rfl rfl (Nat.le_of_ble_eq_true rfl) ⟨(Nat.le_of_ble_eq_true rfl), (Nat.le_of_ble_eq_true rfl)⟩ ?_
      rintro _ _ ⟨rfl, rfl⟩
      exact E.2.2.2 rfl _ _ _ _ dX7_bestWorth_52 ⟨_, rfl, ⟨by unfold bwoA; rw [ifp_t ⟨⟨m0, hm, rfl, s0, hs, rfl⟩, ⟨w0, hw0, rfl⟩⟩, cl_nI (show m0 < 2 ^ 31 by omega), cl_nI (show s0 < 2 ^ 31 by omega), cl_nI (show w0 < 2 ^ 31 by omega)], hC, (SmC.of hl3 (by decide) (by decide) (by decide) (by decide))⟩⟩
    · refine r_ldc2 C (v := (-1000000000000000)) hk_173 dX7_bestWorth_21 ?_
      refine r_setL (y := lI (-1000000000000000)) (by decide) ?_
      exact E.2.2.2 rfl _ _ _ _ dX7_bestWorth_24 ⟨_, rfl, ⟨ifp_f (fun q => by first | exact h9 q.1 | exact h18 q.2) _ _, hC, SmC.rf⟩⟩
def rmX7_planWorth : Room := { frames := 4, cells := 0, slots := 0, locals := 112 }
theorem pk_X7_planWorth : Pk yX7_planWorth RX7 4 := by decide +kernel
set_option maxHeartbeats 4000000 in
set_option maxRecDepth 100000 in
theorem c_X7_planWorth (l : Launch) (g : gE) (ad : Nat → Nat) (u : Me) (S : Sg) (hC : RepC S u) (hO : Ok S) (m s p w : Int32) : Ctl l yX7_planWorth wsX7_planWorth rmX7_planWorth g ad [.ref (ad 0), .int (m), .int (s), .int (p), .int (w)] u (fun r u' => pwoA S m s p w = r ∧ RepC S u' ∧ SmC u u') := by
  refine Ct.of (cc := cX7_planWorth) (nL := 5) (ret := (some .long)) RX7 (by decide) rfl rfl (Nat.le_of_ble_eq_true rfl) (fun kx C E => ?_)
  have hin_X7 : ∀ w ∈ u_ws RX7 TX7 10, w ∈ wsX7_planWorth := by decide +kernel
  have hk_10 : Cond.fieldLink RX7 10 "AgainAgain" "game" "LAgainAgain$Game;" ∈ wsX7_planWorth := by decide +kernel
  have hk_19 : Cond.fieldLink RX7 19 "AgainAgain" "machines" "LAgainAgain$Machines;" ∈ wsX7_planWorth := by decide +kernel
  have hk_40 : Cond.fieldLink RX7 40 "AgainAgain" "plans" "LAgainAgain$Plans;" ∈ wsX7_planWorth := by decide +kernel
  have hk_57 : Cond.fieldLink RX7 57 "AgainAgain" "ratio" "LAgainAgain$Ratio;" ∈ wsX7_planWorth := by decide +kernel
  have hk_173 : Cond.constantLong RX7 173 (-1000000000000000) ∈ wsX7_planWorth := by decide +kernel
  show G kx 0 0 (WW g ad u) 0 [(0, .ref (ad 0)), (1, .int (m)), (2, .int (s)), (3, .int (p)), (4, .int (w))] []
  have hn := hO.n
  refine r_aload_n C 0 dX7_planWorth_0 rfl rfl ?_
  refine r_get C (CN := RX7) (T := TX7) (N := 10) k_0 rfl hin_X7 (j := 1) (by decide) hk_19 rfl rfl dX7_planWorth_1 ?_
  refine r_iload_n C 1 dX7_planWorth_4 rfl rfl ?_
  refine r_iload_n C 2 dX7_planWorth_5 rfl rfl ?_
  refine r_callVi C (rest := []) (c_X2_hasState l g ad u S hC hO m s) gX7_planWorth_X2_hasState pk_X2_hasState k_3 dX7_planWorth_6 rfl rfl rfl rfl ⟨(Nat.le_of_ble_eq_true rfl), (Nat.le_of_ble_eq_true rfl)⟩ rfl rfl (Nat.le_of_ble_eq_true rfl) ⟨(Nat.le_of_ble_eq_true rfl), (Nat.le_of_ble_eq_true rfl)⟩ ?_
  rintro _ _ ⟨rfl, rfl⟩
  refine r_ifB_eq C dX7_planWorth_9 (tgt := 22) (by decide) (fun h9 => ?_) (fun h9 => ?_)
  · refine r_ldc2 C (v := (-1000000000000000)) hk_173 dX7_planWorth_22 ?_
    refine r_setL (y := lI (-1000000000000000)) (by decide) ?_
    exact E.2.2.2 rfl _ _ _ _ dX7_planWorth_25 ⟨_, rfl, ⟨ifp_f (fun q => by first | exact h9 q.1 | exact h19 q.2.1 | exact h44 (by have z := q.2.2; rwa [cl_nI (show m0 < 2 ^ 31 by omega)] at z)) _ _, hC, SmC.rf⟩⟩
  · obtain ⟨m0, hm, rfl, s0, hs, rfl⟩ := h9
    have hz := (hO.z m0).2
    have h81 : 3 ^ sz S m0 ≤ 3 ^ 4 := Nat.pow_le_pow_right (by decide) hz
    have h3p : 0 < 3 ^ sz S m0 := Nat.pow_pos (by decide)
    refine r_iload C 4 dX7_planWorth_12 rfl ?_
    refine r_iconst C dX7_planWorth_14 (v := nI 0) (by decide) ?_
    refine r_iconst C dX7_planWorth_15 (v := nI 1) (by decide) ?_
    refine r_callSi C (rest := []) (c_X7_within l g ad u w (nI 0) (nI 1)) gX7_planWorth_X7_within pk_X7_within dX7_planWorth_16 rfl rfl rfl rfl ⟨(Nat.le_of_ble_eq_true rfl), (Nat.le_of_ble_eq_true rfl)⟩ rfl (Nat.le_of_ble_eq_true rfl) ⟨(Nat.le_of_ble_eq_true rfl), (Nat.le_of_ble_eq_true rfl)⟩ ?_
    rintro _ _ ⟨rfl, rfl⟩
    refine r_setI (y := (bI (isR 2 w))) (bI_iff (isR_iff (n := 1) (by decide))) ?_
    refine r_ifB_ne C dX7_planWorth_19 (tgt := 26) (by decide) (fun h19 => ?_) (fun h19 => ?_)
    · obtain ⟨w0, hw0, rfl⟩ := h19
      refine r_iload_n C 3 dX7_planWorth_26 rfl rfl ?_
      refine r_iconst C dX7_planWorth_27 (v := nI 0) (by decide) ?_
      refine r_aload_n C 0 dX7_planWorth_28 rfl rfl ?_
      refine r_get C (CN := RX7) (T := TX7) (N := 10) k_0 rfl hin_X7 (j := 1) (by decide) hk_19 rfl rfl dX7_planWorth_29 ?_
      refine r_iload_n C 1 dX7_planWorth_32 rfl rfl ?_
      refine r_callVi C (rest := [.int (nI (0)), .int (p)]) (c_X2_statesOf l g ad u S hC hO m0 (by assumption)) gX7_planWorth_X2_statesOf pk_X2_statesOf k_3 dX7_planWorth_33 rfl rfl rfl rfl ⟨(Nat.le_of_ble_eq_true rfl), (Nat.le_of_ble_eq_true rfl)⟩ rfl rfl (Nat.le_of_ble_eq_true rfl) ⟨(Nat.le_of_ble_eq_true rfl), (Nat.le_of_ble_eq_true rfl)⟩ ?_
      rintro _ _ ⟨rfl, rfl⟩
      refine r_callSi C (rest := [.int (nI (0)), .int (p)]) (c_X3_plansAgainst l g ad u (sz S m0) (by omega)) gX7_planWorth_X3_plansAgainst pk_X3_plansAgainst dX7_planWorth_36 rfl rfl rfl rfl ⟨(Nat.le_of_ble_eq_true rfl), (Nat.le_of_ble_eq_true rfl)⟩ rfl (Nat.le_of_ble_eq_true rfl) ⟨(Nat.le_of_ble_eq_true rfl), (Nat.le_of_ble_eq_true rfl)⟩ ?_
      rintro _ _ ⟨rfl, rfl⟩
      refine r_iconst C dX7_planWorth_39 (v := nI 1) (by decide) ?_
      refine r_isubN C dX7_planWorth_40 (by omega) ?_
      refine r_callSi C (rest := []) (c_X7_within l g ad u p (nI 0) (nI ((3 ^ (sz S m0)) - 1))) gX7_planWorth_X7_within pk_X7_within dX7_planWorth_41 rfl rfl rfl rfl ⟨(Nat.le_of_ble_eq_true rfl), (Nat.le_of_ble_eq_true rfl)⟩ rfl (Nat.le_of_ble_eq_true rfl) ⟨(Nat.le_of_ble_eq_true rfl), (Nat.le_of_ble_eq_true rfl)⟩ ?_
      rintro _ _ ⟨rfl, rfl⟩
      refine r_setI (y := (bI (isR (3 ^ sz S m0) p))) ((bI_iff (isAB_iff (by decide) (by omega))).trans (bI_iff (isR_AB (by omega)).symm)) ?_
      refine r_ifB_ne C dX7_planWorth_44 (tgt := 51) (by decide) (fun h44 => ?_) (fun h44 => ?_)
      · obtain ⟨p0, hp0, rfl⟩ := h44
        refine r_aload_n C 0 dX7_planWorth_51 rfl rfl ?_
        refine r_get C (CN := RX7) (T := TX7) (N := 10) k_0 rfl hin_X7 (j := 4) (by decide) hk_40 rfl rfl dX7_planWorth_52 ?_
        refine r_aload_n C 0 dX7_planWorth_55 rfl rfl ?_
        refine r_get C (CN := RX7) (T := TX7) (N := 10) k_0 rfl hin_X7 (j := 0) (by decide) hk_10 rfl rfl dX7_planWorth_56 ?_
        refine r_aload_n C 0 dX7_planWorth_59 rfl rfl ?_
        refine r_get C (CN := RX7) (T := TX7) (N := 10) k_0 rfl hin_X7 (j := 1) (by decide) hk_19 rfl rfl dX7_planWorth_60 ?_
        refine r_iload_n C 1 dX7_planWorth_63 rfl rfl ?_
        refine r_iload_n C 2 dX7_planWorth_64 rfl rfl ?_
        refine r_iload_n C 3 dX7_planWorth_65 rfl rfl ?_
        refine r_aload_n C 0 dX7_planWorth_66 rfl rfl ?_
        refine r_get C (CN := RX7) (T := TX7) (N := 10) k_0 rfl hin_X7 (j := 7) (by decide) hk_57 rfl rfl dX7_planWorth_67 ?_
        refine r_callVv C (rest := []) (c_X3_weigh l g ad u S hC hO m0 s0 p0 hm hs hp0 1 (by decide)) gX7_planWorth_X3_weigh pk_X3_weigh k_13 dX7_planWorth_70 rfl rfl rfl rfl ⟨(Nat.le_of_ble_eq_true rfl), (Nat.le_of_ble_eq_true rfl)⟩ rfl rfl (Nat.le_of_ble_eq_true rfl) ⟨(Nat.le_of_ble_eq_true rfl), (Nat.le_of_ble_eq_true rfl)⟩ ?_
        rintro w1 ⟨ht1, hd1, hs1, hC⟩
        refine r_aload_n C 0 dX7_planWorth_73 rfl rfl ?_
        refine r_get C (CN := RX7) (T := TX7) (N := 10) k_0 rfl hin_X7 (j := 7) (by decide) hk_57 rfl rfl dX7_planWorth_74 ?_
        refine r_iload C 4 dX7_planWorth_77 rfl ?_
        refine r_callVl C (rest := []) (c_X4_part l g ad w1 1 (by decide) w0 (by omega)) gX7_planWorth_X4_part pk_X4_part k_33 dX7_planWorth_79 rfl rfl rfl rfl ⟨(Nat.le_of_ble_eq_true rfl), (Nat.le_of_ble_eq_true rfl)⟩ rfl rfl (Nat.le_of_ble_eq_true rfl) ⟨(Nat.le_of_ble_eq_true rfl), (Nat.le_of_ble_eq_true rfl)⟩ ?_
        rintro _ _ ⟨rfl, rfl⟩
        refine r_setL (y := (if w0 = 0 then lI (qN S m0 s0 p0) else lI (qD S m0 s0 p0))) (by rw [ht1, hd1]) ?_
        exact E.2.2.2 rfl _ _ _ _ dX7_planWorth_82 ⟨_, rfl, ⟨by unfold pwoA; rw [cl_nI (show m0 < 2 ^ 31 by omega), ifp_t ⟨⟨m0, hm, rfl, s0, hs, rfl⟩, ⟨w0, hw0, rfl⟩, ⟨p0, hp0, rfl⟩⟩, cl_nI (show s0 < 2 ^ 31 by omega), cl_nI (show w0 < 2 ^ 31 by omega), cl_nI (show p0 < 2 ^ 31 by omega)], hC, (SmC.of hs1 (by decide) (by decide) (by decide) (by decide))⟩⟩
      · refine r_ldc2 C (v := (-1000000000000000)) hk_173 dX7_planWorth_47 ?_
        refine r_setL (y := lI (-1000000000000000)) (by decide) ?_
        exact E.2.2.2 rfl _ _ _ _ dX7_planWorth_50 ⟨_, rfl, ⟨ifp_f (fun q => by first | exact h9 q.1 | exact h19 q.2.1 | exact h44 (by have z := q.2.2; rwa [cl_nI (show m0 < 2 ^ 31 by omega)] at z)) _ _, hC, SmC.rf⟩⟩
    · refine r_ldc2 C (v := (-1000000000000000)) hk_173 dX7_planWorth_22 ?_
      refine r_setL (y := lI (-1000000000000000)) (by decide) ?_
      exact E.2.2.2 rfl _ _ _ _ dX7_planWorth_25 ⟨_, rfl, ⟨ifp_f (fun q => by first | exact h9 q.1 | exact h19 q.2.1 | exact h44 (by have z := q.2.2; rwa [cl_nI (show m0 < 2 ^ 31 by omega)] at z)) _ _, hC, SmC.rf⟩⟩
def rmX7_rest : Room := { frames := 5, cells := 0, slots := 0, locals := 137 }
theorem pk_X7_rest : Pk yX7_rest RX7 2 := by decide +kernel
set_option maxHeartbeats 4000000 in
set_option maxRecDepth 100000 in
theorem c_X7_rest (l : Launch) (g : gE) (ad : Nat → Nat) (u : Me) (S : Sg) (hC : RepC S u) (hO : Ok S) (i j : Int32) : Cti l yX7_rest wsX7_rest rmX7_rest g ad [.ref (ad 0), .int (i), .int (j)] u (fun r u' => resA S i j = r ∧ RepC S u' ∧ SmC u u') := by
  refine Ct.of (cc := cX7_rest) (nL := 3) (ret := (some .int)) RX7 (by decide) rfl rfl (Nat.le_of_ble_eq_true rfl) (fun kx C E => ?_)
  have hin_X7 : ∀ w ∈ u_ws RX7 TX7 10, w ∈ wsX7_rest := by decide +kernel
  have hk_10 : Cond.fieldLink RX7 10 "AgainAgain" "game" "LAgainAgain$Game;" ∈ wsX7_rest := by decide +kernel
  have hk_19 : Cond.fieldLink RX7 19 "AgainAgain" "machines" "LAgainAgain$Machines;" ∈ wsX7_rest := by decide +kernel
  have hk_40 : Cond.fieldLink RX7 40 "AgainAgain" "plans" "LAgainAgain$Plans;" ∈ wsX7_rest := by decide +kernel
  show G kx 0 0 (WW g ad u) 0 [(0, .ref (ad 0)), (1, .int (i)), (2, .int (j))] []
  have hn := hO.n
  refine r_aload_n C 0 dX7_rest_0 rfl rfl ?_
  refine r_iload_n C 1 dX7_rest_1 rfl rfl ?_
  refine r_iload_n C 2 dX7_rest_2 rfl rfl ?_
  refine r_callVi C (rest := []) (c_X7_areMachines l g ad u S hC hO i j) gX7_rest_X7_areMachines pk_X7_areMachines k_0 dX7_rest_3 rfl rfl rfl rfl ⟨(Nat.le_of_ble_eq_true rfl), (Nat.le_of_ble_eq_true rfl)⟩ rfl rfl (Nat.le_of_ble_eq_true rfl) ⟨(Nat.le_of_ble_eq_true rfl), (Nat.le_of_ble_eq_true rfl)⟩ ?_
  rintro _ _ ⟨rfl, rfl⟩
  refine r_ifB_ne C dX7_rest_6 (tgt := 11) (by decide) (fun h6 => ?_) (fun h6 => ?_)
  · obtain ⟨⟨i0, hi, rfl⟩, ⟨j0, hj, rfl⟩⟩ := h6
    refine r_aload_n C 0 dX7_rest_11 rfl rfl ?_
    refine r_get C (CN := RX7) (T := TX7) (N := 10) k_0 rfl hin_X7 (j := 4) (by decide) hk_40 rfl rfl dX7_rest_12 ?_
    refine r_aload_n C 0 dX7_rest_15 rfl rfl ?_
    refine r_get C (CN := RX7) (T := TX7) (N := 10) k_0 rfl hin_X7 (j := 0) (by decide) hk_10 rfl rfl dX7_rest_16 ?_
    refine r_aload_n C 0 dX7_rest_19 rfl rfl ?_
    refine r_get C (CN := RX7) (T := TX7) (N := 10) k_0 rfl hin_X7 (j := 1) (by decide) hk_19 rfl rfl dX7_rest_20 ?_
    refine r_iload_n C 1 dX7_rest_23 rfl rfl ?_
    refine r_iconst C dX7_rest_24 (v := nI 0) (by decide) ?_
    refine r_callVv C (rest := []) (c_X3_learn l g ad u S hC hO i0 0 (by assumption) (hO.z _).1) gX7_rest_X3_learn pk_X3_learn k_13 dX7_rest_25 rfl rfl rfl rfl ⟨(Nat.le_of_ble_eq_true rfl), (Nat.le_of_ble_eq_true rfl)⟩ rfl rfl (Nat.le_of_ble_eq_true rfl) ⟨(Nat.le_of_ble_eq_true rfl), (Nat.le_of_ble_eq_true rfl)⟩ ?_
    rintro ul1 ⟨⟨hla1, hlb1, hlc1⟩, hC⟩
    refine r_aload_n C 0 dX7_rest_28 rfl rfl ?_
    refine r_get C (CN := RX7) (T := TX7) (N := 10) k_0 rfl hin_X7 (j := 4) (by decide) hk_40 rfl rfl dX7_rest_29 ?_
    refine r_aload_n C 0 dX7_rest_32 rfl rfl ?_
    refine r_get C (CN := RX7) (T := TX7) (N := 10) k_0 rfl hin_X7 (j := 0) (by decide) hk_10 rfl rfl dX7_rest_33 ?_
    refine r_aload_n C 0 dX7_rest_36 rfl rfl ?_
    refine r_get C (CN := RX7) (T := TX7) (N := 10) k_0 rfl hin_X7 (j := 1) (by decide) hk_19 rfl rfl dX7_rest_37 ?_
    refine r_iload_n C 2 dX7_rest_40 rfl rfl ?_
    refine r_iconst C dX7_rest_41 (v := nI 0) (by decide) ?_
    refine r_callVv C (rest := []) (c_X3_learn l g ad ul1 S hC hO j0 0 (by assumption) (hO.z _).1) gX7_rest_X3_learn pk_X3_learn k_13 dX7_rest_42 rfl rfl rfl rfl ⟨(Nat.le_of_ble_eq_true rfl), (Nat.le_of_ble_eq_true rfl)⟩ rfl rfl (Nat.le_of_ble_eq_true rfl) ⟨(Nat.le_of_ble_eq_true rfl), (Nat.le_of_ble_eq_true rfl)⟩ ?_
    rintro ul2 ⟨⟨hla2, hlb2, hlc2⟩, hC⟩
    refine r_aload_n C 0 dX7_rest_45 rfl rfl ?_
    refine r_iload_n C 1 dX7_rest_46 rfl rfl ?_
    refine r_iload_n C 2 dX7_rest_47 rfl rfl ?_
    refine r_callVv C (rest := []) (c_X7_takeBothSides l g ad ul2 S hC hO i0 j0 hi hj) gX7_rest_X7_takeBothSides pk_X7_takeBothSides k_0 dX7_rest_48 rfl rfl rfl rfl ⟨(Nat.le_of_ble_eq_true rfl), (Nat.le_of_ble_eq_true rfl)⟩ rfl rfl (Nat.le_of_ble_eq_true rfl) ⟨(Nat.le_of_ble_eq_true rfl), (Nat.le_of_ble_eq_true rfl)⟩ ?_
    rintro b1 ⟨⟨hb1, hb2, hb3⟩, hC⟩
    refine r_aload_n C 0 dX7_rest_51 rfl rfl ?_
    refine r_iload_n C 1 dX7_rest_52 rfl rfl ?_
    refine r_iconst C dX7_rest_53 (v := nI 0) (by decide) ?_
    refine r_iload_n C 2 dX7_rest_54 rfl rfl ?_
    refine r_iconst C dX7_rest_55 (v := nI 0) (by decide) ?_
    have hLi : LRN ul2 S i0 0 (bsP S i0 0) := by
      by_cases z : i0 = j0
      · subst z; exact hla2
      · exact hla1.tbl hlb2 (by omega)
    refine r_callVi C (rest := []) (c_X7_restFrom l g ad b1 S hC hO i0 0 j0 0 hi (hO.z i0).1 hj (hO.z j0).1 ⟨hb1, hb2, hla2.mv (hb3.1 _ (by decide)) (hb3.2.1 _ (by decide)) (hb3.2.1 _ (by decide)), hLi.mv (hb3.1 _ (by decide)) (hb3.2.1 _ (by decide)) (hb3.2.1 _ (by decide))⟩) gX7_rest_X7_restFrom pk_X7_restFrom k_0 dX7_rest_56 rfl rfl rfl rfl ⟨(Nat.le_of_ble_eq_true rfl), (Nat.le_of_ble_eq_true rfl)⟩ rfl rfl (Nat.le_of_ble_eq_true rfl) ⟨(Nat.le_of_ble_eq_true rfl), (Nat.le_of_ble_eq_true rfl)⟩ ?_
    rintro _ f1 ⟨⟨rfl, hf1⟩, hC⟩
    refine r_callSi C (rest := []) (c_X7_oneIf l g ad f1 (restF S i0 0 j0 0)) gX7_rest_X7_oneIf pk_X7_oneIf dX7_rest_59 rfl rfl rfl rfl ⟨(Nat.le_of_ble_eq_true rfl), (Nat.le_of_ble_eq_true rfl)⟩ rfl (Nat.le_of_ble_eq_true rfl) ⟨(Nat.le_of_ble_eq_true rfl), (Nat.le_of_ble_eq_true rfl)⟩ ?_
    rintro _ _ ⟨rfl, rfl⟩
    exact E.2.1 rfl _ _ _ _ dX7_rest_62 ⟨_, rfl, ⟨by unfold resA; rw [ifp_t ⟨⟨i0, hi, rfl⟩, ⟨j0, hj, rfl⟩⟩, cl_nI (show i0 < 2 ^ 31 by omega), cl_nI (show j0 < 2 ^ 31 by omega)], hC, (((SmC.of hlc1 (by decide) (by decide) (by decide) (by decide)).tr (SmC.of hlc2 (by decide) (by decide) (by decide) (by decide))).tr (SmC.of hb3 (by decide) (by decide) (by decide) (by decide))).tr (SmC.of hf1 (by decide) (by decide) (by decide) (by decide))⟩⟩
  · refine r_iconst C dX7_rest_9 (v := (-1)) (by decide) ?_
    exact E.2.1 rfl _ _ _ _ dX7_rest_10 ⟨_, rfl, ⟨ifp_f h6 _ _, hC, SmC.rf⟩⟩
def rmX7_everywhere : Room := { frames := 6, cells := 0, slots := 0, locals := 161 }
theorem pk_X7_everywhere : Pk yX7_everywhere RX7 2 := by decide +kernel
set_option maxHeartbeats 4000000 in
set_option maxRecDepth 100000 in
theorem c_X7_everywhere (l : Launch) (g : gE) (ad : Nat → Nat) (u : Me) (S : Sg) (hC : RepC S u) (hO : Ok S) (i j : Int32) : Cti l yX7_everywhere wsX7_everywhere rmX7_everywhere g ad [.ref (ad 0), .int (i), .int (j)] u (fun r u' => eveA S i j = r ∧ RepC S u' ∧ SmC u u') := by
  refine Ct.of (cc := cX7_everywhere) (nL := 3) (ret := (some .int)) RX7 (by decide) rfl rfl (Nat.le_of_ble_eq_true rfl) (fun kx C E => ?_)
  have hin_X7 : ∀ w ∈ u_ws RX7 TX7 10, w ∈ wsX7_everywhere := by decide +kernel
  have hk_10 : Cond.fieldLink RX7 10 "AgainAgain" "game" "LAgainAgain$Game;" ∈ wsX7_everywhere := by decide +kernel
  have hk_19 : Cond.fieldLink RX7 19 "AgainAgain" "machines" "LAgainAgain$Machines;" ∈ wsX7_everywhere := by decide +kernel
  have hk_40 : Cond.fieldLink RX7 40 "AgainAgain" "plans" "LAgainAgain$Plans;" ∈ wsX7_everywhere := by decide +kernel
  show G kx 0 0 (WW g ad u) 0 [(0, .ref (ad 0)), (1, .int (i)), (2, .int (j))] []
  have hn := hO.n
  refine r_aload_n C 0 dX7_everywhere_0 rfl rfl ?_
  refine r_iload_n C 1 dX7_everywhere_1 rfl rfl ?_
  refine r_iload_n C 2 dX7_everywhere_2 rfl rfl ?_
  refine r_callVi C (rest := []) (c_X7_areMachines l g ad u S hC hO i j) gX7_everywhere_X7_areMachines pk_X7_areMachines k_0 dX7_everywhere_3 rfl rfl rfl rfl ⟨(Nat.le_of_ble_eq_true rfl), (Nat.le_of_ble_eq_true rfl)⟩ rfl rfl (Nat.le_of_ble_eq_true rfl) ⟨(Nat.le_of_ble_eq_true rfl), (Nat.le_of_ble_eq_true rfl)⟩ ?_
  rintro _ _ ⟨rfl, rfl⟩
  refine r_ifB_ne C dX7_everywhere_6 (tgt := 11) (by decide) (fun h6 => ?_) (fun h6 => ?_)
  · obtain ⟨⟨i0, hi, rfl⟩, ⟨j0, hj, rfl⟩⟩ := h6
    refine r_aload_n C 0 dX7_everywhere_11 rfl rfl ?_
    refine r_get C (CN := RX7) (T := TX7) (N := 10) k_0 rfl hin_X7 (j := 4) (by decide) hk_40 rfl rfl dX7_everywhere_12 ?_
    refine r_aload_n C 0 dX7_everywhere_15 rfl rfl ?_
    refine r_get C (CN := RX7) (T := TX7) (N := 10) k_0 rfl hin_X7 (j := 0) (by decide) hk_10 rfl rfl dX7_everywhere_16 ?_
    refine r_aload_n C 0 dX7_everywhere_19 rfl rfl ?_
    refine r_get C (CN := RX7) (T := TX7) (N := 10) k_0 rfl hin_X7 (j := 1) (by decide) hk_19 rfl rfl dX7_everywhere_20 ?_
    refine r_iload_n C 1 dX7_everywhere_23 rfl rfl ?_
    refine r_callVv C (rest := []) (c_X3_learnAll l g ad u S hC hO i0 (by assumption)) gX7_everywhere_X3_learnAll pk_X3_learnAll k_13 dX7_everywhere_24 rfl rfl rfl rfl ⟨(Nat.le_of_ble_eq_true rfl), (Nat.le_of_ble_eq_true rfl)⟩ rfl rfl (Nat.le_of_ble_eq_true rfl) ⟨(Nat.le_of_ble_eq_true rfl), (Nat.le_of_ble_eq_true rfl)⟩ ?_
    rintro ul1 ⟨⟨hla1, hlb1, hlc1⟩, hC⟩
    refine r_aload_n C 0 dX7_everywhere_27 rfl rfl ?_
    refine r_get C (CN := RX7) (T := TX7) (N := 10) k_0 rfl hin_X7 (j := 4) (by decide) hk_40 rfl rfl dX7_everywhere_28 ?_
    refine r_aload_n C 0 dX7_everywhere_31 rfl rfl ?_
    refine r_get C (CN := RX7) (T := TX7) (N := 10) k_0 rfl hin_X7 (j := 0) (by decide) hk_10 rfl rfl dX7_everywhere_32 ?_
    refine r_aload_n C 0 dX7_everywhere_35 rfl rfl ?_
    refine r_get C (CN := RX7) (T := TX7) (N := 10) k_0 rfl hin_X7 (j := 1) (by decide) hk_19 rfl rfl dX7_everywhere_36 ?_
    refine r_iload_n C 2 dX7_everywhere_39 rfl rfl ?_
    refine r_callVv C (rest := []) (c_X3_learnAll l g ad ul1 S hC hO j0 (by assumption)) gX7_everywhere_X3_learnAll pk_X3_learnAll k_13 dX7_everywhere_40 rfl rfl rfl rfl ⟨(Nat.le_of_ble_eq_true rfl), (Nat.le_of_ble_eq_true rfl)⟩ rfl rfl (Nat.le_of_ble_eq_true rfl) ⟨(Nat.le_of_ble_eq_true rfl), (Nat.le_of_ble_eq_true rfl)⟩ ?_
    rintro ul2 ⟨⟨hla2, hlb2, hlc2⟩, hC⟩
    refine r_aload_n C 0 dX7_everywhere_43 rfl rfl ?_
    refine r_iload_n C 1 dX7_everywhere_44 rfl rfl ?_
    refine r_iload_n C 2 dX7_everywhere_45 rfl rfl ?_
    refine r_callVv C (rest := []) (c_X7_takeBothSides l g ad ul2 S hC hO i0 j0 hi hj) gX7_everywhere_X7_takeBothSides pk_X7_takeBothSides k_0 dX7_everywhere_46 rfl rfl rfl rfl ⟨(Nat.le_of_ble_eq_true rfl), (Nat.le_of_ble_eq_true rfl)⟩ rfl rfl (Nat.le_of_ble_eq_true rfl) ⟨(Nat.le_of_ble_eq_true rfl), (Nat.le_of_ble_eq_true rfl)⟩ ?_
    rintro b1 ⟨⟨hb1, hb2, hb3⟩, hC⟩
    refine r_aload_n C 0 dX7_everywhere_49 rfl rfl ?_
    refine r_iload_n C 1 dX7_everywhere_50 rfl rfl ?_
    refine r_iload_n C 2 dX7_everywhere_51 rfl rfl ?_
    have hLi : ∀ s, s < sz S i0 → LRN ul2 S i0 s (bsP S i0 s) := by
      intro s hs
      by_cases z : i0 = j0
      · subst z; exact hla2 s hs
      · have hz4 := (hO.z i0).2
        obtain ⟨e1, e2, e3⟩ := hlb2 (i0 * 4 + s) (by omega)
        have q := hla1 s hs
        exact ⟨e1.trans q.1, e2.trans q.2.1, e3.trans q.2.2⟩
    have hall : ∀ s t, s < sz S i0 → t < sz S j0 → RDY b1 S i0 j0 s t := fun s t hs ht => ⟨hb1, hb2, (hla2 t ht).mv (hb3.1 _ (by decide)) (hb3.2.1 _ (by decide)) (hb3.2.1 _ (by decide)), (hLi s hs).mv (hb3.1 _ (by decide)) (hb3.2.1 _ (by decide)) (hb3.2.1 _ (by decide))⟩
    refine r_callVi C (rest := []) (c_X7_firstUnrest l g ad b1 S hC hO i0 j0 hi hj hall) gX7_everywhere_X7_firstUnrest pk_X7_firstUnrest k_0 dX7_everywhere_52 rfl rfl rfl rfl ⟨(Nat.le_of_ble_eq_true rfl), (Nat.le_of_ble_eq_true rfl)⟩ rfl rfl (Nat.le_of_ble_eq_true rfl) ⟨(Nat.le_of_ble_eq_true rfl), (Nat.le_of_ble_eq_true rfl)⟩ ?_
    rintro fr f1 ⟨⟨hfr, hf1⟩, hC⟩
    refine r_if_ge C dX7_everywhere_55 (tgt := 62) (by decide) (fun h55 => ?_) (fun h55 => ?_)
    · have hus : ∃ p : Nat, unr S i0 j0 = some p ∧ fr = nI p := by
        rcases hq : unr S i0 j0 with _ | p
        · rw [hq] at hfr; rw [← hfr] at h55; exact absurd h55 (by decide)
        · rw [hq] at hfr; exact ⟨p, rfl, hfr.symm⟩
      obtain ⟨p0, hu, rfl⟩ := hus
      have hpv := unr_V hu
      have hp16 := VP_16 hO hpv.1
      refine r_iconst C dX7_everywhere_62 (v := nI 0) (by decide) ?_
      refine r_setI (y := bI False) ((bF id).symm) ?_
      refine r_callSi C (rest := []) (c_X7_oneIf l g ad f1 False) gX7_everywhere_X7_oneIf pk_X7_oneIf dX7_everywhere_63 rfl rfl rfl rfl ⟨(Nat.le_of_ble_eq_true rfl), (Nat.le_of_ble_eq_true rfl)⟩ rfl (Nat.le_of_ble_eq_true rfl) ⟨(Nat.le_of_ble_eq_true rfl), (Nat.le_of_ble_eq_true rfl)⟩ ?_
      rintro _ _ ⟨rfl, rfl⟩
      exact E.2.1 rfl _ _ _ _ dX7_everywhere_66 ⟨_, rfl, ⟨by unfold eveA; rw [ifp_t ⟨⟨i0, hi, rfl⟩, ⟨j0, hj, rfl⟩⟩, cl_nI (show i0 < 2 ^ 31 by omega), cl_nI (show j0 < 2 ^ 31 by omega), hu]; exact (bF id).symm, hC, (((SmC.of hlc1 (by decide) (by decide) (by decide) (by decide)).tr (SmC.of hlc2 (by decide) (by decide) (by decide) (by decide))).tr (SmC.of hb3 (by decide) (by decide) (by decide) (by decide))).tr (SmC.of hf1 (by decide) (by decide) (by decide) (by decide))⟩⟩
    · have hun : unr S i0 j0 = none := by
        rcases hq : unr S i0 j0 with _ | p
        · rfl
        · rw [hq] at hfr; have hp16 := VP_16 hO (unr_V hq).1; exact absurd (by rw [← hfr]; exact nI_pos' (by omega)) h55
      refine r_iconst C dX7_everywhere_58 (v := nI 1) (by decide) ?_
      refine r_goto C dX7_everywhere_59 (tgt := 63) (by decide) ?_
      refine r_setI (y := bI True) ((bT trivial).symm) ?_
      refine r_callSi C (rest := []) (c_X7_oneIf l g ad f1 True) gX7_everywhere_X7_oneIf pk_X7_oneIf dX7_everywhere_63 rfl rfl rfl rfl ⟨(Nat.le_of_ble_eq_true rfl), (Nat.le_of_ble_eq_true rfl)⟩ rfl (Nat.le_of_ble_eq_true rfl) ⟨(Nat.le_of_ble_eq_true rfl), (Nat.le_of_ble_eq_true rfl)⟩ ?_
      rintro _ _ ⟨rfl, rfl⟩
      exact E.2.1 rfl _ _ _ _ dX7_everywhere_66 ⟨_, rfl, ⟨by unfold eveA; rw [ifp_t ⟨⟨i0, hi, rfl⟩, ⟨j0, hj, rfl⟩⟩, cl_nI (show i0 < 2 ^ 31 by omega), cl_nI (show j0 < 2 ^ 31 by omega), hun]; exact (bT trivial).symm, hC, (((SmC.of hlc1 (by decide) (by decide) (by decide) (by decide)).tr (SmC.of hlc2 (by decide) (by decide) (by decide) (by decide))).tr (SmC.of hb3 (by decide) (by decide) (by decide) (by decide))).tr (SmC.of hf1 (by decide) (by decide) (by decide) (by decide))⟩⟩
  · refine r_iconst C dX7_everywhere_9 (v := (-1)) (by decide) ?_
    exact E.2.1 rfl _ _ _ _ dX7_everywhere_10 ⟨_, rfl, ⟨ifp_f h6 _ _, hC, SmC.rf⟩⟩
def rmX7_deviation : Room := { frames := 6, cells := 0, slots := 0, locals := 161 }
theorem pk_X7_deviation : Pk yX7_deviation RX7 3 := by decide +kernel
set_option maxHeartbeats 4000000 in
set_option maxRecDepth 100000 in
theorem c_X7_deviation (l : Launch) (g : gE) (ad : Nat → Nat) (u : Me) (S : Sg) (hC : RepC S u) (hO : Ok S) (i j w : Int32) : Cti l yX7_deviation wsX7_deviation rmX7_deviation g ad [.ref (ad 0), .int (i), .int (j), .int (w)] u (fun r u' => devA S i j w = r ∧ RepC S u' ∧ SmC u u') := by
  refine Ct.of (cc := cX7_deviation) (nL := 5) (ret := (some .int)) RX7 (by decide) rfl rfl (Nat.le_of_ble_eq_true rfl) (fun kx C E => ?_)
  have hin_X7 : ∀ w ∈ u_ws RX7 TX7 10, w ∈ wsX7_deviation := by decide +kernel
  have hk_10 : Cond.fieldLink RX7 10 "AgainAgain" "game" "LAgainAgain$Game;" ∈ wsX7_deviation := by decide +kernel
  have hk_19 : Cond.fieldLink RX7 19 "AgainAgain" "machines" "LAgainAgain$Machines;" ∈ wsX7_deviation := by decide +kernel
  have hk_40 : Cond.fieldLink RX7 40 "AgainAgain" "plans" "LAgainAgain$Plans;" ∈ wsX7_deviation := by decide +kernel
  show G kx 0 0 (WW g ad u) 0 [(0, .ref (ad 0)), (1, .int (i)), (2, .int (j)), (3, .int (w))] []
  have hn := hO.n
  refine r_aload_n C 0 dX7_deviation_0 rfl rfl ?_
  refine r_iload_n C 1 dX7_deviation_1 rfl rfl ?_
  refine r_iload_n C 2 dX7_deviation_2 rfl rfl ?_
  refine r_callVi C (rest := []) (c_X7_areMachines l g ad u S hC hO i j) gX7_deviation_X7_areMachines pk_X7_areMachines k_0 dX7_deviation_3 rfl rfl rfl rfl ⟨(Nat.le_of_ble_eq_true rfl), (Nat.le_of_ble_eq_true rfl)⟩ rfl rfl (Nat.le_of_ble_eq_true rfl) ⟨(Nat.le_of_ble_eq_true rfl), (Nat.le_of_ble_eq_true rfl)⟩ ?_
  rintro _ _ ⟨rfl, rfl⟩
  refine r_ifB_eq C dX7_deviation_6 (tgt := 18) (by decide) (fun h6 => ?_) (fun h6 => ?_)
  · refine r_iconst C dX7_deviation_18 (v := (-1)) (by decide) ?_
    exact E.2.1 rfl _ _ _ _ dX7_deviation_19 ⟨_, rfl, ⟨ifp_f (fun q => by first | exact h6 ⟨q.1, q.2.1⟩ | exact h15 q.2.2) _ _, hC, SmC.rf⟩⟩
  · obtain ⟨⟨i0, hi, rfl⟩, ⟨j0, hj, rfl⟩⟩ := h6
    refine r_iload_n C 3 dX7_deviation_9 rfl rfl ?_
    refine r_iconst C dX7_deviation_10 (v := nI 0) (by decide) ?_
    refine r_iconst C dX7_deviation_11 (v := nI 2) (by decide) ?_
    refine r_callSi C (rest := []) (c_X7_within l g ad u w (nI 0) (nI 2)) gX7_deviation_X7_within pk_X7_within dX7_deviation_12 rfl rfl rfl rfl ⟨(Nat.le_of_ble_eq_true rfl), (Nat.le_of_ble_eq_true rfl)⟩ rfl (Nat.le_of_ble_eq_true rfl) ⟨(Nat.le_of_ble_eq_true rfl), (Nat.le_of_ble_eq_true rfl)⟩ ?_
    rintro _ _ ⟨rfl, rfl⟩
    refine r_setI (y := (bI (isR 3 w))) (bI_iff (isR_iff (n := 2) (by decide))) ?_
    refine r_ifB_ne C dX7_deviation_15 (tgt := 20) (by decide) (fun h15 => ?_) (fun h15 => ?_)
    · obtain ⟨w0, hw0, rfl⟩ := h15
      refine r_aload_n C 0 dX7_deviation_20 rfl rfl ?_
      refine r_get C (CN := RX7) (T := TX7) (N := 10) k_0 rfl hin_X7 (j := 4) (by decide) hk_40 rfl rfl dX7_deviation_21 ?_
      refine r_aload_n C 0 dX7_deviation_24 rfl rfl ?_
      refine r_get C (CN := RX7) (T := TX7) (N := 10) k_0 rfl hin_X7 (j := 0) (by decide) hk_10 rfl rfl dX7_deviation_25 ?_
      refine r_aload_n C 0 dX7_deviation_28 rfl rfl ?_
      refine r_get C (CN := RX7) (T := TX7) (N := 10) k_0 rfl hin_X7 (j := 1) (by decide) hk_19 rfl rfl dX7_deviation_29 ?_
      refine r_iload_n C 1 dX7_deviation_32 rfl rfl ?_
      refine r_callVv C (rest := []) (c_X3_learnAll l g ad u S hC hO i0 (by assumption)) gX7_deviation_X3_learnAll pk_X3_learnAll k_13 dX7_deviation_33 rfl rfl rfl rfl ⟨(Nat.le_of_ble_eq_true rfl), (Nat.le_of_ble_eq_true rfl)⟩ rfl rfl (Nat.le_of_ble_eq_true rfl) ⟨(Nat.le_of_ble_eq_true rfl), (Nat.le_of_ble_eq_true rfl)⟩ ?_
      rintro ul1 ⟨⟨hla1, hlb1, hlc1⟩, hC⟩
      refine r_aload_n C 0 dX7_deviation_36 rfl rfl ?_
      refine r_get C (CN := RX7) (T := TX7) (N := 10) k_0 rfl hin_X7 (j := 4) (by decide) hk_40 rfl rfl dX7_deviation_37 ?_
      refine r_aload_n C 0 dX7_deviation_40 rfl rfl ?_
      refine r_get C (CN := RX7) (T := TX7) (N := 10) k_0 rfl hin_X7 (j := 0) (by decide) hk_10 rfl rfl dX7_deviation_41 ?_
      refine r_aload_n C 0 dX7_deviation_44 rfl rfl ?_
      refine r_get C (CN := RX7) (T := TX7) (N := 10) k_0 rfl hin_X7 (j := 1) (by decide) hk_19 rfl rfl dX7_deviation_45 ?_
      refine r_iload_n C 2 dX7_deviation_48 rfl rfl ?_
      refine r_callVv C (rest := []) (c_X3_learnAll l g ad ul1 S hC hO j0 (by assumption)) gX7_deviation_X3_learnAll pk_X3_learnAll k_13 dX7_deviation_49 rfl rfl rfl rfl ⟨(Nat.le_of_ble_eq_true rfl), (Nat.le_of_ble_eq_true rfl)⟩ rfl rfl (Nat.le_of_ble_eq_true rfl) ⟨(Nat.le_of_ble_eq_true rfl), (Nat.le_of_ble_eq_true rfl)⟩ ?_
      rintro ul2 ⟨⟨hla2, hlb2, hlc2⟩, hC⟩
      refine r_aload_n C 0 dX7_deviation_52 rfl rfl ?_
      refine r_iload_n C 1 dX7_deviation_53 rfl rfl ?_
      refine r_iload_n C 2 dX7_deviation_54 rfl rfl ?_
      refine r_callVv C (rest := []) (c_X7_takeBothSides l g ad ul2 S hC hO i0 j0 hi hj) gX7_deviation_X7_takeBothSides pk_X7_takeBothSides k_0 dX7_deviation_55 rfl rfl rfl rfl ⟨(Nat.le_of_ble_eq_true rfl), (Nat.le_of_ble_eq_true rfl)⟩ rfl rfl (Nat.le_of_ble_eq_true rfl) ⟨(Nat.le_of_ble_eq_true rfl), (Nat.le_of_ble_eq_true rfl)⟩ ?_
      rintro b1 ⟨⟨hb1, hb2, hb3⟩, hC⟩
      refine r_aload_n C 0 dX7_deviation_58 rfl rfl ?_
      refine r_iload_n C 1 dX7_deviation_59 rfl rfl ?_
      refine r_iload_n C 2 dX7_deviation_60 rfl rfl ?_
      have hLi : ∀ s, s < sz S i0 → LRN ul2 S i0 s (bsP S i0 s) := by
        intro s hs
        by_cases z : i0 = j0
        · subst z; exact hla2 s hs
        · have hz4 := (hO.z i0).2
          obtain ⟨e1, e2, e3⟩ := hlb2 (i0 * 4 + s) (by omega)
          have q := hla1 s hs
          exact ⟨e1.trans q.1, e2.trans q.2.1, e3.trans q.2.2⟩
      have hall : ∀ s t, s < sz S i0 → t < sz S j0 → RDY b1 S i0 j0 s t := fun s t hs ht => ⟨hb1, hb2, (hla2 t ht).mv (hb3.1 _ (by decide)) (hb3.2.1 _ (by decide)) (hb3.2.1 _ (by decide)), (hLi s hs).mv (hb3.1 _ (by decide)) (hb3.2.1 _ (by decide)) (hb3.2.1 _ (by decide))⟩
      refine r_callVi C (rest := []) (c_X7_firstUnrest l g ad b1 S hC hO i0 j0 hi hj hall) gX7_deviation_X7_firstUnrest pk_X7_firstUnrest k_0 dX7_deviation_61 rfl rfl rfl rfl ⟨(Nat.le_of_ble_eq_true rfl), (Nat.le_of_ble_eq_true rfl)⟩ rfl rfl (Nat.le_of_ble_eq_true rfl) ⟨(Nat.le_of_ble_eq_true rfl), (Nat.le_of_ble_eq_true rfl)⟩ ?_
      rintro fr f1 ⟨⟨hfr, hf1⟩, hC⟩
      refine r_istore C [(0, .ref (ad 0)), (1, .int (nI (i0))), (2, .int (nI (j0))), (3, .int (nI (w0))), (4, .int (fr))] [1, 2, 3, 4, 0] dX7_deviation_64 (by decide) rfl ?_
      refine r_iload C 4 dX7_deviation_66 rfl ?_
      refine r_if_ge C dX7_deviation_68 (tgt := 74) (by decide) (fun h68 => ?_) (fun h68 => ?_)
      · have hus : ∃ p : Nat, unr S i0 j0 = some p ∧ fr = nI p := by
          rcases hq : unr S i0 j0 with _ | p
          · rw [hq] at hfr; rw [← hfr] at h68; exact absurd h68 (by decide)
          · rw [hq] at hfr; exact ⟨p, rfl, hfr.symm⟩
        obtain ⟨p0, hu, rfl⟩ := hus
        have hpv := unr_V hu
        have hp16 := VP_16 hO hpv.1
        refine r_iload_n C 3 dX7_deviation_74 rfl rfl ?_
        refine r_ifN_ne C dX7_deviation_75 (tgt := 83) (by decide) (by omega) (fun h75 => ?_) (fun h75 => ?_)
        · refine r_aload_n C 0 dX7_deviation_83 rfl rfl ?_
          refine r_iload_n C 1 dX7_deviation_84 rfl rfl ?_
          refine r_iload C 4 dX7_deviation_85 rfl ?_
          refine r_callSi C (rest := [.int (nI (i0)), .ref (ad 0)]) (c_X6_mine l g ad f1 p0 (by omega)) gX7_deviation_X6_mine pk_X6_mine dX7_deviation_87 rfl rfl rfl rfl ⟨(Nat.le_of_ble_eq_true rfl), (Nat.le_of_ble_eq_true rfl)⟩ rfl (Nat.le_of_ble_eq_true rfl) ⟨(Nat.le_of_ble_eq_true rfl), (Nat.le_of_ble_eq_true rfl)⟩ ?_
          rintro _ _ ⟨rfl, rfl⟩
          refine r_iload_n C 2 dX7_deviation_90 rfl rfl ?_
          refine r_iload C 4 dX7_deviation_91 rfl ?_
          refine r_callSi C (rest := [.int (nI (j0)), .int (nI (p0 / 4)), .int (nI (i0)), .ref (ad 0)]) (c_X6_theirs l g ad f1 p0 (by omega)) gX7_deviation_X6_theirs pk_X6_theirs dX7_deviation_93 rfl rfl rfl rfl ⟨(Nat.le_of_ble_eq_true rfl), (Nat.le_of_ble_eq_true rfl)⟩ rfl (Nat.le_of_ble_eq_true rfl) ⟨(Nat.le_of_ble_eq_true rfl), (Nat.le_of_ble_eq_true rfl)⟩ ?_
          rintro _ _ ⟨rfl, rfl⟩
          refine r_iload_n C 3 dX7_deviation_96 rfl rfl ?_
          refine r_callVi C (rest := []) (c_X7_deviationFrom l g ad f1 S hC hO i0 (p0 / 4) j0 (p0 % 4) hi hpv.1.1 hj hpv.1.2 ((hall _ _ hpv.1.1 hpv.1.2).mv hf1) w0 (by omega)) gX7_deviation_X7_deviationFrom pk_X7_deviationFrom k_0 dX7_deviation_97 rfl rfl rfl rfl ⟨(Nat.le_of_ble_eq_true rfl), (Nat.le_of_ble_eq_true rfl)⟩ rfl rfl (Nat.le_of_ble_eq_true rfl) ⟨(Nat.le_of_ble_eq_true rfl), (Nat.le_of_ble_eq_true rfl)⟩ ?_
          rintro _ d1 ⟨⟨rfl, hd1⟩, hC⟩
          exact E.2.1 rfl _ _ _ _ dX7_deviation_100 ⟨_, rfl, ⟨by unfold devA; rw [ifp_t ⟨⟨i0, hi, rfl⟩, ⟨j0, hj, rfl⟩, ⟨w0, hw0, rfl⟩⟩, cl_nI (show i0 < 2 ^ 31 by omega), cl_nI (show j0 < 2 ^ 31 by omega), cl_nI (show w0 < 2 ^ 31 by omega)]; unfold devN; rw [hu]; refine (if_neg h75).trans ?_; rw [show 4 * (p0 / 4) + p0 % 4 = p0 by omega], hC, ((((SmC.of hlc1 (by decide) (by decide) (by decide) (by decide)).tr (SmC.of hlc2 (by decide) (by decide) (by decide) (by decide))).tr (SmC.of hb3 (by decide) (by decide) (by decide) (by decide))).tr (SmC.of hf1 (by decide) (by decide) (by decide) (by decide))).tr (SmC.of hd1 (by decide) (by decide) (by decide) (by decide))⟩⟩
        · refine r_iload C 4 dX7_deviation_78 rfl ?_
          refine r_goto C dX7_deviation_80 (tgt := 100) (by decide) ?_
          exact E.2.1 rfl _ _ _ _ dX7_deviation_100 ⟨_, rfl, ⟨by unfold devA; rw [ifp_t ⟨⟨i0, hi, rfl⟩, ⟨j0, hj, rfl⟩, ⟨w0, hw0, rfl⟩⟩, cl_nI (show i0 < 2 ^ 31 by omega), cl_nI (show j0 < 2 ^ 31 by omega), cl_nI (show w0 < 2 ^ 31 by omega)]; unfold devN; rw [hu]; exact if_pos h75, hC, (((SmC.of hlc1 (by decide) (by decide) (by decide) (by decide)).tr (SmC.of hlc2 (by decide) (by decide) (by decide) (by decide))).tr (SmC.of hb3 (by decide) (by decide) (by decide) (by decide))).tr (SmC.of hf1 (by decide) (by decide) (by decide) (by decide))⟩⟩
      · have hun : unr S i0 j0 = none := by
          rcases hq : unr S i0 j0 with _ | p
          · rfl
          · rw [hq] at hfr; have hp16 := VP_16 hO (unr_V hq).1; exact absurd (by rw [← hfr]; exact nI_pos' (by omega)) h68
        refine r_bipush C dX7_deviation_71 (v := (-4)) (by decide) ?_
        exact E.2.1 rfl _ _ _ _ dX7_deviation_73 ⟨_, rfl, ⟨by unfold devA; rw [ifp_t ⟨⟨i0, hi, rfl⟩, ⟨j0, hj, rfl⟩, ⟨w0, hw0, rfl⟩⟩, cl_nI (show i0 < 2 ^ 31 by omega), cl_nI (show j0 < 2 ^ 31 by omega), cl_nI (show w0 < 2 ^ 31 by omega)]; unfold devN; rw [hun], hC, (((SmC.of hlc1 (by decide) (by decide) (by decide) (by decide)).tr (SmC.of hlc2 (by decide) (by decide) (by decide) (by decide))).tr (SmC.of hb3 (by decide) (by decide) (by decide) (by decide))).tr (SmC.of hf1 (by decide) (by decide) (by decide) (by decide))⟩⟩
    · refine r_iconst C dX7_deviation_18 (v := (-1)) (by decide) ?_
      exact E.2.1 rfl _ _ _ _ dX7_deviation_19 ⟨_, rfl, ⟨ifp_f (fun q => by first | exact h6 ⟨q.1, q.2.1⟩ | exact h15 q.2.2) _ _, hC, SmC.rf⟩⟩
def rmX7_resists : Room := { frames := 6, cells := 0, slots := 0, locals := 156 }
theorem pk_X7_resists : Pk yX7_resists RX7 2 := by decide +kernel
set_option maxHeartbeats 4000000 in
set_option maxRecDepth 100000 in
theorem c_X7_resists (l : Launch) (g : gE) (ad : Nat → Nat) (u : Me) (S : Sg) (hC : RepC S u) (hO : Ok S) (j i : Int32) : Cti l yX7_resists wsX7_resists rmX7_resists g ad [.ref (ad 0), .int (j), .int (i)] u (fun r u' => rsiA S j i = r ∧ RepC S u' ∧ SmC u u') := by
  refine Ct.of (cc := cX7_resists) (nL := 3) (ret := (some .int)) RX7 (by decide) rfl rfl (Nat.le_of_ble_eq_true rfl) (fun kx C E => ?_)
  show G kx 0 0 (WW g ad u) 0 [(0, .ref (ad 0)), (1, .int (j)), (2, .int (i))] []
  have hn := hO.n
  refine r_aload_n C 0 dX7_resists_0 rfl rfl ?_
  refine r_iload_n C 2 dX7_resists_1 rfl rfl ?_
  refine r_iload_n C 1 dX7_resists_2 rfl rfl ?_
  refine r_callVi C (rest := []) (c_X7_areMachines l g ad u S hC hO i j) gX7_resists_X7_areMachines pk_X7_areMachines k_0 dX7_resists_3 rfl rfl rfl rfl ⟨(Nat.le_of_ble_eq_true rfl), (Nat.le_of_ble_eq_true rfl)⟩ rfl rfl (Nat.le_of_ble_eq_true rfl) ⟨(Nat.le_of_ble_eq_true rfl), (Nat.le_of_ble_eq_true rfl)⟩ ?_
  rintro _ _ ⟨rfl, rfl⟩
  refine r_ifB_eq C dX7_resists_6 (tgt := 14) (by decide) (fun h6 => ?_) (fun h6 => ?_)
  · refine r_iconst C dX7_resists_14 (v := (-1)) (by decide) ?_
    exact E.2.1 rfl _ _ _ _ dX7_resists_15 ⟨_, rfl, ⟨ifp_f (fun q => by first | exact h6 ⟨q.1, q.2.1⟩ | exact q.2.2 (by rw [h11])) _ _, hC, SmC.rf⟩⟩
  · obtain ⟨⟨i0, hi, rfl⟩, ⟨j0, hj, rfl⟩⟩ := h6
    refine r_iload_n C 2 dX7_resists_9 rfl rfl ?_
    refine r_iload_n C 1 dX7_resists_10 rfl rfl ?_
    refine r_icmpN_ne C dX7_resists_11 (tgt := 16) (by decide) (by omega) (by omega) (fun h11 => ?_) (fun h11 => ?_)
    · refine r_aload_n C 0 dX7_resists_16 rfl rfl ?_
      refine r_iload_n C 1 dX7_resists_17 rfl rfl ?_
      refine r_iload_n C 2 dX7_resists_18 rfl rfl ?_
      refine r_callVi C (rest := []) (c_X7_withstands l g ad u S hC hO j0 i0 (by assumption) (by assumption)) gX7_resists_X7_withstands pk_X7_withstands k_0 dX7_resists_19 rfl rfl rfl rfl ⟨(Nat.le_of_ble_eq_true rfl), (Nat.le_of_ble_eq_true rfl)⟩ rfl rfl (Nat.le_of_ble_eq_true rfl) ⟨(Nat.le_of_ble_eq_true rfl), (Nat.le_of_ble_eq_true rfl)⟩ ?_
      rintro _ w1 ⟨⟨rfl, hw1⟩, hC⟩
      refine r_callSi C (rest := []) (c_X7_oneIf l g ad w1 (withP S j0 i0)) gX7_resists_X7_oneIf pk_X7_oneIf dX7_resists_22 rfl rfl rfl rfl ⟨(Nat.le_of_ble_eq_true rfl), (Nat.le_of_ble_eq_true rfl)⟩ rfl (Nat.le_of_ble_eq_true rfl) ⟨(Nat.le_of_ble_eq_true rfl), (Nat.le_of_ble_eq_true rfl)⟩ ?_
      rintro _ _ ⟨rfl, rfl⟩
      exact E.2.1 rfl _ _ _ _ dX7_resists_25 ⟨_, rfl, ⟨by unfold rsiA; rw [ifp_t ⟨⟨i0, hi, rfl⟩, ⟨j0, hj, rfl⟩, fun z => h11 ((nI_eq (by omega) (by omega)).mp z)⟩, cl_nI (show i0 < 2 ^ 31 by omega), cl_nI (show j0 < 2 ^ 31 by omega)], hC, (SmC.of hw1 (by decide) (by decide) (by decide) (by decide))⟩⟩
    · refine r_iconst C dX7_resists_14 (v := (-1)) (by decide) ?_
      exact E.2.1 rfl _ _ _ _ dX7_resists_15 ⟨_, rfl, ⟨ifp_f (fun q => by first | exact h6 ⟨q.1, q.2.1⟩ | exact q.2.2 (by rw [h11])) _ _, hC, SmC.rf⟩⟩
def rmX7_invaders : Room := { frames := 6, cells := 0, slots := 0, locals := 156 }
theorem pk_X7_invaders : Pk yX7_invaders RX7 1 := by decide +kernel
set_option maxHeartbeats 4000000 in
set_option maxRecDepth 100000 in
theorem c_X7_invaders (l : Launch) (g : gE) (ad : Nat → Nat) (u : Me) (S : Sg) (hC : RepC S u) (hO : Ok S) (j : Int32) : Cti l yX7_invaders wsX7_invaders rmX7_invaders g ad [.ref (ad 0), .int (j)] u (fun r u' => invA S j = r ∧ RepC S u' ∧ SmC u u') := by
  refine Ct.of (cc := cX7_invaders) (nL := 4) (ret := (some .int)) RX7 (by decide) rfl rfl (Nat.le_of_ble_eq_true rfl) (fun kx C E => ?_)
  have hin_X7 : ∀ w ∈ u_ws RX7 TX7 10, w ∈ wsX7_invaders := by decide +kernel
  have hk_19 : Cond.fieldLink RX7 19 "AgainAgain" "machines" "LAgainAgain$Machines;" ∈ wsX7_invaders := by decide +kernel
  show G kx 0 0 (WW g ad u) 0 [(0, .ref (ad 0)), (1, .int (j))] []
  have hn := hO.n
  refine r_aload_n C 0 dX7_invaders_0 rfl rfl ?_
  refine r_get C (CN := RX7) (T := TX7) (N := 10) k_0 rfl hin_X7 (j := 1) (by decide) hk_19 rfl rfl dX7_invaders_1 ?_
  refine r_iload_n C 1 dX7_invaders_4 rfl rfl ?_
  refine r_callVi C (rest := []) (c_X2_has l g ad u S hC hO j) gX7_invaders_X2_has pk_X2_has k_3 dX7_invaders_5 rfl rfl rfl rfl ⟨(Nat.le_of_ble_eq_true rfl), (Nat.le_of_ble_eq_true rfl)⟩ rfl rfl (Nat.le_of_ble_eq_true rfl) ⟨(Nat.le_of_ble_eq_true rfl), (Nat.le_of_ble_eq_true rfl)⟩ ?_
  rintro _ _ ⟨rfl, rfl⟩
  refine r_ifB_ne C dX7_invaders_8 (tgt := 13) (by decide) (fun h8 => ?_) (fun h8 => ?_)
  · obtain ⟨j0, hj, rfl⟩ := h8
    refine r_iconst C dX7_invaders_13 (v := nI 0) (by decide) ?_
    refine r_istore_n C [(0, .ref (ad 0)), (1, .int (nI (j0))), (2, .int (nI (0)))] [1, 2, 0] dX7_invaders_14 rfl (by decide) rfl ?_
    refine r_iconst C dX7_invaders_15 (v := nI 0) (by decide) ?_
    refine r_istore_n C [(0, .ref (ad 0)), (1, .int (nI (j0))), (2, .int (nI (0))), (3, .int (nI (0)))] [1, 2, 3, 0] dX7_invaders_16 rfl (by decide) rfl ?_
    have L17 : ∀ (fu : Nat) (i0 : Nat) (v : Me), sN S < i0 + fu → (i0 ≤ sN S) → (Sm [23, 24, 25, 26] [] [3, 4] [4, 5, 6, 7] u v) → (RepC S v) → G kx 0 0 (WW g ad v) 17 [(0, .ref (ad 0)), (1, .int (nI (j0))), (2, .int (nI (ivN S j0 i0))), (3, .int (nI (i0)))] [] := by
      intro fu
      induction fu with
      | zero => intro i0 v hfu hin hv hC; exact absurd hfu (by omega)
      | succ fu ih =>
        intro i0 v hfu hin hv hC
        refine r_iload_n C 3 dX7_invaders_17 rfl rfl ?_
        refine r_aload_n C 0 dX7_invaders_18 rfl rfl ?_
        refine r_get C (CN := RX7) (T := TX7) (N := 10) k_0 rfl hin_X7 (j := 1) (by decide) hk_19 rfl rfl dX7_invaders_19 ?_
        refine r_callVi C (rest := [.int (nI (i0))]) (c_X2_many l g ad v S hC hO) gX7_invaders_X2_many pk_X2_many k_3 dX7_invaders_22 rfl rfl rfl rfl ⟨(Nat.le_of_ble_eq_true rfl), (Nat.le_of_ble_eq_true rfl)⟩ rfl rfl (Nat.le_of_ble_eq_true rfl) ⟨(Nat.le_of_ble_eq_true rfl), (Nat.le_of_ble_eq_true rfl)⟩ ?_
        rintro _ _ ⟨rfl, rfl⟩
        refine r_icmpN_ge C dX7_invaders_25 (tgt := 54) (by decide) (by omega) (by omega) (fun h25 => ?_) (fun h25 => ?_)
        · refine r_iload_n C 2 dX7_invaders_54 rfl rfl ?_
          exact E.2.1 rfl _ _ _ _ dX7_invaders_55 ⟨_, rfl, ⟨by unfold invA; rw [ifp_t ⟨j0, hj, rfl⟩, cl_nI (show j0 < 2 ^ 31 by omega), show i0 = sN S by omega], hC, (SmC.of hv (by decide) (by decide) (by decide) (by decide))⟩⟩
        · have hi : i0 < sN S := by omega
          refine r_iload_n C 3 dX7_invaders_28 rfl rfl ?_
          refine r_iload_n C 1 dX7_invaders_29 rfl rfl ?_
          refine r_icmpN_eq C dX7_invaders_30 (tgt := 48) (by decide) (by omega) (by omega) (fun h30 => ?_) (fun h30 => ?_)
          · refine r_iinc C [(0, .ref (ad 0)), (1, .int (nI (j0))), (2, .int (nI (ivN S j0 i0))), (3, .int (nI (i0 + 1)))] [1, 2, 3, 0] 3 dX7_invaders_48 rfl (nI_add _ 1) (by decide) rfl ?_
            refine r_goto C dX7_invaders_51 (tgt := 17) (by decide) ?_
            rw [← ivN_f (S := S) (j := j0) (n := i0) (by first | exact fun q => q.1 h30 | exact fun q => q.2 h39)]
            exact ih (i0 + 1) _ (by omega) (by omega) hv hC
          · refine r_aload_n C 0 dX7_invaders_33 rfl rfl ?_
            refine r_iload_n C 1 dX7_invaders_34 rfl rfl ?_
            refine r_iload_n C 3 dX7_invaders_35 rfl rfl ?_
            refine r_callVi C (rest := []) (c_X7_withstands l g ad v S hC hO j0 i0 (by assumption) (by assumption)) gX7_invaders_X7_withstands pk_X7_withstands k_0 dX7_invaders_36 rfl rfl rfl rfl ⟨(Nat.le_of_ble_eq_true rfl), (Nat.le_of_ble_eq_true rfl)⟩ rfl rfl (Nat.le_of_ble_eq_true rfl) ⟨(Nat.le_of_ble_eq_true rfl), (Nat.le_of_ble_eq_true rfl)⟩ ?_
            rintro _ w1 ⟨⟨rfl, hw1⟩, hC⟩
            refine r_ifB_ne C dX7_invaders_39 (tgt := 48) (by decide) (fun h39 => ?_) (fun h39 => ?_)
            · refine r_iinc C [(0, .ref (ad 0)), (1, .int (nI (j0))), (2, .int (nI (ivN S j0 i0))), (3, .int (nI (i0 + 1)))] [1, 2, 3, 0] 3 dX7_invaders_48 rfl (nI_add _ 1) (by decide) rfl ?_
              refine r_goto C dX7_invaders_51 (tgt := 17) (by decide) ?_
              rw [← ivN_f (S := S) (j := j0) (n := i0) (by first | exact fun q => q.1 h30 | exact fun q => q.2 h39)]
              exact ih (i0 + 1) _ (by omega) (by omega) (hv.tr hw1) hC
            · refine r_iload_n C 2 dX7_invaders_42 rfl rfl ?_
              refine r_iconst C dX7_invaders_43 (v := nI 1) (by decide) ?_
              refine r_iload_n C 3 dX7_invaders_44 rfl rfl ?_
              refine r_ishlN C dX7_invaders_45 (by omega) ?_
              refine r_iaddN C dX7_invaders_46 ?_
              refine r_istore_n C [(0, .ref (ad 0)), (1, .int (nI (j0))), (2, .int (nI ((ivN S j0 i0) + (2 ^ i0)))), (3, .int (nI (i0)))] [1, 2, 0, 3] dX7_invaders_47 rfl (by decide) rfl ?_
              refine r_iinc C [(0, .ref (ad 0)), (1, .int (nI (j0))), (2, .int (nI ((ivN S j0 i0) + (2 ^ i0)))), (3, .int (nI (i0 + 1)))] [1, 2, 3, 0] 3 dX7_invaders_48 rfl (nI_add _ 1) (by decide) rfl ?_
              refine r_goto C dX7_invaders_51 (tgt := 17) (by decide) ?_
              rw [← ivN_t ⟨h30, h39⟩]
              exact ih (i0 + 1) _ (by omega) (by omega) (hv.tr hw1) hC
    exact L17 (sN S + 1) 0 u (by omega) (by omega) Sm.rf hC
  · refine r_iconst C dX7_invaders_11 (v := (-1)) (by decide) ?_
    exact E.2.1 rfl _ _ _ _ dX7_invaders_12 ⟨_, rfl, ⟨ifp_f h8 _ _, hC, SmC.rf⟩⟩
def rmX7_score : Room := { frames := 5, cells := 0, slots := 0, locals := 120 }
theorem pk_X7_score : Pk yX7_score RX7 2 := by decide +kernel
set_option maxHeartbeats 4000000 in
set_option maxRecDepth 100000 in
theorem c_X7_score (l : Launch) (g : gE) (ad : Nat → Nat) (u : Me) (S : Sg) (hC : RepC S u) (hO : Ok S) (i n : Int32) : Cti l yX7_score wsX7_score rmX7_score g ad [.ref (ad 0), .int (i), .int (n)] u (fun r u' => scoA S i n = r ∧ RepC S u' ∧ SmC u u') := by
  refine Ct.of (cc := cX7_score) (nL := 3) (ret := (some .int)) RX7 (by decide) rfl rfl (Nat.le_of_ble_eq_true rfl) (fun kx C E => ?_)
  have hin_X7 : ∀ w ∈ u_ws RX7 TX7 10, w ∈ wsX7_score := by decide +kernel
  have hk_19 : Cond.fieldLink RX7 19 "AgainAgain" "machines" "LAgainAgain$Machines;" ∈ wsX7_score := by decide +kernel
  have hk_157 : Cond.constant RX7 157 (-1000000) ∈ wsX7_score := by decide +kernel
  show G kx 0 0 (WW g ad u) 0 [(0, .ref (ad 0)), (1, .int (i)), (2, .int (n))] []
  have hn := hO.n
  refine r_aload_n C 0 dX7_score_0 rfl rfl ?_
  refine r_get C (CN := RX7) (T := TX7) (N := 10) k_0 rfl hin_X7 (j := 1) (by decide) hk_19 rfl rfl dX7_score_1 ?_
  refine r_iload_n C 1 dX7_score_4 rfl rfl ?_
  refine r_callVi C (rest := []) (c_X2_has l g ad u S hC hO i) gX7_score_X2_has pk_X2_has k_3 dX7_score_5 rfl rfl rfl rfl ⟨(Nat.le_of_ble_eq_true rfl), (Nat.le_of_ble_eq_true rfl)⟩ rfl rfl (Nat.le_of_ble_eq_true rfl) ⟨(Nat.le_of_ble_eq_true rfl), (Nat.le_of_ble_eq_true rfl)⟩ ?_
  rintro _ _ ⟨rfl, rfl⟩
  refine r_ifB_eq C dX7_score_8 (tgt := 22) (by decide) (fun h8 => ?_) (fun h8 => ?_)
  · refine r_ldc C (v := (-1000000)) hk_157 dX7_score_22 ?_
    exact E.2.1 rfl _ _ _ _ dX7_score_24 ⟨_, rfl, ⟨ifp_f (fun q => by first | exact h8 q.1 | exact h19 q.2) _ _, hC, SmC.rf⟩⟩
  · obtain ⟨i0, hi, rfl⟩ := h8
    refine r_iload_n C 2 dX7_score_11 rfl rfl ?_
    refine r_iconst C dX7_score_12 (v := nI 0) (by decide) ?_
    refine r_sipush C dX7_score_13 (v := nI 1000) (by decide) ?_
    refine r_callSi C (rest := []) (c_X7_within l g ad u n (nI 0) (nI 1000)) gX7_score_X7_within pk_X7_within dX7_score_16 rfl rfl rfl rfl ⟨(Nat.le_of_ble_eq_true rfl), (Nat.le_of_ble_eq_true rfl)⟩ rfl (Nat.le_of_ble_eq_true rfl) ⟨(Nat.le_of_ble_eq_true rfl), (Nat.le_of_ble_eq_true rfl)⟩ ?_
    rintro _ _ ⟨rfl, rfl⟩
    refine r_setI (y := (bI (isR 1001 n))) (bI_iff (isR_iff (n := 1000) (by decide))) ?_
    refine r_ifB_ne C dX7_score_19 (tgt := 25) (by decide) (fun h19 => ?_) (fun h19 => ?_)
    · obtain ⟨n0, hn0, rfl⟩ := h19
      refine r_aload_n C 0 dX7_score_25 rfl rfl ?_
      refine r_iload_n C 1 dX7_score_26 rfl rfl ?_
      refine r_iload_n C 2 dX7_score_27 rfl rfl ?_
      refine r_callVi C (rest := []) (c_X7_gainsAgainstAll l g ad u S hC hO i0 n0 (by assumption) (by omega)) gX7_score_X7_gainsAgainstAll pk_X7_gainsAgainstAll k_0 dX7_score_28 rfl rfl rfl rfl ⟨(Nat.le_of_ble_eq_true rfl), (Nat.le_of_ble_eq_true rfl)⟩ rfl rfl (Nat.le_of_ble_eq_true rfl) ⟨(Nat.le_of_ble_eq_true rfl), (Nat.le_of_ble_eq_true rfl)⟩ ?_
      rintro _ a1 ⟨⟨rfl, ha1⟩, hC⟩
      exact E.2.1 rfl _ _ _ _ dX7_score_31 ⟨_, rfl, ⟨by unfold scoA; rw [ifp_t ⟨⟨i0, hi, rfl⟩, ⟨n0, hn0, rfl⟩⟩, cl_nI (show i0 < 2 ^ 31 by omega), cl_nI (show n0 < 2 ^ 31 by omega)], hC, (SmC.of ha1 (by decide) (by decide) (by decide) (by decide))⟩⟩
    · refine r_ldc C (v := (-1000000)) hk_157 dX7_score_22 ?_
      exact E.2.1 rfl _ _ _ _ dX7_score_24 ⟨_, rfl, ⟨ifp_f (fun q => by first | exact h8 q.1 | exact h19 q.2) _ _, hC, SmC.rf⟩⟩
def rmX7_place : Room := { frames := 5, cells := 0, slots := 0, locals := 120 }
theorem pk_X7_place : Pk yX7_place RX7 2 := by decide +kernel
set_option maxHeartbeats 4000000 in
set_option maxRecDepth 100000 in
theorem c_X7_place (l : Launch) (g : gE) (ad : Nat → Nat) (u : Me) (S : Sg) (hC : RepC S u) (hO : Ok S) (p n : Int32) : Cti l yX7_place wsX7_place rmX7_place g ad [.ref (ad 0), .int (p), .int (n)] u (fun r u' => plaA S p n = r ∧ RepC S u' ∧ SmC u u') := by
  refine Ct.of (cc := cX7_place) (nL := 4) (ret := (some .int)) RX7 (by decide) rfl rfl (Nat.le_of_ble_eq_true rfl) (fun kx C E => ?_)
  have hin_X7 : ∀ w ∈ u_ws RX7 TX7 10, w ∈ wsX7_place := by decide +kernel
  have hk_19 : Cond.fieldLink RX7 19 "AgainAgain" "machines" "LAgainAgain$Machines;" ∈ wsX7_place := by decide +kernel
  have hk_64 : Cond.fieldLink RX7 64 "AgainAgain" "scores" "[I" ∈ wsX7_place := by decide +kernel
  show G kx 0 0 (WW g ad u) 0 [(0, .ref (ad 0)), (1, .int (p)), (2, .int (n))] []
  have hn := hO.n
  refine r_iload_n C 1 dX7_place_0 rfl rfl ?_
  refine r_if_lt C dX7_place_1 (tgt := 15) (by decide) (fun h1 => ?_) (fun h1 => ?_)
  · refine r_iconst C dX7_place_15 (v := (-1)) (by decide) ?_
    exact E.2.1 rfl _ _ _ _ dX7_place_16 ⟨_, rfl, ⟨ifp_f (fun q => by first | exact q.1 h1 | exact h12 q.2) _ _, hC, SmC.rf⟩⟩
  · refine r_iload_n C 2 dX7_place_4 rfl rfl ?_
    refine r_iconst C dX7_place_5 (v := nI 0) (by decide) ?_
    refine r_sipush C dX7_place_6 (v := nI 1000) (by decide) ?_
    refine r_callSi C (rest := []) (c_X7_within l g ad u n (nI 0) (nI 1000)) gX7_place_X7_within pk_X7_within dX7_place_9 rfl rfl rfl rfl ⟨(Nat.le_of_ble_eq_true rfl), (Nat.le_of_ble_eq_true rfl)⟩ rfl (Nat.le_of_ble_eq_true rfl) ⟨(Nat.le_of_ble_eq_true rfl), (Nat.le_of_ble_eq_true rfl)⟩ ?_
    rintro _ _ ⟨rfl, rfl⟩
    refine r_setI (y := (bI (isR 1001 n))) (bI_iff (isR_iff (n := 1000) (by decide))) ?_
    refine r_ifB_ne C dX7_place_12 (tgt := 17) (by decide) (fun h12 => ?_) (fun h12 => ?_)
    · obtain ⟨n0, hn0, rfl⟩ := h12
      refine r_iconst C dX7_place_17 (v := nI 0) (by decide) ?_
      refine r_istore_n C [(0, .ref (ad 0)), (1, .int (p)), (2, .int (nI (n0))), (3, .int (nI (0)))] [1, 2, 3, 0] dX7_place_18 rfl (by decide) rfl ?_
      have L19 : ∀ (fu : Nat) (m : Nat) (v : Me), sN S < m + fu → (m ≤ sN S) → (Sm [23, 24, 25, 26, 35] [] [3, 4] [] u v) → (RepC S v) → (∀ c, c < m → mA v 35 c = iI (scF S c n0)) → G kx 0 0 (WW g ad v) 19 [(0, .ref (ad 0)), (1, .int (p)), (2, .int (nI (n0))), (3, .int (nI (m)))] [] := by
        intro fu
        induction fu with
        | zero => intro m v hfu hmn hv hC hsc; exact absurd hfu (by omega)
        | succ fu ih =>
          intro m v hfu hmn hv hC hsc
          refine r_iload_n C 3 dX7_place_19 rfl rfl ?_
          refine r_aload_n C 0 dX7_place_20 rfl rfl ?_
          refine r_get C (CN := RX7) (T := TX7) (N := 10) k_0 rfl hin_X7 (j := 1) (by decide) hk_19 rfl rfl dX7_place_21 ?_
          refine r_callVi C (rest := [.int (nI (m))]) (c_X2_many l g ad v S hC hO) gX7_place_X2_many pk_X2_many k_3 dX7_place_24 rfl rfl rfl rfl ⟨(Nat.le_of_ble_eq_true rfl), (Nat.le_of_ble_eq_true rfl)⟩ rfl rfl (Nat.le_of_ble_eq_true rfl) ⟨(Nat.le_of_ble_eq_true rfl), (Nat.le_of_ble_eq_true rfl)⟩ ?_
          rintro _ _ ⟨rfl, rfl⟩
          refine r_icmpN_ge C dX7_place_27 (tgt := 48) (by decide) (by omega) (by omega) (fun h27 => ?_) (fun h27 => ?_)
          · refine r_iconst C dX7_place_48 (v := nI 0) (by decide) ?_
            refine r_istore_n C [(0, .ref (ad 0)), (1, .int (p)), (2, .int (nI (n0))), (3, .int (nI (0)))] [1, 2, 3, 0] dX7_place_49 rfl (by decide) rfl ?_
            have hsc : ∀ c, c < sN S → mA v 35 c = iI (scF S c n0) := fun c hc => hsc c (by omega)
            have L50 : ∀ (fu : Nat) (m : Nat), sN S < m + fu → (m ≤ sN S) → (∀ c, c < m → ¬ nI (ahd S n0 c (sN S)) = p) → G kx 0 0 (WW g ad v) 50 [(0, .ref (ad 0)), (1, .int (p)), (2, .int (nI (n0))), (3, .int (nI (m)))] [] := by
              intro fu
              induction fu with
              | zero => intro m hfu hmn2 hP; exact absurd hfu (by omega)
              | succ fu ih =>
                intro m hfu hmn2 hP
                refine r_iload_n C 3 dX7_place_50 rfl rfl ?_
                refine r_aload_n C 0 dX7_place_51 rfl rfl ?_
                refine r_get C (CN := RX7) (T := TX7) (N := 10) k_0 rfl hin_X7 (j := 1) (by decide) hk_19 rfl rfl dX7_place_52 ?_
                refine r_callVi C (rest := [.int (nI (m))]) (c_X2_many l g ad v S hC hO) gX7_place_X2_many pk_X2_many k_3 dX7_place_55 rfl rfl rfl rfl ⟨(Nat.le_of_ble_eq_true rfl), (Nat.le_of_ble_eq_true rfl)⟩ rfl rfl (Nat.le_of_ble_eq_true rfl) ⟨(Nat.le_of_ble_eq_true rfl), (Nat.le_of_ble_eq_true rfl)⟩ ?_
                rintro _ _ ⟨rfl, rfl⟩
                refine r_icmpN_ge C dX7_place_58 (tgt := 78) (by decide) (by omega) (by omega) (fun h58 => ?_) (fun h58 => ?_)
                · refine r_bipush C dX7_place_78 (v := (-4)) (by decide) ?_
                  exact E.2.1 rfl _ _ _ _ dX7_place_80 ⟨_, rfl, ⟨by unfold plaA; rw [ifp_t ⟨h1, ⟨n0, hn0, rfl⟩⟩, cl_nI (show n0 < 2 ^ 31 by omega), mn_none (fun c q => hP c (by omega) q.2)], hC, (SmC.of hv (by decide) (by decide) (by decide) (by decide))⟩⟩
                · have hm : m < sN S := by omega
                  refine r_aload_n C 0 dX7_place_61 rfl rfl ?_
                  refine r_iload_n C 3 dX7_place_62 rfl rfl ?_
                  refine r_callVi C (rest := []) (c_X7_machinesAheadOf l g ad v S hC hO m n0 (by omega) hsc) gX7_place_X7_machinesAheadOf pk_X7_machinesAheadOf k_0 dX7_place_63 rfl rfl rfl rfl ⟨(Nat.le_of_ble_eq_true rfl), (Nat.le_of_ble_eq_true rfl)⟩ rfl rfl (Nat.le_of_ble_eq_true rfl) ⟨(Nat.le_of_ble_eq_true rfl), (Nat.le_of_ble_eq_true rfl)⟩ ?_
                  rintro _ _ ⟨rfl, rfl⟩
                  refine r_iload_n C 1 dX7_place_66 rfl rfl ?_
                  refine r_icmp_ne C dX7_place_67 (tgt := 72) (by decide) (fun h67 => ?_) (fun h67 => ?_)
                  · refine r_iinc C [(0, .ref (ad 0)), (1, .int (p)), (2, .int (nI (n0))), (3, .int (nI (m + 1)))] [1, 2, 3, 0] 3 dX7_place_72 rfl (nI_add _ 1) (by decide) rfl ?_
                    refine r_goto C dX7_place_75 (tgt := 50) (by decide) ?_
                    exact ih (m + 1) (by omega) (by omega) (fun c hc => by rcases Nat.lt_or_ge c m with z | z; exact hP c z; rw [show c = m by omega]; exact h67)
                  · refine r_iload_n C 3 dX7_place_70 rfl rfl ?_
                    exact E.2.1 rfl _ _ _ _ dX7_place_71 ⟨_, rfl, ⟨by unfold plaA; rw [ifp_t ⟨h1, ⟨n0, hn0, rfl⟩⟩, cl_nI (show n0 < 2 ^ 31 by omega), mn_some (m := m) ⟨hm, h67⟩ (fun c hc q => hP c hc q.2)], hC, (SmC.of hv (by decide) (by decide) (by decide) (by decide))⟩⟩
            exact L50 (sN S + 1) 0 (by omega) (by omega) (fun c hc => absurd hc (by omega))
          · have hm : m < sN S := by omega
            refine r_aload_n C 0 dX7_place_30 rfl rfl ?_
            refine r_get C (CN := RX7) (T := TX7) (N := 10) k_0 rfl hin_X7 (j := 9) (by decide) hk_64 rfl rfl dX7_place_31 ?_
            refine r_iload_n C 3 dX7_place_34 rfl rfl ?_
            refine r_aload_n C 0 dX7_place_35 rfl rfl ?_
            refine r_iload_n C 3 dX7_place_36 rfl rfl ?_
            refine r_iload_n C 2 dX7_place_37 rfl rfl ?_
            refine r_callVi C (rest := [.int (nI (m)), .ref (ad 35)]) (c_X7_gainsAgainstAll l g ad v S hC hO m n0 (by assumption) (by omega)) gX7_place_X7_gainsAgainstAll pk_X7_gainsAgainstAll k_0 dX7_place_38 rfl rfl rfl rfl ⟨(Nat.le_of_ble_eq_true rfl), (Nat.le_of_ble_eq_true rfl)⟩ rfl rfl (Nat.le_of_ble_eq_true rfl) ⟨(Nat.le_of_ble_eq_true rfl), (Nat.le_of_ble_eq_true rfl)⟩ ?_
            rintro _ a1 ⟨⟨rfl, ha1⟩, hC⟩
            refine r_iast C k_35 (by omega) (by omega) dX7_place_41 ?_
            refine r_iinc C [(0, .ref (ad 0)), (1, .int (p)), (2, .int (nI (n0))), (3, .int (nI (m + 1)))] [1, 2, 3, 0] 3 dX7_place_42 rfl (nI_add _ 1) (by decide) rfl ?_
            refine r_goto C dX7_place_45 (tgt := 19) (by decide) ?_
            exact ih (m + 1) _ (by omega) (by omega) ((hv.tr (ha1.wk (by decide) (by decide) (by decide) (by decide))).sA (c := 35) (by decide) _) (hC.sA (c := 35) (by decide) _) (fun c hc => by
              rw [mA_sA_self]
              unfold upd
              rcases Nat.lt_or_ge c m with z | z
              · rw [if_neg (by omega), ha1.1 35 (by decide)]; exact hsc c z
              · rw [if_pos (by omega), show c = m by omega])
      exact L19 (sN S + 1) 0 u (by omega) (by omega) Sm.rf hC (fun c hc => absurd hc (by omega))
    · refine r_iconst C dX7_place_15 (v := (-1)) (by decide) ?_
      exact E.2.1 rfl _ _ _ _ dX7_place_16 ⟨_, rfl, ⟨ifp_f (fun q => by first | exact q.1 h1 | exact h12 q.2) _ _, hC, SmC.rf⟩⟩
def rmX7_count : Room := { frames := 6, cells := 0, slots := 0, locals := 160 }
theorem pk_X7_count : Pk yX7_count RX7 1 := by decide +kernel
set_option maxHeartbeats 4000000 in
set_option maxRecDepth 100000 in
theorem c_X7_count (l : Launch) (g : gE) (ad : Nat → Nat) (u : Me) (S : Sg) (hC : RepC S u) (hO : Ok S) (w : Int32) : Cti l yX7_count wsX7_count rmX7_count g ad [.ref (ad 0), .int (w)] u (fun r u' => couA S w = r ∧ RepC S u' ∧ SmC u u') := by
  refine Ct.of (cc := cX7_count) (nL := 2) (ret := (some .int)) RX7 (by decide) rfl rfl (Nat.le_of_ble_eq_true rfl) (fun kx C E => ?_)
  have hin_X7 : ∀ w ∈ u_ws RX7 TX7 10, w ∈ wsX7_count := by decide +kernel
  have hk_19 : Cond.fieldLink RX7 19 "AgainAgain" "machines" "LAgainAgain$Machines;" ∈ wsX7_count := by decide +kernel
  have hk_26 : Cond.fieldLink RX7 26 "AgainAgain" "sheets" "LAgainAgain$Sheets;" ∈ wsX7_count := by decide +kernel
  have hk_33 : Cond.fieldLink RX7 33 "AgainAgain" "likeness" "LAgainAgain$Likeness;" ∈ wsX7_count := by decide +kernel
  show G kx 0 0 (WW g ad u) 0 [(0, .ref (ad 0)), (1, .int (w))] []
  have hn := hO.n
  refine r_iload_n C 1 dX7_count_0 rfl rfl ?_
  rcases tab4 w with rfl | rfl | rfl | rfl | hw
  · refine r_tableIn C dX7_count_1 (off := 31) (tgt := 32) (by decide) (by decide) (by decide) (by decide) ?_
    refine r_aload_n C 0 dX7_count_32 rfl rfl ?_
    refine r_get C (CN := RX7) (T := TX7) (N := 10) k_0 rfl hin_X7 (j := 1) (by decide) hk_19 rfl rfl dX7_count_33 ?_
    refine r_callVi C (rest := []) (c_X2_many l g ad u S hC hO) gX7_count_X2_many pk_X2_many k_3 dX7_count_36 rfl rfl rfl rfl ⟨(Nat.le_of_ble_eq_true rfl), (Nat.le_of_ble_eq_true rfl)⟩ rfl rfl (Nat.le_of_ble_eq_true rfl) ⟨(Nat.le_of_ble_eq_true rfl), (Nat.le_of_ble_eq_true rfl)⟩ ?_
    rintro _ _ ⟨rfl, rfl⟩
    exact E.2.1 rfl _ _ _ _ dX7_count_39 ⟨_, rfl, ⟨couA_0, hC, SmC.rf⟩⟩
  · refine r_tableIn C dX7_count_1 (off := 39) (tgt := 40) (by decide) (by decide) (by decide) (by decide) ?_
    refine r_aload_n C 0 dX7_count_40 rfl rfl ?_
    refine r_get C (CN := RX7) (T := TX7) (N := 10) k_0 rfl hin_X7 (j := 3) (by decide) hk_33 rfl rfl dX7_count_41 ?_
    refine r_aload_n C 0 dX7_count_44 rfl rfl ?_
    refine r_get C (CN := RX7) (T := TX7) (N := 10) k_0 rfl hin_X7 (j := 1) (by decide) hk_19 rfl rfl dX7_count_45 ?_
    refine r_callVi C (rest := []) (c_X1_unlikeMachines l g ad u S hC hO) gX7_count_X1_unlikeMachines pk_X1_unlikeMachines k_11 dX7_count_48 rfl rfl rfl rfl ⟨(Nat.le_of_ble_eq_true rfl), (Nat.le_of_ble_eq_true rfl)⟩ rfl rfl (Nat.le_of_ble_eq_true rfl) ⟨(Nat.le_of_ble_eq_true rfl), (Nat.le_of_ble_eq_true rfl)⟩ ?_
    rintro _ u1 ⟨rfl, hs1⟩
    exact E.2.1 rfl _ _ _ _ dX7_count_51 ⟨_, rfl, ⟨couA_1, hC.sm hs1 (by unfold leC; decide), (SmC.of hs1 (by decide) (by decide) (by decide) (by decide))⟩⟩
  · refine r_tableIn C dX7_count_1 (off := 51) (tgt := 52) (by decide) (by decide) (by decide) (by decide) ?_
    refine r_aload_n C 0 dX7_count_52 rfl rfl ?_
    refine r_callVi C (rest := []) (c_X7_restingPairs l g ad u S hC hO) gX7_count_X7_restingPairs pk_X7_restingPairs k_0 dX7_count_53 rfl rfl rfl rfl ⟨(Nat.le_of_ble_eq_true rfl), (Nat.le_of_ble_eq_true rfl)⟩ rfl rfl (Nat.le_of_ble_eq_true rfl) ⟨(Nat.le_of_ble_eq_true rfl), (Nat.le_of_ble_eq_true rfl)⟩ ?_
    rintro _ u2 ⟨⟨rfl, hs2⟩, hC2⟩
    exact E.2.1 rfl _ _ _ _ dX7_count_56 ⟨_, rfl, ⟨couA_2, hC2, (SmC.of hs2 (by decide) (by decide) (by decide) (by decide))⟩⟩
  · refine r_tableIn C dX7_count_1 (off := 56) (tgt := 57) (by decide) (by decide) (by decide) (by decide) ?_
    refine r_aload_n C 0 dX7_count_57 rfl rfl ?_
    refine r_get C (CN := RX7) (T := TX7) (N := 10) k_0 rfl hin_X7 (j := 2) (by decide) hk_26 rfl rfl dX7_count_58 ?_
    refine r_iconst C dX7_count_61 (v := nI 0) (by decide) ?_
    refine r_callVi C (rest := []) (c_X5_isThere l g ad u S hC hO 0 (by omega)) gX7_count_X5_isThere pk_X5_isThere k_7 dX7_count_62 rfl rfl rfl rfl ⟨(Nat.le_of_ble_eq_true rfl), (Nat.le_of_ble_eq_true rfl)⟩ rfl rfl (Nat.le_of_ble_eq_true rfl) ⟨(Nat.le_of_ble_eq_true rfl), (Nat.le_of_ble_eq_true rfl)⟩ ?_
    rintro _ _ ⟨rfl, rfl⟩
    refine r_ifB_eq C dX7_count_65 (tgt := 79) (by decide) (fun h65 => ?_) (fun h65 => ?_)
    · refine r_bipush C dX7_count_79 (v := (-4)) (by decide) ?_
      exact E.2.1 rfl _ _ _ _ dX7_count_81 ⟨_, rfl, ⟨couA_3.trans (if_pos (Classical.not_not.mp h65)), hC, SmC.rf⟩⟩
    · refine r_aload_n C 0 dX7_count_68 rfl rfl ?_
      refine r_get C (CN := RX7) (T := TX7) (N := 10) k_0 rfl hin_X7 (j := 2) (by decide) hk_26 rfl rfl dX7_count_69 ?_
      refine r_iconst C dX7_count_72 (v := nI 0) (by decide) ?_
      refine r_callVi C (rest := []) (c_X5_cellsOf l g ad u S hC hO 0 (by omega)) gX7_count_X5_cellsOf pk_X5_cellsOf k_7 dX7_count_73 rfl rfl rfl rfl ⟨(Nat.le_of_ble_eq_true rfl), (Nat.le_of_ble_eq_true rfl)⟩ rfl rfl (Nat.le_of_ble_eq_true rfl) ⟨(Nat.le_of_ble_eq_true rfl), (Nat.le_of_ble_eq_true rfl)⟩ ?_
      rintro _ _ ⟨rfl, rfl⟩
      refine r_goto C dX7_count_76 (tgt := 81) (by decide) ?_
      exact E.2.1 rfl _ _ _ _ dX7_count_81 ⟨_, rfl, ⟨couA_3.trans (if_neg h65), hC, SmC.rf⟩⟩
  · refine r_tableOut C dX7_count_1 (tgt := 82) hw (by decide) ?_
    refine r_iconst C dX7_count_82 (v := (-1)) (by decide) ?_
    exact E.2.1 rfl _ _ _ _ dX7_count_83 ⟨_, rfl, ⟨couA_o hw, hC, SmC.rf⟩⟩
