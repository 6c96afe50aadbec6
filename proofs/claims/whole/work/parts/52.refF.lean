def rmX8_match : Room := { frames := 3, cells := 0, slots := 0, locals := 73 }
theorem pk_X8_match : Pk yX8_match RX8 3 := by decide +kernel
set_option maxHeartbeats 4000000 in
set_option maxRecDepth 100000 in
theorem c_X8_match (l : Launch) (g : gE) (ad : Nat → Nat) (u : Me) (S : Sg) (hM : RepM S u) (hO : Ok S) (i j w : Int32) : Cti l yX8_match wsX8_match rmX8_match g ad [.ref (ad 36), .int (i), .int (j), .int (w)] u (fun r u' => matA S i j w = r ∧ RepM S u' ∧ SmR u u') := by
  refine Ct.of (cc := cX8_match) (nL := 4) (ret := (some .int)) RX8 (by decide) rfl rfl (Nat.le_of_ble_eq_true rfl) (fun kx C E => ?_)
  have hin_X8 : ∀ w ∈ u_ws RX8 TX8 21, w ∈ wsX8_match := by decide +kernel
  have hk_74 : Cond.constantLong RX8 74 (3) ∈ wsX8_match := by decide +kernel
  have hk_101 : Cond.fieldLink RX8 101 "AgainAgainModel" "tail" "I" ∈ wsX8_match := by decide +kernel
  have hk_104 : Cond.fieldLink RX8 104 "AgainAgainModel" "ring" "I" ∈ wsX8_match := by decide +kernel
  have hk_112 : Cond.constant RX8 112 (-1000000) ∈ wsX8_match := by decide +kernel
  show G kx 0 0 (WW g ad u) 0 [(0, .ref (ad 36)), (1, .int (i)), (2, .int (j)), (3, .int (w))] []
  have hn := hO.n
  refine r_aload_n C 0 dX8_match_0 rfl rfl ?_
  refine r_iload_n C 1 dX8_match_1 rfl rfl ?_
  refine r_iload_n C 2 dX8_match_2 rfl rfl ?_
  refine r_callVi C (rest := []) (c_X8_areBoth l g ad u S hM hO i j) gX8_match_X8_areBoth pk_X8_areBoth k_36 dX8_match_3 rfl rfl rfl rfl ⟨(Nat.le_of_ble_eq_true rfl), (Nat.le_of_ble_eq_true rfl)⟩ rfl rfl (Nat.le_of_ble_eq_true rfl) ⟨(Nat.le_of_ble_eq_true rfl), (Nat.le_of_ble_eq_true rfl)⟩ ?_
  rintro _ _ ⟨rfl, rfl⟩
  refine r_ifB_eq C dX8_match_6 (tgt := 21) (by decide) (fun h6 => ?_) (fun h6 => ?_)
  · refine r_ldc C (v := (-1000000)) hk_112 dX8_match_21 ?_
    exact E.2.1 rfl _ _ _ _ dX8_match_23 ⟨_, rfl, ⟨ifp_f (fun q => by first | exact h6 ⟨q.1, q.2.1⟩ | exact h18 q.2.2) _ _, hM, SmR.rf⟩⟩
  · obtain ⟨⟨i0, hi, rfl⟩, ⟨j0, hj, rfl⟩⟩ := h6
    refine r_iload_n C 3 dX8_match_9 rfl rfl ?_
    refine r_i2l C dX8_match_10 (v := (w).toInt64) rfl ?_
    refine r_lconst C dX8_match_11 (v := lI 0) (by decide) ?_
    refine r_ldc2 C (v := (3)) hk_74 dX8_match_12 ?_
    refine r_setL (y := lI (3)) (by decide) ?_
    refine r_callSi C (rest := []) (c_X8_in l g ad u ((w).toInt64) (lI 0) (lI (3))) gX8_match_X8_in pk_X8_in dX8_match_15 rfl rfl rfl rfl ⟨(Nat.le_of_ble_eq_true rfl), (Nat.le_of_ble_eq_true rfl)⟩ rfl (Nat.le_of_ble_eq_true rfl) ⟨(Nat.le_of_ble_eq_true rfl), (Nat.le_of_ble_eq_true rfl)⟩ ?_
    rintro _ _ ⟨rfl, rfl⟩
    refine r_setI (y := (bI (isR 4 w))) (bI_iff (inL_iff (n := 3) (by decide))) ?_
    refine r_ifB_ne C dX8_match_18 (tgt := 24) (by decide) (fun h18 => ?_) (fun h18 => ?_)
    · obtain ⟨w0, hw0, rfl⟩ := h18
      refine r_aload_n C 0 dX8_match_24 rfl rfl ?_
      refine r_iload_n C 1 dX8_match_25 rfl rfl ?_
      refine r_iload_n C 2 dX8_match_26 rfl rfl ?_
      refine r_iconst C dX8_match_27 (v := nI 0) (by decide) ?_
      refine r_callVv C (rest := []) (c_X8_plays l g ad u S hM hO i0 j0 hi hj 0 (VP_0 hO i0 j0)) gX8_match_X8_plays pk_X8_plays k_36 dX8_match_28 rfl rfl rfl rfl ⟨(Nat.le_of_ble_eq_true rfl), (Nat.le_of_ble_eq_true rfl)⟩ rfl rfl (Nat.le_of_ble_eq_true rfl) ⟨(Nat.le_of_ble_eq_true rfl), (Nat.le_of_ble_eq_true rfl)⟩ ?_
      rintro v1 ⟨⟨hpl, hs1⟩, hM⟩
      obtain ⟨hTT, hT16⟩ := tlr_spec (N := 16) (f := fP S i0 j0) (p := 0) (fun r => VP_16 hO (it_V (V := VP S i0 j0) (fun p _ => VP_f hO) (VP_0 hO i0 j0) r))
      have hR1 := hTT.1
      refine r_iload_n C 3 dX8_match_31 rfl rfl ?_
      refine r_ifN_ne C dX8_match_32 (tgt := 42) (by decide) (by omega) (fun h32 => ?_) (fun h32 => ?_)
      · refine r_iload_n C 3 dX8_match_42 rfl rfl ?_
        refine r_iconst C dX8_match_43 (v := nI 1) (by decide) ?_
        refine r_icmpN_ne C dX8_match_44 (tgt := 54) (by decide) (by omega) (by omega) (fun h44 => ?_) (fun h44 => ?_)
        · refine r_iload_n C 3 dX8_match_54 rfl rfl ?_
          refine r_iconst C dX8_match_55 (v := nI 2) (by decide) ?_
          refine r_icmpN_ne C dX8_match_56 (tgt := 71) (by decide) (by omega) (by omega) (fun h56 => ?_) (fun h56 => ?_)
          · refine r_aload_n C 0 dX8_match_71 rfl rfl ?_
            refine r_aload_n C 0 dX8_match_72 rfl rfl ?_
            refine r_get C (CN := RX8) (T := TX8) (N := 21) k_36 rfl hin_X8 (j := 12) (by decide) hk_101 rfl rfl dX8_match_73 ?_
            refine r_setI (y := (nI (tl (fP S i0 j0) 0))) (hpl.1) ?_
            refine r_aload_n C 0 dX8_match_76 rfl rfl ?_
            refine r_get C (CN := RX8) (T := TX8) (N := 21) k_36 rfl hin_X8 (j := 12) (by decide) hk_101 rfl rfl dX8_match_77 ?_
            refine r_setI (y := (nI (tl (fP S i0 j0) 0))) (hpl.1) ?_
            refine r_aload_n C 0 dX8_match_80 rfl rfl ?_
            refine r_get C (CN := RX8) (T := TX8) (N := 21) k_36 rfl hin_X8 (j := 13) (by decide) hk_104 rfl rfl dX8_match_81 ?_
            refine r_setI (y := (nI (rg (fP S i0 j0) 0))) (hpl.2.1) ?_
            refine r_iaddN C dX8_match_84 ?_
            refine r_callVi C (rest := []) (c_X8_sumOf l g ad v1 (fP S i0 j0) (gP S i0 j0) 0 hpl (tl (fP S i0 j0) 0) ((tl (fP S i0 j0) 0) + (rg (fP S i0 j0) 0)) (by omega) (by omega) hT16) gX8_match_X8_sumOf pk_X8_sumOf k_36 dX8_match_85 rfl rfl rfl rfl ⟨(Nat.le_of_ble_eq_true rfl), (Nat.le_of_ble_eq_true rfl)⟩ rfl rfl (Nat.le_of_ble_eq_true rfl) ⟨(Nat.le_of_ble_eq_true rfl), (Nat.le_of_ble_eq_true rfl)⟩ ?_
            rintro _ _ ⟨rfl, rfl⟩
            refine r_setI (y := (iI (meN S i0 j0))) (congrArg iI (by rw [Nat.add_sub_cancel_left]; rfl)) ?_
            exact E.2.1 rfl _ _ _ _ dX8_match_88 ⟨_, rfl, ⟨by unfold matA; rw [ifp_t ⟨⟨i0, hi, rfl⟩, ⟨j0, hj, rfl⟩, ⟨w0, hw0, rfl⟩⟩, cl_nI (show i0 < 2 ^ 31 by omega), cl_nI (show j0 < 2 ^ 31 by omega), cl_nI (show w0 < 2 ^ 31 by omega)]; unfold matN; rw [if_neg h32, if_neg h44, if_neg h56]; rfl, hM, (SmR.of hs1 (by decide) (by decide) (by decide) (by decide))⟩⟩
          · refine r_aload_n C 0 dX8_match_59 rfl rfl ?_
            refine r_iconst C dX8_match_60 (v := nI 0) (by decide) ?_
            refine r_aload_n C 0 dX8_match_61 rfl rfl ?_
            refine r_get C (CN := RX8) (T := TX8) (N := 21) k_36 rfl hin_X8 (j := 12) (by decide) hk_101 rfl rfl dX8_match_62 ?_
            refine r_setI (y := (nI (tl (fP S i0 j0) 0))) (hpl.1) ?_
            refine r_callVi C (rest := []) (c_X8_sumOf l g ad v1 (fP S i0 j0) (gP S i0 j0) 0 hpl 0 (tl (fP S i0 j0) 0) (by omega) (by omega) hT16) gX8_match_X8_sumOf pk_X8_sumOf k_36 dX8_match_65 rfl rfl rfl rfl ⟨(Nat.le_of_ble_eq_true rfl), (Nat.le_of_ble_eq_true rfl)⟩ rfl rfl (Nat.le_of_ble_eq_true rfl) ⟨(Nat.le_of_ble_eq_true rfl), (Nat.le_of_ble_eq_true rfl)⟩ ?_
            rintro _ _ ⟨rfl, rfl⟩
            refine r_setI (y := (iI (sg (fun r => gP S i0 j0 (it (fP S i0 j0) 0 r)) (tl (fP S i0 j0) 0)))) (congrArg iI (by rw [Nat.sub_zero]; exact sg_congr (fun r _ => by rw [Nat.zero_add]))) ?_
            refine r_goto C dX8_match_68 (tgt := 88) (by decide) ?_
            exact E.2.1 rfl _ _ _ _ dX8_match_88 ⟨_, rfl, ⟨by unfold matA; rw [ifp_t ⟨⟨i0, hi, rfl⟩, ⟨j0, hj, rfl⟩, ⟨w0, hw0, rfl⟩⟩, cl_nI (show i0 < 2 ^ 31 by omega), cl_nI (show j0 < 2 ^ 31 by omega), cl_nI (show w0 < 2 ^ 31 by omega)]; unfold matN; rw [if_neg h32, if_neg h44, if_pos h56], hM, (SmR.of hs1 (by decide) (by decide) (by decide) (by decide))⟩⟩
        · refine r_aload_n C 0 dX8_match_47 rfl rfl ?_
          refine r_get C (CN := RX8) (T := TX8) (N := 21) k_36 rfl hin_X8 (j := 13) (by decide) hk_104 rfl rfl dX8_match_48 ?_
          refine r_setI (y := (nI (rg (fP S i0 j0) 0))) (hpl.2.1) ?_
          refine r_goto C dX8_match_51 (tgt := 88) (by decide) ?_
          exact E.2.1 rfl _ _ _ _ dX8_match_88 ⟨_, rfl, ⟨by unfold matA; rw [ifp_t ⟨⟨i0, hi, rfl⟩, ⟨j0, hj, rfl⟩, ⟨w0, hw0, rfl⟩⟩, cl_nI (show i0 < 2 ^ 31 by omega), cl_nI (show j0 < 2 ^ 31 by omega), cl_nI (show w0 < 2 ^ 31 by omega)]; unfold matN; rw [if_neg h32, if_pos h44], hM, (SmR.of hs1 (by decide) (by decide) (by decide) (by decide))⟩⟩
      · refine r_aload_n C 0 dX8_match_35 rfl rfl ?_
        refine r_get C (CN := RX8) (T := TX8) (N := 21) k_36 rfl hin_X8 (j := 12) (by decide) hk_101 rfl rfl dX8_match_36 ?_
        refine r_setI (y := (nI (tl (fP S i0 j0) 0))) (hpl.1) ?_
        refine r_goto C dX8_match_39 (tgt := 88) (by decide) ?_
        exact E.2.1 rfl _ _ _ _ dX8_match_88 ⟨_, rfl, ⟨by unfold matA; rw [ifp_t ⟨⟨i0, hi, rfl⟩, ⟨j0, hj, rfl⟩, ⟨w0, hw0, rfl⟩⟩, cl_nI (show i0 < 2 ^ 31 by omega), cl_nI (show j0 < 2 ^ 31 by omega), cl_nI (show w0 < 2 ^ 31 by omega)]; unfold matN; rw [if_pos h32], hM, (SmR.of hs1 (by decide) (by decide) (by decide) (by decide))⟩⟩
    · refine r_ldc C (v := (-1000000)) hk_112 dX8_match_21 ?_
      exact E.2.1 rfl _ _ _ _ dX8_match_23 ⟨_, rfl, ⟨ifp_f (fun q => by first | exact h6 ⟨q.1, q.2.1⟩ | exact h18 q.2.2) _ _, hM, SmR.rf⟩⟩
def rmX8_mean : Room := { frames := 3, cells := 0, slots := 0, locals := 73 }
theorem pk_X8_mean : Pk yX8_mean RX8 3 := by decide +kernel
set_option maxHeartbeats 4000000 in
set_option maxRecDepth 100000 in
theorem c_X8_mean (l : Launch) (g : gE) (ad : Nat → Nat) (u : Me) (S : Sg) (hM : RepM S u) (hO : Ok S) (i j w : Int32) : Ctl l yX8_mean wsX8_mean rmX8_mean g ad [.ref (ad 36), .int (i), .int (j), .int (w)] u (fun r u' => meaA S i j w = r ∧ RepM S u' ∧ SmR u u') := by
  refine Ct.of (cc := cX8_mean) (nL := 4) (ret := (some .long)) RX8 (by decide) rfl rfl (Nat.le_of_ble_eq_true rfl) (fun kx C E => ?_)
  have hin_X8 : ∀ w ∈ u_ws RX8 TX8 21, w ∈ wsX8_mean := by decide +kernel
  have hk_101 : Cond.fieldLink RX8 101 "AgainAgainModel" "tail" "I" ∈ wsX8_mean := by decide +kernel
  have hk_104 : Cond.fieldLink RX8 104 "AgainAgainModel" "ring" "I" ∈ wsX8_mean := by decide +kernel
  have hk_138 : Cond.constantLong RX8 138 (-1000000000000000) ∈ wsX8_mean := by decide +kernel
  show G kx 0 0 (WW g ad u) 0 [(0, .ref (ad 36)), (1, .int (i)), (2, .int (j)), (3, .int (w))] []
  have hn := hO.n
  refine r_aload_n C 0 dX8_mean_0 rfl rfl ?_
  refine r_iload_n C 1 dX8_mean_1 rfl rfl ?_
  refine r_iload_n C 2 dX8_mean_2 rfl rfl ?_
  refine r_callVi C (rest := []) (c_X8_areBoth l g ad u S hM hO i j) gX8_mean_X8_areBoth pk_X8_areBoth k_36 dX8_mean_3 rfl rfl rfl rfl ⟨(Nat.le_of_ble_eq_true rfl), (Nat.le_of_ble_eq_true rfl)⟩ rfl rfl (Nat.le_of_ble_eq_true rfl) ⟨(Nat.le_of_ble_eq_true rfl), (Nat.le_of_ble_eq_true rfl)⟩ ?_
  rintro _ _ ⟨rfl, rfl⟩
  refine r_ifB_eq C dX8_mean_6 (tgt := 19) (by decide) (fun h6 => ?_) (fun h6 => ?_)
  · refine r_ldc2 C (v := (-1000000000000000)) hk_138 dX8_mean_19 ?_
    refine r_setL (y := lI (-1000000000000000)) (by decide) ?_
    exact E.2.2.2 rfl _ _ _ _ dX8_mean_22 ⟨_, rfl, ⟨ifp_f (fun q => by first | exact h6 ⟨q.1, q.2.1⟩ | exact h16 q.2.2) _ _, hM, SmR.rf⟩⟩
  · obtain ⟨⟨i0, hi, rfl⟩, ⟨j0, hj, rfl⟩⟩ := h6
    refine r_iload_n C 3 dX8_mean_9 rfl rfl ?_
    refine r_i2l C dX8_mean_10 (v := (w).toInt64) rfl ?_
    refine r_lconst C dX8_mean_11 (v := lI 0) (by decide) ?_
    refine r_lconst C dX8_mean_12 (v := lI 1) (by decide) ?_
    refine r_callSi C (rest := []) (c_X8_in l g ad u ((w).toInt64) (lI 0) (lI 1)) gX8_mean_X8_in pk_X8_in dX8_mean_13 rfl rfl rfl rfl ⟨(Nat.le_of_ble_eq_true rfl), (Nat.le_of_ble_eq_true rfl)⟩ rfl (Nat.le_of_ble_eq_true rfl) ⟨(Nat.le_of_ble_eq_true rfl), (Nat.le_of_ble_eq_true rfl)⟩ ?_
    rintro _ _ ⟨rfl, rfl⟩
    refine r_setI (y := (bI (isR 2 w))) (bI_iff (inL_iff (n := 1) (by decide))) ?_
    refine r_ifB_ne C dX8_mean_16 (tgt := 23) (by decide) (fun h16 => ?_) (fun h16 => ?_)
    · obtain ⟨w0, hw0, rfl⟩ := h16
      refine r_aload_n C 0 dX8_mean_23 rfl rfl ?_
      refine r_iload_n C 1 dX8_mean_24 rfl rfl ?_
      refine r_iload_n C 2 dX8_mean_25 rfl rfl ?_
      refine r_iconst C dX8_mean_26 (v := nI 0) (by decide) ?_
      refine r_callVv C (rest := []) (c_X8_plays l g ad u S hM hO i0 j0 hi hj 0 (VP_0 hO i0 j0)) gX8_mean_X8_plays pk_X8_plays k_36 dX8_mean_27 rfl rfl rfl rfl ⟨(Nat.le_of_ble_eq_true rfl), (Nat.le_of_ble_eq_true rfl)⟩ rfl rfl (Nat.le_of_ble_eq_true rfl) ⟨(Nat.le_of_ble_eq_true rfl), (Nat.le_of_ble_eq_true rfl)⟩ ?_
      rintro v1 ⟨⟨hpl, hs1⟩, hM⟩
      obtain ⟨hTT, hT16⟩ := tlr_spec (N := 16) (f := fP S i0 j0) (p := 0) (fun r => VP_16 hO (it_V (V := VP S i0 j0) (fun p _ => VP_f hO) (VP_0 hO i0 j0) r))
      have hR1 := hTT.1
      refine r_aload_n C 0 dX8_mean_30 rfl rfl ?_
      refine r_aload_n C 0 dX8_mean_31 rfl rfl ?_
      refine r_aload_n C 0 dX8_mean_32 rfl rfl ?_
      refine r_get C (CN := RX8) (T := TX8) (N := 21) k_36 rfl hin_X8 (j := 12) (by decide) hk_101 rfl rfl dX8_mean_33 ?_
      refine r_setI (y := (nI (tl (fP S i0 j0) 0))) (hpl.1) ?_
      refine r_aload_n C 0 dX8_mean_36 rfl rfl ?_
      refine r_get C (CN := RX8) (T := TX8) (N := 21) k_36 rfl hin_X8 (j := 12) (by decide) hk_101 rfl rfl dX8_mean_37 ?_
      refine r_setI (y := (nI (tl (fP S i0 j0) 0))) (hpl.1) ?_
      refine r_aload_n C 0 dX8_mean_40 rfl rfl ?_
      refine r_get C (CN := RX8) (T := TX8) (N := 21) k_36 rfl hin_X8 (j := 13) (by decide) hk_104 rfl rfl dX8_mean_41 ?_
      refine r_setI (y := (nI (rg (fP S i0 j0) 0))) (hpl.2.1) ?_
      refine r_iaddN C dX8_mean_44 ?_
      refine r_callVi C (rest := [.ref (ad 36)]) (c_X8_sumOf l g ad v1 (fP S i0 j0) (gP S i0 j0) 0 hpl (tl (fP S i0 j0) 0) ((tl (fP S i0 j0) 0) + (rg (fP S i0 j0) 0)) (by omega) (by omega) hT16) gX8_mean_X8_sumOf pk_X8_sumOf k_36 dX8_mean_45 rfl rfl rfl rfl ⟨(Nat.le_of_ble_eq_true rfl), (Nat.le_of_ble_eq_true rfl)⟩ rfl rfl (Nat.le_of_ble_eq_true rfl) ⟨(Nat.le_of_ble_eq_true rfl), (Nat.le_of_ble_eq_true rfl)⟩ ?_
      rintro _ _ ⟨rfl, rfl⟩
      refine r_setI (y := (iI (meN S i0 j0))) (congrArg iI (by rw [Nat.add_sub_cancel_left]; rfl)) ?_
      have hme := meN_bd hO i0 j0 (by omega)
      refine r_i2l C dX8_mean_48 (v := lI (meN S i0 j0)) (iI_l (by omega) (by omega)) ?_
      refine r_aload_n C 0 dX8_mean_49 rfl rfl ?_
      refine r_get C (CN := RX8) (T := TX8) (N := 21) k_36 rfl hin_X8 (j := 13) (by decide) hk_104 rfl rfl dX8_mean_50 ?_
      refine r_setI (y := (nI (rg (fP S i0 j0) 0))) (hpl.2.1) ?_
      refine r_i2l C dX8_mean_53 (v := lI ((rg (fP S i0 j0) 0) : Nat)) (nI_lI (by omega)) ?_
      refine r_callVv C (rest := []) (c_X8_lowest l g ad v1 (meN S i0 j0) ((rg (fP S i0 j0) 0 : Nat) : Int) (by omega) (by omega) (by omega) (by omega)) gX8_mean_X8_lowest pk_X8_lowest k_36 dX8_mean_54 rfl rfl rfl rfl ⟨(Nat.le_of_ble_eq_true rfl), (Nat.le_of_ble_eq_true rfl)⟩ rfl rfl (Nat.le_of_ble_eq_true rfl) ⟨(Nat.le_of_ble_eq_true rfl), (Nat.le_of_ble_eq_true rfl)⟩ ?_
      rintro _ rfl
      refine r_aload_n C 0 dX8_mean_57 rfl rfl ?_
      refine r_iload_n C 3 dX8_mean_58 rfl rfl ?_
      refine r_callVl C (rest := []) (c_X8_part l g ad (sL (sL v1 8 (lI (rdN (meN S i0 j0) ((rg (fP S i0 j0) 0 : Nat) : Int)))) 9 (lI (rdD (meN S i0 j0) ((rg (fP S i0 j0) 0 : Nat) : Int)))) w0 (by omega)) gX8_mean_X8_part pk_X8_part k_36 dX8_mean_59 rfl rfl rfl rfl ⟨(Nat.le_of_ble_eq_true rfl), (Nat.le_of_ble_eq_true rfl)⟩ rfl rfl (Nat.le_of_ble_eq_true rfl) ⟨(Nat.le_of_ble_eq_true rfl), (Nat.le_of_ble_eq_true rfl)⟩ ?_
      rintro _ _ ⟨rfl, rfl⟩
      refine r_setL (y := (if w0 = 0 then lI (rdN (meN S i0 j0) ((rg (fP S i0 j0) 0 : Nat) : Int)) else lI (rdD (meN S i0 j0) ((rg (fP S i0 j0) 0 : Nat) : Int)))) (by by_cases z : w0 = 0; rw [if_pos z, if_pos z]; exact rfl; rw [if_neg z, if_neg z]; exact rfl) ?_
      exact E.2.2.2 rfl _ _ _ _ dX8_mean_62 ⟨_, rfl, ⟨by unfold meaA; rw [ifp_t ⟨⟨i0, hi, rfl⟩, ⟨j0, hj, rfl⟩, ⟨w0, hw0, rfl⟩⟩, cl_nI (show i0 < 2 ^ 31 by omega), cl_nI (show j0 < 2 ^ 31 by omega), cl_nI (show w0 < 2 ^ 31 by omega)], (hM.sL 8 _).sL 9 _, ((SmR.of hs1 (by decide) (by decide) (by decide) (by decide))).tr (SmR.of ((Sm.rf.sL (c := 8) (fa := []) (fj := []) (fi := []) (fl := [8, 9]) (by decide) _).sL (c := 9) (by decide) _) (by decide) (by decide) (by decide) (by decide))⟩⟩
    · refine r_ldc2 C (v := (-1000000000000000)) hk_138 dX8_mean_19 ?_
      refine r_setL (y := lI (-1000000000000000)) (by decide) ?_
      exact E.2.2.2 rfl _ _ _ _ dX8_mean_22 ⟨_, rfl, ⟨ifp_f (fun q => by first | exact h6 ⟨q.1, q.2.1⟩ | exact h16 q.2.2) _ _, hM, SmR.rf⟩⟩
def rmX8_planWorth : Room := { frames := 3, cells := 0, slots := 0, locals := 82 }
theorem pk_X8_planWorth : Pk yX8_planWorth RX8 4 := by decide +kernel
set_option maxHeartbeats 4000000 in
set_option maxRecDepth 100000 in
theorem c_X8_planWorth (l : Launch) (g : gE) (ad : Nat → Nat) (u : Me) (S : Sg) (hM : RepM S u) (hO : Ok S) (m s p w : Int32) : Ctl l yX8_planWorth wsX8_planWorth rmX8_planWorth g ad [.ref (ad 36), .int (m), .int (s), .int (p), .int (w)] u (fun r u' => pwoA S m s p w = r ∧ RepM S u' ∧ SmR u u') := by
  refine Ct.of (cc := cX8_planWorth) (nL := 5) (ret := (some .long)) RX8 (by decide) rfl rfl (Nat.le_of_ble_eq_true rfl) (fun kx C E => ?_)
  have hk_138 : Cond.constantLong RX8 138 (-1000000000000000) ∈ wsX8_planWorth := by decide +kernel
  show G kx 0 0 (WW g ad u) 0 [(0, .ref (ad 36)), (1, .int (m)), (2, .int (s)), (3, .int (p)), (4, .int (w))] []
  have hn := hO.n
  refine r_aload_n C 0 dX8_planWorth_0 rfl rfl ?_
  refine r_iload_n C 1 dX8_planWorth_1 rfl rfl ?_
  refine r_iload_n C 2 dX8_planWorth_2 rfl rfl ?_
  refine r_callVi C (rest := []) (c_X8_isState l g ad u S hM hO m s) gX8_planWorth_X8_isState pk_X8_isState k_36 dX8_planWorth_3 rfl rfl rfl rfl ⟨(Nat.le_of_ble_eq_true rfl), (Nat.le_of_ble_eq_true rfl)⟩ rfl rfl (Nat.le_of_ble_eq_true rfl) ⟨(Nat.le_of_ble_eq_true rfl), (Nat.le_of_ble_eq_true rfl)⟩ ?_
  rintro _ _ ⟨rfl, rfl⟩
  refine r_ifB_eq C dX8_planWorth_6 (tgt := 37) (by decide) (fun h6 => ?_) (fun h6 => ?_)
  · refine r_ldc2 C (v := (-1000000000000000)) hk_138 dX8_planWorth_37 ?_
    refine r_setL (y := lI (-1000000000000000)) (by decide) ?_
    exact E.2.2.2 rfl _ _ _ _ dX8_planWorth_40 ⟨_, rfl, ⟨ifp_f (fun q => by first | exact h6 q.1 | exact h34 q.2.1 | exact h23 (by have z := q.2.2; rwa [cl_nI (show m0 < 2 ^ 31 by omega)] at z)) _ _, hM, SmR.rf⟩⟩
  · obtain ⟨m0, hm, rfl, s0, hs, rfl⟩ := h6
    have hz := (hO.z m0).2
    have h81 := p81 hz
    refine r_iload_n C 3 dX8_planWorth_9 rfl rfl ?_
    refine r_i2l C dX8_planWorth_10 (v := (p).toInt64) rfl ?_
    refine r_lconst C dX8_planWorth_11 (v := lI 0) (by decide) ?_
    refine r_aload_n C 0 dX8_planWorth_12 rfl rfl ?_
    refine r_iload_n C 1 dX8_planWorth_13 rfl rfl ?_
    refine r_callVi C (rest := [.long (lI 0), .long ((p).toInt64)]) (c_X8_plans l g ad u S hM hO m0 (by assumption)) gX8_planWorth_X8_plans pk_X8_plans k_36 dX8_planWorth_14 rfl rfl rfl rfl ⟨(Nat.le_of_ble_eq_true rfl), (Nat.le_of_ble_eq_true rfl)⟩ rfl rfl (Nat.le_of_ble_eq_true rfl) ⟨(Nat.le_of_ble_eq_true rfl), (Nat.le_of_ble_eq_true rfl)⟩ ?_
    rintro _ _ ⟨rfl, rfl⟩
    refine r_iconst C dX8_planWorth_17 (v := nI 1) (by decide) ?_
    refine r_isub C dX8_planWorth_18 ?_
    refine r_setI (y := iI (((3 ^ sz S m0) : Nat) - 1)) (iI_sub (((3 ^ sz S m0) : Nat) : Int) ((1 : Nat) : Int)) ?_
    refine r_i2l C dX8_planWorth_19 (v := lI (((3 ^ sz S m0) : Nat) - 1)) (iI_l (by omega) (by omega)) ?_
    refine r_callSi C (rest := []) (c_X8_in l g ad u ((p).toInt64) (lI 0) (lI (((3 ^ sz S m0) : Nat) - 1))) gX8_planWorth_X8_in pk_X8_in dX8_planWorth_20 rfl rfl rfl rfl ⟨(Nat.le_of_ble_eq_true rfl), (Nat.le_of_ble_eq_true rfl)⟩ rfl (Nat.le_of_ble_eq_true rfl) ⟨(Nat.le_of_ble_eq_true rfl), (Nat.le_of_ble_eq_true rfl)⟩ ?_
    rintro _ _ ⟨rfl, rfl⟩
    refine r_setI (y := (bI (isR (3 ^ sz S m0) p))) (bI_iff (inR_iff (n := 3 ^ sz S m0) (by omega))) ?_
    refine r_ifB_eq C dX8_planWorth_23 (tgt := 37) (by decide) (fun h23 => ?_) (fun h23 => ?_)
    · refine r_ldc2 C (v := (-1000000000000000)) hk_138 dX8_planWorth_37 ?_
      refine r_setL (y := lI (-1000000000000000)) (by decide) ?_
      exact E.2.2.2 rfl _ _ _ _ dX8_planWorth_40 ⟨_, rfl, ⟨ifp_f (fun q => by first | exact h6 q.1 | exact h34 q.2.1 | exact h23 (by have z := q.2.2; rwa [cl_nI (show m0 < 2 ^ 31 by omega)] at z)) _ _, hM, SmR.rf⟩⟩
    · obtain ⟨p0, hp0, rfl⟩ := h23
      refine r_iload C 4 dX8_planWorth_26 rfl ?_
      refine r_i2l C dX8_planWorth_28 (v := (w).toInt64) rfl ?_
      refine r_lconst C dX8_planWorth_29 (v := lI 0) (by decide) ?_
      refine r_lconst C dX8_planWorth_30 (v := lI 1) (by decide) ?_
      refine r_callSi C (rest := []) (c_X8_in l g ad u ((w).toInt64) (lI 0) (lI 1)) gX8_planWorth_X8_in pk_X8_in dX8_planWorth_31 rfl rfl rfl rfl ⟨(Nat.le_of_ble_eq_true rfl), (Nat.le_of_ble_eq_true rfl)⟩ rfl (Nat.le_of_ble_eq_true rfl) ⟨(Nat.le_of_ble_eq_true rfl), (Nat.le_of_ble_eq_true rfl)⟩ ?_
      rintro _ _ ⟨rfl, rfl⟩
      refine r_setI (y := (bI (isR 2 w))) (bI_iff (inL_iff (n := 1) (by decide))) ?_
      refine r_ifB_ne C dX8_planWorth_34 (tgt := 41) (by decide) (fun h34 => ?_) (fun h34 => ?_)
      · obtain ⟨w0, hw0, rfl⟩ := h34
        refine r_aload_n C 0 dX8_planWorth_41 rfl rfl ?_
        refine r_iload_n C 1 dX8_planWorth_42 rfl rfl ?_
        refine r_iload_n C 2 dX8_planWorth_43 rfl rfl ?_
        refine r_iload_n C 3 dX8_planWorth_44 rfl rfl ?_
        refine r_callVv C (rest := []) (c_X8_findPlanWorth l g ad u S hM hO m0 s0 (by assumption) (by assumption) p0 (by first | assumption | omega)) gX8_planWorth_X8_findPlanWorth pk_X8_findPlanWorth k_36 dX8_planWorth_45 rfl rfl rfl rfl ⟨(Nat.le_of_ble_eq_true rfl), (Nat.le_of_ble_eq_true rfl)⟩ rfl rfl (Nat.le_of_ble_eq_true rfl) ⟨(Nat.le_of_ble_eq_true rfl), (Nat.le_of_ble_eq_true rfl)⟩ ?_
        rintro q1 ⟨⟨htq, hdq, hsq⟩, hM⟩
        refine r_aload_n C 0 dX8_planWorth_48 rfl rfl ?_
        refine r_iload C 4 dX8_planWorth_49 rfl ?_
        refine r_callVl C (rest := []) (c_X8_part l g ad q1 w0 (by omega)) gX8_planWorth_X8_part pk_X8_part k_36 dX8_planWorth_51 rfl rfl rfl rfl ⟨(Nat.le_of_ble_eq_true rfl), (Nat.le_of_ble_eq_true rfl)⟩ rfl rfl (Nat.le_of_ble_eq_true rfl) ⟨(Nat.le_of_ble_eq_true rfl), (Nat.le_of_ble_eq_true rfl)⟩ ?_
        rintro _ _ ⟨rfl, rfl⟩
        refine r_setL (y := (if w0 = 0 then lI (qN S m0 s0 p0) else lI (qD S m0 s0 p0))) (by by_cases z : w0 = 0; rw [if_pos z, if_pos z]; exact htq; rw [if_neg z, if_neg z]; exact hdq) ?_
        exact E.2.2.2 rfl _ _ _ _ dX8_planWorth_54 ⟨_, rfl, ⟨by unfold pwoA; rw [cl_nI (show m0 < 2 ^ 31 by omega), ifp_t ⟨⟨m0, hm, rfl, s0, hs, rfl⟩, ⟨w0, hw0, rfl⟩, ⟨p0, hp0, rfl⟩⟩, cl_nI (show s0 < 2 ^ 31 by omega), cl_nI (show w0 < 2 ^ 31 by omega), cl_nI (show p0 < 2 ^ 31 by omega)], hM, (SmR.of hsq (by decide) (by decide) (by decide) (by decide))⟩⟩
      · refine r_ldc2 C (v := (-1000000000000000)) hk_138 dX8_planWorth_37 ?_
        refine r_setL (y := lI (-1000000000000000)) (by decide) ?_
        exact E.2.2.2 rfl _ _ _ _ dX8_planWorth_40 ⟨_, rfl, ⟨ifp_f (fun q => by first | exact h6 q.1 | exact h34 q.2.1 | exact h23 (by have z := q.2.2; rwa [cl_nI (show m0 < 2 ^ 31 by omega)] at z)) _ _, hM, SmR.rf⟩⟩
def rmX8_invaders : Room := { frames := 6, cells := 0, slots := 0, locals := 151 }
theorem pk_X8_invaders : Pk yX8_invaders RX8 1 := by decide +kernel
set_option maxHeartbeats 4000000 in
set_option maxRecDepth 100000 in
theorem c_X8_invaders (l : Launch) (g : gE) (ad : Nat → Nat) (u : Me) (S : Sg) (hM : RepM S u) (hO : Ok S) (j : Int32) : Cti l yX8_invaders wsX8_invaders rmX8_invaders g ad [.ref (ad 36), .int (j)] u (fun r u' => invA S j = r ∧ RepM S u' ∧ SmR u u') := by
  refine Ct.of (cc := cX8_invaders) (nL := 4) (ret := (some .int)) RX8 (by decide) rfl rfl (Nat.le_of_ble_eq_true rfl) (fun kx C E => ?_)
  have hin_X8 : ∀ w ∈ u_ws RX8 TX8 21, w ∈ wsX8_invaders := by decide +kernel
  have hk_63 : Cond.fieldLink RX8 63 "AgainAgainModel" "machines" "I" ∈ wsX8_invaders := by decide +kernel
  show G kx 0 0 (WW g ad u) 0 [(0, .ref (ad 36)), (1, .int (j))] []
  have hn := hO.n
  refine r_aload_n C 0 dX8_invaders_0 rfl rfl ?_
  refine r_iload_n C 1 dX8_invaders_1 rfl rfl ?_
  refine r_callVi C (rest := []) (c_X8_isMachine l g ad u S hM hO j) gX8_invaders_X8_isMachine pk_X8_isMachine k_36 dX8_invaders_2 rfl rfl rfl rfl ⟨(Nat.le_of_ble_eq_true rfl), (Nat.le_of_ble_eq_true rfl)⟩ rfl rfl (Nat.le_of_ble_eq_true rfl) ⟨(Nat.le_of_ble_eq_true rfl), (Nat.le_of_ble_eq_true rfl)⟩ ?_
  rintro _ _ ⟨rfl, rfl⟩
  refine r_ifB_ne C dX8_invaders_5 (tgt := 10) (by decide) (fun h5 => ?_) (fun h5 => ?_)
  · obtain ⟨j0, hj, rfl⟩ := h5
    refine r_iconst C dX8_invaders_10 (v := nI 0) (by decide) ?_
    refine r_istore_n C [(0, .ref (ad 36)), (1, .int (nI (j0))), (2, .int (nI (0)))] [1, 2, 0] dX8_invaders_11 rfl (by decide) rfl ?_
    refine r_iconst C dX8_invaders_12 (v := nI 0) (by decide) ?_
    refine r_istore_n C [(0, .ref (ad 36)), (1, .int (nI (j0))), (2, .int (nI (0))), (3, .int (nI (0)))] [1, 2, 3, 0] dX8_invaders_13 rfl (by decide) rfl ?_
    have L14 : ∀ (fu : Nat) (i0 : Nat) (v : Me), sN S < i0 + fu → (i0 ≤ sN S) → (Sm [44, 45] [] [10, 11] [8, 9] u v) → (RepM S v) → G kx 0 0 (WW g ad v) 14 [(0, .ref (ad 36)), (1, .int (nI (j0))), (2, .int (nI (ivN S j0 i0))), (3, .int (nI (i0)))] [] := by
      intro fu
      induction fu with
      | zero => intro i0 v hfu hin hv hM; exact absurd hfu (by omega)
      | succ fu ih =>
        intro i0 v hfu hin hv hM
        have hlt := ivN_lt (S := S) (j := j0) i0
        have hlt2 : 2 ^ i0 ≤ 2 ^ 12 := Nat.pow_le_pow_right (by decide) (by omega)
        refine r_iload_n C 3 dX8_invaders_14 rfl rfl ?_
        refine r_aload_n C 0 dX8_invaders_15 rfl rfl ?_
        refine r_get C (CN := RX8) (T := TX8) (N := 21) k_36 rfl hin_X8 (j := 3) (by decide) hk_63 rfl rfl dX8_invaders_16 ?_
        refine r_setI (y := (nI (sN S))) (hM.n) ?_
        refine r_icmpN_ge C dX8_invaders_19 (tgt := 52) (by decide) (by omega) (by omega) (fun h19 => ?_) (fun h19 => ?_)
        · refine r_iload_n C 2 dX8_invaders_52 rfl rfl ?_
          exact E.2.1 rfl _ _ _ _ dX8_invaders_53 ⟨_, rfl, ⟨by unfold invA; rw [ifp_t ⟨j0, hj, rfl⟩, cl_nI (show j0 < 2 ^ 31 by omega), show i0 = sN S by omega], hM, (SmR.of hv (by decide) (by decide) (by decide) (by decide))⟩⟩
        · have hi : i0 < sN S := by omega
          refine r_iload_n C 2 dX8_invaders_22 rfl rfl ?_
          refine r_iload_n C 3 dX8_invaders_23 rfl rfl ?_
          refine r_iload_n C 1 dX8_invaders_24 rfl rfl ?_
          refine r_icmpN_eq C dX8_invaders_25 (tgt := 43) (by decide) (by omega) (by omega) (fun h25 => ?_) (fun h25 => ?_)
          · refine r_iconst C dX8_invaders_43 (v := nI 0) (by decide) ?_
            refine r_iaddN C dX8_invaders_44 ?_
            refine r_istore_n C [(0, .ref (ad 36)), (1, .int (nI (j0))), (2, .int (nI ((ivN S j0 i0) + 0))), (3, .int (nI (i0)))] [1, 2, 0, 3] dX8_invaders_45 rfl (by decide) rfl ?_
            refine r_iinc C [(0, .ref (ad 36)), (1, .int (nI (j0))), (2, .int (nI ((ivN S j0 i0) + 0))), (3, .int (nI (i0 + 1)))] [1, 2, 3, 0] 3 dX8_invaders_46 rfl (nI_add _ 1) (by decide) rfl ?_
            refine r_goto C dX8_invaders_49 (tgt := 14) (by decide) ?_
            rw [Nat.add_zero, ← ivN_f (S := S) (j := j0) (n := i0) (by first | exact fun q => q.1 h25 | exact fun q => q.2 h34)]
            exact ih (i0 + 1) _ (by omega) (by omega) hv hM
          · refine r_aload_n C 0 dX8_invaders_28 rfl rfl ?_
            refine r_iload_n C 1 dX8_invaders_29 rfl rfl ?_
            refine r_iload_n C 3 dX8_invaders_30 rfl rfl ?_
            refine r_callVi C (rest := [.int (nI (ivN S j0 i0))]) (c_X8_doesResist l g ad v S hM hO j0 i0 (by assumption) (by assumption)) gX8_invaders_X8_doesResist pk_X8_doesResist k_36 dX8_invaders_31 rfl rfl rfl rfl ⟨(Nat.le_of_ble_eq_true rfl), (Nat.le_of_ble_eq_true rfl)⟩ rfl rfl (Nat.le_of_ble_eq_true rfl) ⟨(Nat.le_of_ble_eq_true rfl), (Nat.le_of_ble_eq_true rfl)⟩ ?_
            rintro _ w1 ⟨⟨rfl, hw1⟩, hM⟩
            refine r_ifB_ne C dX8_invaders_34 (tgt := 43) (by decide) (fun h34 => ?_) (fun h34 => ?_)
            · refine r_iconst C dX8_invaders_43 (v := nI 0) (by decide) ?_
              refine r_iaddN C dX8_invaders_44 ?_
              refine r_istore_n C [(0, .ref (ad 36)), (1, .int (nI (j0))), (2, .int (nI ((ivN S j0 i0) + 0))), (3, .int (nI (i0)))] [1, 2, 0, 3] dX8_invaders_45 rfl (by decide) rfl ?_
              refine r_iinc C [(0, .ref (ad 36)), (1, .int (nI (j0))), (2, .int (nI ((ivN S j0 i0) + 0))), (3, .int (nI (i0 + 1)))] [1, 2, 3, 0] 3 dX8_invaders_46 rfl (nI_add _ 1) (by decide) rfl ?_
              refine r_goto C dX8_invaders_49 (tgt := 14) (by decide) ?_
              rw [Nat.add_zero, ← ivN_f (S := S) (j := j0) (n := i0) (by first | exact fun q => q.1 h25 | exact fun q => q.2 h34)]
              exact ih (i0 + 1) _ (by omega) (by omega) (hv.tr hw1) hM
            · refine r_iconst C dX8_invaders_37 (v := nI 1) (by decide) ?_
              refine r_iload_n C 3 dX8_invaders_38 rfl rfl ?_
              refine r_ishlN C dX8_invaders_39 (by omega) ?_
              refine r_goto C dX8_invaders_40 (tgt := 44) (by decide) ?_
              refine r_iaddN C dX8_invaders_44 ?_
              refine r_istore_n C [(0, .ref (ad 36)), (1, .int (nI (j0))), (2, .int (nI ((ivN S j0 i0) + (2 ^ i0)))), (3, .int (nI (i0)))] [1, 2, 0, 3] dX8_invaders_45 rfl (by decide) rfl ?_
              refine r_iinc C [(0, .ref (ad 36)), (1, .int (nI (j0))), (2, .int (nI ((ivN S j0 i0) + (2 ^ i0)))), (3, .int (nI (i0 + 1)))] [1, 2, 3, 0] 3 dX8_invaders_46 rfl (nI_add _ 1) (by decide) rfl ?_
              refine r_goto C dX8_invaders_49 (tgt := 14) (by decide) ?_
              rw [← ivN_t ⟨h25, h34⟩]
              exact ih (i0 + 1) _ (by omega) (by omega) (hv.tr hw1) hM
    exact L14 (sN S + 1) 0 u (by omega) (by omega) Sm.rf hM
  · refine r_iconst C dX8_invaders_8 (v := (-1)) (by decide) ?_
    exact E.2.1 rfl _ _ _ _ dX8_invaders_9 ⟨_, rfl, ⟨ifp_f h5 _ _, hM, SmR.rf⟩⟩
