def rmX8_machine : Room := { frames := 1, cells := 0, slots := 0, locals := 25 }
theorem pk_X8_machine : Pk yX8_machine RX8 1 := by decide +kernel
set_option maxHeartbeats 4000000 in
set_option maxRecDepth 100000 in
theorem c_X8_machine (l : Launch) (g : gE) (ad : Nat → Nat) (u : Me) (S : Sg) (hM : RepM S u) (hO : Ok S) (n : Int32) : Cti l yX8_machine wsX8_machine rmX8_machine g ad [.ref (ad 36), .int (n)] u (fun r u' => ∃ S', machA S n = (r, S') ∧ RepM S' u' ∧ SmR u u') := by
  refine Ct.of (cc := cX8_machine) (nL := 4) (ret := (some .int)) RX8 (by decide) rfl rfl (Nat.le_of_ble_eq_true rfl) (fun kx C E => ?_)
  have hin_X8 : ∀ w ∈ u_ws RX8 TX8 21, w ∈ wsX8_machine := by decide +kernel
  have hk_20 : Cond.fieldLink RX8 20 "AgainAgainModel" "many" "[I" ∈ wsX8_machine := by decide +kernel
  have hk_23 : Cond.fieldLink RX8 23 "AgainAgainModel" "acts" "[I" ∈ wsX8_machine := by decide +kernel
  have hk_26 : Cond.fieldLink RX8 26 "AgainAgainModel" "nexts" "[I" ∈ wsX8_machine := by decide +kernel
  have hk_61 : Cond.constantLong RX8 61 (4) ∈ wsX8_machine := by decide +kernel
  have hk_63 : Cond.fieldLink RX8 63 "AgainAgainModel" "machines" "I" ∈ wsX8_machine := by decide +kernel
  show G kx 0 0 (WW g ad u) 0 [(0, .ref (ad 36)), (1, .int (n))] []
  have hn := hO.n
  refine r_iload_n C 1 dX8_machine_0 rfl rfl ?_
  refine r_i2l C dX8_machine_1 (v := (n).toInt64) rfl ?_
  refine r_lconst C dX8_machine_2 (v := lI 1) (by decide) ?_
  refine r_ldc2 C (v := (4)) hk_61 dX8_machine_3 ?_
  refine r_setL (y := lI (4)) (by decide) ?_
  refine r_callSi C (rest := []) (c_X8_in l g ad u ((n).toInt64) (lI 1) (lI (4))) gX8_machine_X8_in pk_X8_in dX8_machine_6 rfl rfl rfl rfl ⟨(Nat.le_of_ble_eq_true rfl), (Nat.le_of_ble_eq_true rfl)⟩ rfl (Nat.le_of_ble_eq_true rfl) ⟨(Nat.le_of_ble_eq_true rfl), (Nat.le_of_ble_eq_true rfl)⟩ ?_
  rintro _ _ ⟨rfl, rfl⟩
  refine r_setI (y := (bI (isAB 1 4 n))) (bI_iff (inAB_iff (a := 1) (b := 4) (by decide) (by decide))) ?_
  refine r_ifB_ne C dX8_machine_9 (tgt := 14) (by decide) (fun h9 => ?_) (fun h9 => ?_)
  · obtain ⟨n0, hn1, hn4, rfl⟩ := h9
    refine r_aload_n C 0 dX8_machine_14 rfl rfl ?_
    refine r_get C (CN := RX8) (T := TX8) (N := 21) k_36 rfl hin_X8 (j := 3) (by decide) hk_63 rfl rfl dX8_machine_15 ?_
    refine r_setI (y := (nI (sN S))) (hM.n) ?_
    refine r_bipush C dX8_machine_18 (v := nI 12) (by decide) ?_
    refine r_icmpN_ne C dX8_machine_20 (tgt := 26) (by decide) (by omega) (by omega) (fun h20 => ?_) (fun h20 => ?_)
    · have h12 : sN S < 12 := by omega
      refine r_aload_n C 0 dX8_machine_26 rfl rfl ?_
      refine r_get C (CN := RX8) (T := TX8) (N := 21) k_36 rfl hin_X8 (j := 4) (by decide) hk_20 rfl rfl dX8_machine_27 ?_
      refine r_aload_n C 0 dX8_machine_30 rfl rfl ?_
      refine r_get C (CN := RX8) (T := TX8) (N := 21) k_36 rfl hin_X8 (j := 3) (by decide) hk_63 rfl rfl dX8_machine_31 ?_
      refine r_setI (y := (nI (sN S))) (hM.n) ?_
      refine r_iload_n C 1 dX8_machine_34 rfl rfl ?_
      refine r_iast C k_38 (by omega) (by omega) dX8_machine_35 ?_
      refine r_iconst C dX8_machine_36 (v := nI 0) (by decide) ?_
      refine r_istore_n C [(0, .ref (ad 36)), (1, .int (nI (n0))), (2, .int (nI (0)))] [1, 2, 0] dX8_machine_37 rfl (by decide) rfl ?_
      have L38 : ∀ (fu : Nat) (s : Nat) (y : Me), 4 < s + fu → (s ≤ 4) → (AddM u (sN S) n0 s (3 * s) y) → G kx 0 0 (WW g ad y) 38 [(0, .ref (ad 36)), (1, .int (nI (n0))), (2, .int (nI (s)))] [] := by
        intro fu
        induction fu with
        | zero => intro s y hfu hs hy; exact absurd hfu (by omega)
        | succ fu ih =>
          intro s y hfu hs hy
          refine r_iload_n C 2 dX8_machine_38 rfl rfl ?_
          refine r_iconst C dX8_machine_39 (v := nI 4) (by decide) ?_
          refine r_icmpN_ge C dX8_machine_40 (tgt := 95) (by decide) (by omega) (by omega) (fun h40 => ?_) (fun h40 => ?_)
          · have hy4 : AddM u (sN S) n0 4 12 y := by
              have e : s = 4 := by omega
              subst e; exact hy
            refine r_aload_n C 0 dX8_machine_95 rfl rfl ?_
            refine r_dup C dX8_machine_96 rfl ?_
            refine r_get C (CN := RX8) (T := TX8) (N := 21) k_36 rfl hin_X8 (j := 3) (by decide) hk_63 rfl rfl dX8_machine_97 ?_
            refine r_setI (y := (nI (sN S))) ((hy.1.2.2.1 9 (by decide)).trans hM.n) ?_
            refine r_iconst C dX8_machine_100 (v := nI 1) (by decide) ?_
            refine r_iaddN C dX8_machine_101 ?_
            refine r_putI C (CN := RX8) (T := TX8) (N := 21) fI_9 rfl hin_X8 tyX8 tyX8_ok nmX8 (by decide) hk_63 rfl rfl (by decide +kernel) dX8_machine_102 ?_
            refine r_aload_n C 0 dX8_machine_105 rfl rfl ?_
            refine r_get C (CN := RX8) (T := TX8) (N := 21) k_36 rfl hin_X8 (j := 3) (by decide) hk_63 rfl rfl dX8_machine_106 ?_
            refine r_setI (y := (nI (sN S + 1))) (mI_sI_self _ _ _) ?_
            refine r_iconst C dX8_machine_109 (v := nI 1) (by decide) ?_
            refine r_isubN C dX8_machine_110 (by omega) ?_
            refine r_setI (y := nI (sN S)) (by rw [Nat.add_sub_cancel]) ?_
            exact E.2.1 rfl _ _ _ _ dX8_machine_111 ⟨_, rfl, ⟨addS S n0, by unfold machA; rw [ifp_t ⟨n0, hn1, hn4, rfl⟩, ifp_f (show ¬ sN S = 12 by omega), cl_nI (show n0 < 2 ^ 31 by omega)], hy4.fin hM hO hn4, SmR.of ((hy.1.wk (fa := [38, 39, 40]) (ga := [38, 39, 40]) (gj := []) (gi := [9]) (gl := []) (by decide) (by decide) (by decide) (by decide)).sI (c := 9) (by decide) _) (by decide) (by decide) (by decide) (by decide)⟩⟩
          · refine r_aload_n C 0 dX8_machine_43 rfl rfl ?_
            refine r_get C (CN := RX8) (T := TX8) (N := 21) k_36 rfl hin_X8 (j := 5) (by decide) hk_23 rfl rfl dX8_machine_44 ?_
            refine r_iconst C dX8_machine_47 (v := nI 4) (by decide) ?_
            refine r_aload_n C 0 dX8_machine_48 rfl rfl ?_
            refine r_get C (CN := RX8) (T := TX8) (N := 21) k_36 rfl hin_X8 (j := 3) (by decide) hk_63 rfl rfl dX8_machine_49 ?_
            refine r_setI (y := (nI (sN S))) ((hy.1.2.2.1 9 (by decide)).trans hM.n) ?_
            refine r_imulN C dX8_machine_52 ?_
            refine r_iload_n C 2 dX8_machine_53 rfl rfl ?_
            refine r_iaddN C dX8_machine_54 ?_
            refine r_iconst C dX8_machine_55 (v := nI 0) (by decide) ?_
            refine r_iast C k_39 (by omega) (by omega) dX8_machine_56 ?_
            refine r_iconst C dX8_machine_57 (v := nI 0) (by decide) ?_
            refine r_istore_n C [(0, .ref (ad 36)), (1, .int (nI (n0))), (2, .int (nI (s))), (3, .int (nI (0)))] [1, 2, 3, 0] dX8_machine_58 rfl (by decide) rfl ?_
            have iho := ih
            have L59 : ∀ (fu : Nat) (b : Nat) (z : Me), 3 < b + fu → (b ≤ 3) → (AddM u (sN S) n0 (s + 1) (3 * s + b) z) → G kx 0 0 (WW g ad z) 59 [(0, .ref (ad 36)), (1, .int (nI (n0))), (2, .int (nI (s))), (3, .int (nI (b)))] [] := by
              intro fu
              induction fu with
              | zero => intro b z hfu hb hz; exact absurd hfu (by omega)
              | succ fu ih =>
                intro b z hfu hb hz
                refine r_iload_n C 3 dX8_machine_59 rfl rfl ?_
                refine r_iconst C dX8_machine_60 (v := nI 3) (by decide) ?_
                refine r_icmpN_ge C dX8_machine_61 (tgt := 89) (by decide) (by omega) (by omega) (fun h61 => ?_) (fun h61 => ?_)
                · refine r_iinc C [(0, .ref (ad 36)), (1, .int (nI (n0))), (2, .int (nI (s + 1))), (3, .int (nI (b)))] [1, 2, 0, 3] 2 dX8_machine_89 rfl (nI_add _ 1) (by decide) rfl ?_
                  refine r_goto C dX8_machine_92 (tgt := 38) (by decide) ?_
                  refine r_lvs C [0, 1, 2] (lv' := [(0, .ref (ad 36)), (1, .int (nI (n0))), (2, .int (nI (s + 1)))]) rfl ?_
                  exact iho (s + 1) z (by omega) (by omega) (by rw [show 3 * (s + 1) = 3 * s + b by omega]; exact hz)
                · refine r_aload_n C 0 dX8_machine_64 rfl rfl ?_
                  refine r_get C (CN := RX8) (T := TX8) (N := 21) k_36 rfl hin_X8 (j := 6) (by decide) hk_26 rfl rfl dX8_machine_65 ?_
                  refine r_bipush C dX8_machine_68 (v := nI 12) (by decide) ?_
                  refine r_aload_n C 0 dX8_machine_70 rfl rfl ?_
                  refine r_get C (CN := RX8) (T := TX8) (N := 21) k_36 rfl hin_X8 (j := 3) (by decide) hk_63 rfl rfl dX8_machine_71 ?_
                  refine r_setI (y := (nI (sN S))) ((hz.1.2.2.1 9 (by decide)).trans hM.n) ?_
                  refine r_imulN C dX8_machine_74 ?_
                  refine r_iconst C dX8_machine_75 (v := nI 3) (by decide) ?_
                  refine r_iload_n C 2 dX8_machine_76 rfl rfl ?_
                  refine r_imulN C dX8_machine_77 ?_
                  refine r_iaddN C dX8_machine_78 ?_
                  refine r_iload_n C 3 dX8_machine_79 rfl rfl ?_
                  refine r_iaddN C dX8_machine_80 ?_
                  refine r_iload_n C 2 dX8_machine_81 rfl rfl ?_
                  refine r_iast C k_40 (by omega) (by omega) dX8_machine_82 ?_
                  refine r_iinc C [(0, .ref (ad 36)), (1, .int (nI (n0))), (2, .int (nI (s))), (3, .int (nI (b + 1)))] [1, 2, 3, 0] 3 dX8_machine_83 rfl (nI_add _ 1) (by decide) rfl ?_
                  refine r_goto C dX8_machine_86 (tgt := 59) (by decide) ?_
                  exact ih (b + 1) _ (by omega) (by omega) (hz.nxt (by omega))
            exact L59 4 0 _ (by omega) (by omega) hy.act
      exact L38 5 0 _ (by omega) (by omega) (AddM.init u (sN S) n0)
    · have h12e : sN S = 12 := by omega
      refine r_bipush C dX8_machine_23 (v := (-3)) (by decide) ?_
      exact E.2.1 rfl _ _ _ _ dX8_machine_25 ⟨_, rfl, ⟨S, (by unfold machA; rw [ifp_t ⟨n0, hn1, hn4, rfl⟩, ifp_t h12e]), hM, SmR.rf⟩⟩
  · refine r_iconst C dX8_machine_12 (v := (-1)) (by decide) ?_
    exact E.2.1 rfl _ _ _ _ dX8_machine_13 ⟨_, rfl, ⟨S, ifp_f h9 _ _, hM, SmR.rf⟩⟩
def rmX8_deviation : Room := { frames := 7, cells := 0, slots := 0, locals := 175 }
theorem pk_X8_deviation : Pk yX8_deviation RX8 3 := by decide +kernel
set_option maxHeartbeats 4000000 in
set_option maxRecDepth 100000 in
theorem c_X8_deviation (l : Launch) (g : gE) (ad : Nat → Nat) (u : Me) (S : Sg) (hM : RepM S u) (hO : Ok S) (i j w : Int32) : Cti l yX8_deviation wsX8_deviation rmX8_deviation g ad [.ref (ad 36), .int (i), .int (j), .int (w)] u (fun r u' => devA S i j w = r ∧ RepM S u' ∧ SmR u u') := by
  refine Ct.of (cc := cX8_deviation) (nL := 6) (ret := (some .int)) RX8 (by decide) rfl rfl (Nat.le_of_ble_eq_true rfl) (fun kx C E => ?_)
  have hin_X8 : ∀ w ∈ u_ws RX8 TX8 21, w ∈ wsX8_deviation := by decide +kernel
  have hk_51 : Cond.constantLong RX8 51 (2) ∈ wsX8_deviation := by decide +kernel
  have hk_159 : Cond.fieldLink RX8 159 "AgainAgainModel" "bestPlan" "I" ∈ wsX8_deviation := by decide +kernel
  show G kx 0 0 (WW g ad u) 0 [(0, .ref (ad 36)), (1, .int (i)), (2, .int (j)), (3, .int (w))] []
  have hn := hO.n
  refine r_aload_n C 0 dX8_deviation_0 rfl rfl ?_
  refine r_iload_n C 1 dX8_deviation_1 rfl rfl ?_
  refine r_iload_n C 2 dX8_deviation_2 rfl rfl ?_
  refine r_callVi C (rest := []) (c_X8_areBoth l g ad u S hM hO i j) gX8_deviation_X8_areBoth pk_X8_areBoth k_36 dX8_deviation_3 rfl rfl rfl rfl ⟨(Nat.le_of_ble_eq_true rfl), (Nat.le_of_ble_eq_true rfl)⟩ rfl rfl (Nat.le_of_ble_eq_true rfl) ⟨(Nat.le_of_ble_eq_true rfl), (Nat.le_of_ble_eq_true rfl)⟩ ?_
  rintro _ _ ⟨rfl, rfl⟩
  refine r_ifB_eq C dX8_deviation_6 (tgt := 21) (by decide) (fun h6 => ?_) (fun h6 => ?_)
  · refine r_iconst C dX8_deviation_21 (v := (-1)) (by decide) ?_
    exact E.2.1 rfl _ _ _ _ dX8_deviation_22 ⟨_, rfl, ⟨ifp_f (fun q => by first | exact h6 ⟨q.1, q.2.1⟩ | exact h18 q.2.2) _ _, hM, SmR.rf⟩⟩
  · obtain ⟨⟨i0, hi, rfl⟩, ⟨j0, hj, rfl⟩⟩ := h6
    refine r_iload_n C 3 dX8_deviation_9 rfl rfl ?_
    refine r_i2l C dX8_deviation_10 (v := (w).toInt64) rfl ?_
    refine r_lconst C dX8_deviation_11 (v := lI 0) (by decide) ?_
    refine r_ldc2 C (v := (2)) hk_51 dX8_deviation_12 ?_
    refine r_setL (y := lI (2)) (by decide) ?_
    refine r_callSi C (rest := []) (c_X8_in l g ad u ((w).toInt64) (lI 0) (lI (2))) gX8_deviation_X8_in pk_X8_in dX8_deviation_15 rfl rfl rfl rfl ⟨(Nat.le_of_ble_eq_true rfl), (Nat.le_of_ble_eq_true rfl)⟩ rfl (Nat.le_of_ble_eq_true rfl) ⟨(Nat.le_of_ble_eq_true rfl), (Nat.le_of_ble_eq_true rfl)⟩ ?_
    rintro _ _ ⟨rfl, rfl⟩
    refine r_setI (y := (bI (isR 3 w))) (bI_iff (inL_iff (n := 2) (by decide))) ?_
    refine r_ifB_ne C dX8_deviation_18 (tgt := 23) (by decide) (fun h18 => ?_) (fun h18 => ?_)
    · obtain ⟨w0, hw0, rfl⟩ := h18
      refine r_aload_n C 0 dX8_deviation_23 rfl rfl ?_
      refine r_iload_n C 1 dX8_deviation_24 rfl rfl ?_
      refine r_iload_n C 2 dX8_deviation_25 rfl rfl ?_
      refine r_callVi C (rest := []) (c_X8_firstThatMoves l g ad u S hM hO i0 j0 hi hj) gX8_deviation_X8_firstThatMoves pk_X8_firstThatMoves k_36 dX8_deviation_26 rfl rfl rfl rfl ⟨(Nat.le_of_ble_eq_true rfl), (Nat.le_of_ble_eq_true rfl)⟩ rfl rfl (Nat.le_of_ble_eq_true rfl) ⟨(Nat.le_of_ble_eq_true rfl), (Nat.le_of_ble_eq_true rfl)⟩ ?_
      rintro fr f1 ⟨⟨hfr, hf1⟩, hM⟩
      refine r_istore C [(0, .ref (ad 36)), (1, .int (nI (i0))), (2, .int (nI (j0))), (3, .int (nI (w0))), (4, .int (fr))] [1, 2, 3, 4, 0] dX8_deviation_29 (by decide) rfl ?_
      refine r_iload C 4 dX8_deviation_31 rfl ?_
      refine r_bipush C dX8_deviation_33 (v := (-4)) (by decide) ?_
      refine r_icmp_eq C dX8_deviation_35 (tgt := 42) (by decide) (fun h35 => ?_) (fun h35 => ?_)
      · have hun : unr S i0 j0 = none := by
          rcases hq : unr S i0 j0 with _ | p
          · rfl
          · rw [hq] at hfr; have hp16 := VP_16 hO (unr_V hq).1; exact absurd (hfr.trans h35) (nI_ne4 (by omega))
        refine r_iload C 4 dX8_deviation_42 rfl ?_
        exact E.2.1 rfl _ _ _ _ dX8_deviation_44 ⟨_, rfl, ⟨by unfold devA; rw [ifp_t ⟨⟨i0, hi, rfl⟩, ⟨j0, hj, rfl⟩, ⟨w0, hw0, rfl⟩⟩, cl_nI (show i0 < 2 ^ 31 by omega), cl_nI (show j0 < 2 ^ 31 by omega), cl_nI (show w0 < 2 ^ 31 by omega)]; unfold devN; rw [hun]; exact h35.symm, hM, (SmR.of hf1 (by decide) (by decide) (by decide) (by decide))⟩⟩
      · have hus : ∃ p : Nat, unr S i0 j0 = some p ∧ fr = nI p := by
          rcases hq : unr S i0 j0 with _ | p
          · rw [hq] at hfr; exact absurd hfr.symm h35
          · rw [hq] at hfr; exact ⟨p, rfl, hfr.symm⟩
        obtain ⟨p0, hu, rfl⟩ := hus
        have hpv := (unr_V hu).1
        have hp16 := VP_16 hO hpv
        have hpv1 := hpv.1
        refine r_iload_n C 3 dX8_deviation_38 rfl rfl ?_
        refine r_ifN_ne C dX8_deviation_39 (tgt := 45) (by decide) (by omega) (fun h39 => ?_) (fun h39 => ?_)
        · refine r_aload_n C 0 dX8_deviation_45 rfl rfl ?_
          refine r_iload_n C 1 dX8_deviation_46 rfl rfl ?_
          refine r_iload_n C 2 dX8_deviation_47 rfl rfl ?_
          refine r_iload C 4 dX8_deviation_48 rfl ?_
          refine r_callVi C (rest := []) (c_X8_isBest l g ad f1 S hM hO i0 j0 (by assumption) (by assumption) p0 (by assumption)) gX8_deviation_X8_isBest pk_X8_isBest k_36 dX8_deviation_50 rfl rfl rfl rfl ⟨(Nat.le_of_ble_eq_true rfl), (Nat.le_of_ble_eq_true rfl)⟩ rfl rfl (Nat.le_of_ble_eq_true rfl) ⟨(Nat.le_of_ble_eq_true rfl), (Nat.le_of_ble_eq_true rfl)⟩ ?_
          rintro _ i1 ⟨⟨rfl, hi1, hs1⟩, hM⟩
          refine r_istore C [(0, .ref (ad 36)), (1, .int (nI (i0))), (2, .int (nI (j0))), (3, .int (nI (w0))), (4, .int (nI (p0))), (5, .int (bI (¬ gbp S i0 j0 p0 (p0 % 4))))] [1, 2, 3, 4, 5, 0] dX8_deviation_53 (by decide) rfl ?_
          refine r_iload C 5 dX8_deviation_55 rfl ?_
          refine r_ifB_eq C dX8_deviation_57 (tgt := 69) (by decide) (fun h57 => ?_) (fun h57 => ?_)
          · refine r_iload_n C 3 dX8_deviation_69 rfl rfl ?_
            refine r_iconst C dX8_deviation_70 (v := nI 1) (by decide) ?_
            refine r_icmpN_ne C dX8_deviation_71 (tgt := 87) (by decide) (by omega) (by omega) (fun h71 => ?_) (fun h71 => ?_)
            · refine r_aload_n C 0 dX8_deviation_87 rfl rfl ?_
              refine r_get C (CN := RX8) (T := TX8) (N := 21) k_36 rfl hin_X8 (j := 17) (by decide) hk_159 rfl rfl dX8_deviation_88 ?_
              refine r_setI (y := (nI (bsP S j0 (p0 % 4)))) (hi1) ?_
              exact E.2.1 rfl _ _ _ _ dX8_deviation_91 ⟨_, rfl, ⟨by unfold devA; rw [ifp_t ⟨⟨i0, hi, rfl⟩, ⟨j0, hj, rfl⟩, ⟨w0, hw0, rfl⟩⟩, cl_nI (show i0 < 2 ^ 31 by omega), cl_nI (show j0 < 2 ^ 31 by omega), cl_nI (show w0 < 2 ^ 31 by omega)]; unfold devN; rw [hu]; refine (if_neg h39).trans ?_; rw [ifp_f h71, ifp_t (Classical.not_not.mp h57)], hM, ((SmR.of hf1 (by decide) (by decide) (by decide) (by decide)).tr (SmR.of hs1 (by decide) (by decide) (by decide) (by decide)))⟩⟩
            · refine r_iload C 5 dX8_deviation_74 rfl ?_
              refine r_ifB_eq C dX8_deviation_76 (tgt := 83) (by decide) (fun h76 => ?_) (fun h76 => ?_)
              · refine r_iconst C dX8_deviation_83 (v := nI 0) (by decide) ?_
                refine r_goto C dX8_deviation_84 (tgt := 91) (by decide) ?_
                exact E.2.1 rfl _ _ _ _ dX8_deviation_91 ⟨_, rfl, ⟨by unfold devA; rw [ifp_t ⟨⟨i0, hi, rfl⟩, ⟨j0, hj, rfl⟩, ⟨w0, hw0, rfl⟩⟩, cl_nI (show i0 < 2 ^ 31 by omega), cl_nI (show j0 < 2 ^ 31 by omega), cl_nI (show w0 < 2 ^ 31 by omega)]; unfold devN; rw [hu]; refine (if_neg h39).trans ?_; rw [ifp_t h71, ifp_t (Classical.not_not.mp h76)], hM, ((SmR.of hf1 (by decide) (by decide) (by decide) (by decide)).tr (SmR.of hs1 (by decide) (by decide) (by decide) (by decide)))⟩⟩
              · refine r_iconst C dX8_deviation_79 (v := nI 1) (by decide) ?_
                refine r_goto C dX8_deviation_80 (tgt := 91) (by decide) ?_
                exact E.2.1 rfl _ _ _ _ dX8_deviation_91 ⟨_, rfl, ⟨by unfold devA; rw [ifp_t ⟨⟨i0, hi, rfl⟩, ⟨j0, hj, rfl⟩, ⟨w0, hw0, rfl⟩⟩, cl_nI (show i0 < 2 ^ 31 by omega), cl_nI (show j0 < 2 ^ 31 by omega), cl_nI (show w0 < 2 ^ 31 by omega)]; unfold devN; rw [hu]; refine (if_neg h39).trans ?_; rw [ifp_t h71, ifp_f h76], hM, ((SmR.of hf1 (by decide) (by decide) (by decide) (by decide)).tr (SmR.of hs1 (by decide) (by decide) (by decide) (by decide)))⟩⟩
          · refine r_aload_n C 0 dX8_deviation_60 rfl rfl ?_
            refine r_iload_n C 1 dX8_deviation_61 rfl rfl ?_
            refine r_iload C 4 dX8_deviation_62 rfl ?_
            refine r_iconst C dX8_deviation_64 (v := nI 4) (by decide) ?_
            refine r_idivN C dX8_deviation_65 (by omega) (by omega) (by omega) ?_
            refine r_callVv C (rest := []) (c_X8_findBest l g ad i1 S hM hO i0 (p0 / 4) (by assumption) (by first | assumption | omega)) gX8_deviation_X8_findBest pk_X8_findBest k_36 dX8_deviation_66 rfl rfl rfl rfl ⟨(Nat.le_of_ble_eq_true rfl), (Nat.le_of_ble_eq_true rfl)⟩ rfl rfl (Nat.le_of_ble_eq_true rfl) ⟨(Nat.le_of_ble_eq_true rfl), (Nat.le_of_ble_eq_true rfl)⟩ ?_
            rintro b1 ⟨⟨hb1, hb2, hb3, hb4⟩, hM⟩
            refine r_iload_n C 3 dX8_deviation_69 rfl rfl ?_
            refine r_iconst C dX8_deviation_70 (v := nI 1) (by decide) ?_
            refine r_icmpN_ne C dX8_deviation_71 (tgt := 87) (by decide) (by omega) (by omega) (fun h71 => ?_) (fun h71 => ?_)
            · refine r_aload_n C 0 dX8_deviation_87 rfl rfl ?_
              refine r_get C (CN := RX8) (T := TX8) (N := 21) k_36 rfl hin_X8 (j := 17) (by decide) hk_159 rfl rfl dX8_deviation_88 ?_
              refine r_setI (y := (nI (bsP S i0 (p0 / 4)))) (hb1) ?_
              exact E.2.1 rfl _ _ _ _ dX8_deviation_91 ⟨_, rfl, ⟨by unfold devA; rw [ifp_t ⟨⟨i0, hi, rfl⟩, ⟨j0, hj, rfl⟩, ⟨w0, hw0, rfl⟩⟩, cl_nI (show i0 < 2 ^ 31 by omega), cl_nI (show j0 < 2 ^ 31 by omega), cl_nI (show w0 < 2 ^ 31 by omega)]; unfold devN; rw [hu]; refine (if_neg h39).trans ?_; rw [ifp_f h71, ifp_f h57], hM, (((SmR.of hf1 (by decide) (by decide) (by decide) (by decide)).tr (SmR.of hs1 (by decide) (by decide) (by decide) (by decide))).tr (SmR.of hb4 (by decide) (by decide) (by decide) (by decide)))⟩⟩
            · refine r_iload C 5 dX8_deviation_74 rfl ?_
              refine r_ifB_eq C dX8_deviation_76 (tgt := 83) (by decide) (fun h76 => ?_) (fun h76 => ?_)
              · refine r_iconst C dX8_deviation_83 (v := nI 0) (by decide) ?_
                refine r_goto C dX8_deviation_84 (tgt := 91) (by decide) ?_
                exact E.2.1 rfl _ _ _ _ dX8_deviation_91 ⟨_, rfl, ⟨by unfold devA; rw [ifp_t ⟨⟨i0, hi, rfl⟩, ⟨j0, hj, rfl⟩, ⟨w0, hw0, rfl⟩⟩, cl_nI (show i0 < 2 ^ 31 by omega), cl_nI (show j0 < 2 ^ 31 by omega), cl_nI (show w0 < 2 ^ 31 by omega)]; unfold devN; rw [hu]; refine (if_neg h39).trans ?_; rw [ifp_t h71, ifp_t (Classical.not_not.mp h76)], hM, (((SmR.of hf1 (by decide) (by decide) (by decide) (by decide)).tr (SmR.of hs1 (by decide) (by decide) (by decide) (by decide))).tr (SmR.of hb4 (by decide) (by decide) (by decide) (by decide)))⟩⟩
              · refine r_iconst C dX8_deviation_79 (v := nI 1) (by decide) ?_
                refine r_goto C dX8_deviation_80 (tgt := 91) (by decide) ?_
                exact E.2.1 rfl _ _ _ _ dX8_deviation_91 ⟨_, rfl, ⟨by unfold devA; rw [ifp_t ⟨⟨i0, hi, rfl⟩, ⟨j0, hj, rfl⟩, ⟨w0, hw0, rfl⟩⟩, cl_nI (show i0 < 2 ^ 31 by omega), cl_nI (show j0 < 2 ^ 31 by omega), cl_nI (show w0 < 2 ^ 31 by omega)]; unfold devN; rw [hu]; refine (if_neg h39).trans ?_; rw [ifp_t h71, ifp_f h76], hM, (((SmR.of hf1 (by decide) (by decide) (by decide) (by decide)).tr (SmR.of hs1 (by decide) (by decide) (by decide) (by decide))).tr (SmR.of hb4 (by decide) (by decide) (by decide) (by decide)))⟩⟩
        · refine r_iload C 4 dX8_deviation_42 rfl ?_
          exact E.2.1 rfl _ _ _ _ dX8_deviation_44 ⟨_, rfl, ⟨by unfold devA; rw [ifp_t ⟨⟨i0, hi, rfl⟩, ⟨j0, hj, rfl⟩, ⟨w0, hw0, rfl⟩⟩, cl_nI (show i0 < 2 ^ 31 by omega), cl_nI (show j0 < 2 ^ 31 by omega), cl_nI (show w0 < 2 ^ 31 by omega)]; unfold devN; rw [hu]; exact if_pos h39, hM, (SmR.of hf1 (by decide) (by decide) (by decide) (by decide))⟩⟩
    · refine r_iconst C dX8_deviation_21 (v := (-1)) (by decide) ?_
      exact E.2.1 rfl _ _ _ _ dX8_deviation_22 ⟨_, rfl, ⟨ifp_f (fun q => by first | exact h6 ⟨q.1, q.2.1⟩ | exact h18 q.2.2) _ _, hM, SmR.rf⟩⟩
