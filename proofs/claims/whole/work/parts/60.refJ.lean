
theorem least_ex (P : Nat → Prop) : ∀ n r, r ≤ n → P r → ∃ m, P m ∧ ∀ q, q < m → ¬ P q := by
  intro n
  induction n with
  | zero => intro r hr h; exact ⟨r, h, fun q hq => by omega⟩
  | succ n ih =>
    intro r hr h
    by_cases z : ∃ q, q < r ∧ P q
    · obtain ⟨q, hq, hp⟩ := z; exact ih q (by omega) hp
    · exact ⟨r, h, fun q hq hp => z ⟨q, hq, hp⟩⟩
def rmX8_slip : Room := { frames := 3, cells := 0, slots := 0, locals := 68 }
theorem pk_X8_slip : Pk yX8_slip RX8 3 := by decide +kernel
set_option maxHeartbeats 4000000 in
set_option maxRecDepth 100000 in
theorem c_X8_slip (l : Launch) (g : gE) (ad : Nat → Nat) (u : Me) (S : Sg) (hM : RepM S u) (hO : Ok S) (i j n : Int32) : Cti l yX8_slip wsX8_slip rmX8_slip g ad [.ref (ad 36), .int (i), .int (j), .int (n)] u (fun r u' => sliA S i j n = r ∧ RepM S u' ∧ SmR u u') := by
  refine Ct.of (cc := cX8_slip) (nL := 7) (ret := (some .int)) RX8 (by decide) rfl rfl (Nat.le_of_ble_eq_true rfl) (fun kx C E => ?_)
  have hk_150 : Cond.constantLong RX8 150 (100) ∈ wsX8_slip := by decide +kernel
  show G kx 0 0 (WW g ad u) 0 [(0, .ref (ad 36)), (1, .int (i)), (2, .int (j)), (3, .int (n))] []
  have hn := hO.n
  refine r_aload_n C 0 dX8_slip_0 rfl rfl ?_
  refine r_iload_n C 1 dX8_slip_1 rfl rfl ?_
  refine r_iload_n C 2 dX8_slip_2 rfl rfl ?_
  refine r_callVi C (rest := []) (c_X8_areBoth l g ad u S hM hO i j) gX8_slip_X8_areBoth pk_X8_areBoth k_36 dX8_slip_3 rfl rfl rfl rfl ⟨(Nat.le_of_ble_eq_true rfl), (Nat.le_of_ble_eq_true rfl)⟩ rfl rfl (Nat.le_of_ble_eq_true rfl) ⟨(Nat.le_of_ble_eq_true rfl), (Nat.le_of_ble_eq_true rfl)⟩ ?_
  rintro _ _ ⟨rfl, rfl⟩
  refine r_ifB_eq C dX8_slip_6 (tgt := 21) (by decide) (fun h6 => ?_) (fun h6 => ?_)
  · refine r_iconst C dX8_slip_21 (v := (-1)) (by decide) ?_
    exact E.2.1 rfl _ _ _ _ dX8_slip_22 ⟨_, rfl, ⟨ifp_f (fun q => by first | exact h6 ⟨q.1, q.2.1⟩ | exact h18 q.2.2) _ _, hM, SmR.rf⟩⟩
  · obtain ⟨⟨i0, hi, rfl⟩, ⟨j0, hj, rfl⟩⟩ := h6
    refine r_iload_n C 3 dX8_slip_9 rfl rfl ?_
    refine r_i2l C dX8_slip_10 (v := (n).toInt64) rfl ?_
    refine r_lconst C dX8_slip_11 (v := lI 0) (by decide) ?_
    refine r_ldc2 C (v := (100)) hk_150 dX8_slip_12 ?_
    refine r_setL (y := lI (100)) (by decide) ?_
    refine r_callSi C (rest := []) (c_X8_in l g ad u ((n).toInt64) (lI 0) (lI (100))) gX8_slip_X8_in pk_X8_in dX8_slip_15 rfl rfl rfl rfl ⟨(Nat.le_of_ble_eq_true rfl), (Nat.le_of_ble_eq_true rfl)⟩ rfl (Nat.le_of_ble_eq_true rfl) ⟨(Nat.le_of_ble_eq_true rfl), (Nat.le_of_ble_eq_true rfl)⟩ ?_
    rintro _ _ ⟨rfl, rfl⟩
    refine r_setI (y := (bI (isR 101 n))) (bI_iff (inL_iff (n := 100) (by decide))) ?_
    refine r_ifB_ne C dX8_slip_18 (tgt := 23) (by decide) (fun h18 => ?_) (fun h18 => ?_)
    · obtain ⟨n0, hn0, rfl⟩ := h18
      refine r_iconst C dX8_slip_23 (v := nI 0) (by decide) ?_
      refine r_istore C [(0, .ref (ad 36)), (1, .int (nI (i0))), (2, .int (nI (j0))), (3, .int (nI (n0))), (4, .int (nI (0)))] [1, 2, 3, 4, 0] dX8_slip_24 (by decide) rfl ?_
      refine r_iconst C dX8_slip_26 (v := nI 0) (by decide) ?_
      refine r_istore C [(0, .ref (ad 36)), (1, .int (nI (i0))), (2, .int (nI (j0))), (3, .int (nI (n0))), (4, .int (nI (0))), (5, .int (nI (0)))] [1, 2, 3, 4, 5, 0] dX8_slip_27 (by decide) rfl ?_
      have L29 : ∀ (fu : Nat) (c : Nat), n0 < c + fu → (c ≤ n0) → G kx 0 0 (WW g ad u) 29 [(0, .ref (ad 36)), (1, .int (nI (i0))), (2, .int (nI (j0))), (3, .int (nI (n0))), (4, .int (nI (it (fP S i0 j0) 0 c))), (5, .int (nI (c)))] [] := by
        intro fu
        induction fu with
        | zero => intro c hfu hc; exact absurd hfu (by omega)
        | succ fu ih =>
          intro c hfu hc
          have hV : VP S i0 j0 (it (fP S i0 j0) 0 c) := it_V (V := VP S i0 j0) (fun p _ => VP_f hO) (VP_0 hO i0 j0) c
          have hV1 := hV.1
          have hV2 := hV.2
          have hV16 := VP_16 hO hV
          have haa := hO.a i0 (it (fP S i0 j0) 0 c / 4)
          refine r_iload C 5 dX8_slip_29 rfl ?_
          refine r_iload_n C 3 dX8_slip_31 rfl rfl ?_
          refine r_icmpN_ge C dX8_slip_32 (tgt := 51) (by decide) (by omega) (by omega) (fun h32 => ?_) (fun h32 => ?_)
          · refine r_aload_n C 0 dX8_slip_51 rfl rfl ?_
            refine r_iload_n C 1 dX8_slip_52 rfl rfl ?_
            refine r_iload_n C 2 dX8_slip_53 rfl rfl ?_
            refine r_iload C 4 dX8_slip_54 rfl ?_
            refine r_aload_n C 0 dX8_slip_56 rfl rfl ?_
            refine r_iload_n C 1 dX8_slip_57 rfl rfl ?_
            refine r_iload C 4 dX8_slip_58 rfl ?_
            refine r_callVi C (rest := [.int (nI (it (fP S i0 j0) 0 c)), .int (nI (j0)), .int (nI (i0)), .ref (ad 36)]) (c_X8_mine l g ad u S hM hO i0 (it (fP S i0 j0) 0 c) (by assumption) (by assumption)) gX8_slip_X8_mine pk_X8_mine k_36 dX8_slip_60 rfl rfl rfl rfl ⟨(Nat.le_of_ble_eq_true rfl), (Nat.le_of_ble_eq_true rfl)⟩ rfl rfl (Nat.le_of_ble_eq_true rfl) ⟨(Nat.le_of_ble_eq_true rfl), (Nat.le_of_ble_eq_true rfl)⟩ ?_
            rintro _ _ ⟨rfl, rfl⟩
            refine r_iconst C dX8_slip_63 (v := nI 1) (by decide) ?_
            refine r_iaddN C dX8_slip_64 ?_
            refine r_iconst C dX8_slip_65 (v := nI 3) (by decide) ?_
            refine r_iremN C dX8_slip_66 (by omega) (by omega) (by omega) ?_
            refine r_aload_n C 0 dX8_slip_67 rfl rfl ?_
            refine r_iload_n C 2 dX8_slip_68 rfl rfl ?_
            refine r_iload C 4 dX8_slip_69 rfl ?_
            refine r_callVi C (rest := [.int (nI (((sa S i0 ((it (fP S i0 j0) 0 c) / 4)) + 1) % 3)), .int (nI (it (fP S i0 j0) 0 c)), .int (nI (j0)), .int (nI (i0)), .ref (ad 36)]) (c_X8_theirs l g ad u S hM hO j0 (it (fP S i0 j0) 0 c) (by assumption) (by assumption) (by assumption)) gX8_slip_X8_theirs pk_X8_theirs k_36 dX8_slip_71 rfl rfl rfl rfl ⟨(Nat.le_of_ble_eq_true rfl), (Nat.le_of_ble_eq_true rfl)⟩ rfl rfl (Nat.le_of_ble_eq_true rfl) ⟨(Nat.le_of_ble_eq_true rfl), (Nat.le_of_ble_eq_true rfl)⟩ ?_
            rintro _ _ ⟨rfl, rfl⟩
            refine r_callVi C (rest := []) (c_X8_after l g ad u S hM hO i0 j0 hi hj (it (fP S i0 j0) 0 c) hV (((sa S i0 ((it (fP S i0 j0) 0 c) / 4)) + 1) % 3) (sa S j0 ((it (fP S i0 j0) 0 c) % 4)) (by first | assumption | omega | exact hO.a _ _) (by first | assumption | omega | exact hO.a _ _)) gX8_slip_X8_after pk_X8_after k_36 dX8_slip_74 rfl rfl rfl rfl ⟨(Nat.le_of_ble_eq_true rfl), (Nat.le_of_ble_eq_true rfl)⟩ rfl rfl (Nat.le_of_ble_eq_true rfl) ⟨(Nat.le_of_ble_eq_true rfl), (Nat.le_of_ble_eq_true rfl)⟩ ?_
            rintro _ _ ⟨rfl, rfl⟩
            refine r_setI (y := (nI (slP S i0 j0 (it (fP S i0 j0) 0 c)))) (rfl) ?_
            refine r_istore C [(0, .ref (ad 36)), (1, .int (nI (i0))), (2, .int (nI (j0))), (3, .int (nI (n0))), (4, .int (nI (it (fP S i0 j0) 0 c))), (5, .int (nI (slP S i0 j0 (it (fP S i0 j0) 0 c))))] [1, 2, 3, 4, 5, 0] dX8_slip_77 (by decide) rfl ?_
            refine r_aload_n C 0 dX8_slip_79 rfl rfl ?_
            refine r_iload_n C 1 dX8_slip_80 rfl rfl ?_
            refine r_iload_n C 2 dX8_slip_81 rfl rfl ?_
            refine r_iload C 4 dX8_slip_82 rfl ?_
            refine r_callVi C (rest := []) (c_X8_next l g ad u S hM hO i0 j0 (by assumption) (by assumption) (it (fP S i0 j0) 0 c) (by assumption)) gX8_slip_X8_next pk_X8_next k_36 dX8_slip_84 rfl rfl rfl rfl ⟨(Nat.le_of_ble_eq_true rfl), (Nat.le_of_ble_eq_true rfl)⟩ rfl rfl (Nat.le_of_ble_eq_true rfl) ⟨(Nat.le_of_ble_eq_true rfl), (Nat.le_of_ble_eq_true rfl)⟩ ?_
            rintro _ _ ⟨rfl, rfl⟩
            refine r_istore C [(0, .ref (ad 36)), (1, .int (nI (i0))), (2, .int (nI (j0))), (3, .int (nI (n0))), (4, .int (nI (fP S i0 j0 (it (fP S i0 j0) 0 c)))), (5, .int (nI (slP S i0 j0 (it (fP S i0 j0) 0 c))))] [1, 2, 3, 4, 0, 5] dX8_slip_87 (by decide) rfl ?_
            refine r_iconst C dX8_slip_89 (v := nI 0) (by decide) ?_
            refine r_istore C [(0, .ref (ad 36)), (1, .int (nI (i0))), (2, .int (nI (j0))), (3, .int (nI (n0))), (4, .int (nI (fP S i0 j0 (it (fP S i0 j0) 0 c)))), (5, .int (nI (slP S i0 j0 (it (fP S i0 j0) 0 c)))), (6, .int (nI (0)))] [1, 2, 3, 4, 5, 6, 0] dX8_slip_90 (by decide) rfl ?_
            rw [show c = n0 by omega]
            have L92 : ∀ (fu : Nat) (m : Nat), 300 < m + fu → (m ≤ 300) → (∀ q, q < m → ¬ it (fP S i0 j0) (it (fP S i0 j0) 0 (n0 + 1)) q = it (fP S i0 j0) (slP S i0 j0 (it (fP S i0 j0) 0 n0)) q) → G kx 0 0 (WW g ad u) 92 [(0, .ref (ad 36)), (1, .int (nI (i0))), (2, .int (nI (j0))), (3, .int (nI (n0))), (4, .int (nI (it (fP S i0 j0) (it (fP S i0 j0) 0 (n0 + 1)) m))), (5, .int (nI (it (fP S i0 j0) (slP S i0 j0 (it (fP S i0 j0) 0 n0)) m))), (6, .int (nI (m)))] [] := by
              intro fu
              induction fu with
              | zero => intro m hfu hm3 hP; exact absurd hfu (by omega)
              | succ fu ih =>
                intro m hfu hm3 hP
                have hW : VP S i0 j0 (it (fP S i0 j0) (it (fP S i0 j0) 0 (n0 + 1)) m) := it_V (V := VP S i0 j0) (fun p _ => VP_f hO) (it_V (V := VP S i0 j0) (fun p _ => VP_f hO) (VP_0 hO i0 j0) (n0 + 1)) m
                have hX : VP S i0 j0 (it (fP S i0 j0) (slP S i0 j0 (it (fP S i0 j0) 0 n0)) m) := it_V (V := VP S i0 j0) (fun p _ => VP_f hO) (slP_V hO) m
                have hW16 := VP_16 hO hW
                have hX16 := VP_16 hO hX
                refine r_iload C 6 dX8_slip_92 rfl ?_
                refine r_sipush C dX8_slip_94 (v := nI 300) (by decide) ?_
                refine r_icmpN_ge C dX8_slip_97 (tgt := 138) (by decide) (by omega) (by omega) (fun h97 => ?_) (fun h97 => ?_)
                · have hnone : mtF (fP S i0 j0) (it (fP S i0 j0) 0 (n0 + 1)) (slP S i0 j0 (it (fP S i0 j0) 0 n0)) = none := mtF_none (fun r hr => by
                    obtain ⟨m2, q1, q2⟩ := least_ex (fun q => it (fP S i0 j0) (it (fP S i0 j0) 0 (n0 + 1)) q = it (fP S i0 j0) (slP S i0 j0 (it (fP S i0 j0) 0 n0)) q) r r (Nat.le_refl _) hr
                    have h257 := meet_lt (fun r => VP_16 hO (it_V (V := VP S i0 j0) (fun p _ => VP_f hO) (it_V (V := VP S i0 j0) (fun p _ => VP_f hO) (VP_0 hO i0 j0) (n0 + 1)) r)) (fun r => VP_16 hO (it_V (V := VP S i0 j0) (fun p _ => VP_f hO) (slP_V hO) r)) q1 q2
                    exact hP m2 (by omega) q1)
                  refine r_bipush C dX8_slip_138 (v := (-4)) (by decide) ?_
                  exact E.2.1 rfl _ _ _ _ dX8_slip_140 ⟨_, rfl, ⟨by unfold sliA; rw [ifp_t ⟨⟨i0, hi, rfl⟩, ⟨j0, hj, rfl⟩, ⟨n0, hn0, rfl⟩⟩, cl_nI (show i0 < 2 ^ 31 by omega), cl_nI (show j0 < 2 ^ 31 by omega), cl_nI (show n0 < 2 ^ 31 by omega)]; unfold sliN; rw [hnone], hM, SmR.rf⟩⟩
                · refine r_iload C 4 dX8_slip_100 rfl ?_
                  refine r_iload C 5 dX8_slip_102 rfl ?_
                  refine r_icmpN_ne C dX8_slip_104 (tgt := 112) (by decide) (by omega) (by omega) (fun h104 => ?_) (fun h104 => ?_)
                  · refine r_aload_n C 0 dX8_slip_112 rfl rfl ?_
                    refine r_iload_n C 1 dX8_slip_113 rfl rfl ?_
                    refine r_iload_n C 2 dX8_slip_114 rfl rfl ?_
                    refine r_iload C 4 dX8_slip_115 rfl ?_
                    refine r_callVi C (rest := []) (c_X8_next l g ad u S hM hO i0 j0 (by assumption) (by assumption) (it (fP S i0 j0) (it (fP S i0 j0) 0 (n0 + 1)) m) (by assumption)) gX8_slip_X8_next pk_X8_next k_36 dX8_slip_117 rfl rfl rfl rfl ⟨(Nat.le_of_ble_eq_true rfl), (Nat.le_of_ble_eq_true rfl)⟩ rfl rfl (Nat.le_of_ble_eq_true rfl) ⟨(Nat.le_of_ble_eq_true rfl), (Nat.le_of_ble_eq_true rfl)⟩ ?_
                    rintro _ _ ⟨rfl, rfl⟩
                    refine r_istore C [(0, .ref (ad 36)), (1, .int (nI (i0))), (2, .int (nI (j0))), (3, .int (nI (n0))), (4, .int (nI (fP S i0 j0 (it (fP S i0 j0) (it (fP S i0 j0) 0 (n0 + 1)) m)))), (5, .int (nI (it (fP S i0 j0) (slP S i0 j0 (it (fP S i0 j0) 0 n0)) m))), (6, .int (nI (m)))] [1, 2, 3, 4, 0, 5, 6] dX8_slip_120 (by decide) rfl ?_
                    refine r_aload_n C 0 dX8_slip_122 rfl rfl ?_
                    refine r_iload_n C 1 dX8_slip_123 rfl rfl ?_
                    refine r_iload_n C 2 dX8_slip_124 rfl rfl ?_
                    refine r_iload C 5 dX8_slip_125 rfl ?_
                    refine r_callVi C (rest := []) (c_X8_next l g ad u S hM hO i0 j0 (by assumption) (by assumption) (it (fP S i0 j0) (slP S i0 j0 (it (fP S i0 j0) 0 n0)) m) (by assumption)) gX8_slip_X8_next pk_X8_next k_36 dX8_slip_127 rfl rfl rfl rfl ⟨(Nat.le_of_ble_eq_true rfl), (Nat.le_of_ble_eq_true rfl)⟩ rfl rfl (Nat.le_of_ble_eq_true rfl) ⟨(Nat.le_of_ble_eq_true rfl), (Nat.le_of_ble_eq_true rfl)⟩ ?_
                    rintro _ _ ⟨rfl, rfl⟩
                    refine r_istore C [(0, .ref (ad 36)), (1, .int (nI (i0))), (2, .int (nI (j0))), (3, .int (nI (n0))), (4, .int (nI (fP S i0 j0 (it (fP S i0 j0) (it (fP S i0 j0) 0 (n0 + 1)) m)))), (5, .int (nI (fP S i0 j0 (it (fP S i0 j0) (slP S i0 j0 (it (fP S i0 j0) 0 n0)) m)))), (6, .int (nI (m)))] [1, 2, 3, 4, 5, 0, 6] dX8_slip_130 (by decide) rfl ?_
                    refine r_iinc C [(0, .ref (ad 36)), (1, .int (nI (i0))), (2, .int (nI (j0))), (3, .int (nI (n0))), (4, .int (nI (fP S i0 j0 (it (fP S i0 j0) (it (fP S i0 j0) 0 (n0 + 1)) m)))), (5, .int (nI (fP S i0 j0 (it (fP S i0 j0) (slP S i0 j0 (it (fP S i0 j0) 0 n0)) m)))), (6, .int (nI (m + 1)))] [1, 2, 3, 4, 5, 6, 0] 6 dX8_slip_132 rfl (nI_add _ 1) (by decide) rfl ?_
                    refine r_goto C dX8_slip_135 (tgt := 92) (by decide) ?_
                    exact ih (m + 1) (by omega) (by omega) (fun q hq => by
                      rcases Nat.lt_or_ge q m with z | z
                      · exact hP q z
                      · rw [show q = m by omega]; exact h104)
                  · refine r_iload C 6 dX8_slip_107 rfl ?_
                    refine r_iconst C dX8_slip_109 (v := nI 1) (by decide) ?_
                    refine r_iaddN C dX8_slip_110 ?_
                    exact E.2.1 rfl _ _ _ _ dX8_slip_111 ⟨_, rfl, ⟨by unfold sliA; rw [ifp_t ⟨⟨i0, hi, rfl⟩, ⟨j0, hj, rfl⟩, ⟨n0, hn0, rfl⟩⟩, cl_nI (show i0 < 2 ^ 31 by omega), cl_nI (show j0 < 2 ^ 31 by omega), cl_nI (show n0 < 2 ^ 31 by omega)]; unfold sliN; rw [mtF_some h104 hP]; exact nI_add _ _, hM, SmR.rf⟩⟩
            exact L92 301 0 (by omega) (by omega) (fun q hq => absurd hq (by omega))
          · refine r_aload_n C 0 dX8_slip_35 rfl rfl ?_
            refine r_iload_n C 1 dX8_slip_36 rfl rfl ?_
            refine r_iload_n C 2 dX8_slip_37 rfl rfl ?_
            refine r_iload C 4 dX8_slip_38 rfl ?_
            refine r_callVi C (rest := []) (c_X8_next l g ad u S hM hO i0 j0 (by assumption) (by assumption) (it (fP S i0 j0) 0 c) (by assumption)) gX8_slip_X8_next pk_X8_next k_36 dX8_slip_40 rfl rfl rfl rfl ⟨(Nat.le_of_ble_eq_true rfl), (Nat.le_of_ble_eq_true rfl)⟩ rfl rfl (Nat.le_of_ble_eq_true rfl) ⟨(Nat.le_of_ble_eq_true rfl), (Nat.le_of_ble_eq_true rfl)⟩ ?_
            rintro _ _ ⟨rfl, rfl⟩
            refine r_istore C [(0, .ref (ad 36)), (1, .int (nI (i0))), (2, .int (nI (j0))), (3, .int (nI (n0))), (4, .int (nI (fP S i0 j0 (it (fP S i0 j0) 0 c)))), (5, .int (nI (c)))] [1, 2, 3, 4, 0, 5] dX8_slip_43 (by decide) rfl ?_
            refine r_iinc C [(0, .ref (ad 36)), (1, .int (nI (i0))), (2, .int (nI (j0))), (3, .int (nI (n0))), (4, .int (nI (fP S i0 j0 (it (fP S i0 j0) 0 c)))), (5, .int (nI (c + 1)))] [1, 2, 3, 4, 5, 0] 5 dX8_slip_45 rfl (nI_add _ 1) (by decide) rfl ?_
            refine r_goto C dX8_slip_48 (tgt := 29) (by decide) ?_
            exact ih (c + 1) (by omega) (by omega)
      exact L29 (n0 + 1) 0 (by omega) (by omega)
    · refine r_iconst C dX8_slip_21 (v := (-1)) (by decide) ?_
      exact E.2.1 rfl _ _ _ _ dX8_slip_22 ⟨_, rfl, ⟨ifp_f (fun q => by first | exact h6 ⟨q.1, q.2.1⟩ | exact h18 q.2.2) _ _, hM, SmR.rf⟩⟩
