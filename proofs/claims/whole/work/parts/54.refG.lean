def rmX8_isSheet : Room := { frames := 1, cells := 0, slots := 0, locals := 25 }
theorem pk_X8_isSheet : Pk yX8_isSheet RX8 2 := by decide +kernel
set_option maxHeartbeats 4000000 in
set_option maxRecDepth 100000 in
theorem c_X8_isSheet (l : Launch) (g : gE) (ad : Nat → Nat) (u : Me) (x y : Int32) : Cti l yX8_isSheet wsX8_isSheet rmX8_isSheet g ad [.int (x), .int (y)] u (fun r u' => bI (isR 4 x ∧ isR 3 y) = r ∧ u = u') := by
  refine Ct.of (cc := cX8_isSheet) (nL := 2) (ret := (some .boolean)) RX8 (by decide) rfl rfl (Nat.le_of_ble_eq_true rfl) (fun kx C E => ?_)
  have hk_51 : Cond.constantLong RX8 51 (2) ∈ wsX8_isSheet := by decide +kernel
  have hk_74 : Cond.constantLong RX8 74 (3) ∈ wsX8_isSheet := by decide +kernel
  show G kx 0 0 (WW g ad u) 0 [(0, .int (x)), (1, .int (y))] []
  refine r_iload_n C 0 dX8_isSheet_0 rfl rfl ?_
  refine r_i2l C dX8_isSheet_1 (v := (x).toInt64) rfl ?_
  refine r_lconst C dX8_isSheet_2 (v := lI 0) (by decide) ?_
  refine r_ldc2 C (v := (3)) hk_74 dX8_isSheet_3 ?_
  refine r_setL (y := lI (3)) (by decide) ?_
  refine r_callSi C (rest := []) (c_X8_in l g ad u ((x).toInt64) (lI 0) (lI (3))) gX8_isSheet_X8_in pk_X8_in dX8_isSheet_6 rfl rfl rfl rfl ⟨(Nat.le_of_ble_eq_true rfl), (Nat.le_of_ble_eq_true rfl)⟩ rfl (Nat.le_of_ble_eq_true rfl) ⟨(Nat.le_of_ble_eq_true rfl), (Nat.le_of_ble_eq_true rfl)⟩ ?_
  rintro _ _ ⟨rfl, rfl⟩
  refine r_setI (y := (bI (isR 4 x))) (bI_iff (inL_iff (n := 3) (by decide))) ?_
  refine r_ifB_eq C dX8_isSheet_9 (tgt := 28) (by decide) (fun h9 => ?_) (fun h9 => ?_)
  · refine r_iconst C dX8_isSheet_28 (v := nI 0) (by decide) ?_
    exact E.2.2.1 rfl _ _ _ _ dX8_isSheet_29 (Or.inl rfl) ⟨_, rfl, ⟨bF (fun q => by first | exact h9 q.1 | exact h21 q.2), rfl⟩⟩
  · refine r_iload_n C 1 dX8_isSheet_12 rfl rfl ?_
    refine r_i2l C dX8_isSheet_13 (v := (y).toInt64) rfl ?_
    refine r_lconst C dX8_isSheet_14 (v := lI 0) (by decide) ?_
    refine r_ldc2 C (v := (2)) hk_51 dX8_isSheet_15 ?_
    refine r_setL (y := lI (2)) (by decide) ?_
    refine r_callSi C (rest := []) (c_X8_in l g ad u ((y).toInt64) (lI 0) (lI (2))) gX8_isSheet_X8_in pk_X8_in dX8_isSheet_18 rfl rfl rfl rfl ⟨(Nat.le_of_ble_eq_true rfl), (Nat.le_of_ble_eq_true rfl)⟩ rfl (Nat.le_of_ble_eq_true rfl) ⟨(Nat.le_of_ble_eq_true rfl), (Nat.le_of_ble_eq_true rfl)⟩ ?_
    rintro _ _ ⟨rfl, rfl⟩
    refine r_setI (y := (bI (isR 3 y))) (bI_iff (inL_iff (n := 2) (by decide))) ?_
    refine r_ifB_eq C dX8_isSheet_21 (tgt := 28) (by decide) (fun h21 => ?_) (fun h21 => ?_)
    · refine r_iconst C dX8_isSheet_28 (v := nI 0) (by decide) ?_
      exact E.2.2.1 rfl _ _ _ _ dX8_isSheet_29 (Or.inl rfl) ⟨_, rfl, ⟨bF (fun q => by first | exact h9 q.1 | exact h21 q.2), rfl⟩⟩
    · refine r_iconst C dX8_isSheet_24 (v := nI 1) (by decide) ?_
      refine r_goto C dX8_isSheet_25 (tgt := 29) (by decide) ?_
      exact E.2.2.1 rfl _ _ _ _ dX8_isSheet_29 (Or.inr rfl) ⟨_, rfl, ⟨bT (⟨h9, h21⟩), rfl⟩⟩
def rmX8_sheet : Room := { frames := 2, cells := 0, slots := 0, locals := 46 }
theorem pk_X8_sheet : Pk yX8_sheet RX8 3 := by decide +kernel
set_option maxHeartbeats 4000000 in
set_option maxRecDepth 100000 in
theorem c_X8_sheet (l : Launch) (g : gE) (ad : Nat → Nat) (u : Me) (S : Sg) (hM : RepM S u) (hO : Ok S) (kk v n : Int32) : Cti l yX8_sheet wsX8_sheet rmX8_sheet g ad [.ref (ad 36), .int (kk), .int (v), .int (n)] u (fun r u' => ∃ S', shetA S kk v n = (r, S') ∧ RepM S' u' ∧ SmR u u') := by
  refine Ct.of (cc := cX8_sheet) (nL := 5) (ret := (some .int)) RX8 (by decide) rfl rfl (Nat.le_of_ble_eq_true rfl) (fun kx C E => ?_)
  have hin_X8 : ∀ w ∈ u_ws RX8 TX8 21, w ∈ wsX8_sheet := by decide +kernel
  have hk_29 : Cond.fieldLink RX8 29 "AgainAgainModel" "lanes" "[I" ∈ wsX8_sheet := by decide +kernel
  have hk_32 : Cond.fieldLink RX8 32 "AgainAgainModel" "sizes" "[I" ∈ wsX8_sheet := by decide +kernel
  have hk_35 : Cond.fieldLink RX8 35 "AgainAgainModel" "cells" "[I" ∈ wsX8_sheet := by decide +kernel
  show G kx 0 0 (WW g ad u) 0 [(0, .ref (ad 36)), (1, .int (kk)), (2, .int (v)), (3, .int (n))] []
  have hn := hO.n
  refine r_iload_n C 1 dX8_sheet_0 rfl rfl ?_
  refine r_iload_n C 2 dX8_sheet_1 rfl rfl ?_
  refine r_callSi C (rest := []) (c_X8_isSheet l g ad u kk v) gX8_sheet_X8_isSheet pk_X8_isSheet dX8_sheet_2 rfl rfl rfl rfl ⟨(Nat.le_of_ble_eq_true rfl), (Nat.le_of_ble_eq_true rfl)⟩ rfl (Nat.le_of_ble_eq_true rfl) ⟨(Nat.le_of_ble_eq_true rfl), (Nat.le_of_ble_eq_true rfl)⟩ ?_
  rintro _ _ ⟨rfl, rfl⟩
  refine r_ifB_eq C dX8_sheet_5 (tgt := 14) (by decide) (fun h5 => ?_) (fun h5 => ?_)
  · refine r_iconst C dX8_sheet_14 (v := (-1)) (by decide) ?_
    exact E.2.1 rfl _ _ _ _ dX8_sheet_15 ⟨_, rfl, ⟨S, ifp_f (fun q => by first | exact h5 ⟨q.1, q.2.1⟩ | exact h11 q.2.2) _ _, hM, SmR.rf⟩⟩
  · obtain ⟨⟨k0, hk, rfl⟩, ⟨v0, hv, rfl⟩⟩ := h5
    refine r_iload_n C 3 dX8_sheet_8 rfl rfl ?_
    refine r_bipush C dX8_sheet_9 (v := nI 60) (by decide) ?_
    refine r_icmp_le C dX8_sheet_11 (tgt := 16) (by decide) (fun h11 => ?_) (fun h11 => ?_)
    · refine r_iload_n C 3 dX8_sheet_16 rfl rfl ?_
      refine r_if_ge C dX8_sheet_17 (tgt := 23) (by decide) (fun h17 => ?_) (fun h17 => ?_)
      · obtain ⟨n0, hn0, rfl⟩ := nI_of (Int32.not_lt.mpr h17)
        have hn60 := (nI_leI hn0 (by decide)).mp h11
        refine r_aload_n C 0 dX8_sheet_23 rfl rfl ?_
        refine r_get C (CN := RX8) (T := TX8) (N := 21) k_36 rfl hin_X8 (j := 7) (by decide) hk_29 rfl rfl dX8_sheet_24 ?_
        refine r_iload_n C 1 dX8_sheet_27 rfl rfl ?_
        refine r_iload_n C 2 dX8_sheet_28 rfl rfl ?_
        refine r_iast C k_41 (by omega) (by omega) dX8_sheet_29 ?_
        refine r_aload_n C 0 dX8_sheet_30 rfl rfl ?_
        refine r_get C (CN := RX8) (T := TX8) (N := 21) k_36 rfl hin_X8 (j := 8) (by decide) hk_32 rfl rfl dX8_sheet_31 ?_
        refine r_iload_n C 1 dX8_sheet_34 rfl rfl ?_
        refine r_iload_n C 3 dX8_sheet_35 rfl rfl ?_
        refine r_iast C k_42 (by omega) (by omega) dX8_sheet_36 ?_
        refine r_iconst C dX8_sheet_37 (v := nI 0) (by decide) ?_
        refine r_istore C [(0, .ref (ad 36)), (1, .int (nI (k0))), (2, .int (nI (v0))), (3, .int (nI (n0))), (4, .int (nI (0)))] [1, 2, 3, 4, 0] dX8_sheet_38 (by decide) rfl ?_
        have L40 : ∀ (fu : Nat) (c : Nat) (y : Me), 60 < c + fu → (c ≤ 60) → (ShI u k0 v0 n0 c y) → G kx 0 0 (WW g ad y) 40 [(0, .ref (ad 36)), (1, .int (nI (k0))), (2, .int (nI (v0))), (3, .int (nI (n0))), (4, .int (nI (c)))] [] := by
          intro fu
          induction fu with
          | zero => intro c y hfu hc hy; exact absurd hfu (by omega)
          | succ fu ih =>
            intro c y hfu hc hy
            refine r_iload C 4 dX8_sheet_40 rfl ?_
            refine r_bipush C dX8_sheet_42 (v := nI 60) (by decide) ?_
            refine r_icmpN_ge C dX8_sheet_44 (tgt := 66) (by decide) (by omega) (by omega) (fun h44 => ?_) (fun h44 => ?_)
            · have hc60 : c = 60 := by omega
              refine r_iconst C dX8_sheet_66 (v := nI 1) (by decide) ?_
              exact E.2.1 rfl _ _ _ _ dX8_sheet_67 ⟨_, rfl, ⟨sheetS S k0 v0 n0, by unfold shetA; rw [ifp_t ⟨⟨k0, hk, rfl⟩, ⟨v0, hv, rfl⟩, h11⟩, ifp_f (Int32.not_lt.mpr h17), cl_nI (show k0 < 2 ^ 31 by omega), cl_nI (show v0 < 2 ^ 31 by omega), cl_nI (show n0 < 2 ^ 31 by omega)], (hc60 ▸ hy : ShI u k0 v0 n0 60 y).fin hM hO hk hv hn60, SmR.of hy.1 (by decide) (by decide) (by decide) (by decide)⟩⟩
            · refine r_aload_n C 0 dX8_sheet_47 rfl rfl ?_
              refine r_get C (CN := RX8) (T := TX8) (N := 21) k_36 rfl hin_X8 (j := 9) (by decide) hk_35 rfl rfl dX8_sheet_48 ?_
              refine r_bipush C dX8_sheet_51 (v := nI 60) (by decide) ?_
              refine r_iload_n C 1 dX8_sheet_53 rfl rfl ?_
              refine r_imulN C dX8_sheet_54 ?_
              refine r_iload C 4 dX8_sheet_55 rfl ?_
              refine r_iaddN C dX8_sheet_57 ?_
              refine r_iconst C dX8_sheet_58 (v := nI 0) (by decide) ?_
              refine r_iast C k_43 (by omega) (by omega) dX8_sheet_59 ?_
              refine r_iinc C [(0, .ref (ad 36)), (1, .int (nI (k0))), (2, .int (nI (v0))), (3, .int (nI (n0))), (4, .int (nI (c + 1)))] [1, 2, 3, 4, 0] 4 dX8_sheet_60 rfl (nI_add _ 1) (by decide) rfl ?_
              refine r_goto C dX8_sheet_63 (tgt := 40) (by decide) ?_
              exact ih (c + 1) _ (by omega) (by omega) hy.step
        exact L40 61 0 _ (by omega) (by omega) (ShI.init u k0 v0 n0)
      · refine r_bipush C dX8_sheet_20 (v := (-14)) (by decide) ?_
        exact E.2.1 rfl _ _ _ _ dX8_sheet_22 ⟨_, rfl, ⟨S, (by unfold shetA; rw [ifp_t ⟨⟨k0, hk, rfl⟩, ⟨v0, hv, rfl⟩, h11⟩, ifp_t (Int32.not_le.mp h17)]), hM, SmR.rf⟩⟩
    · refine r_iconst C dX8_sheet_14 (v := (-1)) (by decide) ?_
      exact E.2.1 rfl _ _ _ _ dX8_sheet_15 ⟨_, rfl, ⟨S, ifp_f (fun q => by first | exact h5 ⟨q.1, q.2.1⟩ | exact h11 q.2.2) _ _, hM, SmR.rf⟩⟩
def rmX8_lay : Room := { frames := 2, cells := 0, slots := 0, locals := 46 }
theorem pk_X8_lay : Pk yX8_lay RX8 3 := by decide +kernel
set_option maxHeartbeats 4000000 in
set_option maxRecDepth 100000 in
theorem c_X8_lay (l : Launch) (g : gE) (ad : Nat → Nat) (u : Me) (S : Sg) (hM : RepM S u) (hO : Ok S) (kk i v : Int32) : Cti l yX8_lay wsX8_lay rmX8_lay g ad [.ref (ad 36), .int (kk), .int (i), .int (v)] u (fun r u' => ∃ S', layA S kk i v = (r, S') ∧ RepM S' u' ∧ SmR u u') := by
  refine Ct.of (cc := cX8_lay) (nL := 4) (ret := (some .int)) RX8 (by decide) rfl rfl (Nat.le_of_ble_eq_true rfl) (fun kx C E => ?_)
  have hin_X8 : ∀ w ∈ u_ws RX8 TX8 21, w ∈ wsX8_lay := by decide +kernel
  have hk_29 : Cond.fieldLink RX8 29 "AgainAgainModel" "lanes" "[I" ∈ wsX8_lay := by decide +kernel
  have hk_32 : Cond.fieldLink RX8 32 "AgainAgainModel" "sizes" "[I" ∈ wsX8_lay := by decide +kernel
  have hk_35 : Cond.fieldLink RX8 35 "AgainAgainModel" "cells" "[I" ∈ wsX8_lay := by decide +kernel
  show G kx 0 0 (WW g ad u) 0 [(0, .ref (ad 36)), (1, .int (kk)), (2, .int (i)), (3, .int (v))] []
  have hn := hO.n
  refine r_iload_n C 1 dX8_lay_0 rfl rfl ?_
  refine r_iconst C dX8_lay_1 (v := nI 0) (by decide) ?_
  refine r_callSi C (rest := []) (c_X8_isSheet l g ad u kk (nI 0)) gX8_lay_X8_isSheet pk_X8_isSheet dX8_lay_2 rfl rfl rfl rfl ⟨(Nat.le_of_ble_eq_true rfl), (Nat.le_of_ble_eq_true rfl)⟩ rfl (Nat.le_of_ble_eq_true rfl) ⟨(Nat.le_of_ble_eq_true rfl), (Nat.le_of_ble_eq_true rfl)⟩ ?_
  rintro _ _ ⟨rfl, rfl⟩
  refine r_ifB_ne C dX8_lay_5 (tgt := 10) (by decide) (fun h5 => ?_) (fun h5 => ?_)
  · obtain ⟨⟨k0, hk, rfl⟩, -⟩ := h5
    have h60 := (hO.s k0).2
    have hl3 := (hO.s k0).1
    refine r_aload_n C 0 dX8_lay_10 rfl rfl ?_
    refine r_get C (CN := RX8) (T := TX8) (N := 21) k_36 rfl hin_X8 (j := 7) (by decide) hk_29 rfl rfl dX8_lay_11 ?_
    refine r_iload_n C 1 dX8_lay_14 rfl rfl ?_
    refine r_iald C k_41 (by omega) (by omega) dX8_lay_15 ?_
    refine r_setI (y := (lnM (sl S k0))) (hM.l hk) ?_
    refine r_bipush C dX8_lay_16 (v := (-4)) (by decide) ?_
    refine r_icmp_ne C dX8_lay_18 (tgt := 24) (by decide) (fun h18 => ?_) (fun h18 => ?_)
    · have h0 : ¬ sl S k0 = 0 := fun z => h18 ((lnM_not hl3).mpr z)
      refine r_iload_n C 2 dX8_lay_24 rfl rfl ?_
      refine r_i2l C dX8_lay_25 (v := (i).toInt64) rfl ?_
      refine r_lconst C dX8_lay_26 (v := lI 0) (by decide) ?_
      refine r_aload_n C 0 dX8_lay_27 rfl rfl ?_
      refine r_get C (CN := RX8) (T := TX8) (N := 21) k_36 rfl hin_X8 (j := 8) (by decide) hk_32 rfl rfl dX8_lay_28 ?_
      refine r_iload_n C 1 dX8_lay_31 rfl rfl ?_
      refine r_iald C k_42 (by omega) (by omega) dX8_lay_32 ?_
      refine r_setI (y := (nI (sk S k0))) (hM.k hk) ?_
      refine r_iconst C dX8_lay_33 (v := nI 1) (by decide) ?_
      refine r_isub C dX8_lay_34 ?_
      refine r_setI (y := iI (((sk S k0) : Nat) - 1)) (iI_sub (((sk S k0) : Nat) : Int) ((1 : Nat) : Int)) ?_
      refine r_i2l C dX8_lay_35 (v := lI (((sk S k0) : Nat) - 1)) (iI_l (by omega) (by omega)) ?_
      refine r_callSi C (rest := []) (c_X8_in l g ad u ((i).toInt64) (lI 0) (lI (((sk S k0) : Nat) - 1))) gX8_lay_X8_in pk_X8_in dX8_lay_36 rfl rfl rfl rfl ⟨(Nat.le_of_ble_eq_true rfl), (Nat.le_of_ble_eq_true rfl)⟩ rfl (Nat.le_of_ble_eq_true rfl) ⟨(Nat.le_of_ble_eq_true rfl), (Nat.le_of_ble_eq_true rfl)⟩ ?_
      rintro _ _ ⟨rfl, rfl⟩
      refine r_setI (y := (bI (isR (sk S k0) i))) (bI_iff (inR_iff (n := sk S k0) (by omega))) ?_
      refine r_ifB_ne C dX8_lay_39 (tgt := 45) (by decide) (fun h39 => ?_) (fun h39 => ?_)
      · obtain ⟨i0, hi, rfl⟩ := h39
        refine r_aload_n C 0 dX8_lay_45 rfl rfl ?_
        refine r_get C (CN := RX8) (T := TX8) (N := 21) k_36 rfl hin_X8 (j := 9) (by decide) hk_35 rfl rfl dX8_lay_46 ?_
        refine r_bipush C dX8_lay_49 (v := nI 60) (by decide) ?_
        refine r_iload_n C 1 dX8_lay_51 rfl rfl ?_
        refine r_imulN C dX8_lay_52 ?_
        refine r_iload_n C 2 dX8_lay_53 rfl rfl ?_
        refine r_iaddN C dX8_lay_54 ?_
        refine r_aload_n C 0 dX8_lay_55 rfl rfl ?_
        refine r_get C (CN := RX8) (T := TX8) (N := 21) k_36 rfl hin_X8 (j := 7) (by decide) hk_29 rfl rfl dX8_lay_56 ?_
        refine r_iload_n C 1 dX8_lay_59 rfl rfl ?_
        refine r_iald C k_41 (by omega) (by omega) dX8_lay_60 ?_
        refine r_setI (y := (nI (sl S k0 - 1))) ((hM.l hk).trans (if_neg h0)) ?_
        refine r_ifN_ne C dX8_lay_61 (tgt := 69) (by decide) (by omega) (fun h61 => ?_) (fun h61 => ?_)
        · refine r_aload_n C 0 dX8_lay_69 rfl rfl ?_
          refine r_get C (CN := RX8) (T := TX8) (N := 21) k_36 rfl hin_X8 (j := 7) (by decide) hk_29 rfl rfl dX8_lay_70 ?_
          refine r_iload_n C 1 dX8_lay_73 rfl rfl ?_
          refine r_iald C k_41 (by omega) (by omega) dX8_lay_74 ?_
          refine r_setI (y := (nI (sl S k0 - 1))) ((hM.l hk).trans (if_neg h0)) ?_
          refine r_iconst C dX8_lay_75 (v := nI 1) (by decide) ?_
          refine r_icmpN_ne C dX8_lay_76 (tgt := 84) (by decide) (by omega) (by omega) (fun h76 => ?_) (fun h76 => ?_)
          · refine r_iload_n C 3 dX8_lay_84 rfl rfl ?_
            refine r_setI (y := lowB (sl S k0 - 1) v) (by unfold lowB; first | rw [if_pos h61] | rw [if_neg h61, if_pos h76] | rw [if_neg h61, if_neg h76]) ?_
            refine r_iast C k_43 (by omega) (by omega) dX8_lay_85 ?_
            refine r_iconst C dX8_lay_86 (v := nI 1) (by decide) ?_
            exact E.2.1 rfl _ _ _ _ dX8_lay_87 ⟨_, rfl, ⟨layS S k0 i0 v, by unfold layA; rw [ifp_t ⟨k0, hk, rfl⟩, cl_nI (show k0 < 2 ^ 31 by omega), ifp_f h0, ifp_t ⟨i0, hi, rfl⟩, cl_nI (show i0 < 2 ^ 31 by omega)], lay_M hM hO hk hi v, SmR.of (Sm.rf.sA (c := 43) (fa := [43]) (fj := []) (fi := []) (fl := []) (by decide) _) (by decide) (by decide) (by decide) (by decide)⟩⟩
          · refine r_iload_n C 3 dX8_lay_79 rfl rfl ?_
            refine r_i2s C dX8_lay_80 rfl ?_
            refine r_goto C dX8_lay_81 (tgt := 85) (by decide) ?_
            refine r_setI (y := lowB (sl S k0 - 1) v) (by unfold lowB; first | rw [if_pos h61] | rw [if_neg h61, if_pos h76] | rw [if_neg h61, if_neg h76]) ?_
            refine r_iast C k_43 (by omega) (by omega) dX8_lay_85 ?_
            refine r_iconst C dX8_lay_86 (v := nI 1) (by decide) ?_
            exact E.2.1 rfl _ _ _ _ dX8_lay_87 ⟨_, rfl, ⟨layS S k0 i0 v, by unfold layA; rw [ifp_t ⟨k0, hk, rfl⟩, cl_nI (show k0 < 2 ^ 31 by omega), ifp_f h0, ifp_t ⟨i0, hi, rfl⟩, cl_nI (show i0 < 2 ^ 31 by omega)], lay_M hM hO hk hi v, SmR.of (Sm.rf.sA (c := 43) (fa := [43]) (fj := []) (fi := []) (fl := []) (by decide) _) (by decide) (by decide) (by decide) (by decide)⟩⟩
        · refine r_iload_n C 3 dX8_lay_64 rfl rfl ?_
          refine r_i2b C dX8_lay_65 rfl ?_
          refine r_goto C dX8_lay_66 (tgt := 85) (by decide) ?_
          refine r_setI (y := lowB (sl S k0 - 1) v) (by unfold lowB; first | rw [if_pos h61] | rw [if_neg h61, if_pos h76] | rw [if_neg h61, if_neg h76]) ?_
          refine r_iast C k_43 (by omega) (by omega) dX8_lay_85 ?_
          refine r_iconst C dX8_lay_86 (v := nI 1) (by decide) ?_
          exact E.2.1 rfl _ _ _ _ dX8_lay_87 ⟨_, rfl, ⟨layS S k0 i0 v, by unfold layA; rw [ifp_t ⟨k0, hk, rfl⟩, cl_nI (show k0 < 2 ^ 31 by omega), ifp_f h0, ifp_t ⟨i0, hi, rfl⟩, cl_nI (show i0 < 2 ^ 31 by omega)], lay_M hM hO hk hi v, SmR.of (Sm.rf.sA (c := 43) (fa := [43]) (fj := []) (fi := []) (fl := []) (by decide) _) (by decide) (by decide) (by decide) (by decide)⟩⟩
      · refine r_bipush C dX8_lay_42 (v := (-12)) (by decide) ?_
        exact E.2.1 rfl _ _ _ _ dX8_lay_44 ⟨_, rfl, ⟨S, (by unfold layA; rw [ifp_t ⟨k0, hk, rfl⟩, cl_nI (show k0 < 2 ^ 31 by omega), ifp_f h0, ifp_f h39]), hM, SmR.rf⟩⟩
    · have h0 : sl S k0 = 0 := (lnM_not hl3).mp h18
      refine r_bipush C dX8_lay_21 (v := (-11)) (by decide) ?_
      exact E.2.1 rfl _ _ _ _ dX8_lay_23 ⟨_, rfl, ⟨S, (by unfold layA; rw [ifp_t ⟨k0, hk, rfl⟩, cl_nI (show k0 < 2 ^ 31 by omega), ifp_t h0]), hM, SmR.rf⟩⟩
  · refine r_iconst C dX8_lay_8 (v := (-1)) (by decide) ?_
    exact E.2.1 rfl _ _ _ _ dX8_lay_9 ⟨_, rfl, ⟨S, ifp_f (fun q => h5 ⟨q, ⟨0, by decide, rfl⟩⟩) _ _, hM, SmR.rf⟩⟩
