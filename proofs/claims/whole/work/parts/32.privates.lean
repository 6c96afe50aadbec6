def rmX7_areMachines : Room := { frames := 1, cells := 0, slots := 0, locals := 21 }
theorem pk_X7_areMachines : Pk yX7_areMachines RX7 2 := by decide +kernel
set_option maxHeartbeats 4000000 in
set_option maxRecDepth 100000 in
theorem c_X7_areMachines (l : Launch) (g : gE) (ad : Nat → Nat) (u : Me) (S : Sg) (hC : RepC S u) (hO : Ok S) (i j : Int32) : Cti l yX7_areMachines wsX7_areMachines rmX7_areMachines g ad [.ref (ad 0), .int (i), .int (j)] u (fun r u' => bI (isM S i ∧ isM S j) = r ∧ u = u') := by
  refine Ct.of (cc := cX7_areMachines) (nL := 3) (ret := (some .boolean)) RX7 (by decide) rfl rfl (Nat.le_of_ble_eq_true rfl) (fun kx C E => ?_)
  have hin_X7 : ∀ w ∈ u_ws RX7 TX7 10, w ∈ wsX7_areMachines := by decide +kernel
  have hk_19 : Cond.fieldLink RX7 19 "AgainAgain" "machines" "LAgainAgain$Machines;" ∈ wsX7_areMachines := by decide +kernel
  show G kx 0 0 (WW g ad u) 0 [(0, .ref (ad 0)), (1, .int (i)), (2, .int (j))] []
  refine r_aload_n C 0 dX7_areMachines_0 rfl rfl ?_
  refine r_get C (CN := RX7) (T := TX7) (N := 10) k_0 rfl hin_X7 (j := 1) (by decide) hk_19 rfl rfl dX7_areMachines_1 ?_
  refine r_iload_n C 1 dX7_areMachines_4 rfl rfl ?_
  refine r_callVi C (rest := []) (c_X2_has l g ad u S hC hO i) gX7_areMachines_X2_has pk_X2_has k_3 dX7_areMachines_5 rfl rfl rfl rfl ⟨(Nat.le_of_ble_eq_true rfl), (Nat.le_of_ble_eq_true rfl)⟩ rfl rfl (Nat.le_of_ble_eq_true rfl) ⟨(Nat.le_of_ble_eq_true rfl), (Nat.le_of_ble_eq_true rfl)⟩ ?_
  rintro _ _ ⟨rfl, rfl⟩
  refine r_ifB_eq C dX7_areMachines_8 (tgt := 26) (by decide) (fun h8 => ?_) (fun h8 => ?_)
  · refine r_iconst C dX7_areMachines_26 (v := nI 0) (by decide) ?_
    exact E.2.2.1 rfl _ _ _ _ dX7_areMachines_27 (Or.inl rfl) ⟨_, rfl, ⟨bF (fun q => by first | exact h8 q.1 | exact h19 q.2), rfl⟩⟩
  · refine r_aload_n C 0 dX7_areMachines_11 rfl rfl ?_
    refine r_get C (CN := RX7) (T := TX7) (N := 10) k_0 rfl hin_X7 (j := 1) (by decide) hk_19 rfl rfl dX7_areMachines_12 ?_
    refine r_iload_n C 2 dX7_areMachines_15 rfl rfl ?_
    refine r_callVi C (rest := []) (c_X2_has l g ad u S hC hO j) gX7_areMachines_X2_has pk_X2_has k_3 dX7_areMachines_16 rfl rfl rfl rfl ⟨(Nat.le_of_ble_eq_true rfl), (Nat.le_of_ble_eq_true rfl)⟩ rfl rfl (Nat.le_of_ble_eq_true rfl) ⟨(Nat.le_of_ble_eq_true rfl), (Nat.le_of_ble_eq_true rfl)⟩ ?_
    rintro _ _ ⟨rfl, rfl⟩
    refine r_ifB_eq C dX7_areMachines_19 (tgt := 26) (by decide) (fun h19 => ?_) (fun h19 => ?_)
    · refine r_iconst C dX7_areMachines_26 (v := nI 0) (by decide) ?_
      exact E.2.2.1 rfl _ _ _ _ dX7_areMachines_27 (Or.inl rfl) ⟨_, rfl, ⟨bF (fun q => by first | exact h8 q.1 | exact h19 q.2), rfl⟩⟩
    · refine r_iconst C dX7_areMachines_22 (v := nI 1) (by decide) ?_
      refine r_goto C dX7_areMachines_23 (tgt := 27) (by decide) ?_
      exact E.2.2.1 rfl _ _ _ _ dX7_areMachines_27 (Or.inr rfl) ⟨_, rfl, ⟨bT (⟨h8, h19⟩), rfl⟩⟩
def rmX7_cellFault : Room := { frames := 1, cells := 0, slots := 0, locals := 22 }
theorem pk_X7_cellFault : Pk yX7_cellFault RX7 3 := by decide +kernel
set_option maxHeartbeats 4000000 in
set_option maxRecDepth 100000 in
theorem c_X7_cellFault (l : Launch) (g : gE) (ad : Nat → Nat) (u : Me) (S : Sg) (hC : RepC S u) (hO : Ok S) (kk n f : Nat) (hk : kk < 4) (hn1 : 1 ≤ n) (hn4 : n ≤ 4) (hf : f < 60) : Cti l yX7_cellFault wsX7_cellFault rmX7_cellFault g ad [.ref (ad 0), .int (nI (kk)), .int (nI (f)), .int (nI (n))] u (fun r u' => cfF S kk n f 0 (4 * n) = r ∧ u = u') := by
  refine Ct.of (cc := cX7_cellFault) (nL := 6) (ret := (some .int)) RX7 (by decide) rfl rfl (Nat.le_of_ble_eq_true rfl) (fun kx C E => ?_)
  have hin_X7 : ∀ w ∈ u_ws RX7 TX7 10, w ∈ wsX7_cellFault := by decide +kernel
  have hk_26 : Cond.fieldLink RX7 26 "AgainAgain" "sheets" "LAgainAgain$Sheets;" ∈ wsX7_cellFault := by decide +kernel
  show G kx 0 0 (WW g ad u) 0 [(0, .ref (ad 0)), (1, .int (nI (kk))), (2, .int (nI (f))), (3, .int (nI (n)))] []
  have hs := hO.s kk
  refine r_iconst C dX7_cellFault_0 (v := nI 0) (by decide) ?_
  refine r_istore C [(0, .ref (ad 0)), (1, .int (nI (kk))), (2, .int (nI (f))), (3, .int (nI (n))), (4, .int (nI (0)))] [1, 2, 3, 4, 0] dX7_cellFault_1 (by decide) rfl ?_
  have L3 : ∀ (fu : Nat) (i : Nat), 4 * n < i + fu → (i ≤ 4 * n) → (1 ≤ i → f + i ≤ 60) → (cfF S kk n f 0 (4 * n) = cfF S kk n f i (4 * n - i)) → G kx 0 0 (WW g ad u) 3 [(0, .ref (ad 0)), (1, .int (nI (kk))), (2, .int (nI (f))), (3, .int (nI (n))), (4, .int (nI (i)))] [] := by
    intro fu
    induction fu with
    | zero => intro i hfu hi hci hcf; exact absurd hfu (by omega)
    | succ fu ih =>
      intro i hfu hi hci hcf
      refine r_iload C 4 dX7_cellFault_3 rfl ?_
      refine r_iconst C dX7_cellFault_5 (v := nI 4) (by decide) ?_
      refine r_iload_n C 3 dX7_cellFault_6 rfl rfl ?_
      refine r_imulN C dX7_cellFault_7 ?_
      refine r_icmpN_ge C dX7_cellFault_8 (tgt := 78) (by decide) (by omega) (by omega) (fun h8 => ?_) (fun h8 => ?_)
      · refine r_iconst C dX7_cellFault_78 (v := nI 0) (by decide) ?_
        exact E.2.1 rfl _ _ _ _ dX7_cellFault_79 ⟨_, rfl, ⟨by rw [hcf, show 4 * n - i = 0 by omega]; rfl, rfl⟩⟩
      · refine r_aload_n C 0 dX7_cellFault_11 rfl rfl ?_
        refine r_get C (CN := RX7) (T := TX7) (N := 10) k_0 rfl hin_X7 (j := 2) (by decide) hk_26 rfl rfl dX7_cellFault_12 ?_
        refine r_iload_n C 1 dX7_cellFault_15 rfl rfl ?_
        refine r_iload_n C 2 dX7_cellFault_16 rfl rfl ?_
        refine r_iload C 4 dX7_cellFault_17 rfl ?_
        refine r_iaddN C dX7_cellFault_19 ?_
        refine r_callVi C (rest := []) (c_X5_hasCell l g ad u S hC hO kk (by omega) (nI (f + i))) gX7_cellFault_X5_hasCell pk_X5_hasCell k_7 dX7_cellFault_20 rfl rfl rfl rfl ⟨(Nat.le_of_ble_eq_true rfl), (Nat.le_of_ble_eq_true rfl)⟩ rfl rfl (Nat.le_of_ble_eq_true rfl) ⟨(Nat.le_of_ble_eq_true rfl), (Nat.le_of_ble_eq_true rfl)⟩ ?_
        rintro _ _ ⟨rfl, rfl⟩
        refine r_ifB_ne C dX7_cellFault_23 (tgt := 29) (by decide) (fun h23 => ?_) (fun h23 => ?_)
        · have hfi : f + i < sk S kk := by
            obtain ⟨z, hz, e⟩ := h23
            have := (nI_eq (by omega) (by omega)).mp e
            omega
          refine r_iload C 4 dX7_cellFault_29 rfl ?_
          refine r_iconst C dX7_cellFault_31 (v := nI 4) (by decide) ?_
          refine r_iremN C dX7_cellFault_32 (by omega) (by omega) (by omega) ?_
          refine r_ifN_ne C dX7_cellFault_33 (tgt := 40) (by decide) (by omega) (fun h33 => ?_) (fun h33 => ?_)
          · refine r_iload_n C 3 dX7_cellFault_40 rfl rfl ?_
            refine r_iconst C dX7_cellFault_41 (v := nI 1) (by decide) ?_
            refine r_isubN C dX7_cellFault_42 (by omega) ?_
            refine r_istore C [(0, .ref (ad 0)), (1, .int (nI (kk))), (2, .int (nI (f))), (3, .int (nI (n))), (4, .int (nI (i))), (5, .int (nI (n - 1)))] [1, 2, 3, 4, 5, 0] dX7_cellFault_43 (by decide) rfl ?_
            refine r_aload_n C 0 dX7_cellFault_45 rfl rfl ?_
            refine r_get C (CN := RX7) (T := TX7) (N := 10) k_0 rfl hin_X7 (j := 2) (by decide) hk_26 rfl rfl dX7_cellFault_46 ?_
            refine r_iload_n C 1 dX7_cellFault_49 rfl rfl ?_
            refine r_iload_n C 2 dX7_cellFault_50 rfl rfl ?_
            refine r_iload C 4 dX7_cellFault_51 rfl ?_
            refine r_iaddN C dX7_cellFault_53 ?_
            refine r_callVi C (rest := []) (c_X5_cell l g ad u S hC hO kk (by omega) (f + i) (by first | assumption | omega)) gX7_cellFault_X5_cell pk_X5_cell k_7 dX7_cellFault_54 rfl rfl rfl rfl ⟨(Nat.le_of_ble_eq_true rfl), (Nat.le_of_ble_eq_true rfl)⟩ rfl rfl (Nat.le_of_ble_eq_true rfl) ⟨(Nat.le_of_ble_eq_true rfl), (Nat.le_of_ble_eq_true rfl)⟩ ?_
            rintro _ _ ⟨rfl, rfl⟩
            refine r_iconst C dX7_cellFault_57 (v := nI 0) (by decide) ?_
            refine r_iload C 5 dX7_cellFault_58 rfl ?_
            refine r_callSi C (rest := []) (c_X7_within l g ad u (sc S kk (f + i)) (nI 0) (nI (n - 1))) gX7_cellFault_X7_within pk_X7_within dX7_cellFault_60 rfl rfl rfl rfl ⟨(Nat.le_of_ble_eq_true rfl), (Nat.le_of_ble_eq_true rfl)⟩ rfl (Nat.le_of_ble_eq_true rfl) ⟨(Nat.le_of_ble_eq_true rfl), (Nat.le_of_ble_eq_true rfl)⟩ ?_
            rintro _ _ ⟨rfl, rfl⟩
            refine r_setI (y := (bI (isR n (sc S kk (f + i))))) ((bI_iff (isR_iff (n := n - 1) (by omega))).trans (by rw [show n - 1 + 1 = n by omega])) ?_
            refine r_ifB_ne C dX7_cellFault_63 (tgt := 72) (by decide) (fun h63 => ?_) (fun h63 => ?_)
            · have hval : isR (mst n i) (sc S kk (f + i)) := by unfold mst; first | (rw [if_pos h33]; exact h63) | (rw [if_neg h33]; exact h63)
              refine r_iinc C [(0, .ref (ad 0)), (1, .int (nI (kk))), (2, .int (nI (f))), (3, .int (nI (n))), (4, .int (nI (i + 1))), (5, .int (nI (n - 1)))] [1, 2, 3, 4, 0, 5] 4 dX7_cellFault_72 rfl (nI_add _ 1) (by decide) rfl ?_
              refine r_goto C dX7_cellFault_75 (tgt := 3) (by decide) ?_
              refine r_lvs C [0, 1, 2, 3, 4] (lv' := [(0, .ref (ad 0)), (1, .int (nI (kk))), (2, .int (nI (f))), (3, .int (nI (n))), (4, .int (nI (i + 1)))]) rfl ?_
              exact ih (i + 1) (by omega) (by omega) (fun _ => by omega) (hcf.trans (cfF_s2 (by omega) hfi hval))
            · have hval : ¬ isR (mst n i) (sc S kk (f + i)) := by unfold mst; first | (rw [if_pos h33]; exact h63) | (rw [if_neg h33]; exact h63)
              refine r_bipush C dX7_cellFault_66 (v := (-20)) (by decide) ?_
              refine r_iload C 4 dX7_cellFault_68 rfl ?_
              refine r_isub C dX7_cellFault_70 ?_
              refine r_setI (y := iI (-20 - (i : Int))) (m20_sub i) ?_
              exact E.2.1 rfl _ _ _ _ dX7_cellFault_71 ⟨_, rfl, ⟨hcf.trans (cfF_v2 (by omega) hfi hval), rfl⟩⟩
          · refine r_iconst C dX7_cellFault_36 (v := nI 2) (by decide) ?_
            refine r_goto C dX7_cellFault_37 (tgt := 43) (by decide) ?_
            refine r_istore C [(0, .ref (ad 0)), (1, .int (nI (kk))), (2, .int (nI (f))), (3, .int (nI (n))), (4, .int (nI (i))), (5, .int (nI (2)))] [1, 2, 3, 4, 5, 0] dX7_cellFault_43 (by decide) rfl ?_
            refine r_aload_n C 0 dX7_cellFault_45 rfl rfl ?_
            refine r_get C (CN := RX7) (T := TX7) (N := 10) k_0 rfl hin_X7 (j := 2) (by decide) hk_26 rfl rfl dX7_cellFault_46 ?_
            refine r_iload_n C 1 dX7_cellFault_49 rfl rfl ?_
            refine r_iload_n C 2 dX7_cellFault_50 rfl rfl ?_
            refine r_iload C 4 dX7_cellFault_51 rfl ?_
            refine r_iaddN C dX7_cellFault_53 ?_
            refine r_callVi C (rest := []) (c_X5_cell l g ad u S hC hO kk (by omega) (f + i) (by first | assumption | omega)) gX7_cellFault_X5_cell pk_X5_cell k_7 dX7_cellFault_54 rfl rfl rfl rfl ⟨(Nat.le_of_ble_eq_true rfl), (Nat.le_of_ble_eq_true rfl)⟩ rfl rfl (Nat.le_of_ble_eq_true rfl) ⟨(Nat.le_of_ble_eq_true rfl), (Nat.le_of_ble_eq_true rfl)⟩ ?_
            rintro _ _ ⟨rfl, rfl⟩
            refine r_iconst C dX7_cellFault_57 (v := nI 0) (by decide) ?_
            refine r_iload C 5 dX7_cellFault_58 rfl ?_
            refine r_callSi C (rest := []) (c_X7_within l g ad u (sc S kk (f + i)) (nI 0) (nI 2)) gX7_cellFault_X7_within pk_X7_within dX7_cellFault_60 rfl rfl rfl rfl ⟨(Nat.le_of_ble_eq_true rfl), (Nat.le_of_ble_eq_true rfl)⟩ rfl (Nat.le_of_ble_eq_true rfl) ⟨(Nat.le_of_ble_eq_true rfl), (Nat.le_of_ble_eq_true rfl)⟩ ?_
            rintro _ _ ⟨rfl, rfl⟩
            refine r_setI (y := (bI (isR 3 (sc S kk (f + i))))) (bI_iff (isR_iff (n := 2) (by decide))) ?_
            refine r_ifB_ne C dX7_cellFault_63 (tgt := 72) (by decide) (fun h63 => ?_) (fun h63 => ?_)
            · have hval : isR (mst n i) (sc S kk (f + i)) := by unfold mst; first | (rw [if_pos h33]; exact h63) | (rw [if_neg h33]; exact h63)
              refine r_iinc C [(0, .ref (ad 0)), (1, .int (nI (kk))), (2, .int (nI (f))), (3, .int (nI (n))), (4, .int (nI (i + 1))), (5, .int (nI (2)))] [1, 2, 3, 4, 0, 5] 4 dX7_cellFault_72 rfl (nI_add _ 1) (by decide) rfl ?_
              refine r_goto C dX7_cellFault_75 (tgt := 3) (by decide) ?_
              refine r_lvs C [0, 1, 2, 3, 4] (lv' := [(0, .ref (ad 0)), (1, .int (nI (kk))), (2, .int (nI (f))), (3, .int (nI (n))), (4, .int (nI (i + 1)))]) rfl ?_
              exact ih (i + 1) (by omega) (by omega) (fun _ => by omega) (hcf.trans (cfF_s2 (by omega) hfi hval))
            · have hval : ¬ isR (mst n i) (sc S kk (f + i)) := by unfold mst; first | (rw [if_pos h33]; exact h63) | (rw [if_neg h33]; exact h63)
              refine r_bipush C dX7_cellFault_66 (v := (-20)) (by decide) ?_
              refine r_iload C 4 dX7_cellFault_68 rfl ?_
              refine r_isub C dX7_cellFault_70 ?_
              refine r_setI (y := iI (-20 - (i : Int))) (m20_sub i) ?_
              exact E.2.1 rfl _ _ _ _ dX7_cellFault_71 ⟨_, rfl, ⟨hcf.trans (cfF_v2 (by omega) hfi hval), rfl⟩⟩
        · refine r_bipush C dX7_cellFault_26 (v := (-12)) (by decide) ?_
          exact E.2.1 rfl _ _ _ _ dX7_cellFault_28 ⟨_, rfl, ⟨hcf.trans (cfF_i2 (by omega) (fun z => h23 ⟨f + i, z, rfl⟩)), rfl⟩⟩
  exact L3 (4 * n + 1) 0 (by omega) (by omega) (fun q => absurd q (by omega)) rfl
set_option maxHeartbeats 4000000 in
set_option maxRecDepth 100000 in
theorem c_X7_cellFault0 (l : Launch) (g : gE) (ad : Nat → Nat) (u : Me) (S : Sg) (hC : RepC S u) (hO : Ok S) (kk n : Nat) (f : Int32) (hk : kk < 4) (hn1 : 1 ≤ n) (hn4 : n ≤ 4) (hf : ¬ isR (sk S kk) f) : Cti l yX7_cellFault wsX7_cellFault rmX7_cellFault g ad [.ref (ad 0), .int (nI (kk)), .int (f), .int (nI (n))] u (fun r u' => (-12 : Int32) = r ∧ u = u') := by
  refine Ct.of (cc := cX7_cellFault) (nL := 6) (ret := (some .int)) RX7 (by decide) rfl rfl (Nat.le_of_ble_eq_true rfl) (fun kx C E => ?_)
  have hin_X7 : ∀ w ∈ u_ws RX7 TX7 10, w ∈ wsX7_cellFault := by decide +kernel
  have hk_26 : Cond.fieldLink RX7 26 "AgainAgain" "sheets" "LAgainAgain$Sheets;" ∈ wsX7_cellFault := by decide +kernel
  show G kx 0 0 (WW g ad u) 0 [(0, .ref (ad 0)), (1, .int (nI (kk))), (2, .int (f)), (3, .int (nI (n)))] []
  refine r_iconst C dX7_cellFault_0 (v := nI 0) (by decide) ?_
  refine r_istore C [(0, .ref (ad 0)), (1, .int (nI (kk))), (2, .int (f)), (3, .int (nI (n))), (4, .int (nI (0)))] [1, 2, 3, 4, 0] dX7_cellFault_1 (by decide) rfl ?_
  refine r_iload C 4 dX7_cellFault_3 rfl ?_
  refine r_iconst C dX7_cellFault_5 (v := nI 4) (by decide) ?_
  refine r_iload_n C 3 dX7_cellFault_6 rfl rfl ?_
  refine r_imulN C dX7_cellFault_7 ?_
  refine r_icmpN_ge C dX7_cellFault_8 (tgt := 78) (by decide) (by omega) (by omega) (fun h8 => ?_) (fun h8 => ?_)
  · exact absurd h8 (by omega)
  · refine r_aload_n C 0 dX7_cellFault_11 rfl rfl ?_
    refine r_get C (CN := RX7) (T := TX7) (N := 10) k_0 rfl hin_X7 (j := 2) (by decide) hk_26 rfl rfl dX7_cellFault_12 ?_
    refine r_iload_n C 1 dX7_cellFault_15 rfl rfl ?_
    refine r_iload_n C 2 dX7_cellFault_16 rfl rfl ?_
    refine r_iload C 4 dX7_cellFault_17 rfl ?_
    refine r_iadd C dX7_cellFault_19 ?_
    refine r_setI (y := f) (Int32.add_zero f) ?_
    refine r_callVi C (rest := []) (c_X5_hasCell l g ad u S hC hO kk (by omega) f) gX7_cellFault_X5_hasCell pk_X5_hasCell k_7 dX7_cellFault_20 rfl rfl rfl rfl ⟨(Nat.le_of_ble_eq_true rfl), (Nat.le_of_ble_eq_true rfl)⟩ rfl rfl (Nat.le_of_ble_eq_true rfl) ⟨(Nat.le_of_ble_eq_true rfl), (Nat.le_of_ble_eq_true rfl)⟩ ?_
    rintro _ _ ⟨rfl, rfl⟩
    refine r_ifB_ne C dX7_cellFault_23 (tgt := 29) (by decide) (fun h23 => ?_) (fun h23 => ?_)
    · exact absurd (by simpa using h23) hf
    · refine r_bipush C dX7_cellFault_26 (v := (-12)) (by decide) ?_
      exact E.2.1 rfl _ _ _ _ dX7_cellFault_28 ⟨_, rfl, ⟨rfl, rfl⟩⟩
def rmX7_readMachine : Room := { frames := 2, cells := 0, slots := 0, locals := 48 }
theorem pk_X7_readMachine : Pk yX7_readMachine RX7 3 := by decide +kernel
set_option maxHeartbeats 4000000 in
set_option maxRecDepth 100000 in
theorem c_X7_readMachine (l : Launch) (g : gE) (ad : Nat → Nat) (u : Me) (S : Sg) (hC : RepC S u) (hO : Ok S) (kk f n : Nat) (hk : kk < 4) (h12 : sN S < 12) (hn1 : 1 ≤ n) (hn4 : n ≤ 4) (hall : ∀ j, j < 4 * n → f + j < sk S kk ∧ isR (mst n j) (sc S kk (f + j))) : Cti l yX7_readMachine wsX7_readMachine rmX7_readMachine g ad [.ref (ad 0), .int (nI (kk)), .int (nI (f)), .int (nI (n))] u (fun r u' => nI (sN S) = r ∧ RepC (PD S kk f n (4 * n)) u' ∧ Sm [4, 5, 6] [] [0] [] u u') := by
  refine Ct.of (cc := cX7_readMachine) (nL := 8) (ret := (some .int)) RX7 (by decide) rfl rfl (Nat.le_of_ble_eq_true rfl) (fun kx C E => ?_)
  have hin_X7 : ∀ w ∈ u_ws RX7 TX7 10, w ∈ wsX7_readMachine := by decide +kernel
  have hk_19 : Cond.fieldLink RX7 19 "AgainAgain" "machines" "LAgainAgain$Machines;" ∈ wsX7_readMachine := by decide +kernel
  have hk_26 : Cond.fieldLink RX7 26 "AgainAgain" "sheets" "LAgainAgain$Sheets;" ∈ wsX7_readMachine := by decide +kernel
  show G kx 0 0 (WW g ad u) 0 [(0, .ref (ad 0)), (1, .int (nI (kk))), (2, .int (nI (f))), (3, .int (nI (n)))] []
  have hn := hO.n
  have hs60 := (hO.s kk).2
  refine r_aload_n C 0 dX7_readMachine_0 rfl rfl ?_
  refine r_get C (CN := RX7) (T := TX7) (N := 10) k_0 rfl hin_X7 (j := 1) (by decide) hk_19 rfl rfl dX7_readMachine_1 ?_
  refine r_iload_n C 3 dX7_readMachine_4 rfl rfl ?_
  refine r_callVi C (rest := []) (c_X2_add l g ad u S hC hO n h12 (by omega) (by omega)) gX7_readMachine_X2_add pk_X2_add k_3 dX7_readMachine_5 rfl rfl rfl rfl ⟨(Nat.le_of_ble_eq_true rfl), (Nat.le_of_ble_eq_true rfl)⟩ rfl rfl (Nat.le_of_ble_eq_true rfl) ⟨(Nat.le_of_ble_eq_true rfl), (Nat.le_of_ble_eq_true rfl)⟩ ?_
  rintro _ u1 ⟨rfl, hC1, hs1⟩
  refine r_istore C [(0, .ref (ad 0)), (1, .int (nI (kk))), (2, .int (nI (f))), (3, .int (nI (n))), (4, .int (nI (sN S)))] [1, 2, 3, 4, 0] dX7_readMachine_8 (by decide) rfl ?_
  refine r_iconst C dX7_readMachine_10 (v := nI 0) (by decide) ?_
  refine r_istore C [(0, .ref (ad 0)), (1, .int (nI (kk))), (2, .int (nI (f))), (3, .int (nI (n))), (4, .int (nI (sN S))), (5, .int (nI (0)))] [1, 2, 3, 4, 5, 0] dX7_readMachine_11 (by decide) rfl ?_
  have L13 : ∀ (fu : Nat) (s : Nat) (v : Me), n < s + fu → (s ≤ n) → (Sm [4, 5, 6] [] [0] [] u v) → (RepC (PD S kk f n (4 * s)) v) → G kx 0 0 (WW g ad v) 13 [(0, .ref (ad 0)), (1, .int (nI (kk))), (2, .int (nI (f))), (3, .int (nI (n))), (4, .int (nI (sN S))), (5, .int (nI (s)))] [] := by
    intro fu
    induction fu with
    | zero => intro s v hfu hsn hv hC; exact absurd hfu (by omega)
    | succ fu ih =>
      intro s v hfu hsn hv hC
      refine r_iload C 5 dX7_readMachine_13 rfl ?_
      refine r_iload_n C 3 dX7_readMachine_15 rfl rfl ?_
      refine r_icmpN_ge C dX7_readMachine_16 (tgt := 97) (by decide) (by omega) (by omega) (fun h16 => ?_) (fun h16 => ?_)
      · refine r_iload C 4 dX7_readMachine_97 rfl ?_
        exact E.2.1 rfl _ _ _ _ dX7_readMachine_99 ⟨_, rfl, ⟨rfl, by rw [show 4 * n = 4 * s by omega]; exact hC, hv⟩⟩
      · have hs : s < n := by omega
        have hq0 := hall (4 * s) (by omega)
        have hr3 : isR 3 (sc S kk (f + 4 * s)) := by have q := hq0.2; unfold mst at q; rwa [if_pos (by omega)] at q
        refine r_iload_n C 2 dX7_readMachine_19 rfl rfl ?_
        refine r_iconst C dX7_readMachine_20 (v := nI 4) (by decide) ?_
        refine r_iload C 5 dX7_readMachine_21 rfl ?_
        refine r_imulN C dX7_readMachine_23 ?_
        refine r_iaddN C dX7_readMachine_24 ?_
        refine r_istore C [(0, .ref (ad 0)), (1, .int (nI (kk))), (2, .int (nI (f))), (3, .int (nI (n))), (4, .int (nI (sN S))), (5, .int (nI (s))), (6, .int (nI (f + (4 * s))))] [1, 2, 3, 4, 5, 6, 0] dX7_readMachine_25 (by decide) rfl ?_
        refine r_aload_n C 0 dX7_readMachine_27 rfl rfl ?_
        refine r_get C (CN := RX7) (T := TX7) (N := 10) k_0 rfl hin_X7 (j := 1) (by decide) hk_19 rfl rfl dX7_readMachine_28 ?_
        refine r_iload C 4 dX7_readMachine_31 rfl ?_
        refine r_iload C 5 dX7_readMachine_33 rfl ?_
        refine r_aload_n C 0 dX7_readMachine_35 rfl rfl ?_
        refine r_get C (CN := RX7) (T := TX7) (N := 10) k_0 rfl hin_X7 (j := 2) (by decide) hk_26 rfl rfl dX7_readMachine_36 ?_
        refine r_iload_n C 1 dX7_readMachine_39 rfl rfl ?_
        refine r_iload C 6 dX7_readMachine_40 rfl ?_
        refine r_callVi C (rest := [.int (nI (s)), .int (nI (sN S)), .ref (ad 3)]) (c_X5_cell l g ad v (PD S kk f n (4 * s)) hC (hO.PD h12 hn1 hn4) kk hk (f + (4 * s)) (show (f + (4 * s)) < sk S kk by omega)) gX7_readMachine_X5_cell pk_X5_cell k_7 dX7_readMachine_42 rfl rfl rfl rfl ⟨(Nat.le_of_ble_eq_true rfl), (Nat.le_of_ble_eq_true rfl)⟩ rfl rfl (Nat.le_of_ble_eq_true rfl) ⟨(Nat.le_of_ble_eq_true rfl), (Nat.le_of_ble_eq_true rfl)⟩ ?_
        rintro _ _ ⟨rfl, rfl⟩
        refine r_setI (y := (sc S kk (f + 4 * s))) (congrArg (sc S kk) (by omega)) ?_
        refine r_callVv C (rest := []) (c_X2_setAction l g ad v (sN S) s (sc S kk (f + 4 * s)) (by omega) (by omega)) gX7_readMachine_X2_setAction pk_X2_setAction k_3 dX7_readMachine_45 rfl rfl rfl rfl ⟨(Nat.le_of_ble_eq_true rfl), (Nat.le_of_ble_eq_true rfl)⟩ rfl rfl (Nat.le_of_ble_eq_true rfl) ⟨(Nat.le_of_ble_eq_true rfl), (Nat.le_of_ble_eq_true rfl)⟩ ?_
        rintro _ rfl
        refine r_iconst C dX7_readMachine_48 (v := nI 0) (by decide) ?_
        refine r_istore C [(0, .ref (ad 0)), (1, .int (nI (kk))), (2, .int (nI (f))), (3, .int (nI (n))), (4, .int (nI (sN S))), (5, .int (nI (s))), (6, .int (nI (f + (4 * s)))), (7, .int (nI (0)))] [1, 2, 3, 4, 5, 6, 7, 0] dX7_readMachine_49 (by decide) rfl ?_
        have iho := ih
        have hC := pdA_C hC hO h12 hn1 hn4 hs hr3
        have L51 : ∀ (fu : Nat) (b : Nat) (v : Me), 3 < b + fu → (b ≤ 3) → (Sm [4, 5, 6] [] [0] [] u v) → (RepC (PD S kk f n (4 * s + 1 + b)) v) → G kx 0 0 (WW g ad v) 51 [(0, .ref (ad 0)), (1, .int (nI (kk))), (2, .int (nI (f))), (3, .int (nI (n))), (4, .int (nI (sN S))), (5, .int (nI (s))), (6, .int (nI (f + 4 * s))), (7, .int (nI (b)))] [] := by
          intro fu
          induction fu with
          | zero => intro b v hfu hb hv hC; exact absurd hfu (by omega)
          | succ fu ih =>
            intro b v hfu hb hv hC
            refine r_iload C 7 dX7_readMachine_51 rfl ?_
            refine r_iconst C dX7_readMachine_53 (v := nI 3) (by decide) ?_
            refine r_icmpN_ge C dX7_readMachine_54 (tgt := 91) (by decide) (by omega) (by omega) (fun h54 => ?_) (fun h54 => ?_)
            · refine r_iinc C [(0, .ref (ad 0)), (1, .int (nI (kk))), (2, .int (nI (f))), (3, .int (nI (n))), (4, .int (nI (sN S))), (5, .int (nI (s + 1))), (6, .int (nI (f + 4 * s))), (7, .int (nI (b)))] [1, 2, 3, 4, 5, 0, 6, 7] 5 dX7_readMachine_91 rfl (nI_add _ 1) (by decide) rfl ?_
              refine r_goto C dX7_readMachine_94 (tgt := 13) (by decide) ?_
              refine r_lvs C [0, 1, 2, 3, 4, 5] (lv' := [(0, .ref (ad 0)), (1, .int (nI (kk))), (2, .int (nI (f))), (3, .int (nI (n))), (4, .int (nI (sN S))), (5, .int (nI (s + 1)))]) rfl ?_
              exact iho (s + 1) v (by omega) (by omega) hv (by rw [show 4 * (s + 1) = 4 * s + 1 + b by omega]; exact hC)
            · have hq1 := hall (4 * s + 1 + b) (by omega)
              have hrn : isR n (sc S kk (f + (4 * s + 1 + b))) := by have q := hq1.2; unfold mst at q; rwa [if_neg (by omega)] at q
              refine r_aload_n C 0 dX7_readMachine_57 rfl rfl ?_
              refine r_get C (CN := RX7) (T := TX7) (N := 10) k_0 rfl hin_X7 (j := 1) (by decide) hk_19 rfl rfl dX7_readMachine_58 ?_
              refine r_iload C 4 dX7_readMachine_61 rfl ?_
              refine r_iload C 5 dX7_readMachine_63 rfl ?_
              refine r_iload C 7 dX7_readMachine_65 rfl ?_
              refine r_aload_n C 0 dX7_readMachine_67 rfl rfl ?_
              refine r_get C (CN := RX7) (T := TX7) (N := 10) k_0 rfl hin_X7 (j := 2) (by decide) hk_26 rfl rfl dX7_readMachine_68 ?_
              refine r_iload_n C 1 dX7_readMachine_71 rfl rfl ?_
              refine r_iload C 6 dX7_readMachine_72 rfl ?_
              refine r_iconst C dX7_readMachine_74 (v := nI 1) (by decide) ?_
              refine r_iaddN C dX7_readMachine_75 ?_
              refine r_iload C 7 dX7_readMachine_76 rfl ?_
              refine r_iaddN C dX7_readMachine_78 ?_
              refine r_callVi C (rest := [.int (nI (b)), .int (nI (s)), .int (nI (sN S)), .ref (ad 3)]) (c_X5_cell l g ad v (PD S kk f n (4 * s + 1 + b)) hC (hO.PD h12 hn1 hn4) kk hk (((f + 4 * s) + 1) + b) (show (((f + 4 * s) + 1) + b) < sk S kk by omega)) gX7_readMachine_X5_cell pk_X5_cell k_7 dX7_readMachine_79 rfl rfl rfl rfl ⟨(Nat.le_of_ble_eq_true rfl), (Nat.le_of_ble_eq_true rfl)⟩ rfl rfl (Nat.le_of_ble_eq_true rfl) ⟨(Nat.le_of_ble_eq_true rfl), (Nat.le_of_ble_eq_true rfl)⟩ ?_
              rintro _ _ ⟨rfl, rfl⟩
              refine r_setI (y := (sc S kk (f + (4 * s + 1 + b)))) (congrArg (sc S kk) (by omega)) ?_
              refine r_callVv C (rest := []) (c_X2_setNext l g ad v (sN S) s b (sc S kk (f + (4 * s + 1 + b))) (by omega) (by omega) (by omega)) gX7_readMachine_X2_setNext pk_X2_setNext k_3 dX7_readMachine_82 rfl rfl rfl rfl ⟨(Nat.le_of_ble_eq_true rfl), (Nat.le_of_ble_eq_true rfl)⟩ rfl rfl (Nat.le_of_ble_eq_true rfl) ⟨(Nat.le_of_ble_eq_true rfl), (Nat.le_of_ble_eq_true rfl)⟩ ?_
              rintro _ rfl
              refine r_iinc C [(0, .ref (ad 0)), (1, .int (nI (kk))), (2, .int (nI (f))), (3, .int (nI (n))), (4, .int (nI (sN S))), (5, .int (nI (s))), (6, .int (nI (f + 4 * s))), (7, .int (nI (b + 1)))] [1, 2, 3, 4, 5, 6, 7, 0] 7 dX7_readMachine_85 rfl (nI_add _ 1) (by decide) rfl ?_
              refine r_goto C dX7_readMachine_88 (tgt := 51) (by decide) ?_
              exact ih (b + 1) _ (by omega) (by omega) (hv.sA (by decide) _) (pdN_C hC hO h12 hn1 hn4 hs (by omega) hrn)
        exact L51 4 0 _ (by omega) (by omega) (hv.sA (by decide) _) hC
  exact L13 (n + 1) 0 u1 (by omega) (by omega) hs1 (hC1.PD0 kk f)
def rmX7_playOut : Room := { frames := 2, cells := 0, slots := 0, locals := 51 }
theorem pk_X7_playOut : Pk yX7_playOut RX7 2 := by decide +kernel
set_option maxHeartbeats 4000000 in
set_option maxRecDepth 100000 in
theorem c_X7_playOut (l : Launch) (g : gE) (ad : Nat → Nat) (u : Me) (S : Sg) (hC : RepC S u) (hO : Ok S) (i j : Nat) (hi : i < sN S) (hj : j < sN S) : Ctv l yX7_playOut wsX7_playOut rmX7_playOut g ad [.ref (ad 0), .int (nI (i)), .int (nI (j))] u (fun u' => (PL u' 1 (VP S i j) (fP S i j) (gP S i j) 0 ∧ Sm [23, 24, 25, 26] [] [3, 4] [] u u') ∧ RepC S u') := by
  refine Ct.of (cc := cX7_playOut) (nL := 3) (ret := none) RX7 (by decide) rfl rfl (Nat.le_of_ble_eq_true rfl) (fun kx C E => ?_)
  have hin_X7 : ∀ w ∈ u_ws RX7 TX7 10, w ∈ wsX7_playOut := by decide +kernel
  have hk_10 : Cond.fieldLink RX7 10 "AgainAgain" "game" "LAgainAgain$Game;" ∈ wsX7_playOut := by decide +kernel
  have hk_19 : Cond.fieldLink RX7 19 "AgainAgain" "machines" "LAgainAgain$Machines;" ∈ wsX7_playOut := by decide +kernel
  have hk_47 : Cond.fieldLink RX7 47 "AgainAgain" "walk" "LAgainAgain$Walk;" ∈ wsX7_playOut := by decide +kernel
  show G kx 0 0 (WW g ad u) 0 [(0, .ref (ad 0)), (1, .int (nI (i))), (2, .int (nI (j)))] []
  refine r_aload_n C 0 dX7_playOut_0 rfl rfl ?_
  refine r_get C (CN := RX7) (T := TX7) (N := 10) k_0 rfl hin_X7 (j := 5) (by decide) hk_47 rfl rfl dX7_playOut_1 ?_
  refine r_aload_n C 0 dX7_playOut_4 rfl rfl ?_
  refine r_get C (CN := RX7) (T := TX7) (N := 10) k_0 rfl hin_X7 (j := 0) (by decide) hk_10 rfl rfl dX7_playOut_5 ?_
  refine r_aload_n C 0 dX7_playOut_8 rfl rfl ?_
  refine r_get C (CN := RX7) (T := TX7) (N := 10) k_0 rfl hin_X7 (j := 1) (by decide) hk_19 rfl rfl dX7_playOut_9 ?_
  refine r_iload_n C 1 dX7_playOut_12 rfl rfl ?_
  refine r_iload_n C 2 dX7_playOut_13 rfl rfl ?_
  refine r_callVv C (rest := []) (c_X6_takeMatch l g ad u S hC hO 1 (by decide) i j (by assumption) (by assumption)) gX7_playOut_X6_takeMatch pk_X6_takeMatch k_22 dX7_playOut_14 rfl rfl rfl rfl ⟨(Nat.le_of_ble_eq_true rfl), (Nat.le_of_ble_eq_true rfl)⟩ rfl rfl (Nat.le_of_ble_eq_true rfl) ⟨(Nat.le_of_ble_eq_true rfl), (Nat.le_of_ble_eq_true rfl)⟩ ?_
  rintro m1 ⟨hW1, hs1, hC⟩
  refine r_aload_n C 0 dX7_playOut_17 rfl rfl ?_
  refine r_get C (CN := RX7) (T := TX7) (N := 10) k_0 rfl hin_X7 (j := 5) (by decide) hk_47 rfl rfl dX7_playOut_18 ?_
  refine r_iconst C dX7_playOut_21 (v := nI 0) (by decide) ?_
  refine r_callVv C (rest := []) (c_X6_startAt l g ad m1 1 (by decide) _ _ _ 0 hW1 (VP_0 hO i j)) gX7_playOut_X6_startAt pk_X6_startAt k_22 dX7_playOut_22 rfl rfl rfl rfl ⟨(Nat.le_of_ble_eq_true rfl), (Nat.le_of_ble_eq_true rfl)⟩ rfl rfl (Nat.le_of_ble_eq_true rfl) ⟨(Nat.le_of_ble_eq_true rfl), (Nat.le_of_ble_eq_true rfl)⟩ ?_
  rintro m2 ⟨hp, hs2⟩
  exact E.1 rfl _ _ _ dX7_playOut_25 ⟨rfl, ⟨⟨hp, (hs1.wk (by decide) (by decide) (by decide) (by decide)).tr (hs2.wk (by decide) (by decide) (by decide) (by decide))⟩, hC.sm hs2 (by unfold leC; decide)⟩⟩
def rmX7_gainsOf : Room := { frames := 3, cells := 0, slots := 0, locals := 73 }
theorem pk_X7_gainsOf : Pk yX7_gainsOf RX7 3 := by decide +kernel
set_option maxHeartbeats 4000000 in
set_option maxRecDepth 100000 in
theorem c_X7_gainsOf (l : Launch) (g : gE) (ad : Nat → Nat) (u : Me) (S : Sg) (hC : RepC S u) (hO : Ok S) (i j : Nat) (hi : i < sN S) (hj : j < sN S) (n : Nat) (hn2 : n < 2000) : Cti l yX7_gainsOf wsX7_gainsOf rmX7_gainsOf g ad [.ref (ad 0), .int (nI (i)), .int (nI (j)), .int (nI (n))] u (fun r u' => iI (sumF S i j n) = r ∧ Sm [23, 24, 25, 26] [] [3, 4] [] u u' ∧ RepC S u') := by
  refine Ct.of (cc := cX7_gainsOf) (nL := 4) (ret := (some .int)) RX7 (by decide) rfl rfl (Nat.le_of_ble_eq_true rfl) (fun kx C E => ?_)
  have hin_X7 : ∀ w ∈ u_ws RX7 TX7 10, w ∈ wsX7_gainsOf := by decide +kernel
  have hk_47 : Cond.fieldLink RX7 47 "AgainAgain" "walk" "LAgainAgain$Walk;" ∈ wsX7_gainsOf := by decide +kernel
  show G kx 0 0 (WW g ad u) 0 [(0, .ref (ad 0)), (1, .int (nI (i))), (2, .int (nI (j))), (3, .int (nI (n)))] []
  refine r_aload_n C 0 dX7_gainsOf_0 rfl rfl ?_
  refine r_iload_n C 1 dX7_gainsOf_1 rfl rfl ?_
  refine r_iload_n C 2 dX7_gainsOf_2 rfl rfl ?_
  refine r_callVv C (rest := []) (c_X7_playOut l g ad u S hC hO i j (by assumption) (by assumption)) gX7_gainsOf_X7_playOut pk_X7_playOut k_0 dX7_gainsOf_3 rfl rfl rfl rfl ⟨(Nat.le_of_ble_eq_true rfl), (Nat.le_of_ble_eq_true rfl)⟩ rfl rfl (Nat.le_of_ble_eq_true rfl) ⟨(Nat.le_of_ble_eq_true rfl), (Nat.le_of_ble_eq_true rfl)⟩ ?_
  rintro mp ⟨⟨hp, hsp⟩, hC⟩
  refine r_aload_n C 0 dX7_gainsOf_6 rfl rfl ?_
  refine r_get C (CN := RX7) (T := TX7) (N := 10) k_0 rfl hin_X7 (j := 5) (by decide) hk_47 rfl rfl dX7_gainsOf_7 ?_
  refine r_iload_n C 3 dX7_gainsOf_10 rfl rfl ?_
  refine r_callVi C (rest := []) (c_X6_gainsOfFirst l g ad mp 1 (by decide) _ _ _ 0 hp n (by omega)) gX7_gainsOf_X6_gainsOfFirst pk_X6_gainsOfFirst k_22 dX7_gainsOf_11 rfl rfl rfl rfl ⟨(Nat.le_of_ble_eq_true rfl), (Nat.le_of_ble_eq_true rfl)⟩ rfl rfl (Nat.le_of_ble_eq_true rfl) ⟨(Nat.le_of_ble_eq_true rfl), (Nat.le_of_ble_eq_true rfl)⟩ ?_
  rintro _ _ ⟨rfl, rfl⟩
  refine r_setI (y := (iI (sumF S i j n))) (rfl) ?_
  exact E.2.1 rfl _ _ _ _ dX7_gainsOf_14 ⟨_, rfl, ⟨rfl, hsp, hC⟩⟩
def rmX7_matchWorth : Room := { frames := 3, cells := 0, slots := 0, locals := 86 }
theorem pk_X7_matchWorth : Pk yX7_matchWorth RX7 3 := by decide +kernel
set_option maxHeartbeats 4000000 in
set_option maxRecDepth 100000 in
theorem c_X7_matchWorth (l : Launch) (g : gE) (ad : Nat → Nat) (u : Me) (S : Sg) (hC : RepC S u) (hO : Ok S) (i j : Nat) (hi : i < sN S) (hj : j < sN S) (y : Nat) (hy : y < 3) : Ctv l yX7_matchWorth wsX7_matchWorth rmX7_matchWorth g ad [.ref (ad 0), .int (nI (i)), .int (nI (j)), .ref (ad (32 + y))] u (fun u' => mL u' (2 + 2 * y) = lI (mN S i j) ∧ mL u' (3 + 2 * y) = lI (mD S i j) ∧ Sm [23, 24, 25, 26] [] [3, 4] [2 + 2 * y, 3 + 2 * y] u u' ∧ RepC S u') := by
  refine Ct.of (cc := cX7_matchWorth) (nL := 4) (ret := none) RX7 (by decide) rfl rfl (Nat.le_of_ble_eq_true rfl) (fun kx C E => ?_)
  have hin_X7 : ∀ w ∈ u_ws RX7 TX7 10, w ∈ wsX7_matchWorth := by decide +kernel
  have hk_10 : Cond.fieldLink RX7 10 "AgainAgain" "game" "LAgainAgain$Game;" ∈ wsX7_matchWorth := by decide +kernel
  have hk_47 : Cond.fieldLink RX7 47 "AgainAgain" "walk" "LAgainAgain$Walk;" ∈ wsX7_matchWorth := by decide +kernel
  show G kx 0 0 (WW g ad u) 0 [(0, .ref (ad 0)), (1, .int (nI (i))), (2, .int (nI (j))), (3, .ref (ad (32 + y)))] []
  refine r_aload_n C 0 dX7_matchWorth_0 rfl rfl ?_
  refine r_iload_n C 1 dX7_matchWorth_1 rfl rfl ?_
  refine r_iload_n C 2 dX7_matchWorth_2 rfl rfl ?_
  refine r_callVv C (rest := []) (c_X7_playOut l g ad u S hC hO i j (by assumption) (by assumption)) gX7_matchWorth_X7_playOut pk_X7_playOut k_0 dX7_matchWorth_3 rfl rfl rfl rfl ⟨(Nat.le_of_ble_eq_true rfl), (Nat.le_of_ble_eq_true rfl)⟩ rfl rfl (Nat.le_of_ble_eq_true rfl) ⟨(Nat.le_of_ble_eq_true rfl), (Nat.le_of_ble_eq_true rfl)⟩ ?_
  rintro mp ⟨⟨hp, hsp⟩, hC⟩
  refine r_aload_n C 0 dX7_matchWorth_6 rfl rfl ?_
  refine r_get C (CN := RX7) (T := TX7) (N := 10) k_0 rfl hin_X7 (j := 5) (by decide) hk_47 rfl rfl dX7_matchWorth_7 ?_
  refine r_aload_n C 0 dX7_matchWorth_10 rfl rfl ?_
  refine r_get C (CN := RX7) (T := TX7) (N := 10) k_0 rfl hin_X7 (j := 0) (by decide) hk_10 rfl rfl dX7_matchWorth_11 ?_
  refine r_aload_n C 3 dX7_matchWorth_14 rfl rfl ?_
  refine r_callVv C (rest := []) (c_X6_worthInto l g ad mp S hC hO 1 (by decide) _ _ _ 0 hp (fun p _ => hO.p _ _) y hy) gX7_matchWorth_X6_worthInto pk_X6_worthInto k_22 dX7_matchWorth_15 rfl rfl rfl rfl ⟨(Nat.le_of_ble_eq_true rfl), (Nat.le_of_ble_eq_true rfl)⟩ rfl rfl (Nat.le_of_ble_eq_true rfl) ⟨(Nat.le_of_ble_eq_true rfl), (Nat.le_of_ble_eq_true rfl)⟩ ?_
  rintro mw ⟨ht3, hd3, hs3⟩
  exact E.1 rfl _ _ _ dX7_matchWorth_18 ⟨rfl, ⟨ht3, hd3, (hsp.wk (by simp) (by simp) (by simp) (by simp)).tr (hs3.wk (by simp) (by simp) (by simp) (by simp)), hC.sm hs3 (by unfold leC; simp; omega)⟩⟩
def rmX7_placeBehindSlip : Room := { frames := 1, cells := 0, slots := 0, locals := 23 }
theorem pk_X7_placeBehindSlip : Pk yX7_placeBehindSlip RX7 3 := by decide +kernel
set_option maxHeartbeats 4000000 in
set_option maxRecDepth 100000 in
theorem c_X7_placeBehindSlip (l : Launch) (g : gE) (ad : Nat → Nat) (u : Me) (S : Sg) (hC : RepC S u) (hO : Ok S) (i j : Nat) (hi : i < sN S) (hj : j < sN S) (p : Nat) (hp : VP S i j p) : Cti l yX7_placeBehindSlip wsX7_placeBehindSlip rmX7_placeBehindSlip g ad [.ref (ad 0), .int (nI (i)), .int (nI (j)), .int (nI (p))] u (fun r u' => nI (slP S i j p) = r ∧ u = u') := by
  refine Ct.of (cc := cX7_placeBehindSlip) (nL := 7) (ret := (some .int)) RX7 (by decide) rfl rfl (Nat.le_of_ble_eq_true rfl) (fun kx C E => ?_)
  have hin_X7 : ∀ w ∈ u_ws RX7 TX7 10, w ∈ wsX7_placeBehindSlip := by decide +kernel
  have hk_19 : Cond.fieldLink RX7 19 "AgainAgain" "machines" "LAgainAgain$Machines;" ∈ wsX7_placeBehindSlip := by decide +kernel
  show G kx 0 0 (WW g ad u) 0 [(0, .ref (ad 0)), (1, .int (nI (i))), (2, .int (nI (j))), (3, .int (nI (p)))] []
  have hp1 := hp.1
  have hp2 := hp.2
  have hp16 := VP_16 hO hp
  have ha := hO.a i (p / 4)
  have hm := Nat.mod_lt (sa S i (p / 4) + 1) (show 0 < 3 by decide)
  refine r_iload_n C 3 dX7_placeBehindSlip_0 rfl rfl ?_
  refine r_callSi C (rest := []) (c_X6_mine l g ad u p (by omega)) gX7_placeBehindSlip_X6_mine pk_X6_mine dX7_placeBehindSlip_1 rfl rfl rfl rfl ⟨(Nat.le_of_ble_eq_true rfl), (Nat.le_of_ble_eq_true rfl)⟩ rfl (Nat.le_of_ble_eq_true rfl) ⟨(Nat.le_of_ble_eq_true rfl), (Nat.le_of_ble_eq_true rfl)⟩ ?_
  rintro _ _ ⟨rfl, rfl⟩
  refine r_istore C [(0, .ref (ad 0)), (1, .int (nI (i))), (2, .int (nI (j))), (3, .int (nI (p))), (4, .int (nI (p / 4)))] [1, 2, 3, 4, 0] dX7_placeBehindSlip_4 (by decide) rfl ?_
  refine r_iload_n C 3 dX7_placeBehindSlip_6 rfl rfl ?_
  refine r_callSi C (rest := []) (c_X6_theirs l g ad u p (by omega)) gX7_placeBehindSlip_X6_theirs pk_X6_theirs dX7_placeBehindSlip_7 rfl rfl rfl rfl ⟨(Nat.le_of_ble_eq_true rfl), (Nat.le_of_ble_eq_true rfl)⟩ rfl (Nat.le_of_ble_eq_true rfl) ⟨(Nat.le_of_ble_eq_true rfl), (Nat.le_of_ble_eq_true rfl)⟩ ?_
  rintro _ _ ⟨rfl, rfl⟩
  refine r_istore C [(0, .ref (ad 0)), (1, .int (nI (i))), (2, .int (nI (j))), (3, .int (nI (p))), (4, .int (nI (p / 4))), (5, .int (nI (p % 4)))] [1, 2, 3, 4, 5, 0] dX7_placeBehindSlip_10 (by decide) rfl ?_
  refine r_aload_n C 0 dX7_placeBehindSlip_12 rfl rfl ?_
  refine r_get C (CN := RX7) (T := TX7) (N := 10) k_0 rfl hin_X7 (j := 1) (by decide) hk_19 rfl rfl dX7_placeBehindSlip_13 ?_
  refine r_iload_n C 1 dX7_placeBehindSlip_16 rfl rfl ?_
  refine r_iload C 4 dX7_placeBehindSlip_17 rfl ?_
  refine r_callVi C (rest := []) (c_X2_actionOf l g ad u S hC hO i (by assumption) (p / 4) (by first | assumption | omega)) gX7_placeBehindSlip_X2_actionOf pk_X2_actionOf k_3 dX7_placeBehindSlip_19 rfl rfl rfl rfl ⟨(Nat.le_of_ble_eq_true rfl), (Nat.le_of_ble_eq_true rfl)⟩ rfl rfl (Nat.le_of_ble_eq_true rfl) ⟨(Nat.le_of_ble_eq_true rfl), (Nat.le_of_ble_eq_true rfl)⟩ ?_
  rintro _ _ ⟨rfl, rfl⟩
  refine r_iconst C dX7_placeBehindSlip_22 (v := nI 1) (by decide) ?_
  refine r_iaddN C dX7_placeBehindSlip_23 ?_
  refine r_iconst C dX7_placeBehindSlip_24 (v := nI 3) (by decide) ?_
  refine r_iremN C dX7_placeBehindSlip_25 (by omega) (by omega) (by omega) ?_
  refine r_istore C [(0, .ref (ad 0)), (1, .int (nI (i))), (2, .int (nI (j))), (3, .int (nI (p))), (4, .int (nI (p / 4))), (5, .int (nI (p % 4))), (6, .int (nI (((sa S i (p / 4)) + 1) % 3)))] [1, 2, 3, 4, 5, 6, 0] dX7_placeBehindSlip_26 (by decide) rfl ?_
  refine r_aload_n C 0 dX7_placeBehindSlip_28 rfl rfl ?_
  refine r_get C (CN := RX7) (T := TX7) (N := 10) k_0 rfl hin_X7 (j := 1) (by decide) hk_19 rfl rfl dX7_placeBehindSlip_29 ?_
  refine r_iload_n C 1 dX7_placeBehindSlip_32 rfl rfl ?_
  refine r_iload C 4 dX7_placeBehindSlip_33 rfl ?_
  refine r_aload_n C 0 dX7_placeBehindSlip_35 rfl rfl ?_
  refine r_get C (CN := RX7) (T := TX7) (N := 10) k_0 rfl hin_X7 (j := 1) (by decide) hk_19 rfl rfl dX7_placeBehindSlip_36 ?_
  refine r_iload_n C 2 dX7_placeBehindSlip_39 rfl rfl ?_
  refine r_iload C 5 dX7_placeBehindSlip_40 rfl ?_
  refine r_callVi C (rest := [.int (nI (p / 4)), .int (nI (i)), .ref (ad 3)]) (c_X2_actionOf l g ad u S hC hO j (by assumption) (p % 4) (by first | assumption | omega)) gX7_placeBehindSlip_X2_actionOf pk_X2_actionOf k_3 dX7_placeBehindSlip_42 rfl rfl rfl rfl ⟨(Nat.le_of_ble_eq_true rfl), (Nat.le_of_ble_eq_true rfl)⟩ rfl rfl (Nat.le_of_ble_eq_true rfl) ⟨(Nat.le_of_ble_eq_true rfl), (Nat.le_of_ble_eq_true rfl)⟩ ?_
  rintro _ _ ⟨rfl, rfl⟩
  refine r_callVi C (rest := []) (c_X2_nextOf l g ad u S hC hO i (by assumption) (p / 4) (sa S j (p % 4)) (by first | assumption | omega) (by first | assumption | omega | exact hO.a _ _)) gX7_placeBehindSlip_X2_nextOf pk_X2_nextOf k_3 dX7_placeBehindSlip_45 rfl rfl rfl rfl ⟨(Nat.le_of_ble_eq_true rfl), (Nat.le_of_ble_eq_true rfl)⟩ rfl rfl (Nat.le_of_ble_eq_true rfl) ⟨(Nat.le_of_ble_eq_true rfl), (Nat.le_of_ble_eq_true rfl)⟩ ?_
  rintro _ _ ⟨rfl, rfl⟩
  refine r_aload_n C 0 dX7_placeBehindSlip_48 rfl rfl ?_
  refine r_get C (CN := RX7) (T := TX7) (N := 10) k_0 rfl hin_X7 (j := 1) (by decide) hk_19 rfl rfl dX7_placeBehindSlip_49 ?_
  refine r_iload_n C 2 dX7_placeBehindSlip_52 rfl rfl ?_
  refine r_iload C 5 dX7_placeBehindSlip_53 rfl ?_
  refine r_iload C 6 dX7_placeBehindSlip_55 rfl ?_
  refine r_callVi C (rest := [.int (nI (sx S i (p / 4) (sa S j (p % 4))))]) (c_X2_nextOf l g ad u S hC hO j (by assumption) (p % 4) (((sa S i (p / 4)) + 1) % 3) (by first | assumption | omega) (by first | assumption | omega | exact hO.a _ _)) gX7_placeBehindSlip_X2_nextOf pk_X2_nextOf k_3 dX7_placeBehindSlip_57 rfl rfl rfl rfl ⟨(Nat.le_of_ble_eq_true rfl), (Nat.le_of_ble_eq_true rfl)⟩ rfl rfl (Nat.le_of_ble_eq_true rfl) ⟨(Nat.le_of_ble_eq_true rfl), (Nat.le_of_ble_eq_true rfl)⟩ ?_
  rintro _ _ ⟨rfl, rfl⟩
  refine r_callSi C (rest := []) (c_X6_placeOf l g ad u (sx S i (p / 4) (sa S j (p % 4))) (sx S j (p % 4) (((sa S i (p / 4)) + 1) % 3))) gX7_placeBehindSlip_X6_placeOf pk_X6_placeOf dX7_placeBehindSlip_60 rfl rfl rfl rfl ⟨(Nat.le_of_ble_eq_true rfl), (Nat.le_of_ble_eq_true rfl)⟩ rfl (Nat.le_of_ble_eq_true rfl) ⟨(Nat.le_of_ble_eq_true rfl), (Nat.le_of_ble_eq_true rfl)⟩ ?_
  rintro _ _ ⟨rfl, rfl⟩
  exact E.2.1 rfl _ _ _ _ dX7_placeBehindSlip_63 ⟨_, rfl, ⟨rfl, rfl⟩⟩
def rmX7_takeBothSides : Room := { frames := 2, cells := 0, slots := 0, locals := 51 }
theorem pk_X7_takeBothSides : Pk yX7_takeBothSides RX7 2 := by decide +kernel
set_option maxHeartbeats 4000000 in
set_option maxRecDepth 100000 in
theorem c_X7_takeBothSides (l : Launch) (g : gE) (ad : Nat → Nat) (u : Me) (S : Sg) (hC : RepC S u) (hO : Ok S) (i j : Nat) (hi : i < sN S) (hj : j < sN S) : Ctv l yX7_takeBothSides wsX7_takeBothSides rmX7_takeBothSides g ad [.ref (ad 0), .int (nI (i)), .int (nI (j))] u (fun u' => (WOK u' 1 (VP S i j) (fP S i j) (gP S i j) ∧ WOK u' 2 (VP S j i) (fP S j i) (gP S j i) ∧ Sm [23, 24, 28, 29] [] [] [] u u') ∧ RepC S u') := by
  refine Ct.of (cc := cX7_takeBothSides) (nL := 3) (ret := none) RX7 (by decide) rfl rfl (Nat.le_of_ble_eq_true rfl) (fun kx C E => ?_)
  have hin_X7 : ∀ w ∈ u_ws RX7 TX7 10, w ∈ wsX7_takeBothSides := by decide +kernel
  have hk_10 : Cond.fieldLink RX7 10 "AgainAgain" "game" "LAgainAgain$Game;" ∈ wsX7_takeBothSides := by decide +kernel
  have hk_19 : Cond.fieldLink RX7 19 "AgainAgain" "machines" "LAgainAgain$Machines;" ∈ wsX7_takeBothSides := by decide +kernel
  have hk_47 : Cond.fieldLink RX7 47 "AgainAgain" "walk" "LAgainAgain$Walk;" ∈ wsX7_takeBothSides := by decide +kernel
  have hk_51 : Cond.fieldLink RX7 51 "AgainAgain" "back" "LAgainAgain$Walk;" ∈ wsX7_takeBothSides := by decide +kernel
  show G kx 0 0 (WW g ad u) 0 [(0, .ref (ad 0)), (1, .int (nI (i))), (2, .int (nI (j)))] []
  refine r_aload_n C 0 dX7_takeBothSides_0 rfl rfl ?_
  refine r_get C (CN := RX7) (T := TX7) (N := 10) k_0 rfl hin_X7 (j := 5) (by decide) hk_47 rfl rfl dX7_takeBothSides_1 ?_
  refine r_aload_n C 0 dX7_takeBothSides_4 rfl rfl ?_
  refine r_get C (CN := RX7) (T := TX7) (N := 10) k_0 rfl hin_X7 (j := 0) (by decide) hk_10 rfl rfl dX7_takeBothSides_5 ?_
  refine r_aload_n C 0 dX7_takeBothSides_8 rfl rfl ?_
  refine r_get C (CN := RX7) (T := TX7) (N := 10) k_0 rfl hin_X7 (j := 1) (by decide) hk_19 rfl rfl dX7_takeBothSides_9 ?_
  refine r_iload_n C 1 dX7_takeBothSides_12 rfl rfl ?_
  refine r_iload_n C 2 dX7_takeBothSides_13 rfl rfl ?_
  refine r_callVv C (rest := []) (c_X6_takeMatch l g ad u S hC hO 1 (by decide) i j (by assumption) (by assumption)) gX7_takeBothSides_X6_takeMatch pk_X6_takeMatch k_22 dX7_takeBothSides_14 rfl rfl rfl rfl ⟨(Nat.le_of_ble_eq_true rfl), (Nat.le_of_ble_eq_true rfl)⟩ rfl rfl (Nat.le_of_ble_eq_true rfl) ⟨(Nat.le_of_ble_eq_true rfl), (Nat.le_of_ble_eq_true rfl)⟩ ?_
  rintro m1 ⟨hW1, hs1, hC⟩
  refine r_aload_n C 0 dX7_takeBothSides_17 rfl rfl ?_
  refine r_get C (CN := RX7) (T := TX7) (N := 10) k_0 rfl hin_X7 (j := 6) (by decide) hk_51 rfl rfl dX7_takeBothSides_18 ?_
  refine r_aload_n C 0 dX7_takeBothSides_21 rfl rfl ?_
  refine r_get C (CN := RX7) (T := TX7) (N := 10) k_0 rfl hin_X7 (j := 0) (by decide) hk_10 rfl rfl dX7_takeBothSides_22 ?_
  refine r_aload_n C 0 dX7_takeBothSides_25 rfl rfl ?_
  refine r_get C (CN := RX7) (T := TX7) (N := 10) k_0 rfl hin_X7 (j := 1) (by decide) hk_19 rfl rfl dX7_takeBothSides_26 ?_
  refine r_iload_n C 2 dX7_takeBothSides_29 rfl rfl ?_
  refine r_iload_n C 1 dX7_takeBothSides_30 rfl rfl ?_
  refine r_callVv C (rest := []) (c_X6_takeMatch l g ad m1 S hC hO 2 (by decide) j i (by assumption) (by assumption)) gX7_takeBothSides_X6_takeMatch pk_X6_takeMatch k_27 dX7_takeBothSides_31 rfl rfl rfl rfl ⟨(Nat.le_of_ble_eq_true rfl), (Nat.le_of_ble_eq_true rfl)⟩ rfl rfl (Nat.le_of_ble_eq_true rfl) ⟨(Nat.le_of_ble_eq_true rfl), (Nat.le_of_ble_eq_true rfl)⟩ ?_
  rintro m2 ⟨hW2, hs2, hC⟩
  exact E.1 rfl _ _ _ dX7_takeBothSides_34 ⟨rfl, ⟨⟨hW1.mv (hs2.1 _ (by decide)) (hs2.1 _ (by decide)), hW2, (hs1.wk (by decide) (by decide) (by decide) (by decide)).tr (hs2.wk (by decide) (by decide) (by decide) (by decide))⟩, hC⟩⟩
def rmX7_gainsByPlan : Room := { frames := 3, cells := 0, slots := 0, locals := 86 }
theorem pk_X7_gainsByPlan : Pk yX7_gainsByPlan RX7 4 := by decide +kernel
set_option maxHeartbeats 4000000 in
set_option maxRecDepth 100000 in
theorem c_X7_gainsByPlan (l : Launch) (g : gE) (ad : Nat → Nat) (u : Me) (S : Sg) (hC : RepC S u) (hO : Ok S) (i j p t x : Nat) (hx : x < 3) (hi : i < sN S) (hj : j < sN S) (hp : VP S i j p) (ht : t < sz S j) (hW : WOK u x (VP S i j) (fP S i j) (gP S i j)) (hL : LRN u S j t (bsP S j t)) : Cti l yX7_gainsByPlan wsX7_gainsByPlan rmX7_gainsByPlan g ad [.ref (ad 0), .ref (ad (17 + 5 * x)), .int (nI (p)), .int (nI (j)), .int (nI (t))] u (fun r u' => bI (gbp S i j p t) = r ∧ Sm [20 + 5 * x, 21 + 5 * x] [] [1 + 2 * x, 2 + 2 * x] [4, 5] u u') := by
  refine Ct.of (cc := cX7_gainsByPlan) (nL := 5) (ret := (some .boolean)) RX7 (by decide) rfl rfl (Nat.le_of_ble_eq_true rfl) (fun kx C E => ?_)
  have hin_X7 : ∀ w ∈ u_ws RX7 TX7 10, w ∈ wsX7_gainsByPlan := by decide +kernel
  have hk_10 : Cond.fieldLink RX7 10 "AgainAgain" "game" "LAgainAgain$Game;" ∈ wsX7_gainsByPlan := by decide +kernel
  have hk_40 : Cond.fieldLink RX7 40 "AgainAgain" "plans" "LAgainAgain$Plans;" ∈ wsX7_gainsByPlan := by decide +kernel
  have hk_57 : Cond.fieldLink RX7 57 "AgainAgain" "ratio" "LAgainAgain$Ratio;" ∈ wsX7_gainsByPlan := by decide +kernel
  show G kx 0 0 (WW g ad u) 0 [(0, .ref (ad 0)), (1, .ref (ad (17 + 5 * x))), (2, .int (nI (p))), (3, .int (nI (j))), (4, .int (nI (t)))] []
  have hn := hO.n
  have hz := (hO.z j).2
  refine r_aload_n C 1 dX7_gainsByPlan_0 rfl rfl ?_
  refine r_iload_n C 2 dX7_gainsByPlan_1 rfl rfl ?_
  refine r_callVv C (rest := []) (c_X6_startAt l g ad u x hx _ _ _ p hW hp) gX7_gainsByPlan_X6_startAt pk_X6_startAt (k_w hx) dX7_gainsByPlan_2 rfl rfl rfl rfl ⟨(Nat.le_of_ble_eq_true rfl), (Nat.le_of_ble_eq_true rfl)⟩ rfl rfl (Nat.le_of_ble_eq_true rfl) ⟨(Nat.le_of_ble_eq_true rfl), (Nat.le_of_ble_eq_true rfl)⟩ ?_
  rintro m1 ⟨hP, hs1⟩
  have hC : RepC S m1 := hC.sm hs1 (by unfold leC; simp; omega)
  refine r_aload_n C 1 dX7_gainsByPlan_5 rfl rfl ?_
  refine r_aload_n C 0 dX7_gainsByPlan_6 rfl rfl ?_
  refine r_get C (CN := RX7) (T := TX7) (N := 10) k_0 rfl hin_X7 (j := 0) (by decide) hk_10 rfl rfl dX7_gainsByPlan_7 ?_
  refine r_aload_n C 0 dX7_gainsByPlan_10 rfl rfl ?_
  refine r_get C (CN := RX7) (T := TX7) (N := 10) k_0 rfl hin_X7 (j := 7) (by decide) hk_57 rfl rfl dX7_gainsByPlan_11 ?_
  refine r_callVv C (rest := []) (c_X6_worthInto l g ad m1 S hC hO x hx _ _ _ p hP (fun p _ => hO.p _ _) 1 (by decide)) gX7_gainsByPlan_X6_worthInto pk_X6_worthInto (k_w hx) dX7_gainsByPlan_14 rfl rfl rfl rfl ⟨(Nat.le_of_ble_eq_true rfl), (Nat.le_of_ble_eq_true rfl)⟩ rfl rfl (Nat.le_of_ble_eq_true rfl) ⟨(Nat.le_of_ble_eq_true rfl), (Nat.le_of_ble_eq_true rfl)⟩ ?_
  rintro m2 ⟨ht3, hd3, hs3⟩
  have hL2 : LRN m2 S j t (bsP S j t) := (hL.mv (hs1.1 _ (by simp; omega)) (hs1.2.1 _ (by simp)) (hs1.2.1 _ (by simp))).mv (hs3.1 _ (by simp)) (hs3.2.1 _ (by simp)) (hs3.2.1 _ (by simp))
  refine r_aload_n C 0 dX7_gainsByPlan_17 rfl rfl ?_
  refine r_get C (CN := RX7) (T := TX7) (N := 10) k_0 rfl hin_X7 (j := 4) (by decide) hk_40 rfl rfl dX7_gainsByPlan_18 ?_
  refine r_iload_n C 3 dX7_gainsByPlan_21 rfl rfl ?_
  refine r_iload C 4 dX7_gainsByPlan_22 rfl ?_
  refine r_aload_n C 0 dX7_gainsByPlan_24 rfl rfl ?_
  refine r_get C (CN := RX7) (T := TX7) (N := 10) k_0 rfl hin_X7 (j := 7) (by decide) hk_57 rfl rfl dX7_gainsByPlan_25 ?_
  refine r_callVi C (rest := []) (c_X3_bestCompared l g ad m2 j t (by omega) (by omega) _ _ hL2.2.1 hL2.2.2 1 (by decide) _ _ ht3 hd3) gX7_gainsByPlan_X3_bestCompared pk_X3_bestCompared k_13 dX7_gainsByPlan_28 rfl rfl rfl rfl ⟨(Nat.le_of_ble_eq_true rfl), (Nat.le_of_ble_eq_true rfl)⟩ rfl rfl (Nat.le_of_ble_eq_true rfl) ⟨(Nat.le_of_ble_eq_true rfl), (Nat.le_of_ble_eq_true rfl)⟩ ?_
  rintro _ _ ⟨rfl, rfl⟩
  refine r_if_le C dX7_gainsByPlan_31 (tgt := 38) (by decide) (fun h31 => ?_) (fun h31 => ?_)
  · refine r_iconst C dX7_gainsByPlan_38 (v := nI 0) (by decide) ?_
    exact E.2.2.1 rfl _ _ _ _ dX7_gainsByPlan_39 (Or.inl rfl) ⟨_, rfl, ⟨bF (fun q => absurd ((gbp_iff hO hp ht).mpr q) (Int32.not_lt.mpr h31)), (hs1.wk (by simp) (by simp) (by simp) (by simp)).tr (hs3.wk (by simp) (by simp) (by simp) (by simp))⟩⟩
  · refine r_iconst C dX7_gainsByPlan_34 (v := nI 1) (by decide) ?_
    refine r_goto C dX7_gainsByPlan_35 (tgt := 39) (by decide) ?_
    exact E.2.2.1 rfl _ _ _ _ dX7_gainsByPlan_39 (Or.inr rfl) ⟨_, rfl, ⟨bT ((gbp_iff hO hp ht).mp (Int32.not_le.mp h31)), (hs1.wk (by simp) (by simp) (by simp) (by simp)).tr (hs3.wk (by simp) (by simp) (by simp) (by simp))⟩⟩
def rmX7_restFrom : Room := { frames := 4, cells := 0, slots := 0, locals := 110 }
theorem pk_X7_restFrom : Pk yX7_restFrom RX7 4 := by decide +kernel
set_option maxHeartbeats 4000000 in
set_option maxRecDepth 100000 in
theorem c_X7_restFrom (l : Launch) (g : gE) (ad : Nat → Nat) (u : Me) (S : Sg) (hC : RepC S u) (hO : Ok S) (i s j t : Nat) (hi : i < sN S) (hs : s < sz S i) (hj : j < sN S) (ht : t < sz S j) (hR : RDY u S i j s t) : Cti l yX7_restFrom wsX7_restFrom rmX7_restFrom g ad [.ref (ad 0), .int (nI (i)), .int (nI (s)), .int (nI (j)), .int (nI (t))] u (fun r u' => (bI (restF S i s j t) = r ∧ Sm [25, 26, 30, 31] [] [3, 4, 5, 6] [4, 5] u u') ∧ RepC S u') := by
  refine Ct.of (cc := cX7_restFrom) (nL := 5) (ret := (some .boolean)) RX7 (by decide) rfl rfl (Nat.le_of_ble_eq_true rfl) (fun kx C E => ?_)
  have hin_X7 : ∀ w ∈ u_ws RX7 TX7 10, w ∈ wsX7_restFrom := by decide +kernel
  have hk_47 : Cond.fieldLink RX7 47 "AgainAgain" "walk" "LAgainAgain$Walk;" ∈ wsX7_restFrom := by decide +kernel
  have hk_51 : Cond.fieldLink RX7 51 "AgainAgain" "back" "LAgainAgain$Walk;" ∈ wsX7_restFrom := by decide +kernel
  show G kx 0 0 (WW g ad u) 0 [(0, .ref (ad 0)), (1, .int (nI (i))), (2, .int (nI (s))), (3, .int (nI (j))), (4, .int (nI (t)))] []
  refine r_aload_n C 0 dX7_restFrom_0 rfl rfl ?_
  refine r_aload_n C 0 dX7_restFrom_1 rfl rfl ?_
  refine r_get C (CN := RX7) (T := TX7) (N := 10) k_0 rfl hin_X7 (j := 5) (by decide) hk_47 rfl rfl dX7_restFrom_2 ?_
  refine r_iload_n C 2 dX7_restFrom_5 rfl rfl ?_
  refine r_iload C 4 dX7_restFrom_6 rfl ?_
  refine r_callSi C (rest := [.ref (ad 22), .ref (ad 0)]) (c_X6_placeOf l g ad u s t) gX7_restFrom_X6_placeOf pk_X6_placeOf dX7_restFrom_8 rfl rfl rfl rfl ⟨(Nat.le_of_ble_eq_true rfl), (Nat.le_of_ble_eq_true rfl)⟩ rfl (Nat.le_of_ble_eq_true rfl) ⟨(Nat.le_of_ble_eq_true rfl), (Nat.le_of_ble_eq_true rfl)⟩ ?_
  rintro _ _ ⟨rfl, rfl⟩
  refine r_iload_n C 3 dX7_restFrom_11 rfl rfl ?_
  refine r_iload C 4 dX7_restFrom_12 rfl ?_
  refine r_callVi C (rest := []) (c_X7_gainsByPlan l g ad u S hC hO i j (4 * s + t) t 1 (by decide) hi hj (VP_st hO hs ht) ht hR.1 hR.2.2.1) gX7_restFrom_X7_gainsByPlan pk_X7_gainsByPlan k_0 dX7_restFrom_14 rfl rfl rfl rfl ⟨(Nat.le_of_ble_eq_true rfl), (Nat.le_of_ble_eq_true rfl)⟩ rfl rfl (Nat.le_of_ble_eq_true rfl) ⟨(Nat.le_of_ble_eq_true rfl), (Nat.le_of_ble_eq_true rfl)⟩ ?_
  rintro _ g1 ⟨rfl, hg1⟩
  have hg1 : Sm [25, 26, 30, 31] [] [3, 4, 5, 6] [4, 5] u g1 := hg1.wk (by decide) (by decide) (by decide) (by decide)
  have hR := hR.mv hg1
  have hC : RepC S g1 := hC.sm hg1 (by unfold leC; decide)
  refine r_ifB_ne C dX7_restFrom_17 (tgt := 43) (by decide) (fun h17 => ?_) (fun h17 => ?_)
  · refine r_iconst C dX7_restFrom_43 (v := nI 0) (by decide) ?_
    exact E.2.2.1 rfl _ _ _ _ dX7_restFrom_44 (Or.inl rfl) ⟨_, rfl, ⟨⟨bF (fun q => q.1 h17), hg1⟩, hC⟩⟩
  · refine r_aload_n C 0 dX7_restFrom_20 rfl rfl ?_
    refine r_aload_n C 0 dX7_restFrom_21 rfl rfl ?_
    refine r_get C (CN := RX7) (T := TX7) (N := 10) k_0 rfl hin_X7 (j := 6) (by decide) hk_51 rfl rfl dX7_restFrom_22 ?_
    refine r_iload C 4 dX7_restFrom_25 rfl ?_
    refine r_iload_n C 2 dX7_restFrom_27 rfl rfl ?_
    refine r_callSi C (rest := [.ref (ad 27), .ref (ad 0)]) (c_X6_placeOf l g ad g1 t s) gX7_restFrom_X6_placeOf pk_X6_placeOf dX7_restFrom_28 rfl rfl rfl rfl ⟨(Nat.le_of_ble_eq_true rfl), (Nat.le_of_ble_eq_true rfl)⟩ rfl (Nat.le_of_ble_eq_true rfl) ⟨(Nat.le_of_ble_eq_true rfl), (Nat.le_of_ble_eq_true rfl)⟩ ?_
    rintro _ _ ⟨rfl, rfl⟩
    refine r_iload_n C 1 dX7_restFrom_31 rfl rfl ?_
    refine r_iload_n C 2 dX7_restFrom_32 rfl rfl ?_
    refine r_callVi C (rest := []) (c_X7_gainsByPlan l g ad g1 S hC hO j i (4 * t + s) s 2 (by decide) hj hi (VP_st hO ht hs) hs hR.2.1 hR.2.2.2) gX7_restFrom_X7_gainsByPlan pk_X7_gainsByPlan k_0 dX7_restFrom_33 rfl rfl rfl rfl ⟨(Nat.le_of_ble_eq_true rfl), (Nat.le_of_ble_eq_true rfl)⟩ rfl rfl (Nat.le_of_ble_eq_true rfl) ⟨(Nat.le_of_ble_eq_true rfl), (Nat.le_of_ble_eq_true rfl)⟩ ?_
    rintro _ g2 ⟨rfl, hg2⟩
    have hg2 : Sm [25, 26, 30, 31] [] [3, 4, 5, 6] [4, 5] g1 g2 := hg2.wk (by decide) (by decide) (by decide) (by decide)
    have hR := hR.mv hg2
    have hC : RepC S g2 := hC.sm hg2 (by unfold leC; decide)
    refine r_ifB_ne C dX7_restFrom_36 (tgt := 43) (by decide) (fun h36 => ?_) (fun h36 => ?_)
    · refine r_iconst C dX7_restFrom_43 (v := nI 0) (by decide) ?_
      exact E.2.2.1 rfl _ _ _ _ dX7_restFrom_44 (Or.inl rfl) ⟨_, rfl, ⟨⟨bF (fun q => q.2 h36), hg1.tr hg2⟩, hC⟩⟩
    · refine r_iconst C dX7_restFrom_39 (v := nI 1) (by decide) ?_
      refine r_goto C dX7_restFrom_40 (tgt := 44) (by decide) ?_
      exact E.2.2.1 rfl _ _ _ _ dX7_restFrom_44 (Or.inr rfl) ⟨_, rfl, ⟨⟨bT ⟨h17, h36⟩, hg1.tr hg2⟩, hC⟩⟩
def rmX7_deviationFrom : Room := { frames := 4, cells := 0, slots := 0, locals := 110 }
theorem pk_X7_deviationFrom : Pk yX7_deviationFrom RX7 5 := by decide +kernel
set_option maxHeartbeats 4000000 in
set_option maxRecDepth 100000 in
theorem c_X7_deviationFrom (l : Launch) (g : gE) (ad : Nat → Nat) (u : Me) (S : Sg) (hC : RepC S u) (hO : Ok S) (i s j t : Nat) (hi : i < sN S) (hs : s < sz S i) (hj : j < sN S) (ht : t < sz S j) (hR : RDY u S i j s t) (what : Nat) (hw : what < 3) : Cti l yX7_deviationFrom wsX7_deviationFrom rmX7_deviationFrom g ad [.ref (ad 0), .int (nI (i)), .int (nI (s)), .int (nI (j)), .int (nI (t)), .int (nI (what))] u (fun r u' => (ifp (what = 1) (ifp (gbp S i j (4 * s + t) t) (nI 0) (nI 1)) (ifp (gbp S i j (4 * s + t) t) (nI (bsP S j t)) (nI (bsP S i s))) = r ∧ Sm [25, 26, 30, 31] [] [3, 4, 5, 6] [4, 5] u u') ∧ RepC S u') := by
  refine Ct.of (cc := cX7_deviationFrom) (nL := 7) (ret := (some .int)) RX7 (by decide) rfl rfl (Nat.le_of_ble_eq_true rfl) (fun kx C E => ?_)
  have hin_X7 : ∀ w ∈ u_ws RX7 TX7 10, w ∈ wsX7_deviationFrom := by decide +kernel
  have hk_40 : Cond.fieldLink RX7 40 "AgainAgain" "plans" "LAgainAgain$Plans;" ∈ wsX7_deviationFrom := by decide +kernel
  have hk_47 : Cond.fieldLink RX7 47 "AgainAgain" "walk" "LAgainAgain$Walk;" ∈ wsX7_deviationFrom := by decide +kernel
  show G kx 0 0 (WW g ad u) 0 [(0, .ref (ad 0)), (1, .int (nI (i))), (2, .int (nI (s))), (3, .int (nI (j))), (4, .int (nI (t))), (5, .int (nI (what)))] []
  have hn := hO.n
  have hz1 := (hO.z i).2
  have hz2 := (hO.z j).2
  refine r_aload_n C 0 dX7_deviationFrom_0 rfl rfl ?_
  refine r_aload_n C 0 dX7_deviationFrom_1 rfl rfl ?_
  refine r_get C (CN := RX7) (T := TX7) (N := 10) k_0 rfl hin_X7 (j := 5) (by decide) hk_47 rfl rfl dX7_deviationFrom_2 ?_
  refine r_iload_n C 2 dX7_deviationFrom_5 rfl rfl ?_
  refine r_iload C 4 dX7_deviationFrom_6 rfl ?_
  refine r_callSi C (rest := [.ref (ad 22), .ref (ad 0)]) (c_X6_placeOf l g ad u s t) gX7_deviationFrom_X6_placeOf pk_X6_placeOf dX7_deviationFrom_8 rfl rfl rfl rfl ⟨(Nat.le_of_ble_eq_true rfl), (Nat.le_of_ble_eq_true rfl)⟩ rfl (Nat.le_of_ble_eq_true rfl) ⟨(Nat.le_of_ble_eq_true rfl), (Nat.le_of_ble_eq_true rfl)⟩ ?_
  rintro _ _ ⟨rfl, rfl⟩
  refine r_iload_n C 3 dX7_deviationFrom_11 rfl rfl ?_
  refine r_iload C 4 dX7_deviationFrom_12 rfl ?_
  refine r_callVi C (rest := []) (c_X7_gainsByPlan l g ad u S hC hO i j (4 * s + t) t 1 (by decide) hi hj (VP_st hO hs ht) ht hR.1 hR.2.2.1) gX7_deviationFrom_X7_gainsByPlan pk_X7_gainsByPlan k_0 dX7_deviationFrom_14 rfl rfl rfl rfl ⟨(Nat.le_of_ble_eq_true rfl), (Nat.le_of_ble_eq_true rfl)⟩ rfl rfl (Nat.le_of_ble_eq_true rfl) ⟨(Nat.le_of_ble_eq_true rfl), (Nat.le_of_ble_eq_true rfl)⟩ ?_
  rintro _ g1 ⟨rfl, hg1⟩
  have hg1 : Sm [25, 26, 30, 31] [] [3, 4, 5, 6] [4, 5] u g1 := hg1.wk (by decide) (by decide) (by decide) (by decide)
  have hR := hR.mv hg1
  have hC : RepC S g1 := hC.sm hg1 (by unfold leC; decide)
  refine r_istore C [(0, .ref (ad 0)), (1, .int (nI (i))), (2, .int (nI (s))), (3, .int (nI (j))), (4, .int (nI (t))), (5, .int (nI (what))), (6, .int (bI (gbp S i j (4 * s + t) t)))] [1, 2, 3, 4, 5, 6, 0] dX7_deviationFrom_17 (by decide) rfl ?_
  refine r_iload C 5 dX7_deviationFrom_19 rfl ?_
  refine r_iconst C dX7_deviationFrom_21 (v := nI 1) (by decide) ?_
  refine r_icmpN_ne C dX7_deviationFrom_22 (tgt := 36) (by decide) (by omega) (by omega) (fun h22 => ?_) (fun h22 => ?_)
  · refine r_iload C 6 dX7_deviationFrom_36 rfl ?_
    refine r_ifB_eq C dX7_deviationFrom_38 (tgt := 54) (by decide) (fun h38 => ?_) (fun h38 => ?_)
    · refine r_aload_n C 0 dX7_deviationFrom_54 rfl rfl ?_
      refine r_get C (CN := RX7) (T := TX7) (N := 10) k_0 rfl hin_X7 (j := 4) (by decide) hk_40 rfl rfl dX7_deviationFrom_55 ?_
      refine r_iload_n C 1 dX7_deviationFrom_58 rfl rfl ?_
      refine r_iload_n C 2 dX7_deviationFrom_59 rfl rfl ?_
      refine r_callVi C (rest := []) (c_X3_bestPlan l g ad g1 i s _ (by omega) (by omega) hR.2.2.2.1) gX7_deviationFrom_X3_bestPlan pk_X3_bestPlan k_13 dX7_deviationFrom_60 rfl rfl rfl rfl ⟨(Nat.le_of_ble_eq_true rfl), (Nat.le_of_ble_eq_true rfl)⟩ rfl rfl (Nat.le_of_ble_eq_true rfl) ⟨(Nat.le_of_ble_eq_true rfl), (Nat.le_of_ble_eq_true rfl)⟩ ?_
      rintro _ _ ⟨rfl, rfl⟩
      exact E.2.1 rfl _ _ _ _ dX7_deviationFrom_63 ⟨_, rfl, ⟨⟨by rw [ifp_f h22, ifp_f h38], hg1⟩, hC⟩⟩
    · refine r_aload_n C 0 dX7_deviationFrom_41 rfl rfl ?_
      refine r_get C (CN := RX7) (T := TX7) (N := 10) k_0 rfl hin_X7 (j := 4) (by decide) hk_40 rfl rfl dX7_deviationFrom_42 ?_
      refine r_iload_n C 3 dX7_deviationFrom_45 rfl rfl ?_
      refine r_iload C 4 dX7_deviationFrom_46 rfl ?_
      refine r_callVi C (rest := []) (c_X3_bestPlan l g ad g1 j t _ (by omega) (by omega) hR.2.2.1.1) gX7_deviationFrom_X3_bestPlan pk_X3_bestPlan k_13 dX7_deviationFrom_48 rfl rfl rfl rfl ⟨(Nat.le_of_ble_eq_true rfl), (Nat.le_of_ble_eq_true rfl)⟩ rfl rfl (Nat.le_of_ble_eq_true rfl) ⟨(Nat.le_of_ble_eq_true rfl), (Nat.le_of_ble_eq_true rfl)⟩ ?_
      rintro _ _ ⟨rfl, rfl⟩
      refine r_goto C dX7_deviationFrom_51 (tgt := 63) (by decide) ?_
      exact E.2.1 rfl _ _ _ _ dX7_deviationFrom_63 ⟨_, rfl, ⟨⟨by rw [ifp_f h22, ifp_t h38], hg1⟩, hC⟩⟩
  · refine r_iload C 6 dX7_deviationFrom_25 rfl ?_
    refine r_ifB_eq C dX7_deviationFrom_27 (tgt := 34) (by decide) (fun h27 => ?_) (fun h27 => ?_)
    · refine r_iconst C dX7_deviationFrom_34 (v := nI 1) (by decide) ?_
      exact E.2.1 rfl _ _ _ _ dX7_deviationFrom_35 ⟨_, rfl, ⟨⟨by rw [ifp_t h22, ifp_f h27], hg1⟩, hC⟩⟩
    · refine r_iconst C dX7_deviationFrom_30 (v := nI 0) (by decide) ?_
      refine r_goto C dX7_deviationFrom_31 (tgt := 35) (by decide) ?_
      exact E.2.1 rfl _ _ _ _ dX7_deviationFrom_35 ⟨_, rfl, ⟨⟨by rw [ifp_t h22, ifp_t h27], hg1⟩, hC⟩⟩
def rmX7_firstUnrest : Room := { frames := 5, cells := 0, slots := 0, locals := 134 }
theorem pk_X7_firstUnrest : Pk yX7_firstUnrest RX7 2 := by decide +kernel
set_option maxHeartbeats 4000000 in
set_option maxRecDepth 100000 in
theorem c_X7_firstUnrest (l : Launch) (g : gE) (ad : Nat → Nat) (u : Me) (S : Sg) (hC : RepC S u) (hO : Ok S) (i j : Nat) (hi : i < sN S) (hj : j < sN S) (hall : ∀ s t, s < sz S i → t < sz S j → RDY u S i j s t) : Cti l yX7_firstUnrest wsX7_firstUnrest rmX7_firstUnrest g ad [.ref (ad 0), .int (nI (i)), .int (nI (j))] u (fun r u' => ((match unr S i j with | some p => nI p | none => (-1 : Int32)) = r ∧ Sm [25, 26, 30, 31] [] [3, 4, 5, 6] [4, 5] u u') ∧ RepC S u') := by
  refine Ct.of (cc := cX7_firstUnrest) (nL := 5) (ret := (some .int)) RX7 (by decide) rfl rfl (Nat.le_of_ble_eq_true rfl) (fun kx C E => ?_)
  have hin_X7 : ∀ w ∈ u_ws RX7 TX7 10, w ∈ wsX7_firstUnrest := by decide +kernel
  have hk_19 : Cond.fieldLink RX7 19 "AgainAgain" "machines" "LAgainAgain$Machines;" ∈ wsX7_firstUnrest := by decide +kernel
  show G kx 0 0 (WW g ad u) 0 [(0, .ref (ad 0)), (1, .int (nI (i))), (2, .int (nI (j)))] []
  have hn := hO.n
  have hz1 := (hO.z i).2
  have hz2 := (hO.z j).2
  refine r_iconst C dX7_firstUnrest_0 (v := nI 0) (by decide) ?_
  refine r_istore_n C [(0, .ref (ad 0)), (1, .int (nI (i))), (2, .int (nI (j))), (3, .int (nI (0)))] [1, 2, 3, 0] dX7_firstUnrest_1 rfl (by decide) rfl ?_
  have L2 : ∀ (fu : Nat) (s : Nat) (v : Me), sz S i < s + fu → (s ≤ sz S i) → (Sm [25, 26, 30, 31] [] [3, 4, 5, 6] [4, 5] u v) → (RepC S v) → (∀ s t, s < sz S i → t < sz S j → RDY v S i j s t) → (∀ c, c < 4 * s → VP S i j c → restF S i (c / 4) j (c % 4)) → G kx 0 0 (WW g ad v) 2 [(0, .ref (ad 0)), (1, .int (nI (i))), (2, .int (nI (j))), (3, .int (nI (s)))] [] := by
    intro fu
    induction fu with
    | zero => intro s v hfu hsi hv hC hall hP; exact absurd hfu (by omega)
    | succ fu ih =>
      intro s v hfu hsi hv hC hall hP
      refine r_iload_n C 3 dX7_firstUnrest_2 rfl rfl ?_
      refine r_aload_n C 0 dX7_firstUnrest_3 rfl rfl ?_
      refine r_get C (CN := RX7) (T := TX7) (N := 10) k_0 rfl hin_X7 (j := 1) (by decide) hk_19 rfl rfl dX7_firstUnrest_4 ?_
      refine r_iload_n C 1 dX7_firstUnrest_7 rfl rfl ?_
      refine r_callVi C (rest := [.int (nI (s))]) (c_X2_statesOf l g ad v S hC hO i (by assumption)) gX7_firstUnrest_X2_statesOf pk_X2_statesOf k_3 dX7_firstUnrest_8 rfl rfl rfl rfl ⟨(Nat.le_of_ble_eq_true rfl), (Nat.le_of_ble_eq_true rfl)⟩ rfl rfl (Nat.le_of_ble_eq_true rfl) ⟨(Nat.le_of_ble_eq_true rfl), (Nat.le_of_ble_eq_true rfl)⟩ ?_
      rintro _ _ ⟨rfl, rfl⟩
      refine r_icmpN_ge C dX7_firstUnrest_11 (tgt := 61) (by decide) (by omega) (by omega) (fun h11 => ?_) (fun h11 => ?_)
      · refine r_iconst C dX7_firstUnrest_61 (v := (-1)) (by decide) ?_
        exact E.2.1 rfl _ _ _ _ dX7_firstUnrest_62 ⟨_, rfl, ⟨⟨by rw [show unr S i j = none from mn_none (fun c q => q.2 (hP c (by have := q.1.1; omega) q.1))], hv⟩, hC⟩⟩
      · have hs : s < sz S i := by omega
        refine r_iconst C dX7_firstUnrest_14 (v := nI 0) (by decide) ?_
        refine r_istore C [(0, .ref (ad 0)), (1, .int (nI (i))), (2, .int (nI (j))), (3, .int (nI (s))), (4, .int (nI (0)))] [1, 2, 3, 4, 0] dX7_firstUnrest_15 (by decide) rfl ?_
        have iho := ih
        have L17 : ∀ (fu : Nat) (t : Nat) (v : Me), sz S j < t + fu → (t ≤ sz S j) → (Sm [25, 26, 30, 31] [] [3, 4, 5, 6] [4, 5] u v) → (RepC S v) → (∀ s t, s < sz S i → t < sz S j → RDY v S i j s t) → (∀ c, c < 4 * s + t → VP S i j c → restF S i (c / 4) j (c % 4)) → G kx 0 0 (WW g ad v) 17 [(0, .ref (ad 0)), (1, .int (nI (i))), (2, .int (nI (j))), (3, .int (nI (s))), (4, .int (nI (t)))] [] := by
          intro fu
          induction fu with
          | zero => intro t v hfu htj hv hC hall hP; exact absurd hfu (by omega)
          | succ fu ih =>
            intro t v hfu htj hv hC hall hP
            refine r_iload C 4 dX7_firstUnrest_17 rfl ?_
            refine r_aload_n C 0 dX7_firstUnrest_19 rfl rfl ?_
            refine r_get C (CN := RX7) (T := TX7) (N := 10) k_0 rfl hin_X7 (j := 1) (by decide) hk_19 rfl rfl dX7_firstUnrest_20 ?_
            refine r_iload_n C 2 dX7_firstUnrest_23 rfl rfl ?_
            refine r_callVi C (rest := [.int (nI (t))]) (c_X2_statesOf l g ad v S hC hO j (by assumption)) gX7_firstUnrest_X2_statesOf pk_X2_statesOf k_3 dX7_firstUnrest_24 rfl rfl rfl rfl ⟨(Nat.le_of_ble_eq_true rfl), (Nat.le_of_ble_eq_true rfl)⟩ rfl rfl (Nat.le_of_ble_eq_true rfl) ⟨(Nat.le_of_ble_eq_true rfl), (Nat.le_of_ble_eq_true rfl)⟩ ?_
            rintro _ _ ⟨rfl, rfl⟩
            refine r_icmpN_ge C dX7_firstUnrest_27 (tgt := 55) (by decide) (by omega) (by omega) (fun h27 => ?_) (fun h27 => ?_)
            · refine r_iinc C [(0, .ref (ad 0)), (1, .int (nI (i))), (2, .int (nI (j))), (3, .int (nI (s + 1))), (4, .int (nI (t)))] [1, 2, 3, 0, 4] 3 dX7_firstUnrest_55 rfl (nI_add _ 1) (by decide) rfl ?_
              refine r_goto C dX7_firstUnrest_58 (tgt := 2) (by decide) ?_
              refine r_lvs C [0, 1, 2, 3] (lv' := [(0, .ref (ad 0)), (1, .int (nI (i))), (2, .int (nI (j))), (3, .int (nI (s + 1)))]) rfl ?_
              exact iho (s + 1) v (by omega) (by omega) hv hC hall (fun c hc hV => hP c (by have := hV.2; have := hV.1; omega) hV)
            · have ht : t < sz S j := by omega
              refine r_aload_n C 0 dX7_firstUnrest_30 rfl rfl ?_
              refine r_iload_n C 1 dX7_firstUnrest_31 rfl rfl ?_
              refine r_iload_n C 3 dX7_firstUnrest_32 rfl rfl ?_
              refine r_iload_n C 2 dX7_firstUnrest_33 rfl rfl ?_
              refine r_iload C 4 dX7_firstUnrest_34 rfl ?_
              refine r_callVi C (rest := []) (c_X7_restFrom l g ad v S hC hO i s j t hi hs hj ht (hall s t hs ht)) gX7_firstUnrest_X7_restFrom pk_X7_restFrom k_0 dX7_firstUnrest_36 rfl rfl rfl rfl ⟨(Nat.le_of_ble_eq_true rfl), (Nat.le_of_ble_eq_true rfl)⟩ rfl rfl (Nat.le_of_ble_eq_true rfl) ⟨(Nat.le_of_ble_eq_true rfl), (Nat.le_of_ble_eq_true rfl)⟩ ?_
              rintro _ f1 ⟨⟨rfl, hf1⟩, hC⟩
              refine r_ifB_ne C dX7_firstUnrest_39 (tgt := 49) (by decide) (fun h39 => ?_) (fun h39 => ?_)
              · refine r_iinc C [(0, .ref (ad 0)), (1, .int (nI (i))), (2, .int (nI (j))), (3, .int (nI (s))), (4, .int (nI (t + 1)))] [1, 2, 3, 4, 0] 4 dX7_firstUnrest_49 rfl (nI_add _ 1) (by decide) rfl ?_
                refine r_goto C dX7_firstUnrest_52 (tgt := 17) (by decide) ?_
                exact ih (t + 1) _ (by omega) (by omega) (hv.tr hf1) hC (fun a b ha hb => (hall a b ha hb).mv hf1) (fun c hc hV => by
                  rcases Nat.lt_or_ge c (4 * s + t) with z | z
                  · exact hP c z hV
                  · have e1 : c / 4 = s := by omega
                    have e2 : c % 4 = t := by omega
                    rw [e1, e2]; exact h39)
              · refine r_iload_n C 3 dX7_firstUnrest_42 rfl rfl ?_
                refine r_iload C 4 dX7_firstUnrest_43 rfl ?_
                refine r_callSi C (rest := []) (c_X6_placeOf l g ad f1 s t) gX7_firstUnrest_X6_placeOf pk_X6_placeOf dX7_firstUnrest_45 rfl rfl rfl rfl ⟨(Nat.le_of_ble_eq_true rfl), (Nat.le_of_ble_eq_true rfl)⟩ rfl (Nat.le_of_ble_eq_true rfl) ⟨(Nat.le_of_ble_eq_true rfl), (Nat.le_of_ble_eq_true rfl)⟩ ?_
                rintro _ _ ⟨rfl, rfl⟩
                exact E.2.1 rfl _ _ _ _ dX7_firstUnrest_48 ⟨_, rfl, ⟨⟨by rw [show unr S i j = some (4 * s + t) from mn_some ⟨VP_st hO hs ht, by rw [show (4 * s + t) / 4 = s by omega, show (4 * s + t) % 4 = t by omega]; exact h39⟩ (fun c hc q => q.2 (hP c hc q.1))], hv.tr hf1⟩, hC⟩⟩
        exact L17 (sz S j + 1) 0 v (by omega) (by omega) hv hC hall (fun c hc hV => hP c (by omega) hV)
  exact L2 (sz S i + 1) 0 u (by omega) (by omega) Sm.rf hC hall (fun c hc => absurd hc (by omega))
def rmX7_compareWorths : Room := { frames := 4, cells := 0, slots := 0, locals := 109 }
theorem pk_X7_compareWorths : Pk yX7_compareWorths RX7 4 := by decide +kernel
set_option maxHeartbeats 4000000 in
set_option maxRecDepth 100000 in
theorem c_X7_compareWorths (l : Launch) (g : gE) (ad : Nat → Nat) (u : Me) (S : Sg) (hC : RepC S u) (hO : Ok S) (i j a b : Nat) (hi : i < sN S) (hj : j < sN S) (ha : a < sN S) (hb : b < sN S) : Cti l yX7_compareWorths wsX7_compareWorths rmX7_compareWorths g ad [.ref (ad 0), .int (nI (i)), .int (nI (j)), .int (nI (a)), .int (nI (b))] u (fun r u' => (cmpW S i j a b = r ∧ Sm [23, 24, 25, 26] [] [3, 4] [4, 5, 6, 7] u u') ∧ RepC S u') := by
  refine Ct.of (cc := cX7_compareWorths) (nL := 5) (ret := (some .int)) RX7 (by decide) rfl rfl (Nat.le_of_ble_eq_true rfl) (fun kx C E => ?_)
  have hin_X7 : ∀ w ∈ u_ws RX7 TX7 10, w ∈ wsX7_compareWorths := by decide +kernel
  have hk_57 : Cond.fieldLink RX7 57 "AgainAgain" "ratio" "LAgainAgain$Ratio;" ∈ wsX7_compareWorths := by decide +kernel
  have hk_61 : Cond.fieldLink RX7 61 "AgainAgain" "other" "LAgainAgain$Ratio;" ∈ wsX7_compareWorths := by decide +kernel
  show G kx 0 0 (WW g ad u) 0 [(0, .ref (ad 0)), (1, .int (nI (i))), (2, .int (nI (j))), (3, .int (nI (a))), (4, .int (nI (b)))] []
  refine r_aload_n C 0 dX7_compareWorths_0 rfl rfl ?_
  refine r_iload_n C 1 dX7_compareWorths_1 rfl rfl ?_
  refine r_iload_n C 2 dX7_compareWorths_2 rfl rfl ?_
  refine r_aload_n C 0 dX7_compareWorths_3 rfl rfl ?_
  refine r_get C (CN := RX7) (T := TX7) (N := 10) k_0 rfl hin_X7 (j := 7) (by decide) hk_57 rfl rfl dX7_compareWorths_4 ?_
  refine r_callVv C (rest := []) (c_X7_matchWorth l g ad u S hC hO i j (by assumption) (by assumption) 1 (by decide)) gX7_compareWorths_X7_matchWorth pk_X7_matchWorth k_0 dX7_compareWorths_7 rfl rfl rfl rfl ⟨(Nat.le_of_ble_eq_true rfl), (Nat.le_of_ble_eq_true rfl)⟩ rfl rfl (Nat.le_of_ble_eq_true rfl) ⟨(Nat.le_of_ble_eq_true rfl), (Nat.le_of_ble_eq_true rfl)⟩ ?_
  rintro w1 ⟨ht1, hd1, hs1, hC⟩
  refine r_aload_n C 0 dX7_compareWorths_10 rfl rfl ?_
  refine r_iload_n C 3 dX7_compareWorths_11 rfl rfl ?_
  refine r_iload C 4 dX7_compareWorths_12 rfl ?_
  refine r_aload_n C 0 dX7_compareWorths_14 rfl rfl ?_
  refine r_get C (CN := RX7) (T := TX7) (N := 10) k_0 rfl hin_X7 (j := 8) (by decide) hk_61 rfl rfl dX7_compareWorths_15 ?_
  refine r_callVv C (rest := []) (c_X7_matchWorth l g ad w1 S hC hO a b (by assumption) (by assumption) 2 (by decide)) gX7_compareWorths_X7_matchWorth pk_X7_matchWorth k_0 dX7_compareWorths_18 rfl rfl rfl rfl ⟨(Nat.le_of_ble_eq_true rfl), (Nat.le_of_ble_eq_true rfl)⟩ rfl rfl (Nat.le_of_ble_eq_true rfl) ⟨(Nat.le_of_ble_eq_true rfl), (Nat.le_of_ble_eq_true rfl)⟩ ?_
  rintro w2 ⟨ht2, hd2, hs2, hC⟩
  refine r_aload_n C 0 dX7_compareWorths_21 rfl rfl ?_
  refine r_get C (CN := RX7) (T := TX7) (N := 10) k_0 rfl hin_X7 (j := 7) (by decide) hk_57 rfl rfl dX7_compareWorths_22 ?_
  refine r_aload_n C 0 dX7_compareWorths_25 rfl rfl ?_
  refine r_get C (CN := RX7) (T := TX7) (N := 10) k_0 rfl hin_X7 (j := 8) (by decide) hk_61 rfl rfl dX7_compareWorths_26 ?_
  refine r_iconst C dX7_compareWorths_29 (v := nI 0) (by decide) ?_
  refine r_callVl C (rest := [.ref (ad 33)]) (c_X4_part l g ad w2 2 (by decide) 0 (by decide)) gX7_compareWorths_X4_part pk_X4_part k_34 dX7_compareWorths_30 rfl rfl rfl rfl ⟨(Nat.le_of_ble_eq_true rfl), (Nat.le_of_ble_eq_true rfl)⟩ rfl rfl (Nat.le_of_ble_eq_true rfl) ⟨(Nat.le_of_ble_eq_true rfl), (Nat.le_of_ble_eq_true rfl)⟩ ?_
  rintro _ _ ⟨rfl, rfl⟩
  refine r_setL (y := (lI (mN S a b))) (ht2) ?_
  refine r_aload_n C 0 dX7_compareWorths_33 rfl rfl ?_
  refine r_get C (CN := RX7) (T := TX7) (N := 10) k_0 rfl hin_X7 (j := 8) (by decide) hk_61 rfl rfl dX7_compareWorths_34 ?_
  refine r_iconst C dX7_compareWorths_37 (v := nI 1) (by decide) ?_
  refine r_callVl C (rest := [.long (lI (mN S a b)), .ref (ad 33)]) (c_X4_part l g ad w2 2 (by decide) 1 (by decide)) gX7_compareWorths_X4_part pk_X4_part k_34 dX7_compareWorths_38 rfl rfl rfl rfl ⟨(Nat.le_of_ble_eq_true rfl), (Nat.le_of_ble_eq_true rfl)⟩ rfl rfl (Nat.le_of_ble_eq_true rfl) ⟨(Nat.le_of_ble_eq_true rfl), (Nat.le_of_ble_eq_true rfl)⟩ ?_
  rintro _ _ ⟨rfl, rfl⟩
  refine r_setL (y := (lI (mD S a b))) (hd2) ?_
  refine r_callVi C (rest := []) (c_X4_compareWith l g ad w2 1 (by decide) (mN S i j) (mD S i j) (mN S a b) (mD S a b) ((hs2.2.2.2 4 (by decide)).trans ht1) ((hs2.2.2.2 5 (by decide)).trans hd1)) gX7_compareWorths_X4_compareWith pk_X4_compareWith k_33 dX7_compareWorths_41 rfl rfl rfl rfl ⟨(Nat.le_of_ble_eq_true rfl), (Nat.le_of_ble_eq_true rfl)⟩ rfl rfl (Nat.le_of_ble_eq_true rfl) ⟨(Nat.le_of_ble_eq_true rfl), (Nat.le_of_ble_eq_true rfl)⟩ ?_
  rintro _ _ ⟨rfl, rfl⟩
  refine r_setI (y := (cmpW S i j a b)) (rfl) ?_
  exact E.2.1 rfl _ _ _ _ dX7_compareWorths_44 ⟨_, rfl, ⟨⟨rfl, (hs1.wk (by decide) (by decide) (by decide) (by decide)).tr (hs2.wk (by decide) (by decide) (by decide) (by decide))⟩, hC⟩⟩
def rmX7_withstands : Room := { frames := 5, cells := 0, slots := 0, locals := 133 }
theorem pk_X7_withstands : Pk yX7_withstands RX7 2 := by decide +kernel
set_option maxHeartbeats 4000000 in
set_option maxRecDepth 100000 in
theorem c_X7_withstands (l : Launch) (g : gE) (ad : Nat → Nat) (u : Me) (S : Sg) (hC : RepC S u) (hO : Ok S) (j i : Nat) (hj : j < sN S) (hi : i < sN S) : Cti l yX7_withstands wsX7_withstands rmX7_withstands g ad [.ref (ad 0), .int (nI (j)), .int (nI (i))] u (fun r u' => (bI (withP S j i) = r ∧ Sm [23, 24, 25, 26] [] [3, 4] [4, 5, 6, 7] u u') ∧ RepC S u') := by
  refine Ct.of (cc := cX7_withstands) (nL := 4) (ret := (some .boolean)) RX7 (by decide) rfl rfl (Nat.le_of_ble_eq_true rfl) (fun kx C E => ?_)
  show G kx 0 0 (WW g ad u) 0 [(0, .ref (ad 0)), (1, .int (nI (j))), (2, .int (nI (i)))] []
  refine r_aload_n C 0 dX7_withstands_0 rfl rfl ?_
  refine r_iload_n C 1 dX7_withstands_1 rfl rfl ?_
  refine r_iload_n C 1 dX7_withstands_2 rfl rfl ?_
  refine r_iload_n C 2 dX7_withstands_3 rfl rfl ?_
  refine r_iload_n C 1 dX7_withstands_4 rfl rfl ?_
  refine r_callVi C (rest := []) (c_X7_compareWorths l g ad u S hC hO j j i j (by assumption) (by assumption) (by assumption) (by assumption)) gX7_withstands_X7_compareWorths pk_X7_compareWorths k_0 dX7_withstands_5 rfl rfl rfl rfl ⟨(Nat.le_of_ble_eq_true rfl), (Nat.le_of_ble_eq_true rfl)⟩ rfl rfl (Nat.le_of_ble_eq_true rfl) ⟨(Nat.le_of_ble_eq_true rfl), (Nat.le_of_ble_eq_true rfl)⟩ ?_
  rintro _ c1 ⟨⟨rfl, hs1⟩, hC⟩
  refine r_istore_n C [(0, .ref (ad 0)), (1, .int (nI (j))), (2, .int (nI (i))), (3, .int (cmpW S j j i j))] [1, 2, 3, 0] dX7_withstands_8 rfl (by decide) rfl ?_
  refine r_iload_n C 3 dX7_withstands_9 rfl rfl ?_
  refine r_if_gt C dX7_withstands_10 (tgt := 28) (by decide) (fun h10 => ?_) (fun h10 => ?_)
  · refine r_iconst C dX7_withstands_28 (v := nI 1) (by decide) ?_
    refine r_goto C dX7_withstands_29 (tgt := 33) (by decide) ?_
    exact E.2.2.1 rfl _ _ _ _ dX7_withstands_33 (Or.inr rfl) ⟨_, rfl, ⟨⟨bT (Or.inl h10), hs1⟩, hC⟩⟩
  · refine r_iload_n C 3 dX7_withstands_13 rfl rfl ?_
    refine r_if_ne C dX7_withstands_14 (tgt := 32) (by decide) (fun h14 => ?_) (fun h14 => ?_)
    · refine r_iconst C dX7_withstands_32 (v := nI 0) (by decide) ?_
      exact E.2.2.1 rfl _ _ _ _ dX7_withstands_33 (Or.inl rfl) ⟨_, rfl, ⟨⟨bF (fun q => q.elim h10 (fun z => h14 z.1)), hs1⟩, hC⟩⟩
    · refine r_aload_n C 0 dX7_withstands_17 rfl rfl ?_
      refine r_iload_n C 1 dX7_withstands_18 rfl rfl ?_
      refine r_iload_n C 2 dX7_withstands_19 rfl rfl ?_
      refine r_iload_n C 2 dX7_withstands_20 rfl rfl ?_
      refine r_iload_n C 2 dX7_withstands_21 rfl rfl ?_
      refine r_callVi C (rest := []) (c_X7_compareWorths l g ad c1 S hC hO j i i i (by assumption) (by assumption) (by assumption) (by assumption)) gX7_withstands_X7_compareWorths pk_X7_compareWorths k_0 dX7_withstands_22 rfl rfl rfl rfl ⟨(Nat.le_of_ble_eq_true rfl), (Nat.le_of_ble_eq_true rfl)⟩ rfl rfl (Nat.le_of_ble_eq_true rfl) ⟨(Nat.le_of_ble_eq_true rfl), (Nat.le_of_ble_eq_true rfl)⟩ ?_
      rintro _ c2 ⟨⟨rfl, hs2⟩, hC⟩
      refine r_if_le C dX7_withstands_25 (tgt := 32) (by decide) (fun h25 => ?_) (fun h25 => ?_)
      · refine r_iconst C dX7_withstands_32 (v := nI 0) (by decide) ?_
        exact E.2.2.1 rfl _ _ _ _ dX7_withstands_33 (Or.inl rfl) ⟨_, rfl, ⟨⟨bF (fun q => q.elim h10 (fun z => absurd z.2 (Int32.not_lt.mpr h25))), hs1.tr hs2⟩, hC⟩⟩
      · refine r_iconst C dX7_withstands_28 (v := nI 1) (by decide) ?_
        refine r_goto C dX7_withstands_29 (tgt := 33) (by decide) ?_
        exact E.2.2.1 rfl _ _ _ _ dX7_withstands_33 (Or.inr rfl) ⟨_, rfl, ⟨⟨bT (Or.inr ⟨h14, Int32.not_le.mp h25⟩), hs1.tr hs2⟩, hC⟩⟩
def rmX7_gainsAgainstAll : Room := { frames := 4, cells := 0, slots := 0, locals := 96 }
theorem pk_X7_gainsAgainstAll : Pk yX7_gainsAgainstAll RX7 2 := by decide +kernel
set_option maxHeartbeats 4000000 in
set_option maxRecDepth 100000 in
theorem c_X7_gainsAgainstAll (l : Launch) (g : gE) (ad : Nat → Nat) (u : Me) (S : Sg) (hC : RepC S u) (hO : Ok S) (i n : Nat) (hi : i < sN S) (hn2 : n < 2000) : Cti l yX7_gainsAgainstAll wsX7_gainsAgainstAll rmX7_gainsAgainstAll g ad [.ref (ad 0), .int (nI (i)), .int (nI (n))] u (fun r u' => (iI (scF S i n) = r ∧ Sm [23, 24, 25, 26] [] [3, 4] [] u u') ∧ RepC S u') := by
  refine Ct.of (cc := cX7_gainsAgainstAll) (nL := 5) (ret := (some .int)) RX7 (by decide) rfl rfl (Nat.le_of_ble_eq_true rfl) (fun kx C E => ?_)
  have hin_X7 : ∀ w ∈ u_ws RX7 TX7 10, w ∈ wsX7_gainsAgainstAll := by decide +kernel
  have hk_19 : Cond.fieldLink RX7 19 "AgainAgain" "machines" "LAgainAgain$Machines;" ∈ wsX7_gainsAgainstAll := by decide +kernel
  show G kx 0 0 (WW g ad u) 0 [(0, .ref (ad 0)), (1, .int (nI (i))), (2, .int (nI (n)))] []
  have hn := hO.n
  refine r_iconst C dX7_gainsAgainstAll_0 (v := nI 0) (by decide) ?_
  refine r_istore_n C [(0, .ref (ad 0)), (1, .int (nI (i))), (2, .int (nI (n))), (3, .int (nI (0)))] [1, 2, 3, 0] dX7_gainsAgainstAll_1 rfl (by decide) rfl ?_
  refine r_iconst C dX7_gainsAgainstAll_2 (v := nI 0) (by decide) ?_
  refine r_istore C [(0, .ref (ad 0)), (1, .int (nI (i))), (2, .int (nI (n))), (3, .int (nI (0))), (4, .int (nI (0)))] [1, 2, 3, 4, 0] dX7_gainsAgainstAll_3 (by decide) rfl ?_
  have L5 : ∀ (fu : Nat) (j : Nat) (v : Me), sN S < j + fu → (j ≤ sN S) → (Sm [23, 24, 25, 26] [] [3, 4] [] u v) → (RepC S v) → G kx 0 0 (WW g ad v) 5 [(0, .ref (ad 0)), (1, .int (nI (i))), (2, .int (nI (n))), (3, .int (iI (sg (fun j => sumF S i j n) j))), (4, .int (nI (j)))] [] := by
    intro fu
    induction fu with
    | zero => intro j v hfu hjn hv hC; exact absurd hfu (by omega)
    | succ fu ih =>
      intro j v hfu hjn hv hC
      refine r_iload C 4 dX7_gainsAgainstAll_5 rfl ?_
      refine r_aload_n C 0 dX7_gainsAgainstAll_7 rfl rfl ?_
      refine r_get C (CN := RX7) (T := TX7) (N := 10) k_0 rfl hin_X7 (j := 1) (by decide) hk_19 rfl rfl dX7_gainsAgainstAll_8 ?_
      refine r_callVi C (rest := [.int (nI (j))]) (c_X2_many l g ad v S hC hO) gX7_gainsAgainstAll_X2_many pk_X2_many k_3 dX7_gainsAgainstAll_11 rfl rfl rfl rfl ⟨(Nat.le_of_ble_eq_true rfl), (Nat.le_of_ble_eq_true rfl)⟩ rfl rfl (Nat.le_of_ble_eq_true rfl) ⟨(Nat.le_of_ble_eq_true rfl), (Nat.le_of_ble_eq_true rfl)⟩ ?_
      rintro _ _ ⟨rfl, rfl⟩
      refine r_icmpN_ge C dX7_gainsAgainstAll_14 (tgt := 34) (by decide) (by omega) (by omega) (fun h14 => ?_) (fun h14 => ?_)
      · refine r_iload_n C 3 dX7_gainsAgainstAll_34 rfl rfl ?_
        exact E.2.1 rfl _ _ _ _ dX7_gainsAgainstAll_35 ⟨_, rfl, ⟨⟨by rw [show j = sN S by omega]; rfl, hv⟩, hC⟩⟩
      · have hj : j < sN S := by omega
        refine r_iload_n C 3 dX7_gainsAgainstAll_17 rfl rfl ?_
        refine r_aload_n C 0 dX7_gainsAgainstAll_18 rfl rfl ?_
        refine r_iload_n C 1 dX7_gainsAgainstAll_19 rfl rfl ?_
        refine r_iload C 4 dX7_gainsAgainstAll_20 rfl ?_
        refine r_iload_n C 2 dX7_gainsAgainstAll_22 rfl rfl ?_
        refine r_callVi C (rest := [.int (iI (sg (fun j => sumF S i j n) j))]) (c_X7_gainsOf l g ad v S hC hO i j (by assumption) (by assumption) n (by omega)) gX7_gainsAgainstAll_X7_gainsOf pk_X7_gainsOf k_0 dX7_gainsAgainstAll_23 rfl rfl rfl rfl ⟨(Nat.le_of_ble_eq_true rfl), (Nat.le_of_ble_eq_true rfl)⟩ rfl rfl (Nat.le_of_ble_eq_true rfl) ⟨(Nat.le_of_ble_eq_true rfl), (Nat.le_of_ble_eq_true rfl)⟩ ?_
        rintro _ g1 ⟨rfl, hg1, hC⟩
        refine r_iadd C dX7_gainsAgainstAll_26 ?_
        refine r_setI (iI_add _ _) ?_
        refine r_istore_n C [(0, .ref (ad 0)), (1, .int (nI (i))), (2, .int (nI (n))), (3, .int (iI ((sg (fun j => sumF S i j n) j) + (sumF S i j n)))), (4, .int (nI (j)))] [1, 2, 3, 0, 4] dX7_gainsAgainstAll_27 rfl (by decide) rfl ?_
        refine r_iinc C [(0, .ref (ad 0)), (1, .int (nI (i))), (2, .int (nI (n))), (3, .int (iI ((sg (fun j => sumF S i j n) j) + (sumF S i j n)))), (4, .int (nI (j + 1)))] [1, 2, 3, 4, 0] 4 dX7_gainsAgainstAll_28 rfl (nI_add _ 1) (by decide) rfl ?_
        refine r_goto C dX7_gainsAgainstAll_31 (tgt := 5) (by decide) ?_
        exact ih (j + 1) _ (by omega) (by omega) (hv.tr hg1) hC
  exact L5 (sN S + 1) 0 u (by omega) (by omega) Sm.rf hC
def rmX7_machinesAheadOf : Room := { frames := 1, cells := 0, slots := 0, locals := 20 }
theorem pk_X7_machinesAheadOf : Pk yX7_machinesAheadOf RX7 1 := by decide +kernel
set_option maxHeartbeats 4000000 in
set_option maxRecDepth 100000 in
theorem c_X7_machinesAheadOf (l : Launch) (g : gE) (ad : Nat → Nat) (u : Me) (S : Sg) (hC : RepC S u) (hO : Ok S) (m n : Nat) (hm : m < sN S) (hsc : ∀ i, i < sN S → mA u 35 i = iI (scF S i n)) : Cti l yX7_machinesAheadOf wsX7_machinesAheadOf rmX7_machinesAheadOf g ad [.ref (ad 0), .int (nI (m))] u (fun r u' => nI (ahd S n m (sN S)) = r ∧ u = u') := by
  refine Ct.of (cc := cX7_machinesAheadOf) (nL := 4) (ret := (some .int)) RX7 (by decide) rfl rfl (Nat.le_of_ble_eq_true rfl) (fun kx C E => ?_)
  have hin_X7 : ∀ w ∈ u_ws RX7 TX7 10, w ∈ wsX7_machinesAheadOf := by decide +kernel
  have hk_19 : Cond.fieldLink RX7 19 "AgainAgain" "machines" "LAgainAgain$Machines;" ∈ wsX7_machinesAheadOf := by decide +kernel
  have hk_64 : Cond.fieldLink RX7 64 "AgainAgain" "scores" "[I" ∈ wsX7_machinesAheadOf := by decide +kernel
  show G kx 0 0 (WW g ad u) 0 [(0, .ref (ad 0)), (1, .int (nI (m)))] []
  have hn := hO.n
  refine r_iconst C dX7_machinesAheadOf_0 (v := nI 0) (by decide) ?_
  refine r_istore_n C [(0, .ref (ad 0)), (1, .int (nI (m))), (2, .int (nI (0)))] [1, 2, 0] dX7_machinesAheadOf_1 rfl (by decide) rfl ?_
  refine r_iconst C dX7_machinesAheadOf_2 (v := nI 0) (by decide) ?_
  refine r_istore_n C [(0, .ref (ad 0)), (1, .int (nI (m))), (2, .int (nI (0))), (3, .int (nI (0)))] [1, 2, 3, 0] dX7_machinesAheadOf_3 rfl (by decide) rfl ?_
  have L4 : ∀ (fu : Nat) (i : Nat), sN S < i + fu → (i ≤ sN S) → G kx 0 0 (WW g ad u) 4 [(0, .ref (ad 0)), (1, .int (nI (m))), (2, .int (nI (ahd S n m i))), (3, .int (nI (i)))] [] := by
    intro fu
    induction fu with
    | zero => intro i hfu hin; exact absurd hfu (by omega)
    | succ fu ih =>
      intro i hfu hin
      refine r_iload_n C 3 dX7_machinesAheadOf_4 rfl rfl ?_
      refine r_aload_n C 0 dX7_machinesAheadOf_5 rfl rfl ?_
      refine r_get C (CN := RX7) (T := TX7) (N := 10) k_0 rfl hin_X7 (j := 1) (by decide) hk_19 rfl rfl dX7_machinesAheadOf_6 ?_
      refine r_callVi C (rest := [.int (nI (i))]) (c_X2_many l g ad u S hC hO) gX7_machinesAheadOf_X2_many pk_X2_many k_3 dX7_machinesAheadOf_9 rfl rfl rfl rfl ⟨(Nat.le_of_ble_eq_true rfl), (Nat.le_of_ble_eq_true rfl)⟩ rfl rfl (Nat.le_of_ble_eq_true rfl) ⟨(Nat.le_of_ble_eq_true rfl), (Nat.le_of_ble_eq_true rfl)⟩ ?_
      rintro _ _ ⟨rfl, rfl⟩
      refine r_icmpN_ge C dX7_machinesAheadOf_12 (tgt := 59) (by decide) (by omega) (by omega) (fun h12 => ?_) (fun h12 => ?_)
      · refine r_iload_n C 2 dX7_machinesAheadOf_59 rfl rfl ?_
        exact E.2.1 rfl _ _ _ _ dX7_machinesAheadOf_60 ⟨_, rfl, ⟨by rw [show i = sN S by omega], rfl⟩⟩
      · refine r_aload_n C 0 dX7_machinesAheadOf_15 rfl rfl ?_
        refine r_get C (CN := RX7) (T := TX7) (N := 10) k_0 rfl hin_X7 (j := 9) (by decide) hk_64 rfl rfl dX7_machinesAheadOf_16 ?_
        refine r_iload_n C 3 dX7_machinesAheadOf_19 rfl rfl ?_
        refine r_iald C k_35 (by omega) (by omega) dX7_machinesAheadOf_20 ?_
        refine r_setI (y := (iI (scF S i n))) (hsc i (by omega)) ?_
        refine r_aload_n C 0 dX7_machinesAheadOf_21 rfl rfl ?_
        refine r_get C (CN := RX7) (T := TX7) (N := 10) k_0 rfl hin_X7 (j := 9) (by decide) hk_64 rfl rfl dX7_machinesAheadOf_22 ?_
        refine r_iload_n C 1 dX7_machinesAheadOf_25 rfl rfl ?_
        refine r_iald C k_35 (by omega) (by omega) dX7_machinesAheadOf_26 ?_
        refine r_setI (y := (iI (scF S m n))) (hsc m (by omega)) ?_
        refine r_icmp_gt C dX7_machinesAheadOf_27 (tgt := 50) (by decide) (fun h27 => ?_) (fun h27 => ?_)
        · refine r_iinc C [(0, .ref (ad 0)), (1, .int (nI (m))), (2, .int (nI ((ahd S n m i) + 1))), (3, .int (nI (i)))] [1, 2, 0, 3] 2 dX7_machinesAheadOf_50 rfl (nI_add _ 1) (by decide) rfl ?_
          refine r_iinc C [(0, .ref (ad 0)), (1, .int (nI (m))), (2, .int (nI ((ahd S n m i) + 1))), (3, .int (nI (i + 1)))] [1, 2, 3, 0] 3 dX7_machinesAheadOf_53 rfl (nI_add _ 1) (by decide) rfl ?_
          refine r_goto C dX7_machinesAheadOf_56 (tgt := 4) (by decide) ?_
          rw [← show ahd S n m (i + 1) = ahd S n m i + 1 from cntN_t (by first | exact Or.inl h27 | exact Or.inr ⟨h42, by omega⟩)]
          exact ih (i + 1) (by omega) (by omega)
        · refine r_aload_n C 0 dX7_machinesAheadOf_30 rfl rfl ?_
          refine r_get C (CN := RX7) (T := TX7) (N := 10) k_0 rfl hin_X7 (j := 9) (by decide) hk_64 rfl rfl dX7_machinesAheadOf_31 ?_
          refine r_iload_n C 3 dX7_machinesAheadOf_34 rfl rfl ?_
          refine r_iald C k_35 (by omega) (by omega) dX7_machinesAheadOf_35 ?_
          refine r_setI (y := (iI (scF S i n))) (hsc i (by omega)) ?_
          refine r_aload_n C 0 dX7_machinesAheadOf_36 rfl rfl ?_
          refine r_get C (CN := RX7) (T := TX7) (N := 10) k_0 rfl hin_X7 (j := 9) (by decide) hk_64 rfl rfl dX7_machinesAheadOf_37 ?_
          refine r_iload_n C 1 dX7_machinesAheadOf_40 rfl rfl ?_
          refine r_iald C k_35 (by omega) (by omega) dX7_machinesAheadOf_41 ?_
          refine r_setI (y := (iI (scF S m n))) (hsc m (by omega)) ?_
          refine r_icmp_ne C dX7_machinesAheadOf_42 (tgt := 53) (by decide) (fun h42 => ?_) (fun h42 => ?_)
          · refine r_iinc C [(0, .ref (ad 0)), (1, .int (nI (m))), (2, .int (nI (ahd S n m i))), (3, .int (nI (i + 1)))] [1, 2, 3, 0] 3 dX7_machinesAheadOf_53 rfl (nI_add _ 1) (by decide) rfl ?_
            refine r_goto C dX7_machinesAheadOf_56 (tgt := 4) (by decide) ?_
            rw [← show ahd S n m (i + 1) = ahd S n m i from cntN_f (by first | exact fun q => q.elim h27 (fun z => h42 z.1) | exact fun q => q.elim h27 (fun z => absurd z.2 (by omega)))]
            exact ih (i + 1) (by omega) (by omega)
          · refine r_iload_n C 3 dX7_machinesAheadOf_45 rfl rfl ?_
            refine r_iload_n C 1 dX7_machinesAheadOf_46 rfl rfl ?_
            refine r_icmpN_ge C dX7_machinesAheadOf_47 (tgt := 53) (by decide) (by omega) (by omega) (fun h47 => ?_) (fun h47 => ?_)
            · refine r_iinc C [(0, .ref (ad 0)), (1, .int (nI (m))), (2, .int (nI (ahd S n m i))), (3, .int (nI (i + 1)))] [1, 2, 3, 0] 3 dX7_machinesAheadOf_53 rfl (nI_add _ 1) (by decide) rfl ?_
              refine r_goto C dX7_machinesAheadOf_56 (tgt := 4) (by decide) ?_
              rw [← show ahd S n m (i + 1) = ahd S n m i from cntN_f (by first | exact fun q => q.elim h27 (fun z => h42 z.1) | exact fun q => q.elim h27 (fun z => absurd z.2 (by omega)))]
              exact ih (i + 1) (by omega) (by omega)
            · refine r_iinc C [(0, .ref (ad 0)), (1, .int (nI (m))), (2, .int (nI ((ahd S n m i) + 1))), (3, .int (nI (i)))] [1, 2, 0, 3] 2 dX7_machinesAheadOf_50 rfl (nI_add _ 1) (by decide) rfl ?_
              refine r_iinc C [(0, .ref (ad 0)), (1, .int (nI (m))), (2, .int (nI ((ahd S n m i) + 1))), (3, .int (nI (i + 1)))] [1, 2, 3, 0] 3 dX7_machinesAheadOf_53 rfl (nI_add _ 1) (by decide) rfl ?_
              refine r_goto C dX7_machinesAheadOf_56 (tgt := 4) (by decide) ?_
              rw [← show ahd S n m (i + 1) = ahd S n m i + 1 from cntN_t (by first | exact Or.inl h27 | exact Or.inr ⟨h42, by omega⟩)]
              exact ih (i + 1) (by omega) (by omega)
  exact L4 (sN S + 1) 0 (by omega) (by omega)
def rmX7_restingPairs : Room := { frames := 5, cells := 0, slots := 0, locals := 137 }
theorem pk_X7_restingPairs : Pk yX7_restingPairs RX7 0 := by decide +kernel
set_option maxHeartbeats 4000000 in
set_option maxRecDepth 100000 in
theorem c_X7_restingPairs (l : Launch) (g : gE) (ad : Nat → Nat) (u : Me) (S : Sg) (hC : RepC S u) (hO : Ok S) : Cti l yX7_restingPairs wsX7_restingPairs rmX7_restingPairs g ad [.ref (ad 0)] u (fun r u' => (nI (rpS S (sN S)) = r ∧ Sm [14, 18, 19, 20, 21, 23, 24, 25, 26, 28, 29, 30, 31] [15, 16] [1, 2, 3, 4, 5, 6] [2, 3, 4, 5] u u') ∧ RepC S u') := by
  refine Ct.of (cc := cX7_restingPairs) (nL := 4) (ret := (some .int)) RX7 (by decide) rfl rfl (Nat.le_of_ble_eq_true rfl) (fun kx C E => ?_)
  have hin_X7 : ∀ w ∈ u_ws RX7 TX7 10, w ∈ wsX7_restingPairs := by decide +kernel
  have hk_10 : Cond.fieldLink RX7 10 "AgainAgain" "game" "LAgainAgain$Game;" ∈ wsX7_restingPairs := by decide +kernel
  have hk_19 : Cond.fieldLink RX7 19 "AgainAgain" "machines" "LAgainAgain$Machines;" ∈ wsX7_restingPairs := by decide +kernel
  have hk_40 : Cond.fieldLink RX7 40 "AgainAgain" "plans" "LAgainAgain$Plans;" ∈ wsX7_restingPairs := by decide +kernel
  show G kx 0 0 (WW g ad u) 0 [(0, .ref (ad 0))] []
  have hn := hO.n
  refine r_iconst C dX7_restingPairs_0 (v := nI 0) (by decide) ?_
  refine r_istore_n C [(0, .ref (ad 0)), (1, .int (nI (0)))] [1, 0] dX7_restingPairs_1 rfl (by decide) rfl ?_
  have L2 : ∀ (fu : Nat) (m : Nat) (v : Me), sN S < m + fu → (m ≤ sN S) → (Sm [14, 18, 19, 20, 21, 23, 24, 25, 26, 28, 29, 30, 31] [15, 16] [1, 2, 3, 4, 5, 6] [2, 3, 4, 5] u v) → (RepC S v) → (∀ c, c < m → LRN v S c 0 (bsP S c 0)) → G kx 0 0 (WW g ad v) 2 [(0, .ref (ad 0)), (1, .int (nI (m)))] [] := by
    intro fu
    induction fu with
    | zero => intro m v hfu hmn hv hC hL; exact absurd hfu (by omega)
    | succ fu ih =>
      intro m v hfu hmn hv hC hL
      refine r_iload_n C 1 dX7_restingPairs_2 rfl rfl ?_
      refine r_aload_n C 0 dX7_restingPairs_3 rfl rfl ?_
      refine r_get C (CN := RX7) (T := TX7) (N := 10) k_0 rfl hin_X7 (j := 1) (by decide) hk_19 rfl rfl dX7_restingPairs_4 ?_
      refine r_callVi C (rest := [.int (nI (m))]) (c_X2_many l g ad v S hC hO) gX7_restingPairs_X2_many pk_X2_many k_3 dX7_restingPairs_7 rfl rfl rfl rfl ⟨(Nat.le_of_ble_eq_true rfl), (Nat.le_of_ble_eq_true rfl)⟩ rfl rfl (Nat.le_of_ble_eq_true rfl) ⟨(Nat.le_of_ble_eq_true rfl), (Nat.le_of_ble_eq_true rfl)⟩ ?_
      rintro _ _ ⟨rfl, rfl⟩
      refine r_icmpN_ge C dX7_restingPairs_10 (tgt := 36) (by decide) (by omega) (by omega) (fun h10 => ?_) (fun h10 => ?_)
      · refine r_iconst C dX7_restingPairs_36 (v := nI 0) (by decide) ?_
        refine r_istore_n C [(0, .ref (ad 0)), (1, .int (nI (0)))] [1, 0] dX7_restingPairs_37 rfl (by decide) rfl ?_
        refine r_iconst C dX7_restingPairs_38 (v := nI 0) (by decide) ?_
        refine r_istore_n C [(0, .ref (ad 0)), (1, .int (nI (0))), (2, .int (nI (0)))] [1, 2, 0] dX7_restingPairs_39 rfl (by decide) rfl ?_
        have L40 : ∀ (fu : Nat) (i : Nat) (v : Me), sN S < i + fu → (i ≤ sN S) → (Sm [14, 18, 19, 20, 21, 23, 24, 25, 26, 28, 29, 30, 31] [15, 16] [1, 2, 3, 4, 5, 6] [2, 3, 4, 5] u v) → (RepC S v) → (∀ c, c < sN S → LRN v S c 0 (bsP S c 0)) → G kx 0 0 (WW g ad v) 40 [(0, .ref (ad 0)), (1, .int (nI (rpS S i))), (2, .int (nI (i)))] [] := by
          intro fu
          induction fu with
          | zero => intro i v hfu hin hv hC hL; exact absurd hfu (by omega)
          | succ fu ih =>
            intro i v hfu hin hv hC hL
            refine r_iload_n C 2 dX7_restingPairs_40 rfl rfl ?_
            refine r_aload_n C 0 dX7_restingPairs_41 rfl rfl ?_
            refine r_get C (CN := RX7) (T := TX7) (N := 10) k_0 rfl hin_X7 (j := 1) (by decide) hk_19 rfl rfl dX7_restingPairs_42 ?_
            refine r_callVi C (rest := [.int (nI (i))]) (c_X2_many l g ad v S hC hO) gX7_restingPairs_X2_many pk_X2_many k_3 dX7_restingPairs_45 rfl rfl rfl rfl ⟨(Nat.le_of_ble_eq_true rfl), (Nat.le_of_ble_eq_true rfl)⟩ rfl rfl (Nat.le_of_ble_eq_true rfl) ⟨(Nat.le_of_ble_eq_true rfl), (Nat.le_of_ble_eq_true rfl)⟩ ?_
            rintro _ _ ⟨rfl, rfl⟩
            refine r_icmpN_ge C dX7_restingPairs_48 (tgt := 96) (by decide) (by omega) (by omega) (fun h48 => ?_) (fun h48 => ?_)
            · refine r_iload_n C 1 dX7_restingPairs_96 rfl rfl ?_
              exact E.2.1 rfl _ _ _ _ dX7_restingPairs_97 ⟨_, rfl, ⟨⟨by rw [show i = sN S by omega], hv⟩, hC⟩⟩
            · refine r_iload_n C 2 dX7_restingPairs_51 rfl rfl ?_
              refine r_istore_n C [(0, .ref (ad 0)), (1, .int (nI (rpS S i))), (2, .int (nI (i))), (3, .int (nI (i)))] [1, 2, 3, 0] dX7_restingPairs_52 rfl (by decide) rfl ?_
              have iho := ih
              have L53 : ∀ (fu : Nat) (j : Nat) (v : Me), sN S < j + fu → (j ≤ sN S) → (i ≤ j) → (Sm [14, 18, 19, 20, 21, 23, 24, 25, 26, 28, 29, 30, 31] [15, 16] [1, 2, 3, 4, 5, 6] [2, 3, 4, 5] u v) → (RepC S v) → (∀ c, c < sN S → LRN v S c 0 (bsP S c 0)) → G kx 0 0 (WW g ad v) 53 [(0, .ref (ad 0)), (1, .int (nI (rpS S i + rpI S i j))), (2, .int (nI (i))), (3, .int (nI (j)))] [] := by
                intro fu
                induction fu with
                | zero => intro j v hfu hjn hij hv hC hL; exact absurd hfu (by omega)
                | succ fu ih =>
                  intro j v hfu hjn hij hv hC hL
                  have hq1 := rpS_le S i
                  have hq2 := rpI_le S i j
                  have hq3 : i * sN S ≤ 12 * 12 := Nat.mul_le_mul (by omega) (by omega)
                  refine r_iload_n C 3 dX7_restingPairs_53 rfl rfl ?_
                  refine r_aload_n C 0 dX7_restingPairs_54 rfl rfl ?_
                  refine r_get C (CN := RX7) (T := TX7) (N := 10) k_0 rfl hin_X7 (j := 1) (by decide) hk_19 rfl rfl dX7_restingPairs_55 ?_
                  refine r_callVi C (rest := [.int (nI (j))]) (c_X2_many l g ad v S hC hO) gX7_restingPairs_X2_many pk_X2_many k_3 dX7_restingPairs_58 rfl rfl rfl rfl ⟨(Nat.le_of_ble_eq_true rfl), (Nat.le_of_ble_eq_true rfl)⟩ rfl rfl (Nat.le_of_ble_eq_true rfl) ⟨(Nat.le_of_ble_eq_true rfl), (Nat.le_of_ble_eq_true rfl)⟩ ?_
                  rintro _ _ ⟨rfl, rfl⟩
                  refine r_icmpN_ge C dX7_restingPairs_61 (tgt := 90) (by decide) (by omega) (by omega) (fun h61 => ?_) (fun h61 => ?_)
                  · refine r_iinc C [(0, .ref (ad 0)), (1, .int (nI (rpS S i + rpI S i j))), (2, .int (nI (i + 1))), (3, .int (nI (j)))] [1, 2, 0, 3] 2 dX7_restingPairs_90 rfl (nI_add _ 1) (by decide) rfl ?_
                    refine r_goto C dX7_restingPairs_93 (tgt := 40) (by decide) ?_
                    refine r_lvs C [0, 1, 2] (lv' := [(0, .ref (ad 0)), (1, .int (nI (rpS S i + rpI S i j))), (2, .int (nI (i + 1)))]) rfl ?_
                    rw [show rpS S i + rpI S i j = rpS S (i + 1) by rw [show j = sN S by omega]; rfl]
                    exact iho (i + 1) v (by omega) (by omega) hv hC hL
                  · refine r_aload_n C 0 dX7_restingPairs_64 rfl rfl ?_
                    refine r_iload_n C 2 dX7_restingPairs_65 rfl rfl ?_
                    refine r_iload_n C 3 dX7_restingPairs_66 rfl rfl ?_
                    refine r_callVv C (rest := []) (c_X7_takeBothSides l g ad v S hC hO i j (by first | assumption | omega) (by first | assumption | omega)) gX7_restingPairs_X7_takeBothSides pk_X7_takeBothSides k_0 dX7_restingPairs_67 rfl rfl rfl rfl ⟨(Nat.le_of_ble_eq_true rfl), (Nat.le_of_ble_eq_true rfl)⟩ rfl rfl (Nat.le_of_ble_eq_true rfl) ⟨(Nat.le_of_ble_eq_true rfl), (Nat.le_of_ble_eq_true rfl)⟩ ?_
                    rintro b1 ⟨⟨hb1, hb2, hb3⟩, hC⟩
                    refine r_aload_n C 0 dX7_restingPairs_70 rfl rfl ?_
                    refine r_iload_n C 2 dX7_restingPairs_71 rfl rfl ?_
                    refine r_iconst C dX7_restingPairs_72 (v := nI 0) (by decide) ?_
                    refine r_iload_n C 3 dX7_restingPairs_73 rfl rfl ?_
                    refine r_iconst C dX7_restingPairs_74 (v := nI 0) (by decide) ?_
                    refine r_callVi C (rest := []) (c_X7_restFrom l g ad b1 S hC hO i 0 j 0 (by omega) (hO.z i).1 (by omega) (hO.z j).1 ⟨hb1, hb2, (hL j (by omega)).mv (hb3.1 _ (by decide)) (hb3.2.1 _ (by decide)) (hb3.2.1 _ (by decide)), (hL i (by omega)).mv (hb3.1 _ (by decide)) (hb3.2.1 _ (by decide)) (hb3.2.1 _ (by decide))⟩) gX7_restingPairs_X7_restFrom pk_X7_restFrom k_0 dX7_restingPairs_75 rfl rfl rfl rfl ⟨(Nat.le_of_ble_eq_true rfl), (Nat.le_of_ble_eq_true rfl)⟩ rfl rfl (Nat.le_of_ble_eq_true rfl) ⟨(Nat.le_of_ble_eq_true rfl), (Nat.le_of_ble_eq_true rfl)⟩ ?_
                    rintro _ f1 ⟨⟨rfl, hf1⟩, hC⟩
                    refine r_ifB_eq C dX7_restingPairs_78 (tgt := 84) (by decide) (fun h78 => ?_) (fun h78 => ?_)
                    · refine r_iinc C [(0, .ref (ad 0)), (1, .int (nI (rpS S i + rpI S i j))), (2, .int (nI (i))), (3, .int (nI (j + 1)))] [1, 2, 3, 0] 3 dX7_restingPairs_84 rfl (nI_add _ 1) (by decide) rfl ?_
                      refine r_goto C dX7_restingPairs_87 (tgt := 53) (by decide) ?_
                      rw [← show rpI S i (j + 1) = rpI S i j from cntN_f (fun z => h78 z.2)]
                      exact ih (j + 1) _ (by omega) (by omega) (by omega) (hv.tr ((hb3.wk (by decide) (by decide) (by decide) (by decide)).tr (hf1.wk (by decide) (by decide) (by decide) (by decide)))) hC (fun c hc => ((hL c hc).mv (hb3.1 _ (by decide)) (hb3.2.1 _ (by decide)) (hb3.2.1 _ (by decide))).mv (hf1.1 _ (by decide)) (hf1.2.1 _ (by decide)) (hf1.2.1 _ (by decide)))
                    · refine r_iinc C [(0, .ref (ad 0)), (1, .int (nI ((rpS S i + rpI S i j) + 1))), (2, .int (nI (i))), (3, .int (nI (j)))] [1, 0, 2, 3] 1 dX7_restingPairs_81 rfl (nI_add _ 1) (by decide) rfl ?_
                      refine r_iinc C [(0, .ref (ad 0)), (1, .int (nI ((rpS S i + rpI S i j) + 1))), (2, .int (nI (i))), (3, .int (nI (j + 1)))] [1, 2, 3, 0] 3 dX7_restingPairs_84 rfl (nI_add _ 1) (by decide) rfl ?_
                      refine r_goto C dX7_restingPairs_87 (tgt := 53) (by decide) ?_
                      rw [← show rpS S i + rpI S i (j + 1) = rpS S i + rpI S i j + 1 by rw [show rpI S i (j + 1) = rpI S i j + 1 from cntN_t ⟨hij, h78⟩]; rfl]
                      exact ih (j + 1) _ (by omega) (by omega) (by omega) (hv.tr ((hb3.wk (by decide) (by decide) (by decide) (by decide)).tr (hf1.wk (by decide) (by decide) (by decide) (by decide)))) hC (fun c hc => ((hL c hc).mv (hb3.1 _ (by decide)) (hb3.2.1 _ (by decide)) (hb3.2.1 _ (by decide))).mv (hf1.1 _ (by decide)) (hf1.2.1 _ (by decide)) (hf1.2.1 _ (by decide)))
              have q := L53 (sN S + 1) i v (by omega) (by omega) (by omega) hv hC hL
              rw [rpI_0 S i i (by omega)] at q
              exact q
        exact L40 (sN S + 1) 0 v (by omega) (by omega) hv hC (fun c hc => hL c (by omega))
      · have hm : m < sN S := by omega
        have hs0 := (hO.z m).1
        refine r_aload_n C 0 dX7_restingPairs_13 rfl rfl ?_
        refine r_get C (CN := RX7) (T := TX7) (N := 10) k_0 rfl hin_X7 (j := 4) (by decide) hk_40 rfl rfl dX7_restingPairs_14 ?_
        refine r_aload_n C 0 dX7_restingPairs_17 rfl rfl ?_
        refine r_get C (CN := RX7) (T := TX7) (N := 10) k_0 rfl hin_X7 (j := 0) (by decide) hk_10 rfl rfl dX7_restingPairs_18 ?_
        refine r_aload_n C 0 dX7_restingPairs_21 rfl rfl ?_
        refine r_get C (CN := RX7) (T := TX7) (N := 10) k_0 rfl hin_X7 (j := 1) (by decide) hk_19 rfl rfl dX7_restingPairs_22 ?_
        refine r_iload_n C 1 dX7_restingPairs_25 rfl rfl ?_
        refine r_iconst C dX7_restingPairs_26 (v := nI 0) (by decide) ?_
        refine r_callVv C (rest := []) (c_X3_learn l g ad v S hC hO m 0 hm hs0) gX7_restingPairs_X3_learn pk_X3_learn k_13 dX7_restingPairs_27 rfl rfl rfl rfl ⟨(Nat.le_of_ble_eq_true rfl), (Nat.le_of_ble_eq_true rfl)⟩ rfl rfl (Nat.le_of_ble_eq_true rfl) ⟨(Nat.le_of_ble_eq_true rfl), (Nat.le_of_ble_eq_true rfl)⟩ ?_
        rintro ul ⟨⟨hl1, hl2, hl3⟩, hlC⟩
        refine r_iinc C [(0, .ref (ad 0)), (1, .int (nI (m + 1)))] [1, 0] 1 dX7_restingPairs_30 rfl (nI_add _ 1) (by decide) rfl ?_
        refine r_goto C dX7_restingPairs_33 (tgt := 2) (by decide) ?_
        exact ih (m + 1) _ (by omega) (by omega) (hv.tr (hl3.wk (by decide) (by decide) (by decide) (by decide))) hlC (fun c hc => by
          rcases Nat.lt_or_ge c m with z | z
          · exact (hL c z).tbl hl2 (by omega)
          · rw [show c = m by omega]; exact hl1)
  exact L2 (sN S + 1) 0 u (by omega) (by omega) Sm.rf hC (fun c hc => absurd hc (by omega))
