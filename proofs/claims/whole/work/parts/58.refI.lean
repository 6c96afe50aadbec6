def rmX8_place : Room := { frames := 4, cells := 0, slots := 0, locals := 98 }
theorem pk_X8_place : Pk yX8_place RX8 2 := by decide +kernel
set_option maxHeartbeats 4000000 in
set_option maxRecDepth 100000 in
theorem c_X8_place (l : Launch) (g : gE) (ad : Nat → Nat) (u : Me) (S : Sg) (hM : RepM S u) (hO : Ok S) (p n : Int32) : Cti l yX8_place wsX8_place rmX8_place g ad [.ref (ad 36), .int (p), .int (n)] u (fun r u' => plaA S p n = r ∧ RepM S u' ∧ SmR u u') := by
  refine Ct.of (cc := cX8_place) (nL := 6) (ret := (some .int)) RX8 (by decide) rfl rfl (Nat.le_of_ble_eq_true rfl) (fun kx C E => ?_)
  have hin_X8 : ∀ w ∈ u_ws RX8 TX8 21, w ∈ wsX8_place := by decide +kernel
  have hk_48 : Cond.fieldLink RX8 48 "AgainAgainModel" "scores" "[I" ∈ wsX8_place := by decide +kernel
  have hk_63 : Cond.fieldLink RX8 63 "AgainAgainModel" "machines" "I" ∈ wsX8_place := by decide +kernel
  have hk_110 : Cond.constantLong RX8 110 (1000) ∈ wsX8_place := by decide +kernel
  show G kx 0 0 (WW g ad u) 0 [(0, .ref (ad 36)), (1, .int (p)), (2, .int (n))] []
  have hn := hO.n
  refine r_iload_n C 1 dX8_place_0 rfl rfl ?_
  refine r_if_lt C dX8_place_1 (tgt := 16) (by decide) (fun h1 => ?_) (fun h1 => ?_)
  · refine r_iconst C dX8_place_16 (v := (-1)) (by decide) ?_
    exact E.2.1 rfl _ _ _ _ dX8_place_17 ⟨_, rfl, ⟨ifp_f (fun q => by first | exact q.1 h1 | exact h13 q.2) _ _, hM, SmR.rf⟩⟩
  · refine r_iload_n C 2 dX8_place_4 rfl rfl ?_
    refine r_i2l C dX8_place_5 (v := (n).toInt64) rfl ?_
    refine r_lconst C dX8_place_6 (v := lI 0) (by decide) ?_
    refine r_ldc2 C (v := (1000)) hk_110 dX8_place_7 ?_
    refine r_setL (y := lI (1000)) (by decide) ?_
    refine r_callSi C (rest := []) (c_X8_in l g ad u ((n).toInt64) (lI 0) (lI (1000))) gX8_place_X8_in pk_X8_in dX8_place_10 rfl rfl rfl rfl ⟨(Nat.le_of_ble_eq_true rfl), (Nat.le_of_ble_eq_true rfl)⟩ rfl (Nat.le_of_ble_eq_true rfl) ⟨(Nat.le_of_ble_eq_true rfl), (Nat.le_of_ble_eq_true rfl)⟩ ?_
    rintro _ _ ⟨rfl, rfl⟩
    refine r_setI (y := (bI (isR 1001 n))) (bI_iff (inL_iff (n := 1000) (by decide))) ?_
    refine r_ifB_ne C dX8_place_13 (tgt := 18) (by decide) (fun h13 => ?_) (fun h13 => ?_)
    · obtain ⟨n0, hn0, rfl⟩ := h13
      refine r_iconst C dX8_place_18 (v := nI 0) (by decide) ?_
      refine r_istore_n C [(0, .ref (ad 36)), (1, .int (p)), (2, .int (nI (n0))), (3, .int (nI (0)))] [1, 2, 3, 0] dX8_place_19 rfl (by decide) rfl ?_
      have L20 : ∀ (fu : Nat) (m : Nat) (v : Me), sN S < m + fu → (m ≤ sN S) → (Sm [47] [] [] [] u v) → (RepM S v) → (∀ c, c < m → mA v 47 c = iI (scF S c n0)) → G kx 0 0 (WW g ad v) 20 [(0, .ref (ad 36)), (1, .int (p)), (2, .int (nI (n0))), (3, .int (nI (m)))] [] := by
        intro fu
        induction fu with
        | zero => intro m v hfu hmn hv hM hsc; exact absurd hfu (by omega)
        | succ fu ih =>
          intro m v hfu hmn hv hM hsc
          refine r_iload_n C 3 dX8_place_20 rfl rfl ?_
          refine r_aload_n C 0 dX8_place_21 rfl rfl ?_
          refine r_get C (CN := RX8) (T := TX8) (N := 21) k_36 rfl hin_X8 (j := 3) (by decide) hk_63 rfl rfl dX8_place_22 ?_
          refine r_setI (y := (nI (sN S))) (hM.n) ?_
          refine r_icmpN_ge C dX8_place_25 (tgt := 46) (by decide) (by omega) (by omega) (fun h25 => ?_) (fun h25 => ?_)
          · refine r_iconst C dX8_place_46 (v := nI 0) (by decide) ?_
            refine r_istore_n C [(0, .ref (ad 36)), (1, .int (p)), (2, .int (nI (n0))), (3, .int (nI (0)))] [1, 2, 3, 0] dX8_place_47 rfl (by decide) rfl ?_
            have hsc : ∀ c, c < sN S → mA v 47 c = iI (scF S c n0) := fun c hc => hsc c (by omega)
            have L48 : ∀ (fu : Nat) (m : Nat), sN S < m + fu → (m ≤ sN S) → (∀ c, c < m → ¬ nI (ahd S n0 c (sN S)) = p) → G kx 0 0 (WW g ad v) 48 [(0, .ref (ad 36)), (1, .int (p)), (2, .int (nI (n0))), (3, .int (nI (m)))] [] := by
              intro fu
              induction fu with
              | zero => intro m hfu hmn2 hP; exact absurd hfu (by omega)
              | succ fu ih =>
                intro m hfu hmn2 hP
                refine r_iload_n C 3 dX8_place_48 rfl rfl ?_
                refine r_aload_n C 0 dX8_place_49 rfl rfl ?_
                refine r_get C (CN := RX8) (T := TX8) (N := 21) k_36 rfl hin_X8 (j := 3) (by decide) hk_63 rfl rfl dX8_place_50 ?_
                refine r_setI (y := (nI (sN S))) (hM.n) ?_
                refine r_icmpN_ge C dX8_place_53 (tgt := 139) (by decide) (by omega) (by omega) (fun h53 => ?_) (fun h53 => ?_)
                · refine r_bipush C dX8_place_139 (v := (-4)) (by decide) ?_
                  exact E.2.1 rfl _ _ _ _ dX8_place_141 ⟨_, rfl, ⟨by unfold plaA; rw [ifp_t ⟨h1, ⟨n0, hn0, rfl⟩⟩, cl_nI (show n0 < 2 ^ 31 by omega), mn_none (fun c q => hP c (by omega) q.2)], hM, (SmR.of hv (by decide) (by decide) (by decide) (by decide))⟩⟩
                · have hm : m < sN S := by omega
                  refine r_iconst C dX8_place_56 (v := nI 0) (by decide) ?_
                  refine r_istore C [(0, .ref (ad 36)), (1, .int (p)), (2, .int (nI (n0))), (3, .int (nI (m))), (4, .int (nI (0)))] [1, 2, 3, 4, 0] dX8_place_57 (by decide) rfl ?_
                  refine r_iconst C dX8_place_59 (v := nI 0) (by decide) ?_
                  refine r_istore C [(0, .ref (ad 36)), (1, .int (p)), (2, .int (nI (n0))), (3, .int (nI (m))), (4, .int (nI (0))), (5, .int (nI (0)))] [1, 2, 3, 4, 5, 0] dX8_place_60 (by decide) rfl ?_
                  have iho := ih
                  have L62 : ∀ (fu : Nat) (i : Nat), sN S < i + fu → (i ≤ sN S) → G kx 0 0 (WW g ad v) 62 [(0, .ref (ad 36)), (1, .int (p)), (2, .int (nI (n0))), (3, .int (nI (m))), (4, .int (nI (ahd S n0 m i))), (5, .int (nI (i)))] [] := by
                    intro fu
                    induction fu with
                    | zero => intro i hfu hin; exact absurd hfu (by omega)
                    | succ fu ih =>
                      intro i hfu hin
                      have hale : ahd S n0 m i ≤ i := cntN_le _ _
                      refine r_iload C 5 dX8_place_62 rfl ?_
                      refine r_aload_n C 0 dX8_place_64 rfl rfl ?_
                      refine r_get C (CN := RX8) (T := TX8) (N := 21) k_36 rfl hin_X8 (j := 3) (by decide) hk_63 rfl rfl dX8_place_65 ?_
                      refine r_setI (y := (nI (sN S))) (hM.n) ?_
                      refine r_icmpN_ge C dX8_place_68 (tgt := 125) (by decide) (by omega) (by omega) (fun h68 => ?_) (fun h68 => ?_)
                      · have hie : i = sN S := by omega
                        refine r_iload C 4 dX8_place_125 rfl ?_
                        refine r_iload_n C 1 dX8_place_127 rfl rfl ?_
                        refine r_icmp_ne C dX8_place_128 (tgt := 133) (by decide) (fun h128 => ?_) (fun h128 => ?_)
                        · refine r_iinc C [(0, .ref (ad 36)), (1, .int (p)), (2, .int (nI (n0))), (3, .int (nI (m + 1))), (4, .int (nI (ahd S n0 m i))), (5, .int (nI (i)))] [1, 2, 3, 0, 4, 5] 3 dX8_place_133 rfl (nI_add _ 1) (by decide) rfl ?_
                          refine r_goto C dX8_place_136 (tgt := 48) (by decide) ?_
                          refine r_lvs C [0, 1, 2, 3] (lv' := [(0, .ref (ad 36)), (1, .int (p)), (2, .int (nI (n0))), (3, .int (nI (m + 1)))]) rfl ?_
                          exact iho (m + 1) (by omega) (by omega) (fun c hc => by
                            rcases Nat.lt_or_ge c m with z | z
                            · exact hP c z
                            · rw [show c = m by omega, ← hie]; exact h128)
                        · refine r_iload_n C 3 dX8_place_131 rfl rfl ?_
                          exact E.2.1 rfl _ _ _ _ dX8_place_132 ⟨_, rfl, ⟨by unfold plaA; rw [ifp_t ⟨h1, ⟨n0, hn0, rfl⟩⟩, cl_nI (show n0 < 2 ^ 31 by omega), mn_some (m := m) ⟨hm, hie ▸ h128⟩ (fun c hc q => hP c hc q.2)], hM, (SmR.of hv (by decide) (by decide) (by decide) (by decide))⟩⟩
                      · refine r_iload C 4 dX8_place_71 rfl ?_
                        refine r_aload_n C 0 dX8_place_73 rfl rfl ?_
                        refine r_get C (CN := RX8) (T := TX8) (N := 21) k_36 rfl hin_X8 (j := 20) (by decide) hk_48 rfl rfl dX8_place_74 ?_
                        refine r_iload C 5 dX8_place_77 rfl ?_
                        refine r_iald C k_47 (by omega) (by omega) dX8_place_79 ?_
                        refine r_setI (y := (iI (scF S i n0))) (hsc i (by omega)) ?_
                        refine r_aload_n C 0 dX8_place_80 rfl rfl ?_
                        refine r_get C (CN := RX8) (T := TX8) (N := 21) k_36 rfl hin_X8 (j := 20) (by decide) hk_48 rfl rfl dX8_place_81 ?_
                        refine r_iload_n C 3 dX8_place_84 rfl rfl ?_
                        refine r_iald C k_47 (by omega) (by omega) dX8_place_85 ?_
                        refine r_setI (y := (iI (scF S m n0))) (hsc m (by omega)) ?_
                        refine r_icmp_gt C dX8_place_86 (tgt := 111) (by decide) (fun h86 => ?_) (fun h86 => ?_)
                        · refine r_iconst C dX8_place_111 (v := nI 1) (by decide) ?_
                          refine r_goto C dX8_place_112 (tgt := 116) (by decide) ?_
                          refine r_iaddN C dX8_place_116 ?_
                          refine r_istore C [(0, .ref (ad 36)), (1, .int (p)), (2, .int (nI (n0))), (3, .int (nI (m))), (4, .int (nI ((ahd S n0 m i) + 1))), (5, .int (nI (i)))] [1, 2, 3, 4, 0, 5] dX8_place_117 (by decide) rfl ?_
                          refine r_iinc C [(0, .ref (ad 36)), (1, .int (p)), (2, .int (nI (n0))), (3, .int (nI (m))), (4, .int (nI ((ahd S n0 m i) + 1))), (5, .int (nI (i + 1)))] [1, 2, 3, 4, 5, 0] 5 dX8_place_119 rfl (nI_add _ 1) (by decide) rfl ?_
                          refine r_goto C dX8_place_122 (tgt := 62) (by decide) ?_
                          rw [← show ahd S n0 m (i + 1) = ahd S n0 m i + 1 from cntN_t (by first | exact Or.inl h86 | exact Or.inr ⟨h102, by omega⟩)]
                          exact ih (i + 1) (by omega) (by omega)
                        · refine r_aload_n C 0 dX8_place_89 rfl rfl ?_
                          refine r_get C (CN := RX8) (T := TX8) (N := 21) k_36 rfl hin_X8 (j := 20) (by decide) hk_48 rfl rfl dX8_place_90 ?_
                          refine r_iload C 5 dX8_place_93 rfl ?_
                          refine r_iald C k_47 (by omega) (by omega) dX8_place_95 ?_
                          refine r_setI (y := (iI (scF S i n0))) (hsc i (by omega)) ?_
                          refine r_aload_n C 0 dX8_place_96 rfl rfl ?_
                          refine r_get C (CN := RX8) (T := TX8) (N := 21) k_36 rfl hin_X8 (j := 20) (by decide) hk_48 rfl rfl dX8_place_97 ?_
                          refine r_iload_n C 3 dX8_place_100 rfl rfl ?_
                          refine r_iald C k_47 (by omega) (by omega) dX8_place_101 ?_
                          refine r_setI (y := (iI (scF S m n0))) (hsc m (by omega)) ?_
                          refine r_icmp_ne C dX8_place_102 (tgt := 115) (by decide) (fun h102 => ?_) (fun h102 => ?_)
                          · refine r_iconst C dX8_place_115 (v := nI 0) (by decide) ?_
                            refine r_iaddN C dX8_place_116 ?_
                            refine r_istore C [(0, .ref (ad 36)), (1, .int (p)), (2, .int (nI (n0))), (3, .int (nI (m))), (4, .int (nI ((ahd S n0 m i) + 0))), (5, .int (nI (i)))] [1, 2, 3, 4, 0, 5] dX8_place_117 (by decide) rfl ?_
                            refine r_iinc C [(0, .ref (ad 36)), (1, .int (p)), (2, .int (nI (n0))), (3, .int (nI (m))), (4, .int (nI ((ahd S n0 m i) + 0))), (5, .int (nI (i + 1)))] [1, 2, 3, 4, 5, 0] 5 dX8_place_119 rfl (nI_add _ 1) (by decide) rfl ?_
                            refine r_goto C dX8_place_122 (tgt := 62) (by decide) ?_
                            rw [Nat.add_zero, ← show ahd S n0 m (i + 1) = ahd S n0 m i from cntN_f (by first | exact fun q => q.elim h86 (fun z => h102 z.1) | exact fun q => q.elim h86 (fun z => absurd z.2 (by omega)))]
                            exact ih (i + 1) (by omega) (by omega)
                          · refine r_iload C 5 dX8_place_105 rfl ?_
                            refine r_iload_n C 3 dX8_place_107 rfl rfl ?_
                            refine r_icmpN_ge C dX8_place_108 (tgt := 115) (by decide) (by omega) (by omega) (fun h108 => ?_) (fun h108 => ?_)
                            · refine r_iconst C dX8_place_115 (v := nI 0) (by decide) ?_
                              refine r_iaddN C dX8_place_116 ?_
                              refine r_istore C [(0, .ref (ad 36)), (1, .int (p)), (2, .int (nI (n0))), (3, .int (nI (m))), (4, .int (nI ((ahd S n0 m i) + 0))), (5, .int (nI (i)))] [1, 2, 3, 4, 0, 5] dX8_place_117 (by decide) rfl ?_
                              refine r_iinc C [(0, .ref (ad 36)), (1, .int (p)), (2, .int (nI (n0))), (3, .int (nI (m))), (4, .int (nI ((ahd S n0 m i) + 0))), (5, .int (nI (i + 1)))] [1, 2, 3, 4, 5, 0] 5 dX8_place_119 rfl (nI_add _ 1) (by decide) rfl ?_
                              refine r_goto C dX8_place_122 (tgt := 62) (by decide) ?_
                              rw [Nat.add_zero, ← show ahd S n0 m (i + 1) = ahd S n0 m i from cntN_f (by first | exact fun q => q.elim h86 (fun z => h102 z.1) | exact fun q => q.elim h86 (fun z => absurd z.2 (by omega)))]
                              exact ih (i + 1) (by omega) (by omega)
                            · refine r_iconst C dX8_place_111 (v := nI 1) (by decide) ?_
                              refine r_goto C dX8_place_112 (tgt := 116) (by decide) ?_
                              refine r_iaddN C dX8_place_116 ?_
                              refine r_istore C [(0, .ref (ad 36)), (1, .int (p)), (2, .int (nI (n0))), (3, .int (nI (m))), (4, .int (nI ((ahd S n0 m i) + 1))), (5, .int (nI (i)))] [1, 2, 3, 4, 0, 5] dX8_place_117 (by decide) rfl ?_
                              refine r_iinc C [(0, .ref (ad 36)), (1, .int (p)), (2, .int (nI (n0))), (3, .int (nI (m))), (4, .int (nI ((ahd S n0 m i) + 1))), (5, .int (nI (i + 1)))] [1, 2, 3, 4, 5, 0] 5 dX8_place_119 rfl (nI_add _ 1) (by decide) rfl ?_
                              refine r_goto C dX8_place_122 (tgt := 62) (by decide) ?_
                              rw [← show ahd S n0 m (i + 1) = ahd S n0 m i + 1 from cntN_t (by first | exact Or.inl h86 | exact Or.inr ⟨h102, by omega⟩)]
                              exact ih (i + 1) (by omega) (by omega)
                  exact L62 (sN S + 1) 0 (by omega) (by omega)
            exact L48 (sN S + 1) 0 (by omega) (by omega) (fun c hc => absurd hc (by omega))
          · have hm : m < sN S := by omega
            refine r_aload_n C 0 dX8_place_28 rfl rfl ?_
            refine r_get C (CN := RX8) (T := TX8) (N := 21) k_36 rfl hin_X8 (j := 20) (by decide) hk_48 rfl rfl dX8_place_29 ?_
            refine r_iload_n C 3 dX8_place_32 rfl rfl ?_
            refine r_aload_n C 0 dX8_place_33 rfl rfl ?_
            refine r_iload_n C 3 dX8_place_34 rfl rfl ?_
            refine r_iload_n C 2 dX8_place_35 rfl rfl ?_
            refine r_callVi C (rest := [.int (nI (m)), .ref (ad 47)]) (c_X8_scoreOf l g ad v S hM hO m n0 (by first | assumption | omega) (by omega)) gX8_place_X8_scoreOf pk_X8_scoreOf k_36 dX8_place_36 rfl rfl rfl rfl ⟨(Nat.le_of_ble_eq_true rfl), (Nat.le_of_ble_eq_true rfl)⟩ rfl rfl (Nat.le_of_ble_eq_true rfl) ⟨(Nat.le_of_ble_eq_true rfl), (Nat.le_of_ble_eq_true rfl)⟩ ?_
            rintro _ _ ⟨rfl, rfl⟩
            refine r_iast C k_47 (by omega) (by omega) dX8_place_39 ?_
            refine r_iinc C [(0, .ref (ad 36)), (1, .int (p)), (2, .int (nI (n0))), (3, .int (nI (m + 1)))] [1, 2, 3, 0] 3 dX8_place_40 rfl (nI_add _ 1) (by decide) rfl ?_
            refine r_goto C dX8_place_43 (tgt := 20) (by decide) ?_
            exact ih (m + 1) _ (by omega) (by omega) (hv.sA (c := 47) (by decide) _) (hM.sA (c := 47) (by decide) _) (fun c hc => by
              rw [mA_sA_self]
              unfold upd
              rcases Nat.lt_or_ge c m with z | z
              · rw [if_neg (by omega)]; exact hsc c z
              · rw [if_pos (by omega), show c = m by omega])
      exact L20 (sN S + 1) 0 u (by omega) (by omega) Sm.rf hM (fun c hc => absurd hc (by omega))
    · refine r_iconst C dX8_place_16 (v := (-1)) (by decide) ?_
      exact E.2.1 rfl _ _ _ _ dX8_place_17 ⟨_, rfl, ⟨ifp_f (fun q => by first | exact q.1 h1 | exact h13 q.2) _ _, hM, SmR.rf⟩⟩
