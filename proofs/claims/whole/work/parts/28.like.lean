def rmX1_holds : Room := { frames := 0, cells := 0, slots := 0, locals := 0 }
theorem pk_X1_holds : Pk yX1_holds RX1 2 := by decide +kernel
set_option maxHeartbeats 4000000 in
set_option maxRecDepth 100000 in
theorem c_X1_holds (l : Launch) (g : gE) (ad : Nat → Nat) (u : Me) (a p : Nat) (ha : a < 65536) (hp : p < 16) : Cti l yX1_holds wsX1_holds rmX1_holds g ad [.int (nI (a)), .int (nI (p))] u (fun r u' => bI (a.testBit p = true) = r ∧ u = u') := by
  refine Ct.of (cc := cX1_holds) (nL := 2) (ret := (some .boolean)) RX1 (by decide) rfl rfl (Nat.le_of_ble_eq_true rfl) (fun kx C E => ?_)
  show G kx 0 0 (WW g ad u) 0 [(0, .int (nI (a))), (1, .int (nI (p)))] []
  have h1 := and1_lt (a >>> p)
  refine r_iload_n C 0 dX1_holds_0 rfl rfl ?_
  refine r_iload_n C 1 dX1_holds_1 rfl rfl ?_
  refine r_ishrN C dX1_holds_2 (by omega) (by omega) ?_
  refine r_iconst C dX1_holds_3 (v := nI 1) (by decide) ?_
  refine r_iandN C dX1_holds_4 ?_
  refine r_iconst C dX1_holds_5 (v := nI 1) (by decide) ?_
  refine r_icmpN_ne C dX1_holds_6 (tgt := 13) (by decide) (by omega) (by omega) (fun h6 => ?_) (fun h6 => ?_)
  · refine r_iconst C dX1_holds_13 (v := nI 0) (by decide) ?_
    exact E.2.2.1 rfl _ _ _ _ dX1_holds_14 (Or.inl rfl) ⟨_, rfl, ⟨bF (fun q => h6 ((tb_iff a p).mpr q)), rfl⟩⟩
  · refine r_iconst C dX1_holds_9 (v := nI 1) (by decide) ?_
    refine r_goto C dX1_holds_10 (tgt := 14) (by decide) ?_
    exact E.2.2.1 rfl _ _ _ _ dX1_holds_14 (Or.inr rfl) ⟨_, rfl, ⟨bT ((tb_iff a p).mp h6), rfl⟩⟩
def rmX1_statesLike : Room := { frames := 1, cells := 0, slots := 0, locals := 23 }
theorem pk_X1_statesLike : Pk yX1_statesLike RX1 5 := by decide +kernel
set_option maxHeartbeats 4000000 in
set_option maxRecDepth 100000 in
theorem c_X1_statesLike (l : Launch) (g : gE) (ad : Nat → Nat) (u : Me) (S : Sg) (hC : RepC S u) (hO : Ok S) (i s j t : Nat) (hi : i < sN S) (hs : s < sz S i) (hj : j < sN S) (ht : t < sz S j) : Cti l yX1_statesLike wsX1_statesLike rmX1_statesLike g ad [.ref (ad 11), .ref (ad 3), .int (nI (i)), .int (nI (s)), .int (nI (j)), .int (nI (t))] u (fun r u' => bI (Lk S i s j t) = r ∧ Sm [12] [] [] [] u u') := by
  refine Ct.of (cc := cX1_statesLike) (nL := 13) (ret := (some .boolean)) RX1 (by decide) rfl rfl (Nat.le_of_ble_eq_true rfl) (fun kx C E => ?_)
  have hin_X1 : ∀ w ∈ u_ws RX1 TX1 1, w ∈ wsX1_statesLike := by decide +kernel
  have hk_9 : Cond.fieldLink RX1 9 "AgainAgain$Likeness" "pairs" "[I" ∈ wsX1_statesLike := by decide +kernel
  show G kx 0 0 (WW g ad u) 0 [(0, .ref (ad 11)), (1, .ref (ad 3)), (2, .int (nI (i))), (3, .int (nI (s))), (4, .int (nI (j))), (5, .int (nI (t)))] []
  have hn := hO.n
  have hz1 := (hO.z i).2
  have hz2 := (hO.z j).2
  refine r_aload_n C 0 dX1_statesLike_0 rfl rfl ?_
  refine r_get C (CN := RX1) (T := TX1) (N := 1) k_11 rfl hin_X1 (j := 0) (by decide) hk_9 rfl rfl dX1_statesLike_1 ?_
  refine r_iconst C dX1_statesLike_4 (v := nI 0) (by decide) ?_
  refine r_iload_n C 3 dX1_statesLike_5 rfl rfl ?_
  refine r_iload C 5 dX1_statesLike_6 rfl ?_
  refine r_callSi C (rest := [.int (nI (0)), .ref (ad 12)]) (c_X6_placeOf l g ad u s t) gX1_statesLike_X6_placeOf pk_X6_placeOf dX1_statesLike_8 rfl rfl rfl rfl ⟨(Nat.le_of_ble_eq_true rfl), (Nat.le_of_ble_eq_true rfl)⟩ rfl (Nat.le_of_ble_eq_true rfl) ⟨(Nat.le_of_ble_eq_true rfl), (Nat.le_of_ble_eq_true rfl)⟩ ?_
  rintro _ _ ⟨rfl, rfl⟩
  refine r_iast C k_12 (by omega) (by omega) dX1_statesLike_11 ?_
  refine r_iconst C dX1_statesLike_12 (v := nI 1) (by decide) ?_
  refine r_aload_n C 0 dX1_statesLike_13 rfl rfl ?_
  refine r_get C (CN := RX1) (T := TX1) (N := 1) k_11 rfl hin_X1 (j := 0) (by decide) hk_9 rfl rfl dX1_statesLike_14 ?_
  refine r_iconst C dX1_statesLike_17 (v := nI 0) (by decide) ?_
  refine r_iald C k_12 (by omega) (by omega) dX1_statesLike_18 ?_
  refine r_setI (y := (nI (4 * s + t))) (by rw [mA_sA_self]; exact if_pos rfl) ?_
  refine r_ishlN C dX1_statesLike_19 (by omega) ?_
  refine r_istore C [(0, .ref (ad 11)), (1, .ref (ad 3)), (2, .int (nI (i))), (3, .int (nI (s))), (4, .int (nI (j))), (5, .int (nI (t))), (6, .int (nI (2 ^ (4 * s + t))))] [1, 2, 3, 4, 5, 6, 0] dX1_statesLike_20 (by decide) rfl ?_
  refine r_iconst C dX1_statesLike_22 (v := nI 1) (by decide) ?_
  refine r_istore C [(0, .ref (ad 11)), (1, .ref (ad 3)), (2, .int (nI (i))), (3, .int (nI (s))), (4, .int (nI (j))), (5, .int (nI (t))), (6, .int (nI (2 ^ (4 * s + t)))), (7, .int (nI (1)))] [1, 2, 3, 4, 5, 6, 7, 0] dX1_statesLike_23 (by decide) rfl ?_
  refine r_iconst C dX1_statesLike_25 (v := nI 0) (by decide) ?_
  refine r_istore C [(0, .ref (ad 11)), (1, .ref (ad 3)), (2, .int (nI (i))), (3, .int (nI (s))), (4, .int (nI (j))), (5, .int (nI (t))), (6, .int (nI (2 ^ (4 * s + t)))), (7, .int (nI (1))), (8, .int (nI (0)))] [1, 2, 3, 4, 5, 6, 7, 8, 0] dX1_statesLike_26 (by decide) rfl ?_
  have L28 : ∀ (fu : Nat) (kk : Nat) (n : Nat) (met : Nat) (P : Nat → Nat) (v : Me), 16 < kk + fu → (kk ≤ 16) → (SLI u S i s j t kk 0 n met P v) → (RepC S v) → G kx 0 0 (WW g ad v) 28 [(0, .ref (ad 11)), (1, .ref (ad 3)), (2, .int (nI (i))), (3, .int (nI (s))), (4, .int (nI (j))), (5, .int (nI (t))), (6, .int (nI (met))), (7, .int (nI (n))), (8, .int (nI (kk)))] [] := by
    intro fu
    induction fu with
    | zero => intro kk n met P v hfu hkk hv hC; exact absurd hfu (by omega)
    | succ fu ih =>
      intro kk n met P v hfu hkk hv hC
      have hq := hv.2.1
      refine r_iload C 8 dX1_statesLike_28 rfl ?_
      refine r_bipush C dX1_statesLike_30 (v := nI 16) (by decide) ?_
      refine r_icmpN_ge C dX1_statesLike_32 (tgt := 162) (by decide) (by omega) (by omega) (fun h32 => ?_) (fun h32 => ?_)
      · refine r_iconst C dX1_statesLike_162 (v := nI 1) (by decide) ?_
        exact E.2.2.1 rfl _ _ _ _ dX1_statesLike_163 (Or.inr rfl) ⟨_, rfl, ⟨bT (hv.fin hO hs ht (by omega)), hv.1⟩⟩
      · refine r_iload C 8 dX1_statesLike_35 rfl ?_
        refine r_iload C 7 dX1_statesLike_37 rfl ?_
        refine r_icmpN_ge C dX1_statesLike_39 (tgt := 162) (by decide) (by omega) (by omega) (fun h39 => ?_) (fun h39 => ?_)
        · refine r_iconst C dX1_statesLike_162 (v := nI 1) (by decide) ?_
          exact E.2.2.1 rfl _ _ _ _ dX1_statesLike_163 (Or.inr rfl) ⟨_, rfl, ⟨bT (hv.fin hO hs ht (by omega)), hv.1⟩⟩
        · have hkn0 : kk < n := by omega
          have hV := (hv.2.2.2.1 kk hkn0).2.1
          have hV1 := hV.1
          have hV2 := hV.2
          have hp16 := VP_16 hO hV
          have ha1 := hO.a i (P kk / 4)
          have ha2 := hO.a j (P kk % 4)
          refine r_aload_n C 0 dX1_statesLike_42 rfl rfl ?_
          refine r_get C (CN := RX1) (T := TX1) (N := 1) k_11 rfl hin_X1 (j := 0) (by decide) hk_9 rfl rfl dX1_statesLike_43 ?_
          refine r_iload C 8 dX1_statesLike_46 rfl ?_
          refine r_iald C k_12 (by omega) (by omega) dX1_statesLike_48 ?_
          refine r_setI (y := (nI (P kk))) ((hv.2.2.2.1 kk (by omega)).1) ?_
          refine r_callSi C (rest := []) (c_X6_mine l g ad v (P kk) (by omega)) gX1_statesLike_X6_mine pk_X6_mine dX1_statesLike_49 rfl rfl rfl rfl ⟨(Nat.le_of_ble_eq_true rfl), (Nat.le_of_ble_eq_true rfl)⟩ rfl (Nat.le_of_ble_eq_true rfl) ⟨(Nat.le_of_ble_eq_true rfl), (Nat.le_of_ble_eq_true rfl)⟩ ?_
          rintro _ _ ⟨rfl, rfl⟩
          refine r_istore C [(0, .ref (ad 11)), (1, .ref (ad 3)), (2, .int (nI (i))), (3, .int (nI (s))), (4, .int (nI (j))), (5, .int (nI (t))), (6, .int (nI (met))), (7, .int (nI (n))), (8, .int (nI (kk))), (9, .int (nI ((P kk) / 4)))] [1, 2, 3, 4, 5, 6, 7, 8, 9, 0] dX1_statesLike_52 (by decide) rfl ?_
          refine r_aload_n C 0 dX1_statesLike_54 rfl rfl ?_
          refine r_get C (CN := RX1) (T := TX1) (N := 1) k_11 rfl hin_X1 (j := 0) (by decide) hk_9 rfl rfl dX1_statesLike_55 ?_
          refine r_iload C 8 dX1_statesLike_58 rfl ?_
          refine r_iald C k_12 (by omega) (by omega) dX1_statesLike_60 ?_
          refine r_setI (y := (nI (P kk))) ((hv.2.2.2.1 kk (by omega)).1) ?_
          refine r_callSi C (rest := []) (c_X6_theirs l g ad v (P kk) (by omega)) gX1_statesLike_X6_theirs pk_X6_theirs dX1_statesLike_61 rfl rfl rfl rfl ⟨(Nat.le_of_ble_eq_true rfl), (Nat.le_of_ble_eq_true rfl)⟩ rfl (Nat.le_of_ble_eq_true rfl) ⟨(Nat.le_of_ble_eq_true rfl), (Nat.le_of_ble_eq_true rfl)⟩ ?_
          rintro _ _ ⟨rfl, rfl⟩
          refine r_istore C [(0, .ref (ad 11)), (1, .ref (ad 3)), (2, .int (nI (i))), (3, .int (nI (s))), (4, .int (nI (j))), (5, .int (nI (t))), (6, .int (nI (met))), (7, .int (nI (n))), (8, .int (nI (kk))), (9, .int (nI ((P kk) / 4))), (10, .int (nI ((P kk) % 4)))] [1, 2, 3, 4, 5, 6, 7, 8, 9, 10, 0] dX1_statesLike_64 (by decide) rfl ?_
          refine r_aload_n C 1 dX1_statesLike_66 rfl rfl ?_
          refine r_iload_n C 2 dX1_statesLike_67 rfl rfl ?_
          refine r_iload C 9 dX1_statesLike_68 rfl ?_
          refine r_callVi C (rest := []) (c_X2_actionOf l g ad v S hC hO i (by assumption) ((P kk) / 4) (by first | assumption | omega)) gX1_statesLike_X2_actionOf pk_X2_actionOf k_3 dX1_statesLike_70 rfl rfl rfl rfl ⟨(Nat.le_of_ble_eq_true rfl), (Nat.le_of_ble_eq_true rfl)⟩ rfl rfl (Nat.le_of_ble_eq_true rfl) ⟨(Nat.le_of_ble_eq_true rfl), (Nat.le_of_ble_eq_true rfl)⟩ ?_
          rintro _ _ ⟨rfl, rfl⟩
          refine r_aload_n C 1 dX1_statesLike_73 rfl rfl ?_
          refine r_iload C 4 dX1_statesLike_74 rfl ?_
          refine r_iload C 10 dX1_statesLike_76 rfl ?_
          refine r_callVi C (rest := [.int (nI (sa S i ((P kk) / 4)))]) (c_X2_actionOf l g ad v S hC hO j (by assumption) ((P kk) % 4) (by first | assumption | omega)) gX1_statesLike_X2_actionOf pk_X2_actionOf k_3 dX1_statesLike_78 rfl rfl rfl rfl ⟨(Nat.le_of_ble_eq_true rfl), (Nat.le_of_ble_eq_true rfl)⟩ rfl rfl (Nat.le_of_ble_eq_true rfl) ⟨(Nat.le_of_ble_eq_true rfl), (Nat.le_of_ble_eq_true rfl)⟩ ?_
          rintro _ _ ⟨rfl, rfl⟩
          refine r_icmpN_eq C dX1_statesLike_81 (tgt := 86) (by decide) (by omega) (by omega) (fun h81 => ?_) (fun h81 => ?_)
          · refine r_iconst C dX1_statesLike_86 (v := nI 0) (by decide) ?_
            refine r_istore C [(0, .ref (ad 11)), (1, .ref (ad 3)), (2, .int (nI (i))), (3, .int (nI (s))), (4, .int (nI (j))), (5, .int (nI (t))), (6, .int (nI (met))), (7, .int (nI (n))), (8, .int (nI (kk))), (9, .int (nI ((P kk) / 4))), (10, .int (nI ((P kk) % 4))), (11, .int (nI (0)))] [1, 2, 3, 4, 5, 6, 7, 8, 9, 10, 11, 0] dX1_statesLike_87 (by decide) rfl ?_
            have iho := ih
            obtain ⟨pk, hpk⟩ : ∃ pk, P kk = pk := ⟨_, rfl⟩
            rw [hpk] at h81 ⊢
            have L89 : ∀ (fu : Nat) (b : Nat) (n : Nat) (met : Nat) (P : Nat → Nat) (v : Me), 3 < b + fu → (b ≤ 3) → (kk < n) → (P kk = pk) → (SLI u S i s j t kk b n met P v) → (RepC S v) → G kx 0 0 (WW g ad v) 89 [(0, .ref (ad 11)), (1, .ref (ad 3)), (2, .int (nI (i))), (3, .int (nI (s))), (4, .int (nI (j))), (5, .int (nI (t))), (6, .int (nI (met))), (7, .int (nI (n))), (8, .int (nI (kk))), (9, .int (nI (pk / 4))), (10, .int (nI (pk % 4))), (11, .int (nI (b)))] [] := by
              intro fu
              induction fu with
              | zero => intro b n met P v hfu hb hkn hpk hv hC; exact absurd hfu (by omega)
              | succ fu ih =>
                intro b n met P v hfu hb hkn hpk hv hC
                have hq := hv.2.1
                have hV : VP S i j pk := by rw [← hpk]; exact (hv.2.2.2.1 kk hkn).2.1
                have hV1 := hV.1
                have hV2 := hV.2
                have hp16 := VP_16 hO hV
                have hX := nxP_V hO (i := i) (j := j) (p := pk) (b := b)
                have hX16 := VP_16 hO hX.1
                unfold nxP at hX16
                refine r_iload C 11 dX1_statesLike_89 rfl ?_
                refine r_iconst C dX1_statesLike_91 (v := nI 3) (by decide) ?_
                refine r_icmpN_ge C dX1_statesLike_92 (tgt := 156) (by decide) (by omega) (by omega) (fun h92 => ?_) (fun h92 => ?_)
                · refine r_iinc C [(0, .ref (ad 11)), (1, .ref (ad 3)), (2, .int (nI (i))), (3, .int (nI (s))), (4, .int (nI (j))), (5, .int (nI (t))), (6, .int (nI (met))), (7, .int (nI (n))), (8, .int (nI (kk + 1))), (9, .int (nI (pk / 4))), (10, .int (nI (pk % 4))), (11, .int (nI (b)))] [1, 2, 3, 4, 5, 6, 7, 8, 0, 9, 10, 11] 8 dX1_statesLike_156 rfl (nI_add _ 1) (by decide) rfl ?_
                  refine r_goto C dX1_statesLike_159 (tgt := 28) (by decide) ?_
                  refine r_lvs C [0, 1, 2, 3, 4, 5, 6, 7, 8] (lv' := [(0, .ref (ad 11)), (1, .ref (ad 3)), (2, .int (nI (i))), (3, .int (nI (s))), (4, .int (nI (j))), (5, .int (nI (t))), (6, .int (nI (met))), (7, .int (nI (n))), (8, .int (nI (kk + 1)))]) rfl ?_
                  exact iho (kk + 1) n met P v (by omega) (by omega) (((show b = 3 by omega) ▸ hv).row hkn (by rw [hpk]; exact h81)) hC
                · refine r_aload_n C 1 dX1_statesLike_95 rfl rfl ?_
                  refine r_iload_n C 2 dX1_statesLike_96 rfl rfl ?_
                  refine r_iload C 9 dX1_statesLike_97 rfl ?_
                  refine r_iload C 11 dX1_statesLike_99 rfl ?_
                  refine r_callVi C (rest := []) (c_X2_nextOf l g ad v S hC hO i (by assumption) (pk / 4) b (by first | assumption | omega) (by first | assumption | omega | exact hO.a _ _)) gX1_statesLike_X2_nextOf pk_X2_nextOf k_3 dX1_statesLike_101 rfl rfl rfl rfl ⟨(Nat.le_of_ble_eq_true rfl), (Nat.le_of_ble_eq_true rfl)⟩ rfl rfl (Nat.le_of_ble_eq_true rfl) ⟨(Nat.le_of_ble_eq_true rfl), (Nat.le_of_ble_eq_true rfl)⟩ ?_
                  rintro _ _ ⟨rfl, rfl⟩
                  refine r_aload_n C 1 dX1_statesLike_104 rfl rfl ?_
                  refine r_iload C 4 dX1_statesLike_105 rfl ?_
                  refine r_iload C 10 dX1_statesLike_107 rfl ?_
                  refine r_iload C 11 dX1_statesLike_109 rfl ?_
                  refine r_callVi C (rest := [.int (nI (sx S i (pk / 4) b))]) (c_X2_nextOf l g ad v S hC hO j (by assumption) (pk % 4) b (by first | assumption | omega) (by first | assumption | omega | exact hO.a _ _)) gX1_statesLike_X2_nextOf pk_X2_nextOf k_3 dX1_statesLike_111 rfl rfl rfl rfl ⟨(Nat.le_of_ble_eq_true rfl), (Nat.le_of_ble_eq_true rfl)⟩ rfl rfl (Nat.le_of_ble_eq_true rfl) ⟨(Nat.le_of_ble_eq_true rfl), (Nat.le_of_ble_eq_true rfl)⟩ ?_
                  rintro _ _ ⟨rfl, rfl⟩
                  refine r_callSi C (rest := []) (c_X6_placeOf l g ad v (sx S i (pk / 4) b) (sx S j (pk % 4) b)) gX1_statesLike_X6_placeOf pk_X6_placeOf dX1_statesLike_114 rfl rfl rfl rfl ⟨(Nat.le_of_ble_eq_true rfl), (Nat.le_of_ble_eq_true rfl)⟩ rfl (Nat.le_of_ble_eq_true rfl) ⟨(Nat.le_of_ble_eq_true rfl), (Nat.le_of_ble_eq_true rfl)⟩ ?_
                  rintro _ _ ⟨rfl, rfl⟩
                  refine r_istore C [(0, .ref (ad 11)), (1, .ref (ad 3)), (2, .int (nI (i))), (3, .int (nI (s))), (4, .int (nI (j))), (5, .int (nI (t))), (6, .int (nI (met))), (7, .int (nI (n))), (8, .int (nI (kk))), (9, .int (nI (pk / 4))), (10, .int (nI (pk % 4))), (11, .int (nI (b))), (12, .int (nI (4 * (sx S i (pk / 4) b) + (sx S j (pk % 4) b))))] [1, 2, 3, 4, 5, 6, 7, 8, 9, 10, 11, 12, 0] dX1_statesLike_117 (by decide) rfl ?_
                  refine r_iload C 6 dX1_statesLike_119 rfl ?_
                  refine r_iload C 12 dX1_statesLike_121 rfl ?_
                  refine r_callSi C (rest := []) (c_X1_holds l g ad v met (4 * (sx S i (pk / 4) b) + (sx S j (pk % 4) b)) (by omega) (by omega)) gX1_statesLike_X1_holds pk_X1_holds dX1_statesLike_123 rfl rfl rfl rfl ⟨(Nat.le_of_ble_eq_true rfl), (Nat.le_of_ble_eq_true rfl)⟩ rfl (Nat.le_of_ble_eq_true rfl) ⟨(Nat.le_of_ble_eq_true rfl), (Nat.le_of_ble_eq_true rfl)⟩ ?_
                  rintro _ _ ⟨rfl, rfl⟩
                  refine r_ifB_ne C dX1_statesLike_126 (tgt := 150) (by decide) (fun h126 => ?_) (fun h126 => ?_)
                  · refine r_iinc C [(0, .ref (ad 11)), (1, .ref (ad 3)), (2, .int (nI (i))), (3, .int (nI (s))), (4, .int (nI (j))), (5, .int (nI (t))), (6, .int (nI (met))), (7, .int (nI (n))), (8, .int (nI (kk))), (9, .int (nI (pk / 4))), (10, .int (nI (pk % 4))), (11, .int (nI (b + 1))), (12, .int (nI (4 * (sx S i (pk / 4) b) + (sx S j (pk % 4) b))))] [1, 2, 3, 4, 5, 6, 7, 8, 9, 10, 11, 0, 12] 11 dX1_statesLike_150 rfl (nI_add _ 1) (by decide) rfl ?_
                    refine r_goto C dX1_statesLike_153 (tgt := 89) (by decide) ?_
                    refine r_lvs C [0, 1, 2, 3, 4, 5, 6, 7, 8, 9, 10, 11] (lv' := [(0, .ref (ad 11)), (1, .ref (ad 3)), (2, .int (nI (i))), (3, .int (nI (s))), (4, .int (nI (j))), (5, .int (nI (t))), (6, .int (nI (met))), (7, .int (nI (n))), (8, .int (nI (kk))), (9, .int (nI (pk / 4))), (10, .int (nI (pk % 4))), (11, .int (nI (b + 1)))]) rfl ?_
                    exact ih (b + 1) n met P v (by omega) (by omega) hkn hpk (hv.old hO (by rw [hpk]; exact h126)) hC
                  · have hrm := hv.room hO hX.1 h126
                    refine r_iload C 6 dX1_statesLike_129 rfl ?_
                    refine r_iconst C dX1_statesLike_131 (v := nI 1) (by decide) ?_
                    refine r_iload C 12 dX1_statesLike_132 rfl ?_
                    refine r_ishlN C dX1_statesLike_134 (by omega) ?_
                    refine r_iorN C dX1_statesLike_135 ?_
                    refine r_istore C [(0, .ref (ad 11)), (1, .ref (ad 3)), (2, .int (nI (i))), (3, .int (nI (s))), (4, .int (nI (j))), (5, .int (nI (t))), (6, .int (nI (met ||| (2 ^ (4 * (sx S i (pk / 4) b) + (sx S j (pk % 4) b)))))), (7, .int (nI (n))), (8, .int (nI (kk))), (9, .int (nI (pk / 4))), (10, .int (nI (pk % 4))), (11, .int (nI (b))), (12, .int (nI (4 * (sx S i (pk / 4) b) + (sx S j (pk % 4) b))))] [1, 2, 3, 4, 5, 6, 0, 7, 8, 9, 10, 11, 12] dX1_statesLike_136 (by decide) rfl ?_
                    refine r_aload_n C 0 dX1_statesLike_138 rfl rfl ?_
                    refine r_get C (CN := RX1) (T := TX1) (N := 1) k_11 rfl hin_X1 (j := 0) (by decide) hk_9 rfl rfl dX1_statesLike_139 ?_
                    refine r_iload C 7 dX1_statesLike_142 rfl ?_
                    refine r_iload C 12 dX1_statesLike_144 rfl ?_
                    refine r_iast C k_12 (by omega) (by omega) dX1_statesLike_146 ?_
                    refine r_iinc C [(0, .ref (ad 11)), (1, .ref (ad 3)), (2, .int (nI (i))), (3, .int (nI (s))), (4, .int (nI (j))), (5, .int (nI (t))), (6, .int (nI (met ||| (2 ^ (4 * (sx S i (pk / 4) b) + (sx S j (pk % 4) b)))))), (7, .int (nI (n + 1))), (8, .int (nI (kk))), (9, .int (nI (pk / 4))), (10, .int (nI (pk % 4))), (11, .int (nI (b))), (12, .int (nI (4 * (sx S i (pk / 4) b) + (sx S j (pk % 4) b))))] [1, 2, 3, 4, 5, 6, 7, 0, 8, 9, 10, 11, 12] 7 dX1_statesLike_147 rfl (nI_add _ 1) (by decide) rfl ?_
                    refine r_iinc C [(0, .ref (ad 11)), (1, .ref (ad 3)), (2, .int (nI (i))), (3, .int (nI (s))), (4, .int (nI (j))), (5, .int (nI (t))), (6, .int (nI (met ||| (2 ^ (4 * (sx S i (pk / 4) b) + (sx S j (pk % 4) b)))))), (7, .int (nI (n + 1))), (8, .int (nI (kk))), (9, .int (nI (pk / 4))), (10, .int (nI (pk % 4))), (11, .int (nI (b + 1))), (12, .int (nI (4 * (sx S i (pk / 4) b) + (sx S j (pk % 4) b))))] [1, 2, 3, 4, 5, 6, 7, 8, 9, 10, 11, 0, 12] 11 dX1_statesLike_150 rfl (nI_add _ 1) (by decide) rfl ?_
                    refine r_goto C dX1_statesLike_153 (tgt := 89) (by decide) ?_
                    refine r_lvs C [0, 1, 2, 3, 4, 5, 6, 7, 8, 9, 10, 11] (lv' := [(0, .ref (ad 11)), (1, .ref (ad 3)), (2, .int (nI (i))), (3, .int (nI (s))), (4, .int (nI (j))), (5, .int (nI (t))), (6, .int (nI (met ||| (2 ^ (4 * (sx S i (pk / 4) b) + (sx S j (pk % 4) b)))))), (7, .int (nI (n + 1))), (8, .int (nI (kk))), (9, .int (nI (pk / 4))), (10, .int (nI (pk % 4))), (11, .int (nI (b + 1)))]) rfl ?_
                    have hadd := hv.add hO hkn (by omega) (by rw [hpk]; exact h126)
                    rw [hpk] at hadd
                    exact ih (b + 1) (n + 1) _ _ _ (by omega) (by omega) (by omega) (by show (if kk = n then _ else P kk) = pk; rw [if_neg (by omega)]; exact hpk) hadd (hC.sA (by decide) _)
            exact L89 4 0 n met P v (by omega) (by omega) hkn0 hpk hv hC
          · refine r_iconst C dX1_statesLike_84 (v := nI 0) (by decide) ?_
            exact E.2.2.1 rfl _ _ _ _ dX1_statesLike_85 (Or.inl rfl) ⟨_, rfl, ⟨bF (hv.bad hkn0 h81), hv.1⟩⟩
  exact L28 17 0 1 _ _ _ (by omega) (by omega) (SLI.init hO u hs ht) (hC.sA (by decide) _)
def rmX1_areLike : Room := { frames := 2, cells := 0, slots := 0, locals := 55 }
theorem pk_X1_areLike : Pk yX1_areLike RX1 3 := by decide +kernel
set_option maxHeartbeats 4000000 in
set_option maxRecDepth 100000 in
theorem c_X1_areLike (l : Launch) (g : gE) (ad : Nat → Nat) (u : Me) (S : Sg) (hC : RepC S u) (hO : Ok S) (i j : Nat) (hi : i < sN S) (hj : j < sN S) : Cti l yX1_areLike wsX1_areLike rmX1_areLike g ad [.ref (ad 11), .ref (ad 3), .int (nI (i)), .int (nI (j))] u (fun r u' => bI (Lk S i 0 j 0) = r ∧ Sm [12] [] [] [] u u') := by
  refine Ct.of (cc := cX1_areLike) (nL := 4) (ret := (some .boolean)) RX1 (by decide) rfl rfl (Nat.le_of_ble_eq_true rfl) (fun kx C E => ?_)
  show G kx 0 0 (WW g ad u) 0 [(0, .ref (ad 11)), (1, .ref (ad 3)), (2, .int (nI (i))), (3, .int (nI (j)))] []
  have hz1 := (hO.z i).1
  have hz2 := (hO.z j).1
  refine r_aload_n C 0 dX1_areLike_0 rfl rfl ?_
  refine r_aload_n C 1 dX1_areLike_1 rfl rfl ?_
  refine r_iload_n C 2 dX1_areLike_2 rfl rfl ?_
  refine r_iconst C dX1_areLike_3 (v := nI 0) (by decide) ?_
  refine r_iload_n C 3 dX1_areLike_4 rfl rfl ?_
  refine r_iconst C dX1_areLike_5 (v := nI 0) (by decide) ?_
  refine r_callVi C (rest := []) (c_X1_statesLike l g ad u S hC hO i 0 j 0 (by assumption) (by first | assumption | omega) (by assumption) (by first | assumption | omega)) gX1_areLike_X1_statesLike pk_X1_statesLike k_11 dX1_areLike_6 rfl rfl rfl rfl ⟨(Nat.le_of_ble_eq_true rfl), (Nat.le_of_ble_eq_true rfl)⟩ rfl rfl (Nat.le_of_ble_eq_true rfl) ⟨(Nat.le_of_ble_eq_true rfl), (Nat.le_of_ble_eq_true rfl)⟩ ?_
  rintro _ vl1 ⟨rfl, hsL⟩
  have hC : RepC S vl1 := hC.sm hsL (by unfold leC; decide)
  exact E.2.2.1 rfl _ _ _ _ dX1_areLike_9 (bI_01 _) ⟨_, rfl, ⟨rfl, hsL⟩⟩
def rmX1_isNew : Room := { frames := 3, cells := 0, slots := 0, locals := 78 }
theorem pk_X1_isNew : Pk yX1_isNew RX1 2 := by decide +kernel
set_option maxHeartbeats 4000000 in
set_option maxRecDepth 100000 in
theorem c_X1_isNew (l : Launch) (g : gE) (ad : Nat → Nat) (u : Me) (S : Sg) (hC : RepC S u) (hO : Ok S) (m : Nat) (hm : m < sN S) : Cti l yX1_isNew wsX1_isNew rmX1_isNew g ad [.ref (ad 11), .ref (ad 3), .int (nI (m))] u (fun r u' => bI (∀ i, i < m → ¬ Lk S i 0 m 0) = r ∧ Sm [12] [] [] [] u u') := by
  refine Ct.of (cc := cX1_isNew) (nL := 4) (ret := (some .boolean)) RX1 (by decide) rfl rfl (Nat.le_of_ble_eq_true rfl) (fun kx C E => ?_)
  show G kx 0 0 (WW g ad u) 0 [(0, .ref (ad 11)), (1, .ref (ad 3)), (2, .int (nI (m)))] []
  have hn := hO.n
  refine r_iconst C dX1_isNew_0 (v := nI 0) (by decide) ?_
  refine r_istore_n C [(0, .ref (ad 11)), (1, .ref (ad 3)), (2, .int (nI (m))), (3, .int (nI (0)))] [1, 2, 3, 0] dX1_isNew_1 rfl (by decide) rfl ?_
  have L2 : ∀ (fu : Nat) (i : Nat) (v : Me), m < i + fu → (i ≤ m) → (Sm [12] [] [] [] u v) → (∀ c, c < i → ¬ Lk S c 0 m 0) → (RepC S v) → G kx 0 0 (WW g ad v) 2 [(0, .ref (ad 11)), (1, .ref (ad 3)), (2, .int (nI (m))), (3, .int (nI (i)))] [] := by
    intro fu
    induction fu with
    | zero => intro i v hfu hi hv hP hC; exact absurd hfu (by omega)
    | succ fu ih =>
      intro i v hfu hi hv hP hC
      refine r_iload_n C 3 dX1_isNew_2 rfl rfl ?_
      refine r_iload_n C 2 dX1_isNew_3 rfl rfl ?_
      refine r_icmpN_ge C dX1_isNew_4 (tgt := 25) (by decide) (by omega) (by omega) (fun h4 => ?_) (fun h4 => ?_)
      · refine r_iconst C dX1_isNew_25 (v := nI 1) (by decide) ?_
        exact E.2.2.1 rfl _ _ _ _ dX1_isNew_26 (Or.inr rfl) ⟨_, rfl, ⟨bT (fun c hc => hP c (by omega)), hv⟩⟩
      · refine r_aload_n C 0 dX1_isNew_7 rfl rfl ?_
        refine r_aload_n C 1 dX1_isNew_8 rfl rfl ?_
        refine r_iload_n C 3 dX1_isNew_9 rfl rfl ?_
        refine r_iload_n C 2 dX1_isNew_10 rfl rfl ?_
        refine r_callVi C (rest := []) (c_X1_areLike l g ad v S hC hO i m (by first | assumption | omega) (by first | assumption | omega)) gX1_isNew_X1_areLike pk_X1_areLike k_11 dX1_isNew_11 rfl rfl rfl rfl ⟨(Nat.le_of_ble_eq_true rfl), (Nat.le_of_ble_eq_true rfl)⟩ rfl rfl (Nat.le_of_ble_eq_true rfl) ⟨(Nat.le_of_ble_eq_true rfl), (Nat.le_of_ble_eq_true rfl)⟩ ?_
        rintro _ vl1 ⟨rfl, hsL⟩
        have hC : RepC S vl1 := hC.sm hsL (by unfold leC; decide)
        refine r_ifB_eq C dX1_isNew_14 (tgt := 19) (by decide) (fun h14 => ?_) (fun h14 => ?_)
        · refine r_iinc C [(0, .ref (ad 11)), (1, .ref (ad 3)), (2, .int (nI (m))), (3, .int (nI (i + 1)))] [1, 2, 3, 0] 3 dX1_isNew_19 rfl (nI_add _ 1) (by decide) rfl ?_
          refine r_goto C dX1_isNew_22 (tgt := 2) (by decide) ?_
          exact ih (i + 1) _ (by omega) (by omega) (hv.tr hsL) (fun c hc => by rcases Nat.lt_or_ge c i with z | z; exact hP c z; rw [show c = i by omega]; exact h14) hC
        · refine r_iconst C dX1_isNew_17 (v := nI 0) (by decide) ?_
          exact E.2.2.1 rfl _ _ _ _ dX1_isNew_18 (Or.inl rfl) ⟨_, rfl, ⟨bF (fun q => q i (by omega) h14), hv.tr hsL⟩⟩
  exact L2 (m + 1) 0 u (by omega) (by omega) Sm.rf (fun c hc => absurd hc (by omega)) hC
def rmX1_unlikeMachines : Room := { frames := 4, cells := 0, slots := 0, locals := 101 }
theorem pk_X1_unlikeMachines : Pk yX1_unlikeMachines RX1 1 := by decide +kernel
set_option maxHeartbeats 4000000 in
set_option maxRecDepth 100000 in
theorem c_X1_unlikeMachines (l : Launch) (g : gE) (ad : Nat → Nat) (u : Me) (S : Sg) (hC : RepC S u) (hO : Ok S) : Cti l yX1_unlikeMachines wsX1_unlikeMachines rmX1_unlikeMachines g ad [.ref (ad 11), .ref (ad 3)] u (fun r u' => nI (cntN (fun m => ∀ i, i < m → ¬ Lk S i 0 m 0) (sN S)) = r ∧ Sm [12] [] [] [] u u') := by
  refine Ct.of (cc := cX1_unlikeMachines) (nL := 4) (ret := (some .int)) RX1 (by decide) rfl rfl (Nat.le_of_ble_eq_true rfl) (fun kx C E => ?_)
  show G kx 0 0 (WW g ad u) 0 [(0, .ref (ad 11)), (1, .ref (ad 3))] []
  have hn := hO.n
  refine r_iconst C dX1_unlikeMachines_0 (v := nI 0) (by decide) ?_
  refine r_istore_n C [(0, .ref (ad 11)), (1, .ref (ad 3)), (2, .int (nI (0)))] [1, 2, 0] dX1_unlikeMachines_1 rfl (by decide) rfl ?_
  refine r_iconst C dX1_unlikeMachines_2 (v := nI 0) (by decide) ?_
  refine r_istore_n C [(0, .ref (ad 11)), (1, .ref (ad 3)), (2, .int (nI (0))), (3, .int (nI (0)))] [1, 2, 3, 0] dX1_unlikeMachines_3 rfl (by decide) rfl ?_
  have L4 : ∀ (fu : Nat) (m : Nat) (v : Me), sN S < m + fu → (m ≤ sN S) → (Sm [12] [] [] [] u v) → (RepC S v) → G kx 0 0 (WW g ad v) 4 [(0, .ref (ad 11)), (1, .ref (ad 3)), (2, .int (nI (cntN (fun m => ∀ i, i < m → ¬ Lk S i 0 m 0) m))), (3, .int (nI (m)))] [] := by
    intro fu
    induction fu with
    | zero => intro m v hfu hm hv hC; exact absurd hfu (by omega)
    | succ fu ih =>
      intro m v hfu hm hv hC
      refine r_iload_n C 3 dX1_unlikeMachines_4 rfl rfl ?_
      refine r_aload_n C 1 dX1_unlikeMachines_5 rfl rfl ?_
      refine r_callVi C (rest := [.int (nI (m))]) (c_X2_many l g ad v S hC hO) gX1_unlikeMachines_X2_many pk_X2_many k_3 dX1_unlikeMachines_6 rfl rfl rfl rfl ⟨(Nat.le_of_ble_eq_true rfl), (Nat.le_of_ble_eq_true rfl)⟩ rfl rfl (Nat.le_of_ble_eq_true rfl) ⟨(Nat.le_of_ble_eq_true rfl), (Nat.le_of_ble_eq_true rfl)⟩ ?_
      rintro _ _ ⟨rfl, rfl⟩
      refine r_icmpN_ge C dX1_unlikeMachines_9 (tgt := 30) (by decide) (by omega) (by omega) (fun h9 => ?_) (fun h9 => ?_)
      · refine r_iload_n C 2 dX1_unlikeMachines_30 rfl rfl ?_
        exact E.2.1 rfl _ _ _ _ dX1_unlikeMachines_31 ⟨_, rfl, ⟨by rw [show m = sN S by omega], hv⟩⟩
      · refine r_aload_n C 0 dX1_unlikeMachines_12 rfl rfl ?_
        refine r_aload_n C 1 dX1_unlikeMachines_13 rfl rfl ?_
        refine r_iload_n C 3 dX1_unlikeMachines_14 rfl rfl ?_
        refine r_callVi C (rest := []) (c_X1_isNew l g ad v S hC hO m (by first | assumption | omega)) gX1_unlikeMachines_X1_isNew pk_X1_isNew k_11 dX1_unlikeMachines_15 rfl rfl rfl rfl ⟨(Nat.le_of_ble_eq_true rfl), (Nat.le_of_ble_eq_true rfl)⟩ rfl rfl (Nat.le_of_ble_eq_true rfl) ⟨(Nat.le_of_ble_eq_true rfl), (Nat.le_of_ble_eq_true rfl)⟩ ?_
        rintro _ vl1 ⟨rfl, hsL⟩
        have hC : RepC S vl1 := hC.sm hsL (by unfold leC; decide)
        refine r_ifB_eq C dX1_unlikeMachines_18 (tgt := 24) (by decide) (fun h18 => ?_) (fun h18 => ?_)
        · refine r_iinc C [(0, .ref (ad 11)), (1, .ref (ad 3)), (2, .int (nI (cntN (fun m => ∀ i, i < m → ¬ Lk S i 0 m 0) m))), (3, .int (nI (m + 1)))] [1, 2, 3, 0] 3 dX1_unlikeMachines_24 rfl (nI_add _ 1) (by decide) rfl ?_
          refine r_goto C dX1_unlikeMachines_27 (tgt := 4) (by decide) ?_
          rw [← cntN_f (P := (fun m => ∀ i, i < m → ¬ Lk S i 0 m 0)) h18]
          exact ih (m + 1) _ (by omega) (by omega) (hv.tr hsL) hC
        · refine r_iinc C [(0, .ref (ad 11)), (1, .ref (ad 3)), (2, .int (nI ((cntN (fun m => ∀ i, i < m → ¬ Lk S i 0 m 0) m) + 1))), (3, .int (nI (m)))] [1, 2, 0, 3] 2 dX1_unlikeMachines_21 rfl (nI_add _ 1) (by decide) rfl ?_
          refine r_iinc C [(0, .ref (ad 11)), (1, .ref (ad 3)), (2, .int (nI ((cntN (fun m => ∀ i, i < m → ¬ Lk S i 0 m 0) m) + 1))), (3, .int (nI (m + 1)))] [1, 2, 3, 0] 3 dX1_unlikeMachines_24 rfl (nI_add _ 1) (by decide) rfl ?_
          refine r_goto C dX1_unlikeMachines_27 (tgt := 4) (by decide) ?_
          rw [← cntN_t (P := (fun m => ∀ i, i < m → ¬ Lk S i 0 m 0)) h18]
          exact ih (m + 1) _ (by omega) (by omega) (hv.tr hsL) hC
  exact L4 (sN S + 1) 0 u (by omega) (by omega) Sm.rf hC
def rmX1_isNewState : Room := { frames := 2, cells := 0, slots := 0, locals := 55 }
theorem pk_X1_isNewState : Pk yX1_isNewState RX1 4 := by decide +kernel
set_option maxHeartbeats 4000000 in
set_option maxRecDepth 100000 in
theorem c_X1_isNewState (l : Launch) (g : gE) (ad : Nat → Nat) (u : Me) (S : Sg) (hC : RepC S u) (hO : Ok S) (m s q : Nat) (hm : m < sN S) (hs : s < sz S m) (hq : q < 16) : Cti l yX1_isNewState wsX1_isNewState rmX1_isNewState g ad [.ref (ad 11), .ref (ad 3), .int (nI (m)), .int (nI (s)), .int (nI (q))] u (fun r u' => bI (∀ t, t < s → q.testBit t = true → ¬ Lk S m s m t) = r ∧ Sm [12] [] [] [] u u') := by
  refine Ct.of (cc := cX1_isNewState) (nL := 6) (ret := (some .boolean)) RX1 (by decide) rfl rfl (Nat.le_of_ble_eq_true rfl) (fun kx C E => ?_)
  show G kx 0 0 (WW g ad u) 0 [(0, .ref (ad 11)), (1, .ref (ad 3)), (2, .int (nI (m))), (3, .int (nI (s))), (4, .int (nI (q)))] []
  have hn := hO.n
  have hz := hO.z m
  refine r_iconst C dX1_isNewState_0 (v := nI 0) (by decide) ?_
  refine r_istore C [(0, .ref (ad 11)), (1, .ref (ad 3)), (2, .int (nI (m))), (3, .int (nI (s))), (4, .int (nI (q))), (5, .int (nI (0)))] [1, 2, 3, 4, 5, 0] dX1_isNewState_1 (by decide) rfl ?_
  have L3 : ∀ (fu : Nat) (t : Nat) (v : Me), s < t + fu → (t ≤ s) → (Sm [12] [] [] [] u v) → (∀ c, c < t → q.testBit c = true → ¬ Lk S m s m c) → (RepC S v) → G kx 0 0 (WW g ad v) 3 [(0, .ref (ad 11)), (1, .ref (ad 3)), (2, .int (nI (m))), (3, .int (nI (s))), (4, .int (nI (q))), (5, .int (nI (t)))] [] := by
    intro fu
    induction fu with
    | zero => intro t v hfu hts hv hP hC; exact absurd hfu (by omega)
    | succ fu ih =>
      intro t v hfu hts hv hP hC
      refine r_iload C 5 dX1_isNewState_3 rfl ?_
      refine r_iload_n C 3 dX1_isNewState_5 rfl rfl ?_
      refine r_icmpN_ge C dX1_isNewState_6 (tgt := 40) (by decide) (by omega) (by omega) (fun h6 => ?_) (fun h6 => ?_)
      · refine r_iconst C dX1_isNewState_40 (v := nI 1) (by decide) ?_
        exact E.2.2.1 rfl _ _ _ _ dX1_isNewState_41 (Or.inr rfl) ⟨_, rfl, ⟨bT (fun c hc => hP c (by omega)), hv⟩⟩
      · refine r_iload C 4 dX1_isNewState_9 rfl ?_
        refine r_iload C 5 dX1_isNewState_11 rfl ?_
        refine r_callSi C (rest := []) (c_X1_holds l g ad v q t (by omega) (by omega)) gX1_isNewState_X1_holds pk_X1_holds dX1_isNewState_13 rfl rfl rfl rfl ⟨(Nat.le_of_ble_eq_true rfl), (Nat.le_of_ble_eq_true rfl)⟩ rfl (Nat.le_of_ble_eq_true rfl) ⟨(Nat.le_of_ble_eq_true rfl), (Nat.le_of_ble_eq_true rfl)⟩ ?_
        rintro _ _ ⟨rfl, rfl⟩
        refine r_ifB_eq C dX1_isNewState_16 (tgt := 34) (by decide) (fun h16 => ?_) (fun h16 => ?_)
        · refine r_iinc C [(0, .ref (ad 11)), (1, .ref (ad 3)), (2, .int (nI (m))), (3, .int (nI (s))), (4, .int (nI (q))), (5, .int (nI (t + 1)))] [1, 2, 3, 4, 5, 0] 5 dX1_isNewState_34 rfl (nI_add _ 1) (by decide) rfl ?_
          refine r_goto C dX1_isNewState_37 (tgt := 3) (by decide) ?_
          exact ih (t + 1) _ (by omega) (by omega) hv (fun c hc hb => by rcases Nat.lt_or_ge c t with z | z; exact hP c z hb; (rw [show c = t by omega] at hb; exact absurd hb h16)) hC
        · refine r_aload_n C 0 dX1_isNewState_19 rfl rfl ?_
          refine r_aload_n C 1 dX1_isNewState_20 rfl rfl ?_
          refine r_iload_n C 2 dX1_isNewState_21 rfl rfl ?_
          refine r_iload_n C 3 dX1_isNewState_22 rfl rfl ?_
          refine r_iload_n C 2 dX1_isNewState_23 rfl rfl ?_
          refine r_iload C 5 dX1_isNewState_24 rfl ?_
          refine r_callVi C (rest := []) (c_X1_statesLike l g ad v S hC hO m s m t (by assumption) (by first | assumption | omega) (by assumption) (by first | assumption | omega)) gX1_isNewState_X1_statesLike pk_X1_statesLike k_11 dX1_isNewState_26 rfl rfl rfl rfl ⟨(Nat.le_of_ble_eq_true rfl), (Nat.le_of_ble_eq_true rfl)⟩ rfl rfl (Nat.le_of_ble_eq_true rfl) ⟨(Nat.le_of_ble_eq_true rfl), (Nat.le_of_ble_eq_true rfl)⟩ ?_
          rintro _ vl1 ⟨rfl, hsL⟩
          have hC : RepC S vl1 := hC.sm hsL (by unfold leC; decide)
          refine r_ifB_eq C dX1_isNewState_29 (tgt := 34) (by decide) (fun h29 => ?_) (fun h29 => ?_)
          · refine r_iinc C [(0, .ref (ad 11)), (1, .ref (ad 3)), (2, .int (nI (m))), (3, .int (nI (s))), (4, .int (nI (q))), (5, .int (nI (t + 1)))] [1, 2, 3, 4, 5, 0] 5 dX1_isNewState_34 rfl (nI_add _ 1) (by decide) rfl ?_
            refine r_goto C dX1_isNewState_37 (tgt := 3) (by decide) ?_
            exact ih (t + 1) _ (by omega) (by omega) (hv.tr hsL) (fun c hc hb => by rcases Nat.lt_or_ge c t with z | z; exact hP c z hb; rw [show c = t by omega]; exact h29) hC
          · refine r_iconst C dX1_isNewState_32 (v := nI 0) (by decide) ?_
            exact E.2.2.1 rfl _ _ _ _ dX1_isNewState_33 (Or.inl rfl) ⟨_, rfl, ⟨bF (fun z => z t (by omega) h16 h29), hv.tr hsL⟩⟩
  exact L3 (s + 1) 0 u (by omega) (by omega) Sm.rf (fun c hc => absurd hc (by omega)) hC
def rmX1_reachedStates : Room := { frames := 1, cells := 0, slots := 0, locals := 23 }
theorem pk_X1_reachedStates : Pk yX1_reachedStates RX1 2 := by decide +kernel
set_option maxHeartbeats 4000000 in
set_option maxRecDepth 100000 in
theorem c_X1_reachedStates (l : Launch) (g : gE) (ad : Nat → Nat) (u : Me) (S : Sg) (hC : RepC S u) (hO : Ok S) (m : Nat) (hm : m < sN S) : Cti l yX1_reachedStates wsX1_reachedStates rmX1_reachedStates g ad [.ref (ad 3), .int (nI (m))] u (fun r u' => nI (rcP S m 4) = r ∧ u = u') := by
  refine Ct.of (cc := cX1_reachedStates) (nL := 6) (ret := (some .int)) RX1 (by decide) rfl rfl (Nat.le_of_ble_eq_true rfl) (fun kx C E => ?_)
  show G kx 0 0 (WW g ad u) 0 [(0, .ref (ad 3)), (1, .int (nI (m)))] []
  have hn := hO.n
  have hz := hO.z m
  refine r_iconst C dX1_reachedStates_0 (v := nI 1) (by decide) ?_
  refine r_istore_n C [(0, .ref (ad 3)), (1, .int (nI (m))), (2, .int (nI (1)))] [1, 2, 0] dX1_reachedStates_1 rfl (by decide) rfl ?_
  refine r_iconst C dX1_reachedStates_2 (v := nI 0) (by decide) ?_
  refine r_istore_n C [(0, .ref (ad 3)), (1, .int (nI (m))), (2, .int (nI (1))), (3, .int (nI (0)))] [1, 2, 3, 0] dX1_reachedStates_3 rfl (by decide) rfl ?_
  have L4 : ∀ (fu : Nat) (p : Nat), 4 < p + fu → (p ≤ 4) → G kx 0 0 (WW g ad u) 4 [(0, .ref (ad 3)), (1, .int (nI (m))), (2, .int (nI (rcP S m p))), (3, .int (nI (p)))] [] := by
    intro fu
    induction fu with
    | zero => intro p hfu hp; exact absurd hfu (by omega)
    | succ fu ih =>
      intro p hfu hp
      refine r_iload_n C 3 dX1_reachedStates_4 rfl rfl ?_
      refine r_iconst C dX1_reachedStates_5 (v := nI 4) (by decide) ?_
      refine r_icmpN_ge C dX1_reachedStates_6 (tgt := 72) (by decide) (by omega) (by omega) (fun h6 => ?_) (fun h6 => ?_)
      · refine r_iload_n C 2 dX1_reachedStates_72 rfl rfl ?_
        exact E.2.1 rfl _ _ _ _ dX1_reachedStates_73 ⟨_, rfl, ⟨by rw [show p = 4 by omega], rfl⟩⟩
      · refine r_iconst C dX1_reachedStates_9 (v := nI 0) (by decide) ?_
        refine r_istore C [(0, .ref (ad 3)), (1, .int (nI (m))), (2, .int (nI (rcP S m p))), (3, .int (nI (p))), (4, .int (nI (0)))] [1, 2, 3, 4, 0] dX1_reachedStates_10 (by decide) rfl ?_
        have ihp := ih
        have L12 : ∀ (fu : Nat) (s : Nat), sz S m < s + fu → (s ≤ sz S m) → G kx 0 0 (WW g ad u) 12 [(0, .ref (ad 3)), (1, .int (nI (m))), (2, .int (nI (rcS S m (rcP S m p) s))), (3, .int (nI (p))), (4, .int (nI (s)))] [] := by
          intro fu
          induction fu with
          | zero => intro s hfu hs; exact absurd hfu (by omega)
          | succ fu ih =>
            intro s hfu hs
            refine r_iload C 4 dX1_reachedStates_12 rfl ?_
            refine r_aload_n C 0 dX1_reachedStates_14 rfl rfl ?_
            refine r_iload_n C 1 dX1_reachedStates_15 rfl rfl ?_
            refine r_callVi C (rest := [.int (nI (s))]) (c_X2_statesOf l g ad u S hC hO m (by assumption)) gX1_reachedStates_X2_statesOf pk_X2_statesOf k_3 dX1_reachedStates_16 rfl rfl rfl rfl ⟨(Nat.le_of_ble_eq_true rfl), (Nat.le_of_ble_eq_true rfl)⟩ rfl rfl (Nat.le_of_ble_eq_true rfl) ⟨(Nat.le_of_ble_eq_true rfl), (Nat.le_of_ble_eq_true rfl)⟩ ?_
            rintro _ _ ⟨rfl, rfl⟩
            refine r_icmpN_ge C dX1_reachedStates_19 (tgt := 66) (by decide) (by omega) (by omega) (fun h19 => ?_) (fun h19 => ?_)
            · refine r_iinc C [(0, .ref (ad 3)), (1, .int (nI (m))), (2, .int (nI (rcS S m (rcP S m p) s))), (3, .int (nI (p + 1))), (4, .int (nI (s)))] [1, 2, 3, 0, 4] 3 dX1_reachedStates_66 rfl (nI_add _ 1) (by decide) rfl ?_
              refine r_goto C dX1_reachedStates_69 (tgt := 4) (by decide) ?_
              refine r_lvs C [0, 1, 2, 3] (lv' := [(0, .ref (ad 3)), (1, .int (nI (m))), (2, .int (nI (rcS S m (rcP S m p) s))), (3, .int (nI (p + 1)))]) rfl ?_
              rw [show rcS S m (rcP S m p) s = rcP S m (p + 1) by rw [show s = sz S m by omega]; rfl]
              exact ihp (p + 1) (by omega) (by omega)
            · have hsl : s < sz S m := by omega
              refine r_iconst C dX1_reachedStates_22 (v := nI 0) (by decide) ?_
              refine r_istore C [(0, .ref (ad 3)), (1, .int (nI (m))), (2, .int (nI (rcS S m (rcP S m p) s))), (3, .int (nI (p))), (4, .int (nI (s))), (5, .int (nI (0)))] [1, 2, 3, 4, 5, 0] dX1_reachedStates_23 (by decide) rfl ?_
              have ihs := ih
              have L25 : ∀ (fu : Nat) (a : Nat), 3 < a + fu → (a ≤ 3) → G kx 0 0 (WW g ad u) 25 [(0, .ref (ad 3)), (1, .int (nI (m))), (2, .int (nI (rcA S m s (rcS S m (rcP S m p) s) a))), (3, .int (nI (p))), (4, .int (nI (s))), (5, .int (nI (a)))] [] := by
                intro fu
                induction fu with
                | zero => intro a hfu ha; exact absurd hfu (by omega)
                | succ fu ih =>
                  intro a hfu ha
                  have hl := rcA_lt hO (m := m) (s := s) (rcS_lt (m := m) hO (rcP_lt hO m p) s) a
                  have hx4 := hO.x4 m s a
                  refine r_iload C 5 dX1_reachedStates_25 rfl ?_
                  refine r_iconst C dX1_reachedStates_27 (v := nI 3) (by decide) ?_
                  refine r_icmpN_ge C dX1_reachedStates_28 (tgt := 60) (by decide) (by omega) (by omega) (fun h28 => ?_) (fun h28 => ?_)
                  · refine r_iinc C [(0, .ref (ad 3)), (1, .int (nI (m))), (2, .int (nI (rcA S m s (rcS S m (rcP S m p) s) a))), (3, .int (nI (p))), (4, .int (nI (s + 1))), (5, .int (nI (a)))] [1, 2, 3, 4, 0, 5] 4 dX1_reachedStates_60 rfl (nI_add _ 1) (by decide) rfl ?_
                    refine r_goto C dX1_reachedStates_63 (tgt := 12) (by decide) ?_
                    refine r_lvs C [0, 1, 2, 3, 4] (lv' := [(0, .ref (ad 3)), (1, .int (nI (m))), (2, .int (nI (rcA S m s (rcS S m (rcP S m p) s) a))), (3, .int (nI (p))), (4, .int (nI (s + 1)))]) rfl ?_
                    have e : rcA S m s (rcS S m (rcP S m p) s) a = rcS S m (rcP S m p) (s + 1) := by
                      first | (rw [show a = 3 by omega]; rfl) | (rw [← rcA_stop h37 (3 - a), show a + (3 - a) = 3 by omega]; rfl)
                    rw [e]
                    exact ihs (s + 1) (by omega) (by omega)
                  · refine r_iload_n C 2 dX1_reachedStates_31 rfl rfl ?_
                    refine r_iload C 4 dX1_reachedStates_32 rfl ?_
                    refine r_callSi C (rest := []) (c_X1_holds l g ad u (rcA S m s (rcS S m (rcP S m p) s) a) s (by omega) (by omega)) gX1_reachedStates_X1_holds pk_X1_holds dX1_reachedStates_34 rfl rfl rfl rfl ⟨(Nat.le_of_ble_eq_true rfl), (Nat.le_of_ble_eq_true rfl)⟩ rfl (Nat.le_of_ble_eq_true rfl) ⟨(Nat.le_of_ble_eq_true rfl), (Nat.le_of_ble_eq_true rfl)⟩ ?_
                    rintro _ _ ⟨rfl, rfl⟩
                    refine r_ifB_eq C dX1_reachedStates_37 (tgt := 60) (by decide) (fun h37 => ?_) (fun h37 => ?_)
                    · refine r_iinc C [(0, .ref (ad 3)), (1, .int (nI (m))), (2, .int (nI (rcA S m s (rcS S m (rcP S m p) s) a))), (3, .int (nI (p))), (4, .int (nI (s + 1))), (5, .int (nI (a)))] [1, 2, 3, 4, 0, 5] 4 dX1_reachedStates_60 rfl (nI_add _ 1) (by decide) rfl ?_
                      refine r_goto C dX1_reachedStates_63 (tgt := 12) (by decide) ?_
                      refine r_lvs C [0, 1, 2, 3, 4] (lv' := [(0, .ref (ad 3)), (1, .int (nI (m))), (2, .int (nI (rcA S m s (rcS S m (rcP S m p) s) a))), (3, .int (nI (p))), (4, .int (nI (s + 1)))]) rfl ?_
                      have e : rcA S m s (rcS S m (rcP S m p) s) a = rcS S m (rcP S m p) (s + 1) := by
                        first | (rw [show a = 3 by omega]; rfl) | (rw [← rcA_stop h37 (3 - a), show a + (3 - a) = 3 by omega]; rfl)
                      rw [e]
                      exact ihs (s + 1) (by omega) (by omega)
                    · refine r_iload_n C 2 dX1_reachedStates_40 rfl rfl ?_
                      refine r_iconst C dX1_reachedStates_41 (v := nI 1) (by decide) ?_
                      refine r_aload_n C 0 dX1_reachedStates_42 rfl rfl ?_
                      refine r_iload_n C 1 dX1_reachedStates_43 rfl rfl ?_
                      refine r_iload C 4 dX1_reachedStates_44 rfl ?_
                      refine r_iload C 5 dX1_reachedStates_46 rfl ?_
                      refine r_callVi C (rest := [.int (nI (1)), .int (nI (rcA S m s (rcS S m (rcP S m p) s) a))]) (c_X2_nextOf l g ad u S hC hO m (by assumption) s a (by first | assumption | omega) (by first | assumption | omega | exact hO.a _ _)) gX1_reachedStates_X2_nextOf pk_X2_nextOf k_3 dX1_reachedStates_48 rfl rfl rfl rfl ⟨(Nat.le_of_ble_eq_true rfl), (Nat.le_of_ble_eq_true rfl)⟩ rfl rfl (Nat.le_of_ble_eq_true rfl) ⟨(Nat.le_of_ble_eq_true rfl), (Nat.le_of_ble_eq_true rfl)⟩ ?_
                      rintro _ _ ⟨rfl, rfl⟩
                      refine r_ishlN C dX1_reachedStates_51 (by omega) ?_
                      refine r_iorN C dX1_reachedStates_52 ?_
                      refine r_istore_n C [(0, .ref (ad 3)), (1, .int (nI (m))), (2, .int (nI ((rcA S m s (rcS S m (rcP S m p) s) a) ||| (2 ^ (sx S m s a))))), (3, .int (nI (p))), (4, .int (nI (s))), (5, .int (nI (a)))] [1, 2, 0, 3, 4, 5] dX1_reachedStates_53 rfl (by decide) rfl ?_
                      refine r_iinc C [(0, .ref (ad 3)), (1, .int (nI (m))), (2, .int (nI ((rcA S m s (rcS S m (rcP S m p) s) a) ||| (2 ^ (sx S m s a))))), (3, .int (nI (p))), (4, .int (nI (s))), (5, .int (nI (a + 1)))] [1, 2, 3, 4, 5, 0] 5 dX1_reachedStates_54 rfl (nI_add _ 1) (by decide) rfl ?_
                      refine r_goto C dX1_reachedStates_57 (tgt := 25) (by decide) ?_
                      rw [← rcA_t h37]
                      exact ih (a + 1) (by omega) (by omega)
              exact L25 4 0 (by omega) (by omega)
        exact L12 (sz S m + 1) 0 (by omega) (by omega)
  exact L4 5 0 (by omega) (by omega)
def rmX1_unlikeStates : Room := { frames := 3, cells := 0, slots := 0, locals := 80 }
theorem pk_X1_unlikeStates : Pk yX1_unlikeStates RX1 2 := by decide +kernel
set_option maxHeartbeats 4000000 in
set_option maxRecDepth 100000 in
theorem c_X1_unlikeStates (l : Launch) (g : gE) (ad : Nat → Nat) (u : Me) (S : Sg) (hC : RepC S u) (hO : Ok S) (m : Nat) (hm : m < sN S) : Cti l yX1_unlikeStates wsX1_unlikeStates rmX1_unlikeStates g ad [.ref (ad 11), .ref (ad 3), .int (nI (m))] u (fun r u' => nI (cntN (fresh S m (rcP S m 4)) (sz S m)) = r ∧ Sm [12] [] [] [] u u') := by
  refine Ct.of (cc := cX1_unlikeStates) (nL := 6) (ret := (some .int)) RX1 (by decide) rfl rfl (Nat.le_of_ble_eq_true rfl) (fun kx C E => ?_)
  show G kx 0 0 (WW g ad u) 0 [(0, .ref (ad 11)), (1, .ref (ad 3)), (2, .int (nI (m)))] []
  have hn := hO.n
  have hz := hO.z m
  have hr4 := rcP_lt hO m 4
  refine r_aload_n C 1 dX1_unlikeStates_0 rfl rfl ?_
  refine r_iload_n C 2 dX1_unlikeStates_1 rfl rfl ?_
  refine r_callSi C (rest := []) (c_X1_reachedStates l g ad u S hC hO m (by assumption)) gX1_unlikeStates_X1_reachedStates pk_X1_reachedStates dX1_unlikeStates_2 rfl rfl rfl rfl ⟨(Nat.le_of_ble_eq_true rfl), (Nat.le_of_ble_eq_true rfl)⟩ rfl (Nat.le_of_ble_eq_true rfl) ⟨(Nat.le_of_ble_eq_true rfl), (Nat.le_of_ble_eq_true rfl)⟩ ?_
  rintro _ _ ⟨rfl, rfl⟩
  refine r_istore_n C [(0, .ref (ad 11)), (1, .ref (ad 3)), (2, .int (nI (m))), (3, .int (nI (rcP S m 4)))] [1, 2, 3, 0] dX1_unlikeStates_5 rfl (by decide) rfl ?_
  refine r_iconst C dX1_unlikeStates_6 (v := nI 0) (by decide) ?_
  refine r_istore C [(0, .ref (ad 11)), (1, .ref (ad 3)), (2, .int (nI (m))), (3, .int (nI (rcP S m 4))), (4, .int (nI (0)))] [1, 2, 3, 4, 0] dX1_unlikeStates_7 (by decide) rfl ?_
  refine r_iconst C dX1_unlikeStates_9 (v := nI 0) (by decide) ?_
  refine r_istore C [(0, .ref (ad 11)), (1, .ref (ad 3)), (2, .int (nI (m))), (3, .int (nI (rcP S m 4))), (4, .int (nI (0))), (5, .int (nI (0)))] [1, 2, 3, 4, 5, 0] dX1_unlikeStates_10 (by decide) rfl ?_
  have L12 : ∀ (fu : Nat) (s : Nat) (v : Me), sz S m < s + fu → (s ≤ sz S m) → (Sm [12] [] [] [] u v) → (RepC S v) → G kx 0 0 (WW g ad v) 12 [(0, .ref (ad 11)), (1, .ref (ad 3)), (2, .int (nI (m))), (3, .int (nI (rcP S m 4))), (4, .int (nI (cntN (fresh S m (rcP S m 4)) s))), (5, .int (nI (s)))] [] := by
    intro fu
    induction fu with
    | zero => intro s v hfu hss hv hC; exact absurd hfu (by omega)
    | succ fu ih =>
      intro s v hfu hss hv hC
      refine r_iload C 5 dX1_unlikeStates_12 rfl ?_
      refine r_aload_n C 1 dX1_unlikeStates_14 rfl rfl ?_
      refine r_iload_n C 2 dX1_unlikeStates_15 rfl rfl ?_
      refine r_callVi C (rest := [.int (nI (s))]) (c_X2_statesOf l g ad v S hC hO m (by assumption)) gX1_unlikeStates_X2_statesOf pk_X2_statesOf k_3 dX1_unlikeStates_16 rfl rfl rfl rfl ⟨(Nat.le_of_ble_eq_true rfl), (Nat.le_of_ble_eq_true rfl)⟩ rfl rfl (Nat.le_of_ble_eq_true rfl) ⟨(Nat.le_of_ble_eq_true rfl), (Nat.le_of_ble_eq_true rfl)⟩ ?_
      rintro _ _ ⟨rfl, rfl⟩
      refine r_icmpN_ge C dX1_unlikeStates_19 (tgt := 52) (by decide) (by omega) (by omega) (fun h19 => ?_) (fun h19 => ?_)
      · refine r_iload C 4 dX1_unlikeStates_52 rfl ?_
        exact E.2.1 rfl _ _ _ _ dX1_unlikeStates_54 ⟨_, rfl, ⟨by rw [show s = sz S m by omega], hv⟩⟩
      · refine r_iload_n C 3 dX1_unlikeStates_22 rfl rfl ?_
        refine r_iload C 5 dX1_unlikeStates_23 rfl ?_
        refine r_callSi C (rest := []) (c_X1_holds l g ad v (rcP S m 4) s (by omega) (by omega)) gX1_unlikeStates_X1_holds pk_X1_holds dX1_unlikeStates_25 rfl rfl rfl rfl ⟨(Nat.le_of_ble_eq_true rfl), (Nat.le_of_ble_eq_true rfl)⟩ rfl (Nat.le_of_ble_eq_true rfl) ⟨(Nat.le_of_ble_eq_true rfl), (Nat.le_of_ble_eq_true rfl)⟩ ?_
        rintro _ _ ⟨rfl, rfl⟩
        refine r_ifB_eq C dX1_unlikeStates_28 (tgt := 46) (by decide) (fun h28 => ?_) (fun h28 => ?_)
        · refine r_iinc C [(0, .ref (ad 11)), (1, .ref (ad 3)), (2, .int (nI (m))), (3, .int (nI (rcP S m 4))), (4, .int (nI (cntN (fresh S m (rcP S m 4)) s))), (5, .int (nI (s + 1)))] [1, 2, 3, 4, 5, 0] 5 dX1_unlikeStates_46 rfl (nI_add _ 1) (by decide) rfl ?_
          refine r_goto C dX1_unlikeStates_49 (tgt := 12) (by decide) ?_
          rw [← cntN_f (P := (fresh S m (rcP S m 4))) (fun z => h28 z.1)]
          exact ih (s + 1) _ (by omega) (by omega) hv hC
        · refine r_aload_n C 0 dX1_unlikeStates_31 rfl rfl ?_
          refine r_aload_n C 1 dX1_unlikeStates_32 rfl rfl ?_
          refine r_iload_n C 2 dX1_unlikeStates_33 rfl rfl ?_
          refine r_iload C 5 dX1_unlikeStates_34 rfl ?_
          refine r_iload_n C 3 dX1_unlikeStates_36 rfl rfl ?_
          refine r_callVi C (rest := []) (c_X1_isNewState l g ad v S hC hO m s (rcP S m 4) hm (by omega) (by first | assumption | omega)) gX1_unlikeStates_X1_isNewState pk_X1_isNewState k_11 dX1_unlikeStates_37 rfl rfl rfl rfl ⟨(Nat.le_of_ble_eq_true rfl), (Nat.le_of_ble_eq_true rfl)⟩ rfl rfl (Nat.le_of_ble_eq_true rfl) ⟨(Nat.le_of_ble_eq_true rfl), (Nat.le_of_ble_eq_true rfl)⟩ ?_
          rintro _ vl1 ⟨rfl, hsL⟩
          have hC : RepC S vl1 := hC.sm hsL (by unfold leC; decide)
          refine r_ifB_eq C dX1_unlikeStates_40 (tgt := 46) (by decide) (fun h40 => ?_) (fun h40 => ?_)
          · refine r_iinc C [(0, .ref (ad 11)), (1, .ref (ad 3)), (2, .int (nI (m))), (3, .int (nI (rcP S m 4))), (4, .int (nI (cntN (fresh S m (rcP S m 4)) s))), (5, .int (nI (s + 1)))] [1, 2, 3, 4, 5, 0] 5 dX1_unlikeStates_46 rfl (nI_add _ 1) (by decide) rfl ?_
            refine r_goto C dX1_unlikeStates_49 (tgt := 12) (by decide) ?_
            rw [← cntN_f (P := (fresh S m (rcP S m 4))) (fun z => h40 z.2)]
            exact ih (s + 1) _ (by omega) (by omega) (hv.tr hsL) hC
          · refine r_iinc C [(0, .ref (ad 11)), (1, .ref (ad 3)), (2, .int (nI (m))), (3, .int (nI (rcP S m 4))), (4, .int (nI ((cntN (fresh S m (rcP S m 4)) s) + 1))), (5, .int (nI (s)))] [1, 2, 3, 4, 0, 5] 4 dX1_unlikeStates_43 rfl (nI_add _ 1) (by decide) rfl ?_
            refine r_iinc C [(0, .ref (ad 11)), (1, .ref (ad 3)), (2, .int (nI (m))), (3, .int (nI (rcP S m 4))), (4, .int (nI ((cntN (fresh S m (rcP S m 4)) s) + 1))), (5, .int (nI (s + 1)))] [1, 2, 3, 4, 5, 0] 5 dX1_unlikeStates_46 rfl (nI_add _ 1) (by decide) rfl ?_
            refine r_goto C dX1_unlikeStates_49 (tgt := 12) (by decide) ?_
            rw [← cntN_t (P := (fresh S m (rcP S m 4))) ⟨h28, h40⟩]
            exact ih (s + 1) _ (by omega) (by omega) (hv.tr hsL) hC
  exact L12 (sz S m + 1) 0 u (by omega) (by omega) Sm.rf hC
