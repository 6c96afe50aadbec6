def rmX6_placeOf : Room := { frames := 0, cells := 0, slots := 0, locals := 0 }
theorem pk_X6_placeOf : Pk yX6_placeOf RX6 2 := by decide +kernel
set_option maxHeartbeats 4000000 in
set_option maxRecDepth 100000 in
theorem c_X6_placeOf (l : Launch) (g : gE) (ad : Nat → Nat) (u : Me) (a b : Nat) : Cti l yX6_placeOf wsX6_placeOf rmX6_placeOf g ad [.int (nI (a)), .int (nI (b))] u (fun r u' => nI (4 * a + b) = r ∧ u = u') := by
  refine Ct.of (cc := cX6_placeOf) (nL := 2) (ret := (some .int)) RX6 (by decide) rfl rfl (Nat.le_of_ble_eq_true rfl) (fun kx C E => ?_)
  show G kx 0 0 (WW g ad u) 0 [(0, .int (nI (a))), (1, .int (nI (b)))] []
  refine r_iconst C dX6_placeOf_0 (v := nI 4) (by decide) ?_
  refine r_iload_n C 0 dX6_placeOf_1 rfl rfl ?_
  refine r_imulN C dX6_placeOf_2 ?_
  refine r_iload_n C 1 dX6_placeOf_3 rfl rfl ?_
  refine r_iaddN C dX6_placeOf_4 ?_
  exact E.2.1 rfl _ _ _ _ dX6_placeOf_5 ⟨_, rfl, ⟨rfl, rfl⟩⟩
def rmX6_mine : Room := { frames := 0, cells := 0, slots := 0, locals := 0 }
theorem pk_X6_mine : Pk yX6_mine RX6 1 := by decide +kernel
set_option maxHeartbeats 4000000 in
set_option maxRecDepth 100000 in
theorem c_X6_mine (l : Launch) (g : gE) (ad : Nat → Nat) (u : Me) (a : Nat) (ha : a < 1000) : Cti l yX6_mine wsX6_mine rmX6_mine g ad [.int (nI (a))] u (fun r u' => nI (a / 4) = r ∧ u = u') := by
  refine Ct.of (cc := cX6_mine) (nL := 1) (ret := (some .int)) RX6 (by decide) rfl rfl (Nat.le_of_ble_eq_true rfl) (fun kx C E => ?_)
  show G kx 0 0 (WW g ad u) 0 [(0, .int (nI (a)))] []
  refine r_iload_n C 0 dX6_mine_0 rfl rfl ?_
  refine r_iconst C dX6_mine_1 (v := nI 4) (by decide) ?_
  refine r_idivN C dX6_mine_2 (by omega) (by omega) (by omega) ?_
  exact E.2.1 rfl _ _ _ _ dX6_mine_3 ⟨_, rfl, ⟨rfl, rfl⟩⟩
def rmX6_theirs : Room := { frames := 0, cells := 0, slots := 0, locals := 0 }
theorem pk_X6_theirs : Pk yX6_theirs RX6 1 := by decide +kernel
set_option maxHeartbeats 4000000 in
set_option maxRecDepth 100000 in
theorem c_X6_theirs (l : Launch) (g : gE) (ad : Nat → Nat) (u : Me) (a : Nat) (ha : a < 1000) : Cti l yX6_theirs wsX6_theirs rmX6_theirs g ad [.int (nI (a))] u (fun r u' => nI (a % 4) = r ∧ u = u') := by
  refine Ct.of (cc := cX6_theirs) (nL := 1) (ret := (some .int)) RX6 (by decide) rfl rfl (Nat.le_of_ble_eq_true rfl) (fun kx C E => ?_)
  show G kx 0 0 (WW g ad u) 0 [(0, .int (nI (a)))] []
  refine r_iload_n C 0 dX6_theirs_0 rfl rfl ?_
  refine r_iconst C dX6_theirs_1 (v := nI 4) (by decide) ?_
  refine r_iremN C dX6_theirs_2 (by omega) (by omega) (by omega) ?_
  exact E.2.1 rfl _ _ _ _ dX6_theirs_3 ⟨_, rfl, ⟨rfl, rfl⟩⟩
def rmX6_takeMatch : Room := { frames := 1, cells := 0, slots := 0, locals := 23 }
theorem pk_X6_takeMatch : Pk yX6_takeMatch RX6 4 := by decide +kernel
set_option maxHeartbeats 4000000 in
set_option maxRecDepth 100000 in
theorem c_X6_takeMatch (l : Launch) (g : gE) (ad : Nat → Nat) (u : Me) (S : Sg) (hC : RepC S u) (hO : Ok S) (x : Nat) (hx : x < 3) (i j : Nat) (hi : i < sN S) (hj : j < sN S) : Ctv l yX6_takeMatch wsX6_takeMatch rmX6_takeMatch g ad [.ref (ad (17 + 5 * x)), .ref (ad 1), .ref (ad 3), .int (nI (i)), .int (nI (j))] u (fun u' => WOK u' x (VP S i j) (fP S i j) (gP S i j) ∧ Sm [18 + 5 * x, 19 + 5 * x] [] [] [] u u' ∧ RepC S u') := by
  refine Ct.of (cc := cX6_takeMatch) (nL := 9) (ret := none) RX6 (by decide) rfl rfl (Nat.le_of_ble_eq_true rfl) (fun kx C E => ?_)
  have hin_X6 : ∀ w ∈ u_ws RX6 TX6 6, w ∈ wsX6_takeMatch := by decide +kernel
  have hk_11 : Cond.fieldLink RX6 11 "AgainAgain$Walk" "nexts" "[I" ∈ wsX6_takeMatch := by decide +kernel
  have hk_15 : Cond.fieldLink RX6 15 "AgainAgain$Walk" "gains" "[I" ∈ wsX6_takeMatch := by decide +kernel
  show G kx 0 0 (WW g ad u) 0 [(0, .ref (ad (17 + 5 * x))), (1, .ref (ad 1)), (2, .ref (ad 3)), (3, .int (nI (i))), (4, .int (nI (j)))] []
  have hn := hO.n
  have hz1 := hO.z i
  have hz2 := hO.z j
  refine r_iconst C dX6_takeMatch_0 (v := nI 0) (by decide) ?_
  refine r_istore C [(0, .ref (ad (17 + 5 * x))), (1, .ref (ad 1)), (2, .ref (ad 3)), (3, .int (nI (i))), (4, .int (nI (j))), (5, .int (nI (0)))] [1, 2, 3, 4, 5, 0] dX6_takeMatch_1 (by decide) rfl ?_
  have L3 : ∀ (fu : Nat) (s : Nat) (v : Me), sz S i < s + fu → (s ≤ sz S i) → (TMI u S i j x s 0 v) → (RepC S v) → G kx 0 0 (WW g ad v) 3 [(0, .ref (ad (17 + 5 * x))), (1, .ref (ad 1)), (2, .ref (ad 3)), (3, .int (nI (i))), (4, .int (nI (j))), (5, .int (nI (s)))] [] := by
    intro fu
    induction fu with
    | zero => intro s v hfu hss hv hC; exact absurd hfu (by omega)
    | succ fu ih =>
      intro s v hfu hss hv hC
      refine r_iload C 5 dX6_takeMatch_3 rfl ?_
      refine r_aload_n C 2 dX6_takeMatch_5 rfl rfl ?_
      refine r_iload_n C 3 dX6_takeMatch_6 rfl rfl ?_
      refine r_callVi C (rest := [.int (nI (s))]) (c_X2_statesOf l g ad v S hC hO i (by assumption)) gX6_takeMatch_X2_statesOf pk_X2_statesOf k_3 dX6_takeMatch_7 rfl rfl rfl rfl ⟨(Nat.le_of_ble_eq_true rfl), (Nat.le_of_ble_eq_true rfl)⟩ rfl rfl (Nat.le_of_ble_eq_true rfl) ⟨(Nat.le_of_ble_eq_true rfl), (Nat.le_of_ble_eq_true rfl)⟩ ?_
      rintro _ _ ⟨rfl, rfl⟩
      refine r_icmpN_ge C dX6_takeMatch_10 (tgt := 112) (by decide) (by omega) (by omega) (fun h10 => ?_) (fun h10 => ?_)
      · exact E.1 rfl _ _ _ dX6_takeMatch_112 ⟨rfl, ⟨hv.fin hO (by omega), hv.1, hC⟩⟩
      · have hs : s < sz S i := by omega
        refine r_aload_n C 2 dX6_takeMatch_13 rfl rfl ?_
        refine r_iload_n C 3 dX6_takeMatch_14 rfl rfl ?_
        refine r_iload C 5 dX6_takeMatch_15 rfl ?_
        refine r_callVi C (rest := []) (c_X2_actionOf l g ad v S hC hO i (by assumption) s (by first | assumption | omega)) gX6_takeMatch_X2_actionOf pk_X2_actionOf k_3 dX6_takeMatch_17 rfl rfl rfl rfl ⟨(Nat.le_of_ble_eq_true rfl), (Nat.le_of_ble_eq_true rfl)⟩ rfl rfl (Nat.le_of_ble_eq_true rfl) ⟨(Nat.le_of_ble_eq_true rfl), (Nat.le_of_ble_eq_true rfl)⟩ ?_
        rintro _ _ ⟨rfl, rfl⟩
        refine r_istore C [(0, .ref (ad (17 + 5 * x))), (1, .ref (ad 1)), (2, .ref (ad 3)), (3, .int (nI (i))), (4, .int (nI (j))), (5, .int (nI (s))), (6, .int (nI (sa S i s)))] [1, 2, 3, 4, 5, 6, 0] dX6_takeMatch_20 (by decide) rfl ?_
        refine r_iconst C dX6_takeMatch_22 (v := nI 0) (by decide) ?_
        refine r_istore C [(0, .ref (ad (17 + 5 * x))), (1, .ref (ad 1)), (2, .ref (ad 3)), (3, .int (nI (i))), (4, .int (nI (j))), (5, .int (nI (s))), (6, .int (nI (sa S i s))), (7, .int (nI (0)))] [1, 2, 3, 4, 5, 6, 7, 0] dX6_takeMatch_23 (by decide) rfl ?_
        have iho := ih
        have L25 : ∀ (fu : Nat) (t : Nat) (v : Me), sz S j < t + fu → (t ≤ sz S j) → (TMI u S i j x s t v) → (RepC S v) → G kx 0 0 (WW g ad v) 25 [(0, .ref (ad (17 + 5 * x))), (1, .ref (ad 1)), (2, .ref (ad 3)), (3, .int (nI (i))), (4, .int (nI (j))), (5, .int (nI (s))), (6, .int (nI (sa S i s))), (7, .int (nI (t)))] [] := by
          intro fu
          induction fu with
          | zero => intro t v hfu hts hv hC; exact absurd hfu (by omega)
          | succ fu ih =>
            intro t v hfu hts hv hC
            refine r_iload C 7 dX6_takeMatch_25 rfl ?_
            refine r_aload_n C 2 dX6_takeMatch_27 rfl rfl ?_
            refine r_iload C 4 dX6_takeMatch_28 rfl ?_
            refine r_callVi C (rest := [.int (nI (t))]) (c_X2_statesOf l g ad v S hC hO j (by assumption)) gX6_takeMatch_X2_statesOf pk_X2_statesOf k_3 dX6_takeMatch_30 rfl rfl rfl rfl ⟨(Nat.le_of_ble_eq_true rfl), (Nat.le_of_ble_eq_true rfl)⟩ rfl rfl (Nat.le_of_ble_eq_true rfl) ⟨(Nat.le_of_ble_eq_true rfl), (Nat.le_of_ble_eq_true rfl)⟩ ?_
            rintro _ _ ⟨rfl, rfl⟩
            refine r_icmpN_ge C dX6_takeMatch_33 (tgt := 106) (by decide) (by omega) (by omega) (fun h33 => ?_) (fun h33 => ?_)
            · refine r_iinc C [(0, .ref (ad (17 + 5 * x))), (1, .ref (ad 1)), (2, .ref (ad 3)), (3, .int (nI (i))), (4, .int (nI (j))), (5, .int (nI (s + 1))), (6, .int (nI (sa S i s))), (7, .int (nI (t)))] [1, 2, 3, 4, 5, 0, 6, 7] 5 dX6_takeMatch_106 rfl (nI_add _ 1) (by decide) rfl ?_
              refine r_goto C dX6_takeMatch_109 (tgt := 3) (by decide) ?_
              refine r_lvs C [0, 1, 2, 3, 4, 5] (lv' := [(0, .ref (ad (17 + 5 * x))), (1, .ref (ad 1)), (2, .ref (ad 3)), (3, .int (nI (i))), (4, .int (nI (j))), (5, .int (nI (s + 1)))]) rfl ?_
              exact iho (s + 1) v (by omega) (by omega) (hv.row (by omega)) hC
            · have ht : t < sz S j := by omega
              have ha1 := hO.a i s
              have ha2 := hO.a j t
              have hx1 := hO.x4 i s (sa S j t)
              have hx2 := hO.x4 j t (sa S i s)
              refine r_aload_n C 2 dX6_takeMatch_36 rfl rfl ?_
              refine r_iload C 4 dX6_takeMatch_37 rfl ?_
              refine r_iload C 7 dX6_takeMatch_39 rfl ?_
              refine r_callVi C (rest := []) (c_X2_actionOf l g ad v S hC hO j (by assumption) t (by first | assumption | omega)) gX6_takeMatch_X2_actionOf pk_X2_actionOf k_3 dX6_takeMatch_41 rfl rfl rfl rfl ⟨(Nat.le_of_ble_eq_true rfl), (Nat.le_of_ble_eq_true rfl)⟩ rfl rfl (Nat.le_of_ble_eq_true rfl) ⟨(Nat.le_of_ble_eq_true rfl), (Nat.le_of_ble_eq_true rfl)⟩ ?_
              rintro _ _ ⟨rfl, rfl⟩
              refine r_istore C [(0, .ref (ad (17 + 5 * x))), (1, .ref (ad 1)), (2, .ref (ad 3)), (3, .int (nI (i))), (4, .int (nI (j))), (5, .int (nI (s))), (6, .int (nI (sa S i s))), (7, .int (nI (t))), (8, .int (nI (sa S j t)))] [1, 2, 3, 4, 5, 6, 7, 8, 0] dX6_takeMatch_44 (by decide) rfl ?_
              refine r_aload_n C 0 dX6_takeMatch_46 rfl rfl ?_
              refine r_get C (CN := RX6) (T := TX6) (N := 6) (k_w hx) rfl hin_X6 (j := 0) (by decide) hk_11 rfl rfl dX6_takeMatch_47 ?_
              refine r_iload C 5 dX6_takeMatch_50 rfl ?_
              refine r_iload C 7 dX6_takeMatch_52 rfl ?_
              refine r_callSi C (rest := [.ref (ad (18 + 5 * x))]) (c_X6_placeOf l g ad v s t) gX6_takeMatch_X6_placeOf pk_X6_placeOf dX6_takeMatch_54 rfl rfl rfl rfl ⟨(Nat.le_of_ble_eq_true rfl), (Nat.le_of_ble_eq_true rfl)⟩ rfl (Nat.le_of_ble_eq_true rfl) ⟨(Nat.le_of_ble_eq_true rfl), (Nat.le_of_ble_eq_true rfl)⟩ ?_
              rintro _ _ ⟨rfl, rfl⟩
              refine r_aload_n C 2 dX6_takeMatch_57 rfl rfl ?_
              refine r_iload_n C 3 dX6_takeMatch_58 rfl rfl ?_
              refine r_iload C 5 dX6_takeMatch_59 rfl ?_
              refine r_iload C 8 dX6_takeMatch_61 rfl ?_
              refine r_callVi C (rest := [.int (nI (4 * s + t)), .ref (ad (18 + 5 * x))]) (c_X2_nextOf l g ad v S hC hO i (by assumption) s (sa S j t) (by first | assumption | omega) (by first | assumption | omega | exact hO.a _ _)) gX6_takeMatch_X2_nextOf pk_X2_nextOf k_3 dX6_takeMatch_63 rfl rfl rfl rfl ⟨(Nat.le_of_ble_eq_true rfl), (Nat.le_of_ble_eq_true rfl)⟩ rfl rfl (Nat.le_of_ble_eq_true rfl) ⟨(Nat.le_of_ble_eq_true rfl), (Nat.le_of_ble_eq_true rfl)⟩ ?_
              rintro _ _ ⟨rfl, rfl⟩
              refine r_aload_n C 2 dX6_takeMatch_66 rfl rfl ?_
              refine r_iload C 4 dX6_takeMatch_67 rfl ?_
              refine r_iload C 7 dX6_takeMatch_69 rfl ?_
              refine r_iload C 6 dX6_takeMatch_71 rfl ?_
              refine r_callVi C (rest := [.int (nI (sx S i s (sa S j t))), .int (nI (4 * s + t)), .ref (ad (18 + 5 * x))]) (c_X2_nextOf l g ad v S hC hO j (by assumption) t (sa S i s) (by first | assumption | omega) (by first | assumption | omega | exact hO.a _ _)) gX6_takeMatch_X2_nextOf pk_X2_nextOf k_3 dX6_takeMatch_73 rfl rfl rfl rfl ⟨(Nat.le_of_ble_eq_true rfl), (Nat.le_of_ble_eq_true rfl)⟩ rfl rfl (Nat.le_of_ble_eq_true rfl) ⟨(Nat.le_of_ble_eq_true rfl), (Nat.le_of_ble_eq_true rfl)⟩ ?_
              rintro _ _ ⟨rfl, rfl⟩
              refine r_callSi C (rest := [.int (nI (4 * s + t)), .ref (ad (18 + 5 * x))]) (c_X6_placeOf l g ad v (sx S i s (sa S j t)) (sx S j t (sa S i s))) gX6_takeMatch_X6_placeOf pk_X6_placeOf dX6_takeMatch_76 rfl rfl rfl rfl ⟨(Nat.le_of_ble_eq_true rfl), (Nat.le_of_ble_eq_true rfl)⟩ rfl (Nat.le_of_ble_eq_true rfl) ⟨(Nat.le_of_ble_eq_true rfl), (Nat.le_of_ble_eq_true rfl)⟩ ?_
              rintro _ _ ⟨rfl, rfl⟩
              refine r_iast C (k_w1 hx) (by omega) (by omega) dX6_takeMatch_79 ?_
              have hC : RepC S (sA v (18 + 5 * x) (upd (mA v (18 + 5 * x)) (4 * s + t) (nI (4 * (sx S i s (sa S j t)) + (sx S j t (sa S i s)))))) := hC.sA (c := 18 + 5 * x) (by omega) _
              refine r_aload_n C 0 dX6_takeMatch_80 rfl rfl ?_
              refine r_get C (CN := RX6) (T := TX6) (N := 6) (k_w hx) rfl hin_X6 (j := 1) (by decide) hk_15 rfl rfl dX6_takeMatch_81 ?_
              refine r_iload C 5 dX6_takeMatch_84 rfl ?_
              refine r_iload C 7 dX6_takeMatch_86 rfl ?_
              refine r_callSi C (rest := [.ref (ad (19 + 5 * x))]) (c_X6_placeOf l g ad (sA v (18 + 5 * x) (upd (mA v (18 + 5 * x)) (4 * s + t) (nI (4 * (sx S i s (sa S j t)) + (sx S j t (sa S i s)))))) s t) gX6_takeMatch_X6_placeOf pk_X6_placeOf dX6_takeMatch_88 rfl rfl rfl rfl ⟨(Nat.le_of_ble_eq_true rfl), (Nat.le_of_ble_eq_true rfl)⟩ rfl (Nat.le_of_ble_eq_true rfl) ⟨(Nat.le_of_ble_eq_true rfl), (Nat.le_of_ble_eq_true rfl)⟩ ?_
              rintro _ _ ⟨rfl, rfl⟩
              refine r_aload_n C 1 dX6_takeMatch_91 rfl rfl ?_
              refine r_iload C 6 dX6_takeMatch_92 rfl ?_
              refine r_iload C 8 dX6_takeMatch_94 rfl ?_
              refine r_callVi C (rest := [.int (nI (4 * s + t)), .ref (ad (19 + 5 * x))]) (c_X0_gain l g ad (sA v (18 + 5 * x) (upd (mA v (18 + 5 * x)) (4 * s + t) (nI (4 * (sx S i s (sa S j t)) + (sx S j t (sa S i s)))))) S hC (sa S i s) (sa S j t) (by omega) (by omega)) gX6_takeMatch_X0_gain pk_X0_gain k_1 dX6_takeMatch_96 rfl rfl rfl rfl ⟨(Nat.le_of_ble_eq_true rfl), (Nat.le_of_ble_eq_true rfl)⟩ rfl rfl (Nat.le_of_ble_eq_true rfl) ⟨(Nat.le_of_ble_eq_true rfl), (Nat.le_of_ble_eq_true rfl)⟩ ?_
              rintro _ _ ⟨rfl, rfl⟩
              refine r_iast C (k_w2 hx) (by omega) (by omega) dX6_takeMatch_99 ?_
              have hC : RepC S (sA (sA v (18 + 5 * x) (upd (mA v (18 + 5 * x)) (4 * s + t) (nI (4 * (sx S i s (sa S j t)) + (sx S j t (sa S i s)))))) (19 + 5 * x) (upd (mA (sA v (18 + 5 * x) (upd (mA v (18 + 5 * x)) (4 * s + t) (nI (4 * (sx S i s (sa S j t)) + (sx S j t (sa S i s)))))) (19 + 5 * x)) (4 * s + t) (iI (sp S (sa S i s) (sa S j t))))) := hC.sA (c := 19 + 5 * x) (by omega) _
              refine r_iinc C [(0, .ref (ad (17 + 5 * x))), (1, .ref (ad 1)), (2, .ref (ad 3)), (3, .int (nI (i))), (4, .int (nI (j))), (5, .int (nI (s))), (6, .int (nI (sa S i s))), (7, .int (nI (t + 1))), (8, .int (nI (sa S j t)))] [1, 2, 3, 4, 5, 6, 7, 0, 8] 7 dX6_takeMatch_100 rfl (nI_add _ 1) (by decide) rfl ?_
              refine r_goto C dX6_takeMatch_103 (tgt := 25) (by decide) ?_
              refine r_lvs C [0, 1, 2, 3, 4, 5, 6, 7] (lv' := [(0, .ref (ad (17 + 5 * x))), (1, .ref (ad 1)), (2, .ref (ad 3)), (3, .int (nI (i))), (4, .int (nI (j))), (5, .int (nI (s))), (6, .int (nI (sa S i s))), (7, .int (nI (t + 1)))]) rfl ?_
              exact ih (t + 1) _ (by omega) (by omega) (hv.st hO hs ht) hC
        exact L25 (sz S j + 1) 0 v (by omega) (by omega) hv hC
  exact L3 (sz S i + 1) 0 u (by omega) (by omega) (TMI.init u S i j x) hC
def rmX6_takePlan : Room := { frames := 1, cells := 0, slots := 0, locals := 23 }
theorem pk_X6_takePlan : Pk yX6_takePlan RX6 4 := by decide +kernel
set_option maxHeartbeats 4000000 in
set_option maxRecDepth 100000 in
theorem c_X6_takePlan (l : Launch) (g : gE) (ad : Nat → Nat) (u : Me) (S : Sg) (hC : RepC S u) (hO : Ok S) (x : Nat) (hx : x < 3) (m plan : Nat) (hm : m < sN S) (hp : plan < 81) : Ctv l yX6_takePlan wsX6_takePlan rmX6_takePlan g ad [.ref (ad (17 + 5 * x)), .ref (ad 1), .ref (ad 3), .int (nI (m)), .int (nI (plan))] u (fun u' => WOK u' x (VQ S m) (fQ S m plan) (gQ S m plan) ∧ Sm [18 + 5 * x, 19 + 5 * x] [] [] [] u u' ∧ RepC S u') := by
  refine Ct.of (cc := cX6_takePlan) (nL := 8) (ret := none) RX6 (by decide) rfl rfl (Nat.le_of_ble_eq_true rfl) (fun kx C E => ?_)
  have hin_X6 : ∀ w ∈ u_ws RX6 TX6 6, w ∈ wsX6_takePlan := by decide +kernel
  have hk_11 : Cond.fieldLink RX6 11 "AgainAgain$Walk" "nexts" "[I" ∈ wsX6_takePlan := by decide +kernel
  have hk_15 : Cond.fieldLink RX6 15 "AgainAgain$Walk" "gains" "[I" ∈ wsX6_takePlan := by decide +kernel
  show G kx 0 0 (WW g ad u) 0 [(0, .ref (ad (17 + 5 * x))), (1, .ref (ad 1)), (2, .ref (ad 3)), (3, .int (nI (m))), (4, .int (nI (plan)))] []
  have hn := hO.n
  have hz := hO.z m
  refine r_iload C 4 dX6_takePlan_0 rfl ?_
  refine r_istore C [(0, .ref (ad (17 + 5 * x))), (1, .ref (ad 1)), (2, .ref (ad 3)), (3, .int (nI (m))), (4, .int (nI (plan))), (5, .int (nI (plan)))] [1, 2, 3, 4, 5, 0] dX6_takePlan_2 (by decide) rfl ?_
  refine r_iconst C dX6_takePlan_4 (v := nI 0) (by decide) ?_
  refine r_istore C [(0, .ref (ad (17 + 5 * x))), (1, .ref (ad 1)), (2, .ref (ad 3)), (3, .int (nI (m))), (4, .int (nI (plan))), (5, .int (nI (plan))), (6, .int (nI (0)))] [1, 2, 3, 4, 5, 6, 0] dX6_takePlan_5 (by decide) rfl ?_
  have L7 : ∀ (fu : Nat) (s : Nat) (v : Me), sz S m < s + fu → (s ≤ sz S m) → (TPI u S m plan x s v) → (RepC S v) → G kx 0 0 (WW g ad v) 7 [(0, .ref (ad (17 + 5 * x))), (1, .ref (ad 1)), (2, .ref (ad 3)), (3, .int (nI (m))), (4, .int (nI (plan))), (5, .int (nI (plan / 3 ^ s))), (6, .int (nI (s)))] [] := by
    intro fu
    induction fu with
    | zero => intro s v hfu hss hv hC; exact absurd hfu (by omega)
    | succ fu ih =>
      intro s v hfu hss hv hC
      have hd : plan / 3 ^ s ≤ plan := Nat.div_le_self _ _
      refine r_iload C 6 dX6_takePlan_7 rfl ?_
      refine r_aload_n C 2 dX6_takePlan_9 rfl rfl ?_
      refine r_iload_n C 3 dX6_takePlan_10 rfl rfl ?_
      refine r_callVi C (rest := [.int (nI (s))]) (c_X2_statesOf l g ad v S hC hO m (by assumption)) gX6_takePlan_X2_statesOf pk_X2_statesOf k_3 dX6_takePlan_11 rfl rfl rfl rfl ⟨(Nat.le_of_ble_eq_true rfl), (Nat.le_of_ble_eq_true rfl)⟩ rfl rfl (Nat.le_of_ble_eq_true rfl) ⟨(Nat.le_of_ble_eq_true rfl), (Nat.le_of_ble_eq_true rfl)⟩ ?_
      rintro _ _ ⟨rfl, rfl⟩
      refine r_icmpN_ge C dX6_takePlan_14 (tgt := 71) (by decide) (by omega) (by omega) (fun h14 => ?_) (fun h14 => ?_)
      · exact E.1 rfl _ _ _ dX6_takePlan_71 ⟨rfl, ⟨hv.fin hO (by omega), hv.1, hC⟩⟩
      · have hs : s < sz S m := by omega
        have hd3 : plan / 3 ^ s % 3 < 3 := Nat.mod_lt _ (by decide)
        have ha1 := hO.a m s
        refine r_iload C 5 dX6_takePlan_17 rfl ?_
        refine r_iconst C dX6_takePlan_19 (v := nI 3) (by decide) ?_
        refine r_iremN C dX6_takePlan_20 (by omega) (by omega) (by omega) ?_
        refine r_istore C [(0, .ref (ad (17 + 5 * x))), (1, .ref (ad 1)), (2, .ref (ad 3)), (3, .int (nI (m))), (4, .int (nI (plan))), (5, .int (nI (plan / 3 ^ s))), (6, .int (nI (s))), (7, .int (nI ((plan / 3 ^ s) % 3)))] [1, 2, 3, 4, 5, 6, 7, 0] dX6_takePlan_21 (by decide) rfl ?_
        refine r_iload C 5 dX6_takePlan_23 rfl ?_
        refine r_iconst C dX6_takePlan_25 (v := nI 3) (by decide) ?_
        refine r_idivN C dX6_takePlan_26 (by omega) (by omega) (by omega) ?_
        refine r_istore C [(0, .ref (ad (17 + 5 * x))), (1, .ref (ad 1)), (2, .ref (ad 3)), (3, .int (nI (m))), (4, .int (nI (plan))), (5, .int (nI ((plan / 3 ^ s) / 3))), (6, .int (nI (s))), (7, .int (nI ((plan / 3 ^ s) % 3)))] [1, 2, 3, 4, 5, 0, 6, 7] dX6_takePlan_27 (by decide) rfl ?_
        refine r_aload_n C 0 dX6_takePlan_29 rfl rfl ?_
        refine r_get C (CN := RX6) (T := TX6) (N := 6) (k_w hx) rfl hin_X6 (j := 0) (by decide) hk_11 rfl rfl dX6_takePlan_30 ?_
        refine r_iload C 6 dX6_takePlan_33 rfl ?_
        refine r_aload_n C 2 dX6_takePlan_35 rfl rfl ?_
        refine r_iload_n C 3 dX6_takePlan_36 rfl rfl ?_
        refine r_iload C 6 dX6_takePlan_37 rfl ?_
        refine r_iload C 7 dX6_takePlan_39 rfl ?_
        refine r_callVi C (rest := [.int (nI (s)), .ref (ad (18 + 5 * x))]) (c_X2_nextOf l g ad v S hC hO m (by assumption) s ((plan / 3 ^ s) % 3) (by first | assumption | omega) (by first | assumption | omega | exact hO.a _ _)) gX6_takePlan_X2_nextOf pk_X2_nextOf k_3 dX6_takePlan_41 rfl rfl rfl rfl ⟨(Nat.le_of_ble_eq_true rfl), (Nat.le_of_ble_eq_true rfl)⟩ rfl rfl (Nat.le_of_ble_eq_true rfl) ⟨(Nat.le_of_ble_eq_true rfl), (Nat.le_of_ble_eq_true rfl)⟩ ?_
        rintro _ _ ⟨rfl, rfl⟩
        refine r_iast C (k_w1 hx) (by omega) (by omega) dX6_takePlan_44 ?_
        have hC : RepC S (sA v (18 + 5 * x) (upd (mA v (18 + 5 * x)) s (nI (sx S m s ((plan / 3 ^ s) % 3))))) := hC.sA (c := 18 + 5 * x) (by omega) _
        refine r_aload_n C 0 dX6_takePlan_45 rfl rfl ?_
        refine r_get C (CN := RX6) (T := TX6) (N := 6) (k_w hx) rfl hin_X6 (j := 1) (by decide) hk_15 rfl rfl dX6_takePlan_46 ?_
        refine r_iload C 6 dX6_takePlan_49 rfl ?_
        refine r_aload_n C 1 dX6_takePlan_51 rfl rfl ?_
        refine r_iload C 7 dX6_takePlan_52 rfl ?_
        refine r_aload_n C 2 dX6_takePlan_54 rfl rfl ?_
        refine r_iload_n C 3 dX6_takePlan_55 rfl rfl ?_
        refine r_iload C 6 dX6_takePlan_56 rfl ?_
        refine r_callVi C (rest := [.int (nI ((plan / 3 ^ s) % 3)), .ref (ad 1), .int (nI (s)), .ref (ad (19 + 5 * x))]) (c_X2_actionOf l g ad (sA v (18 + 5 * x) (upd (mA v (18 + 5 * x)) s (nI (sx S m s ((plan / 3 ^ s) % 3))))) S hC hO m (by assumption) s (by first | assumption | omega)) gX6_takePlan_X2_actionOf pk_X2_actionOf k_3 dX6_takePlan_58 rfl rfl rfl rfl ⟨(Nat.le_of_ble_eq_true rfl), (Nat.le_of_ble_eq_true rfl)⟩ rfl rfl (Nat.le_of_ble_eq_true rfl) ⟨(Nat.le_of_ble_eq_true rfl), (Nat.le_of_ble_eq_true rfl)⟩ ?_
        rintro _ _ ⟨rfl, rfl⟩
        refine r_callVi C (rest := [.int (nI (s)), .ref (ad (19 + 5 * x))]) (c_X0_gain l g ad (sA v (18 + 5 * x) (upd (mA v (18 + 5 * x)) s (nI (sx S m s ((plan / 3 ^ s) % 3))))) S hC ((plan / 3 ^ s) % 3) (sa S m s) (by omega) (by omega)) gX6_takePlan_X0_gain pk_X0_gain k_1 dX6_takePlan_61 rfl rfl rfl rfl ⟨(Nat.le_of_ble_eq_true rfl), (Nat.le_of_ble_eq_true rfl)⟩ rfl rfl (Nat.le_of_ble_eq_true rfl) ⟨(Nat.le_of_ble_eq_true rfl), (Nat.le_of_ble_eq_true rfl)⟩ ?_
        rintro _ _ ⟨rfl, rfl⟩
        refine r_iast C (k_w2 hx) (by omega) (by omega) dX6_takePlan_64 ?_
        have hC : RepC S (sA (sA v (18 + 5 * x) (upd (mA v (18 + 5 * x)) s (nI (sx S m s ((plan / 3 ^ s) % 3))))) (19 + 5 * x) (upd (mA (sA v (18 + 5 * x) (upd (mA v (18 + 5 * x)) s (nI (sx S m s ((plan / 3 ^ s) % 3))))) (19 + 5 * x)) s (iI (sp S ((plan / 3 ^ s) % 3) (sa S m s))))) := hC.sA (c := 19 + 5 * x) (by omega) _
        refine r_iinc C [(0, .ref (ad (17 + 5 * x))), (1, .ref (ad 1)), (2, .ref (ad 3)), (3, .int (nI (m))), (4, .int (nI (plan))), (5, .int (nI ((plan / 3 ^ s) / 3))), (6, .int (nI (s + 1))), (7, .int (nI ((plan / 3 ^ s) % 3)))] [1, 2, 3, 4, 5, 6, 0, 7] 6 dX6_takePlan_65 rfl (nI_add _ 1) (by decide) rfl ?_
        refine r_goto C dX6_takePlan_68 (tgt := 7) (by decide) ?_
        refine r_lvs C [0, 1, 2, 3, 4, 5, 6] (lv' := [(0, .ref (ad (17 + 5 * x))), (1, .ref (ad 1)), (2, .ref (ad 3)), (3, .int (nI (m))), (4, .int (nI (plan))), (5, .int (nI ((plan / 3 ^ s) / 3))), (6, .int (nI (s + 1)))]) rfl ?_
        have e3 : plan / 3 ^ s / 3 = plan / 3 ^ (s + 1) := by rw [Nat.pow_succ, Nat.div_div_eq_div_mul]
        rw [e3]
        exact ih (s + 1) _ (by omega) (by omega) hv.st hC
  have e1 : plan = plan / 3 ^ 0 := by simp
  refine r_ws rfl ?_
  show G kx 0 0 (WW g ad u) 7 [(0, .ref (ad (17 + 5 * x))), (1, .ref (ad 1)), (2, .ref (ad 3)), (3, .int (nI m)), (4, .int (nI plan)), (5, .int (nI plan)), (6, .int (nI 0))] []
  have q := L7 (sz S m + 1) 0 u (by omega) (by omega) (TPI.init u S m plan x) hC
  rw [← e1] at q
  exact q
def rmX6_startAt : Room := { frames := 1, cells := 0, slots := 0, locals := 23 }
theorem pk_X6_startAt : Pk yX6_startAt RX6 1 := by decide +kernel
set_option maxHeartbeats 4000000 in
set_option maxRecDepth 100000 in
theorem c_X6_startAt (l : Launch) (g : gE) (ad : Nat → Nat) (u : Me) (x : Nat) (hx : x < 3) (V : Nat → Prop) (f : Nat → Nat) (w : Nat → Int) (p0 : Nat) (hW : WOK u x V f w) (hp : V p0) : Ctv l yX6_startAt wsX6_startAt rmX6_startAt g ad [.ref (ad (17 + 5 * x)), .int (nI (p0))] u (fun u' => PL u' x V f w p0 ∧ Sm [20 + 5 * x, 21 + 5 * x] [] [1 + 2 * x, 2 + 2 * x] [] u u') := by
  refine Ct.of (cc := cX6_startAt) (nL := 4) (ret := none) RX6 (by decide) rfl rfl (Nat.le_of_ble_eq_true rfl) (fun kx C E => ?_)
  have hin_X6 : ∀ w ∈ u_ws RX6 TX6 6, w ∈ wsX6_startAt := by decide +kernel
  have hk_11 : Cond.fieldLink RX6 11 "AgainAgain$Walk" "nexts" "[I" ∈ wsX6_startAt := by decide +kernel
  have hk_18 : Cond.fieldLink RX6 18 "AgainAgain$Walk" "firstMet" "[I" ∈ wsX6_startAt := by decide +kernel
  have hk_21 : Cond.fieldLink RX6 21 "AgainAgain$Walk" "path" "[I" ∈ wsX6_startAt := by decide +kernel
  have hk_24 : Cond.fieldLink RX6 24 "AgainAgain$Walk" "tail" "I" ∈ wsX6_startAt := by decide +kernel
  have hk_28 : Cond.fieldLink RX6 28 "AgainAgain$Walk" "ring" "I" ∈ wsX6_startAt := by decide +kernel
  show G kx 0 0 (WW g ad u) 0 [(0, .ref (ad (17 + 5 * x))), (1, .int (nI (p0)))] []
  refine r_aload_n C 0 dX6_startAt_0 rfl rfl ?_
  refine r_get C (CN := RX6) (T := TX6) (N := 6) (k_w hx) rfl hin_X6 (j := 2) (by decide) hk_18 rfl rfl dX6_startAt_1 ?_
  refine r_iconst C dX6_startAt_4 (v := (-1)) (by decide) ?_
  refine r_callSv C (rest := []) (c_J7_fill_53178 l g ad u (20 + 5 * x) 16 (k_w3 hx) (by omega) ((-1))) gX6_startAt_J7_fill_53178 pk_J7_fill_53178 dX6_startAt_5 rfl rfl rfl rfl ⟨(Nat.le_of_ble_eq_true rfl), (Nat.le_of_ble_eq_true rfl)⟩ rfl (Nat.le_of_ble_eq_true rfl) ⟨(Nat.le_of_ble_eq_true rfl), (Nat.le_of_ble_eq_true rfl)⟩ ?_
  rintro _ rfl
  refine r_iload_n C 1 dX6_startAt_8 rfl rfl ?_
  refine r_istore_n C [(0, .ref (ad (17 + 5 * x))), (1, .int (nI (p0))), (2, .int (nI (p0)))] [1, 2, 0] dX6_startAt_9 rfl (by decide) rfl ?_
  refine r_iconst C dX6_startAt_10 (v := nI 0) (by decide) ?_
  refine r_istore_n C [(0, .ref (ad (17 + 5 * x))), (1, .int (nI (p0))), (2, .int (nI (p0))), (3, .int (nI (0)))] [1, 2, 3, 0] dX6_startAt_11 rfl (by decide) rfl ?_
  have L12 : ∀ (fu : Nat) (r : Nat) (v : Me), 16 < r + fu → (r ≤ 16) → (SAI u x f p0 r v) → G kx 0 0 (WW g ad v) 12 [(0, .ref (ad (17 + 5 * x))), (1, .int (nI (p0))), (2, .int (nI (it f p0 r))), (3, .int (nI (r)))] [] := by
    intro fu
    induction fu with
    | zero => intro r v hfu hr16 hv; exact absurd hfu (by omega)
    | succ fu ih =>
      intro r v hfu hr16 hv
      have h16 := hv.1
      have hl := hW.lt hp r
      refine r_iload_n C 3 dX6_startAt_12 rfl rfl ?_
      refine r_bipush C dX6_startAt_13 (v := nI 16) (by decide) ?_
      refine r_icmpN_ge C dX6_startAt_15 (tgt := 54) (by decide) (by omega) (by omega) (fun h15 => ?_) (fun h15 => ?_)
      · obtain ⟨a, ha, e⟩ := hv.full hW hp (by omega)
        refine r_aload_n C 0 dX6_startAt_54 rfl rfl ?_
        refine r_aload_n C 0 dX6_startAt_55 rfl rfl ?_
        refine r_get C (CN := RX6) (T := TX6) (N := 6) (k_w hx) rfl hin_X6 (j := 2) (by decide) hk_18 rfl rfl dX6_startAt_56 ?_
        refine r_iload_n C 2 dX6_startAt_59 rfl rfl ?_
        refine r_iald C (k_w3 hx) (by omega) (by omega) dX6_startAt_60 ?_
        refine r_setI (y := (nI (a))) (by rw [← e]; exact hv.2.2.1 a ha) ?_
        refine r_putI C (CN := RX6) (T := TX6) (N := 6) (fI_wt hx) rfl hin_X6 tyX6 tyX6_ok nmX6 (by decide) hk_24 rfl rfl (by decide +kernel) dX6_startAt_61 ?_
        refine r_aload_n C 0 dX6_startAt_64 rfl rfl ?_
        refine r_iload_n C 3 dX6_startAt_65 rfl rfl ?_
        refine r_aload_n C 0 dX6_startAt_66 rfl rfl ?_
        refine r_get C (CN := RX6) (T := TX6) (N := 6) (k_w hx) rfl hin_X6 (j := 4) (by decide) hk_24 rfl rfl dX6_startAt_67 ?_
        refine r_setI (y := (nI (a))) (mI_sI_self _ _ _) ?_
        refine r_isubN C dX6_startAt_70 (by omega) ?_
        refine r_putI C (CN := RX6) (T := TX6) (N := 6) (fI_wr hx) rfl hin_X6 tyX6 tyX6_ok nmX6 (by decide) hk_28 rfl rfl (by decide +kernel) dX6_startAt_71 ?_
        exact E.1 rfl _ _ _ dX6_startAt_74 ⟨rfl, hv.fin hW hp ha e⟩
      · refine r_aload_n C 0 dX6_startAt_18 rfl rfl ?_
        refine r_get C (CN := RX6) (T := TX6) (N := 6) (k_w hx) rfl hin_X6 (j := 2) (by decide) hk_18 rfl rfl dX6_startAt_19 ?_
        refine r_iload_n C 2 dX6_startAt_22 rfl rfl ?_
        refine r_iald C (k_w3 hx) (by omega) (by omega) dX6_startAt_23 ?_
        refine r_if_ge C dX6_startAt_24 (tgt := 54) (by decide) (fun h24 => ?_) (fun h24 => ?_)
        · obtain ⟨a, ha, e⟩ := hv.hit hW hp h24
          refine r_aload_n C 0 dX6_startAt_54 rfl rfl ?_
          refine r_aload_n C 0 dX6_startAt_55 rfl rfl ?_
          refine r_get C (CN := RX6) (T := TX6) (N := 6) (k_w hx) rfl hin_X6 (j := 2) (by decide) hk_18 rfl rfl dX6_startAt_56 ?_
          refine r_iload_n C 2 dX6_startAt_59 rfl rfl ?_
          refine r_iald C (k_w3 hx) (by omega) (by omega) dX6_startAt_60 ?_
          refine r_setI (y := (nI (a))) (by rw [← e]; exact hv.2.2.1 a ha) ?_
          refine r_putI C (CN := RX6) (T := TX6) (N := 6) (fI_wt hx) rfl hin_X6 tyX6 tyX6_ok nmX6 (by decide) hk_24 rfl rfl (by decide +kernel) dX6_startAt_61 ?_
          refine r_aload_n C 0 dX6_startAt_64 rfl rfl ?_
          refine r_iload_n C 3 dX6_startAt_65 rfl rfl ?_
          refine r_aload_n C 0 dX6_startAt_66 rfl rfl ?_
          refine r_get C (CN := RX6) (T := TX6) (N := 6) (k_w hx) rfl hin_X6 (j := 4) (by decide) hk_24 rfl rfl dX6_startAt_67 ?_
          refine r_setI (y := (nI (a))) (mI_sI_self _ _ _) ?_
          refine r_isubN C dX6_startAt_70 (by omega) ?_
          refine r_putI C (CN := RX6) (T := TX6) (N := 6) (fI_wr hx) rfl hin_X6 tyX6 tyX6_ok nmX6 (by decide) hk_28 rfl rfl (by decide +kernel) dX6_startAt_71 ?_
          exact E.1 rfl _ _ _ dX6_startAt_74 ⟨rfl, hv.fin hW hp ha e⟩
        · refine r_aload_n C 0 dX6_startAt_27 rfl rfl ?_
          refine r_get C (CN := RX6) (T := TX6) (N := 6) (k_w hx) rfl hin_X6 (j := 2) (by decide) hk_18 rfl rfl dX6_startAt_28 ?_
          refine r_iload_n C 2 dX6_startAt_31 rfl rfl ?_
          refine r_iload_n C 3 dX6_startAt_32 rfl rfl ?_
          refine r_iast C (k_w3 hx) (by omega) (by omega) dX6_startAt_33 ?_
          refine r_aload_n C 0 dX6_startAt_34 rfl rfl ?_
          refine r_get C (CN := RX6) (T := TX6) (N := 6) (k_w hx) rfl hin_X6 (j := 3) (by decide) hk_21 rfl rfl dX6_startAt_35 ?_
          refine r_iload_n C 3 dX6_startAt_38 rfl rfl ?_
          refine r_iload_n C 2 dX6_startAt_39 rfl rfl ?_
          refine r_iast C (k_w4 hx) (by omega) (by omega) dX6_startAt_40 ?_
          refine r_aload_n C 0 dX6_startAt_41 rfl rfl ?_
          refine r_get C (CN := RX6) (T := TX6) (N := 6) (k_w hx) rfl hin_X6 (j := 0) (by decide) hk_11 rfl rfl dX6_startAt_42 ?_
          refine r_iload_n C 2 dX6_startAt_45 rfl rfl ?_
          refine r_iald C (k_w1 hx) (by omega) (by omega) dX6_startAt_46 ?_
          refine r_setI (y := (nI (it f p0 (r + 1)))) (((hv.step hW hp (by omega) h24).w hW _ (hW.V hp r)).2.2.1) ?_
          refine r_istore_n C [(0, .ref (ad (17 + 5 * x))), (1, .int (nI (p0))), (2, .int (nI (it f p0 (r + 1)))), (3, .int (nI (r)))] [1, 2, 0, 3] dX6_startAt_47 rfl (by decide) rfl ?_
          refine r_iinc C [(0, .ref (ad (17 + 5 * x))), (1, .int (nI (p0))), (2, .int (nI (it f p0 (r + 1)))), (3, .int (nI (r + 1)))] [1, 2, 3, 0] 3 dX6_startAt_48 rfl (nI_add _ 1) (by decide) rfl ?_
          refine r_goto C dX6_startAt_51 (tgt := 12) (by decide) ?_
          exact ih (r + 1) _ (by omega) (by omega) (hv.step hW hp (by omega) h24)
  exact L12 17 0 _ (by omega) (by omega) (SAI.init u x f p0)
def rmX6_tail : Room := { frames := 0, cells := 0, slots := 0, locals := 0 }
theorem pk_X6_tail : Pk yX6_tail RX6 0 := by decide +kernel
set_option maxHeartbeats 4000000 in
set_option maxRecDepth 100000 in
theorem c_X6_tail (l : Launch) (g : gE) (ad : Nat → Nat) (u : Me) (x : Nat) (hx : x < 3) (V : Nat → Prop) (f : Nat → Nat) (w : Nat → Int) (p0 : Nat) (hp : PL u x V f w p0) : Cti l yX6_tail wsX6_tail rmX6_tail g ad [.ref (ad (17 + 5 * x))] u (fun r u' => nI (tl f p0) = r ∧ u = u') := by
  refine Ct.of (cc := cX6_tail) (nL := 1) (ret := (some .int)) RX6 (by decide) rfl rfl (Nat.le_of_ble_eq_true rfl) (fun kx C E => ?_)
  have hin_X6 : ∀ w ∈ u_ws RX6 TX6 6, w ∈ wsX6_tail := by decide +kernel
  have hk_24 : Cond.fieldLink RX6 24 "AgainAgain$Walk" "tail" "I" ∈ wsX6_tail := by decide +kernel
  show G kx 0 0 (WW g ad u) 0 [(0, .ref (ad (17 + 5 * x)))] []
  refine r_aload_n C 0 dX6_tail_0 rfl rfl ?_
  refine r_get C (CN := RX6) (T := TX6) (N := 6) (k_w hx) rfl hin_X6 (j := 4) (by decide) hk_24 rfl rfl dX6_tail_1 ?_
  refine r_setI (y := (nI (tl f p0))) (hp.2.2.1) ?_
  exact E.2.1 rfl _ _ _ _ dX6_tail_4 ⟨_, rfl, ⟨rfl, rfl⟩⟩
def rmX6_ring : Room := { frames := 0, cells := 0, slots := 0, locals := 0 }
theorem pk_X6_ring : Pk yX6_ring RX6 0 := by decide +kernel
set_option maxHeartbeats 4000000 in
set_option maxRecDepth 100000 in
theorem c_X6_ring (l : Launch) (g : gE) (ad : Nat → Nat) (u : Me) (x : Nat) (hx : x < 3) (V : Nat → Prop) (f : Nat → Nat) (w : Nat → Int) (p0 : Nat) (hp : PL u x V f w p0) : Cti l yX6_ring wsX6_ring rmX6_ring g ad [.ref (ad (17 + 5 * x))] u (fun r u' => nI (rg f p0) = r ∧ u = u') := by
  refine Ct.of (cc := cX6_ring) (nL := 1) (ret := (some .int)) RX6 (by decide) rfl rfl (Nat.le_of_ble_eq_true rfl) (fun kx C E => ?_)
  have hin_X6 : ∀ w ∈ u_ws RX6 TX6 6, w ∈ wsX6_ring := by decide +kernel
  have hk_28 : Cond.fieldLink RX6 28 "AgainAgain$Walk" "ring" "I" ∈ wsX6_ring := by decide +kernel
  show G kx 0 0 (WW g ad u) 0 [(0, .ref (ad (17 + 5 * x)))] []
  refine r_aload_n C 0 dX6_ring_0 rfl rfl ?_
  refine r_get C (CN := RX6) (T := TX6) (N := 6) (k_w hx) rfl hin_X6 (j := 5) (by decide) hk_28 rfl rfl dX6_ring_1 ?_
  refine r_setI (y := (nI (rg f p0))) (hp.2.2.2.1) ?_
  exact E.2.1 rfl _ _ _ _ dX6_ring_4 ⟨_, rfl, ⟨rfl, rfl⟩⟩
def rmX6_placeIn : Room := { frames := 0, cells := 0, slots := 0, locals := 0 }
theorem pk_X6_placeIn : Pk yX6_placeIn RX6 1 := by decide +kernel
set_option maxHeartbeats 4000000 in
set_option maxRecDepth 100000 in
theorem c_X6_placeIn (l : Launch) (g : gE) (ad : Nat → Nat) (u : Me) (x : Nat) (hx : x < 3) (V : Nat → Prop) (f : Nat → Nat) (w : Nat → Int) (p0 : Nat) (hp : PL u x V f w p0) (n : Nat) (hn : n < 2000) : Cti l yX6_placeIn wsX6_placeIn rmX6_placeIn g ad [.ref (ad (17 + 5 * x)), .int (nI (n))] u (fun r u' => nI (it f p0 n) = r ∧ u = u') := by
  refine Ct.of (cc := cX6_placeIn) (nL := 2) (ret := (some .int)) RX6 (by decide) rfl rfl (Nat.le_of_ble_eq_true rfl) (fun kx C E => ?_)
  have hin_X6 : ∀ w ∈ u_ws RX6 TX6 6, w ∈ wsX6_placeIn := by decide +kernel
  have hk_21 : Cond.fieldLink RX6 21 "AgainAgain$Walk" "path" "[I" ∈ wsX6_placeIn := by decide +kernel
  have hk_24 : Cond.fieldLink RX6 24 "AgainAgain$Walk" "tail" "I" ∈ wsX6_placeIn := by decide +kernel
  have hk_28 : Cond.fieldLink RX6 28 "AgainAgain$Walk" "ring" "I" ∈ wsX6_placeIn := by decide +kernel
  show G kx 0 0 (WW g ad u) 0 [(0, .ref (ad (17 + 5 * x))), (1, .int (nI (n)))] []
  obtain ⟨hT, hT16⟩ := hp.tr
  have hR := hT.1
  refine r_aload_n C 0 dX6_placeIn_0 rfl rfl ?_
  refine r_get C (CN := RX6) (T := TX6) (N := 6) (k_w hx) rfl hin_X6 (j := 3) (by decide) hk_21 rfl rfl dX6_placeIn_1 ?_
  refine r_iload_n C 1 dX6_placeIn_4 rfl rfl ?_
  refine r_aload_n C 0 dX6_placeIn_5 rfl rfl ?_
  refine r_get C (CN := RX6) (T := TX6) (N := 6) (k_w hx) rfl hin_X6 (j := 4) (by decide) hk_24 rfl rfl dX6_placeIn_6 ?_
  refine r_setI (y := (nI (tl f p0))) (hp.2.2.1) ?_
  refine r_icmpN_ge C dX6_placeIn_9 (tgt := 16) (by decide) (by omega) (by omega) (fun h9 => ?_) (fun h9 => ?_)
  · have hm := Nat.mod_lt (n - tl f p0) hR
    refine r_aload_n C 0 dX6_placeIn_16 rfl rfl ?_
    refine r_get C (CN := RX6) (T := TX6) (N := 6) (k_w hx) rfl hin_X6 (j := 4) (by decide) hk_24 rfl rfl dX6_placeIn_17 ?_
    refine r_setI (y := (nI (tl f p0))) (hp.2.2.1) ?_
    refine r_iload_n C 1 dX6_placeIn_20 rfl rfl ?_
    refine r_aload_n C 0 dX6_placeIn_21 rfl rfl ?_
    refine r_get C (CN := RX6) (T := TX6) (N := 6) (k_w hx) rfl hin_X6 (j := 4) (by decide) hk_24 rfl rfl dX6_placeIn_22 ?_
    refine r_setI (y := (nI (tl f p0))) (hp.2.2.1) ?_
    refine r_isubN C dX6_placeIn_25 (by omega) ?_
    refine r_aload_n C 0 dX6_placeIn_26 rfl rfl ?_
    refine r_get C (CN := RX6) (T := TX6) (N := 6) (k_w hx) rfl hin_X6 (j := 5) (by decide) hk_28 rfl rfl dX6_placeIn_27 ?_
    refine r_setI (y := (nI (rg f p0))) (hp.2.2.2.1) ?_
    refine r_iremN C dX6_placeIn_30 (by omega) (by omega) (by omega) ?_
    refine r_iaddN C dX6_placeIn_31 ?_
    refine r_iald C (k_w4 hx) (by omega) (by omega) dX6_placeIn_32 ?_
    refine r_setI (y := (nI (it f p0 n))) (by first | exact hp.2.2.2.2 _ (by omega) | (rw [hp.2.2.2.2 _ (by omega), hT.mod (by omega)])) ?_
    exact E.2.1 rfl _ _ _ _ dX6_placeIn_33 ⟨_, rfl, ⟨rfl, rfl⟩⟩
  · refine r_iload_n C 1 dX6_placeIn_12 rfl rfl ?_
    refine r_goto C dX6_placeIn_13 (tgt := 32) (by decide) ?_
    refine r_iald C (k_w4 hx) (by omega) (by omega) dX6_placeIn_32 ?_
    refine r_setI (y := (nI (it f p0 n))) (by first | exact hp.2.2.2.2 _ (by omega) | (rw [hp.2.2.2.2 _ (by omega), hT.mod (by omega)])) ?_
    exact E.2.1 rfl _ _ _ _ dX6_placeIn_33 ⟨_, rfl, ⟨rfl, rfl⟩⟩
def rmX6_gainsAlong : Room := { frames := 0, cells := 0, slots := 0, locals := 0 }
theorem pk_X6_gainsAlong : Pk yX6_gainsAlong RX6 2 := by decide +kernel
set_option maxHeartbeats 4000000 in
set_option maxRecDepth 100000 in
theorem c_X6_gainsAlong (l : Launch) (g : gE) (ad : Nat → Nat) (u : Me) (x : Nat) (hx : x < 3) (V : Nat → Prop) (f : Nat → Nat) (w : Nat → Int) (p0 : Nat) (hp : PL u x V f w p0) (a n : Nat) (han : a + n ≤ tl f p0 + rg f p0) : Cti l yX6_gainsAlong wsX6_gainsAlong rmX6_gainsAlong g ad [.ref (ad (17 + 5 * x)), .int (nI (a)), .int (nI (n))] u (fun r u' => iI (sg (fun r => w (it f p0 (a + r))) n) = r ∧ u = u') := by
  refine Ct.of (cc := cX6_gainsAlong) (nL := 5) (ret := (some .int)) RX6 (by decide) rfl rfl (Nat.le_of_ble_eq_true rfl) (fun kx C E => ?_)
  have hin_X6 : ∀ w ∈ u_ws RX6 TX6 6, w ∈ wsX6_gainsAlong := by decide +kernel
  have hk_15 : Cond.fieldLink RX6 15 "AgainAgain$Walk" "gains" "[I" ∈ wsX6_gainsAlong := by decide +kernel
  have hk_21 : Cond.fieldLink RX6 21 "AgainAgain$Walk" "path" "[I" ∈ wsX6_gainsAlong := by decide +kernel
  show G kx 0 0 (WW g ad u) 0 [(0, .ref (ad (17 + 5 * x))), (1, .int (nI (a))), (2, .int (nI (n)))] []
  obtain ⟨hT, hT16⟩ := hp.tr
  have hR := hT.1
  refine r_iconst C dX6_gainsAlong_0 (v := nI 0) (by decide) ?_
  refine r_istore_n C [(0, .ref (ad (17 + 5 * x))), (1, .int (nI (a))), (2, .int (nI (n))), (3, .int (nI (0)))] [1, 2, 3, 0] dX6_gainsAlong_1 rfl (by decide) rfl ?_
  refine r_iload_n C 1 dX6_gainsAlong_2 rfl rfl ?_
  refine r_istore C [(0, .ref (ad (17 + 5 * x))), (1, .int (nI (a))), (2, .int (nI (n))), (3, .int (nI (0))), (4, .int (nI (a)))] [1, 2, 3, 4, 0] dX6_gainsAlong_3 (by decide) rfl ?_
  have L5 : ∀ (fu : Nat) (c : Nat), n < c + fu → (c ≤ n) → G kx 0 0 (WW g ad u) 5 [(0, .ref (ad (17 + 5 * x))), (1, .int (nI (a))), (2, .int (nI (n))), (3, .int (iI (sg (fun r => w (it f p0 (a + r))) c))), (4, .int (nI (a + c)))] [] := by
    intro fu
    induction fu with
    | zero => intro c hfu hc; exact absurd hfu (by omega)
    | succ fu ih =>
      intro c hfu hc
      refine r_iload C 4 dX6_gainsAlong_5 rfl ?_
      refine r_iload_n C 1 dX6_gainsAlong_7 rfl rfl ?_
      refine r_iload_n C 2 dX6_gainsAlong_8 rfl rfl ?_
      refine r_iaddN C dX6_gainsAlong_9 ?_
      refine r_icmpN_ge C dX6_gainsAlong_10 (tgt := 34) (by decide) (by omega) (by omega) (fun h10 => ?_) (fun h10 => ?_)
      · refine r_iload_n C 3 dX6_gainsAlong_34 rfl rfl ?_
        exact E.2.1 rfl _ _ _ _ dX6_gainsAlong_35 ⟨_, rfl, ⟨by rw [show c = n by omega], rfl⟩⟩
      · refine r_iload_n C 3 dX6_gainsAlong_13 rfl rfl ?_
        refine r_aload_n C 0 dX6_gainsAlong_14 rfl rfl ?_
        refine r_get C (CN := RX6) (T := TX6) (N := 6) (k_w hx) rfl hin_X6 (j := 1) (by decide) hk_15 rfl rfl dX6_gainsAlong_15 ?_
        refine r_aload_n C 0 dX6_gainsAlong_18 rfl rfl ?_
        refine r_get C (CN := RX6) (T := TX6) (N := 6) (k_w hx) rfl hin_X6 (j := 3) (by decide) hk_21 rfl rfl dX6_gainsAlong_19 ?_
        refine r_iload C 4 dX6_gainsAlong_22 rfl ?_
        refine r_iald C (k_w4 hx) (by omega) (by omega) dX6_gainsAlong_24 ?_
        refine r_setI (y := (nI (it f p0 (a + c)))) (hp.2.2.2.2 _ (by omega)) ?_
        refine r_iald C (k_w2 hx) (hp.1.lt hp.2.1 _) (by omega) dX6_gainsAlong_25 ?_
        refine r_setI (y := (iI (w (it f p0 (a + c))))) ((hp.1 _ (hp.1.V hp.2.1 _)).2.2.2) ?_
        refine r_iadd C dX6_gainsAlong_26 ?_
        refine r_setI (iI_add _ _) ?_
        refine r_istore_n C [(0, .ref (ad (17 + 5 * x))), (1, .int (nI (a))), (2, .int (nI (n))), (3, .int (iI ((sg (fun r => w (it f p0 (a + r))) c) + (w (it f p0 (a + c)))))), (4, .int (nI (a + c)))] [1, 2, 3, 0, 4] dX6_gainsAlong_27 rfl (by decide) rfl ?_
        refine r_iinc C [(0, .ref (ad (17 + 5 * x))), (1, .int (nI (a))), (2, .int (nI (n))), (3, .int (iI ((sg (fun r => w (it f p0 (a + r))) c) + (w (it f p0 (a + c)))))), (4, .int (nI ((a + c) + 1)))] [1, 2, 3, 4, 0] 4 dX6_gainsAlong_28 rfl (nI_add _ 1) (by decide) rfl ?_
        refine r_goto C dX6_gainsAlong_31 (tgt := 5) (by decide) ?_
        exact ih (c + 1) (by omega) (by omega)
  exact L5 (n + 1) 0 (by omega) (by omega)
def rmX6_tailGains : Room := { frames := 1, cells := 0, slots := 0, locals := 24 }
theorem pk_X6_tailGains : Pk yX6_tailGains RX6 0 := by decide +kernel
set_option maxHeartbeats 4000000 in
set_option maxRecDepth 100000 in
theorem c_X6_tailGains (l : Launch) (g : gE) (ad : Nat → Nat) (u : Me) (x : Nat) (hx : x < 3) (V : Nat → Prop) (f : Nat → Nat) (w : Nat → Int) (p0 : Nat) (hp : PL u x V f w p0) : Cti l yX6_tailGains wsX6_tailGains rmX6_tailGains g ad [.ref (ad (17 + 5 * x))] u (fun r u' => iI (sg (fun r => w (it f p0 r)) (tl f p0)) = r ∧ u = u') := by
  refine Ct.of (cc := cX6_tailGains) (nL := 1) (ret := (some .int)) RX6 (by decide) rfl rfl (Nat.le_of_ble_eq_true rfl) (fun kx C E => ?_)
  have hin_X6 : ∀ w ∈ u_ws RX6 TX6 6, w ∈ wsX6_tailGains := by decide +kernel
  have hk_24 : Cond.fieldLink RX6 24 "AgainAgain$Walk" "tail" "I" ∈ wsX6_tailGains := by decide +kernel
  show G kx 0 0 (WW g ad u) 0 [(0, .ref (ad (17 + 5 * x)))] []
  obtain ⟨hT, hT16⟩ := hp.tr
  have hR := hT.1
  refine r_aload_n C 0 dX6_tailGains_0 rfl rfl ?_
  refine r_iconst C dX6_tailGains_1 (v := nI 0) (by decide) ?_
  refine r_aload_n C 0 dX6_tailGains_2 rfl rfl ?_
  refine r_get C (CN := RX6) (T := TX6) (N := 6) (k_w hx) rfl hin_X6 (j := 4) (by decide) hk_24 rfl rfl dX6_tailGains_3 ?_
  refine r_setI (y := (nI (tl f p0))) (hp.2.2.1) ?_
  refine r_callVi C (rest := []) (c_X6_gainsAlong l g ad u x hx V f w p0 hp 0 (tl f p0) (by omega)) gX6_tailGains_X6_gainsAlong pk_X6_gainsAlong (k_w hx) dX6_tailGains_6 rfl rfl rfl rfl ⟨(Nat.le_of_ble_eq_true rfl), (Nat.le_of_ble_eq_true rfl)⟩ rfl rfl (Nat.le_of_ble_eq_true rfl) ⟨(Nat.le_of_ble_eq_true rfl), (Nat.le_of_ble_eq_true rfl)⟩ ?_
  rintro _ _ ⟨rfl, rfl⟩
  exact E.2.1 rfl _ _ _ _ dX6_tailGains_9 ⟨_, rfl, ⟨congrArg iI (sg_congr (fun r _ => by rw [Nat.zero_add])), rfl⟩⟩
def rmX6_ringGains : Room := { frames := 1, cells := 0, slots := 0, locals := 24 }
theorem pk_X6_ringGains : Pk yX6_ringGains RX6 0 := by decide +kernel
set_option maxHeartbeats 4000000 in
set_option maxRecDepth 100000 in
theorem c_X6_ringGains (l : Launch) (g : gE) (ad : Nat → Nat) (u : Me) (x : Nat) (hx : x < 3) (V : Nat → Prop) (f : Nat → Nat) (w : Nat → Int) (p0 : Nat) (hp : PL u x V f w p0) : Cti l yX6_ringGains wsX6_ringGains rmX6_ringGains g ad [.ref (ad (17 + 5 * x))] u (fun r u' => iI (sg (fun r => w (it f p0 (tl f p0 + r))) (rg f p0)) = r ∧ u = u') := by
  refine Ct.of (cc := cX6_ringGains) (nL := 1) (ret := (some .int)) RX6 (by decide) rfl rfl (Nat.le_of_ble_eq_true rfl) (fun kx C E => ?_)
  have hin_X6 : ∀ w ∈ u_ws RX6 TX6 6, w ∈ wsX6_ringGains := by decide +kernel
  have hk_24 : Cond.fieldLink RX6 24 "AgainAgain$Walk" "tail" "I" ∈ wsX6_ringGains := by decide +kernel
  have hk_28 : Cond.fieldLink RX6 28 "AgainAgain$Walk" "ring" "I" ∈ wsX6_ringGains := by decide +kernel
  show G kx 0 0 (WW g ad u) 0 [(0, .ref (ad (17 + 5 * x)))] []
  obtain ⟨hT, hT16⟩ := hp.tr
  have hR := hT.1
  refine r_aload_n C 0 dX6_ringGains_0 rfl rfl ?_
  refine r_aload_n C 0 dX6_ringGains_1 rfl rfl ?_
  refine r_get C (CN := RX6) (T := TX6) (N := 6) (k_w hx) rfl hin_X6 (j := 4) (by decide) hk_24 rfl rfl dX6_ringGains_2 ?_
  refine r_setI (y := (nI (tl f p0))) (hp.2.2.1) ?_
  refine r_aload_n C 0 dX6_ringGains_5 rfl rfl ?_
  refine r_get C (CN := RX6) (T := TX6) (N := 6) (k_w hx) rfl hin_X6 (j := 5) (by decide) hk_28 rfl rfl dX6_ringGains_6 ?_
  refine r_setI (y := (nI (rg f p0))) (hp.2.2.2.1) ?_
  refine r_callVi C (rest := []) (c_X6_gainsAlong l g ad u x hx V f w p0 hp (tl f p0) (rg f p0) (by omega)) gX6_ringGains_X6_gainsAlong pk_X6_gainsAlong (k_w hx) dX6_ringGains_9 rfl rfl rfl rfl ⟨(Nat.le_of_ble_eq_true rfl), (Nat.le_of_ble_eq_true rfl)⟩ rfl rfl (Nat.le_of_ble_eq_true rfl) ⟨(Nat.le_of_ble_eq_true rfl), (Nat.le_of_ble_eq_true rfl)⟩ ?_
  rintro _ _ ⟨rfl, rfl⟩
  exact E.2.1 rfl _ _ _ _ dX6_ringGains_12 ⟨_, rfl, ⟨rfl, rfl⟩⟩
def rmX6_gainsOfFirst : Room := { frames := 2, cells := 0, slots := 0, locals := 44 }
theorem pk_X6_gainsOfFirst : Pk yX6_gainsOfFirst RX6 1 := by decide +kernel
set_option maxHeartbeats 4000000 in
set_option maxRecDepth 100000 in
theorem c_X6_gainsOfFirst (l : Launch) (g : gE) (ad : Nat → Nat) (u : Me) (x : Nat) (hx : x < 3) (V : Nat → Prop) (f : Nat → Nat) (w : Nat → Int) (p0 : Nat) (hp : PL u x V f w p0) (n : Nat) (hn : n < 2000) : Cti l yX6_gainsOfFirst wsX6_gainsOfFirst rmX6_gainsOfFirst g ad [.ref (ad (17 + 5 * x)), .int (nI (n))] u (fun r u' => iI (sg (fun r => w (it f p0 r)) n) = r ∧ u = u') := by
  refine Ct.of (cc := cX6_gainsOfFirst) (nL := 3) (ret := (some .int)) RX6 (by decide) rfl rfl (Nat.le_of_ble_eq_true rfl) (fun kx C E => ?_)
  have hin_X6 : ∀ w ∈ u_ws RX6 TX6 6, w ∈ wsX6_gainsOfFirst := by decide +kernel
  have hk_24 : Cond.fieldLink RX6 24 "AgainAgain$Walk" "tail" "I" ∈ wsX6_gainsOfFirst := by decide +kernel
  have hk_28 : Cond.fieldLink RX6 28 "AgainAgain$Walk" "ring" "I" ∈ wsX6_gainsOfFirst := by decide +kernel
  show G kx 0 0 (WW g ad u) 0 [(0, .ref (ad (17 + 5 * x))), (1, .int (nI (n)))] []
  obtain ⟨hT, hT16⟩ := hp.tr
  have hR := hT.1
  refine r_iload_n C 1 dX6_gainsOfFirst_0 rfl rfl ?_
  refine r_aload_n C 0 dX6_gainsOfFirst_1 rfl rfl ?_
  refine r_get C (CN := RX6) (T := TX6) (N := 6) (k_w hx) rfl hin_X6 (j := 4) (by decide) hk_24 rfl rfl dX6_gainsOfFirst_2 ?_
  refine r_setI (y := (nI (tl f p0))) (hp.2.2.1) ?_
  refine r_icmpN_gt C dX6_gainsOfFirst_5 (tgt := 15) (by decide) (by omega) (by omega) (fun h5 => ?_) (fun h5 => ?_)
  · have hm := Nat.mod_lt (n - tl f p0) hR
    refine r_iload_n C 1 dX6_gainsOfFirst_15 rfl rfl ?_
    refine r_aload_n C 0 dX6_gainsOfFirst_16 rfl rfl ?_
    refine r_get C (CN := RX6) (T := TX6) (N := 6) (k_w hx) rfl hin_X6 (j := 4) (by decide) hk_24 rfl rfl dX6_gainsOfFirst_17 ?_
    refine r_setI (y := (nI (tl f p0))) (hp.2.2.1) ?_
    refine r_isubN C dX6_gainsOfFirst_20 (by omega) ?_
    refine r_istore_n C [(0, .ref (ad (17 + 5 * x))), (1, .int (nI (n))), (2, .int (nI (n - (tl f p0))))] [1, 2, 0] dX6_gainsOfFirst_21 rfl (by decide) rfl ?_
    refine r_aload_n C 0 dX6_gainsOfFirst_22 rfl rfl ?_
    refine r_callVi C (rest := []) (c_X6_tailGains l g ad u x hx V f w p0 hp) gX6_gainsOfFirst_X6_tailGains pk_X6_tailGains (k_w hx) dX6_gainsOfFirst_23 rfl rfl rfl rfl ⟨(Nat.le_of_ble_eq_true rfl), (Nat.le_of_ble_eq_true rfl)⟩ rfl rfl (Nat.le_of_ble_eq_true rfl) ⟨(Nat.le_of_ble_eq_true rfl), (Nat.le_of_ble_eq_true rfl)⟩ ?_
    rintro _ _ ⟨rfl, rfl⟩
    refine r_iload_n C 2 dX6_gainsOfFirst_26 rfl rfl ?_
    refine r_aload_n C 0 dX6_gainsOfFirst_27 rfl rfl ?_
    refine r_get C (CN := RX6) (T := TX6) (N := 6) (k_w hx) rfl hin_X6 (j := 5) (by decide) hk_28 rfl rfl dX6_gainsOfFirst_28 ?_
    refine r_setI (y := (nI (rg f p0))) (hp.2.2.2.1) ?_
    refine r_idivN C dX6_gainsOfFirst_31 (by omega) (by omega) (by omega) ?_
    refine r_aload_n C 0 dX6_gainsOfFirst_32 rfl rfl ?_
    refine r_callVi C (rest := [.int (nI ((n - (tl f p0)) / (rg f p0))), .int (iI (sg (fun r => w (it f p0 r)) (tl f p0)))]) (c_X6_ringGains l g ad u x hx V f w p0 hp) gX6_gainsOfFirst_X6_ringGains pk_X6_ringGains (k_w hx) dX6_gainsOfFirst_33 rfl rfl rfl rfl ⟨(Nat.le_of_ble_eq_true rfl), (Nat.le_of_ble_eq_true rfl)⟩ rfl rfl (Nat.le_of_ble_eq_true rfl) ⟨(Nat.le_of_ble_eq_true rfl), (Nat.le_of_ble_eq_true rfl)⟩ ?_
    rintro _ _ ⟨rfl, rfl⟩
    refine r_imul C dX6_gainsOfFirst_36 ?_
    refine r_setI ((congrArg (fun z => z * iI (sg (fun r => w (it f p0 (tl f p0 + r))) (rg f p0))) (nI_iI ((n - (tl f p0)) / (rg f p0)))).trans (iI_mul _ _)) ?_
    refine r_iadd C dX6_gainsOfFirst_37 ?_
    refine r_setI (iI_add _ _) ?_
    refine r_aload_n C 0 dX6_gainsOfFirst_38 rfl rfl ?_
    refine r_aload_n C 0 dX6_gainsOfFirst_39 rfl rfl ?_
    refine r_get C (CN := RX6) (T := TX6) (N := 6) (k_w hx) rfl hin_X6 (j := 4) (by decide) hk_24 rfl rfl dX6_gainsOfFirst_40 ?_
    refine r_setI (y := (nI (tl f p0))) (hp.2.2.1) ?_
    refine r_iload_n C 2 dX6_gainsOfFirst_43 rfl rfl ?_
    refine r_aload_n C 0 dX6_gainsOfFirst_44 rfl rfl ?_
    refine r_get C (CN := RX6) (T := TX6) (N := 6) (k_w hx) rfl hin_X6 (j := 5) (by decide) hk_28 rfl rfl dX6_gainsOfFirst_45 ?_
    refine r_setI (y := (nI (rg f p0))) (hp.2.2.2.1) ?_
    refine r_iremN C dX6_gainsOfFirst_48 (by omega) (by omega) (by omega) ?_
    refine r_callVi C (rest := [.int (iI ((sg (fun r => w (it f p0 r)) (tl f p0)) + ((((n - (tl f p0)) / (rg f p0) : Nat) : Int) * (sg (fun r => w (it f p0 (tl f p0 + r))) (rg f p0)))))]) (c_X6_gainsAlong l g ad u x hx V f w p0 hp (tl f p0) ((n - (tl f p0)) % (rg f p0)) (by omega)) gX6_gainsOfFirst_X6_gainsAlong pk_X6_gainsAlong (k_w hx) dX6_gainsOfFirst_49 rfl rfl rfl rfl ⟨(Nat.le_of_ble_eq_true rfl), (Nat.le_of_ble_eq_true rfl)⟩ rfl rfl (Nat.le_of_ble_eq_true rfl) ⟨(Nat.le_of_ble_eq_true rfl), (Nat.le_of_ble_eq_true rfl)⟩ ?_
    rintro _ _ ⟨rfl, rfl⟩
    refine r_iadd C dX6_gainsOfFirst_52 ?_
    refine r_setI (iI_add _ _) ?_
    exact E.2.1 rfl _ _ _ _ dX6_gainsOfFirst_53 ⟨_, rfl, ⟨congrArg iI (hT.sum w (by omega)), rfl⟩⟩
  · refine r_aload_n C 0 dX6_gainsOfFirst_8 rfl rfl ?_
    refine r_iconst C dX6_gainsOfFirst_9 (v := nI 0) (by decide) ?_
    refine r_iload_n C 1 dX6_gainsOfFirst_10 rfl rfl ?_
    refine r_callVi C (rest := []) (c_X6_gainsAlong l g ad u x hx V f w p0 hp 0 n (by omega)) gX6_gainsOfFirst_X6_gainsAlong pk_X6_gainsAlong (k_w hx) dX6_gainsOfFirst_11 rfl rfl rfl rfl ⟨(Nat.le_of_ble_eq_true rfl), (Nat.le_of_ble_eq_true rfl)⟩ rfl rfl (Nat.le_of_ble_eq_true rfl) ⟨(Nat.le_of_ble_eq_true rfl), (Nat.le_of_ble_eq_true rfl)⟩ ?_
    rintro _ _ ⟨rfl, rfl⟩
    exact E.2.1 rfl _ _ _ _ dX6_gainsOfFirst_14 ⟨_, rfl, ⟨congrArg iI (sg_congr (fun r _ => by rw [Nat.zero_add])), rfl⟩⟩
def rmX6_power : Room := { frames := 0, cells := 0, slots := 0, locals := 0 }
theorem pk_X6_power : Pk yX6_power RX6 2 := by decide +kernel
set_option maxHeartbeats 4000000 in
set_option maxRecDepth 100000 in
theorem c_X6_power (l : Launch) (g : gE) (ad : Nat → Nat) (u : Me) (b : Int) (n : Nat) (hn : n < 2000) : Ctl l yX6_power wsX6_power rmX6_power g ad [.long (lI b), .int (nI (n))] u (fun r u' => lI (pw b n) = r ∧ u = u') := by
  refine Ct.of (cc := cX6_power) (nL := 6) (ret := (some .long)) RX6 (by decide) rfl rfl (Nat.le_of_ble_eq_true rfl) (fun kx C E => ?_)
  show G kx 0 0 (WW g ad u) 0 [(0, .long (lI b)), (2, .int (nI (n)))] []
  refine r_lconst C dX6_power_0 (v := lI 1) (by decide) ?_
  refine r_lstore_n C [(0, .long (lI b)), (2, .int (nI (n))), (3, .long (lI 1))] [1, 2, 0] dX6_power_1 rfl (by decide) rfl ?_
  refine r_iconst C dX6_power_2 (v := nI 0) (by decide) ?_
  refine r_istore C [(0, .long (lI b)), (2, .int (nI (n))), (3, .long (lI 1)), (5, .int (nI (0)))] [1, 2, 3, 0] dX6_power_3 (by decide) rfl ?_
  have L5 : ∀ (fu : Nat) (c : Nat), n < c + fu → (c ≤ n) → G kx 0 0 (WW g ad u) 5 [(0, .long (lI b)), (2, .int (nI (n))), (3, .long (lI (pw b c))), (5, .int (nI (c)))] [] := by
    intro fu
    induction fu with
    | zero => intro c hfu hc; exact absurd hfu (by omega)
    | succ fu ih =>
      intro c hfu hc
      refine r_iload C 3 dX6_power_5 rfl ?_
      refine r_iload_n C 1 dX6_power_7 rfl rfl ?_
      refine r_icmpN_ge C dX6_power_8 (tgt := 21) (by decide) (by omega) (by omega) (fun h8 => ?_) (fun h8 => ?_)
      · refine r_lload_n C 2 dX6_power_21 rfl rfl ?_
        exact E.2.2.2 rfl _ _ _ _ dX6_power_22 ⟨_, rfl, ⟨by rw [show c = n by omega], rfl⟩⟩
      · refine r_lload_n C 2 dX6_power_11 rfl rfl ?_
        refine r_lload_n C 0 dX6_power_12 rfl rfl ?_
        refine r_lmul C dX6_power_13 ?_
        refine r_setL (lI_mul _ _) ?_
        refine r_lstore_n C [(0, .long (lI b)), (2, .int (nI (n))), (3, .long (lI ((pw b c) * b))), (5, .int (nI (c)))] [1, 2, 0, 3] dX6_power_14 rfl (by decide) rfl ?_
        refine r_iinc C [(0, .long (lI b)), (2, .int (nI (n))), (3, .long (lI ((pw b c) * b))), (5, .int (nI (c + 1)))] [1, 2, 3, 0] 3 dX6_power_15 rfl (nI_add _ 1) (by decide) rfl ?_
        refine r_goto C dX6_power_18 (tgt := 5) (by decide) ?_
        exact ih (c + 1) (by omega) (by omega)
  exact L5 (n + 1) 0 (by omega) (by omega)
def rmX6_weighedAlong : Room := { frames := 0, cells := 0, slots := 0, locals := 0 }
theorem pk_X6_weighedAlong : Pk yX6_weighedAlong RX6 4 := by decide +kernel
set_option maxHeartbeats 4000000 in
set_option maxRecDepth 100000 in
theorem c_X6_weighedAlong (l : Launch) (g : gE) (ad : Nat → Nat) (u : Me) (x : Nat) (hx : x < 3) (V : Nat → Prop) (f : Nat → Nat) (w : Nat → Int) (p0 : Nat) (hp : PL u x V f w p0) (hw50 : ∀ p, V p → -50 ≤ w p ∧ w p ≤ 50) (a n : Nat) (han : a + n ≤ tl f p0 + rg f p0) (p q : Int) : Ctl l yX6_weighedAlong wsX6_weighedAlong rmX6_weighedAlong g ad [.ref (ad (17 + 5 * x)), .int (nI (a)), .int (nI (n)), .long (lI p), .long (lI q)] u (fun r u' => lI (wg (fun r => w (it f p0 (a + r))) p q n) = r ∧ u = u') := by
  refine Ct.of (cc := cX6_weighedAlong) (nL := 12) (ret := (some .long)) RX6 (by decide) rfl rfl (Nat.le_of_ble_eq_true rfl) (fun kx C E => ?_)
  have hin_X6 : ∀ w ∈ u_ws RX6 TX6 6, w ∈ wsX6_weighedAlong := by decide +kernel
  have hk_15 : Cond.fieldLink RX6 15 "AgainAgain$Walk" "gains" "[I" ∈ wsX6_weighedAlong := by decide +kernel
  have hk_21 : Cond.fieldLink RX6 21 "AgainAgain$Walk" "path" "[I" ∈ wsX6_weighedAlong := by decide +kernel
  show G kx 0 0 (WW g ad u) 0 [(0, .ref (ad (17 + 5 * x))), (1, .int (nI (a))), (2, .int (nI (n))), (3, .long (lI p)), (5, .long (lI q))] []
  obtain ⟨hT, hT16⟩ := hp.tr
  have hR := hT.1
  refine r_lconst C dX6_weighedAlong_0 (v := lI 0) (by decide) ?_
  refine r_lstore C [(0, .ref (ad (17 + 5 * x))), (1, .int (nI (a))), (2, .int (nI (n))), (3, .long (lI p)), (5, .long (lI q)), (7, .long (lI 0))] [1, 2, 3, 4, 5, 0] dX6_weighedAlong_1 (by decide) rfl ?_
  refine r_lconst C dX6_weighedAlong_3 (v := lI 1) (by decide) ?_
  refine r_lstore C [(0, .ref (ad (17 + 5 * x))), (1, .int (nI (a))), (2, .int (nI (n))), (3, .long (lI p)), (5, .long (lI q)), (7, .long (lI 0)), (9, .long (lI 1))] [1, 2, 3, 4, 5, 6, 0] dX6_weighedAlong_4 (by decide) rfl ?_
  refine r_iload_n C 1 dX6_weighedAlong_6 rfl rfl ?_
  refine r_istore C [(0, .ref (ad (17 + 5 * x))), (1, .int (nI (a))), (2, .int (nI (n))), (3, .long (lI p)), (5, .long (lI q)), (7, .long (lI 0)), (9, .long (lI 1)), (11, .int (nI (a)))] [1, 2, 3, 4, 5, 6, 7, 0] dX6_weighedAlong_7 (by decide) rfl ?_
  have L9 : ∀ (fu : Nat) (c : Nat), n < c + fu → (c ≤ n) → G kx 0 0 (WW g ad u) 9 [(0, .ref (ad (17 + 5 * x))), (1, .int (nI (a))), (2, .int (nI (n))), (3, .long (lI p)), (5, .long (lI q)), (7, .long (lI (wg (fun r => w (it f p0 (a + r))) p q c))), (9, .long (lI (pw p c))), (11, .int (nI (a + c)))] [] := by
    intro fu
    induction fu with
    | zero => intro c hfu hc; exact absurd hfu (by omega)
    | succ fu ih =>
      intro c hfu hc
      refine r_iload C 7 dX6_weighedAlong_9 rfl ?_
      refine r_iload_n C 1 dX6_weighedAlong_11 rfl rfl ?_
      refine r_iload_n C 2 dX6_weighedAlong_12 rfl rfl ?_
      refine r_iaddN C dX6_weighedAlong_13 ?_
      refine r_icmpN_ge C dX6_weighedAlong_14 (tgt := 53) (by decide) (by omega) (by omega) (fun h14 => ?_) (fun h14 => ?_)
      · refine r_lload C 5 dX6_weighedAlong_53 rfl ?_
        exact E.2.2.2 rfl _ _ _ _ dX6_weighedAlong_55 ⟨_, rfl, ⟨by rw [show c = n by omega], rfl⟩⟩
      · refine r_lload C 5 dX6_weighedAlong_17 rfl ?_
        refine r_lload C 4 dX6_weighedAlong_19 rfl ?_
        refine r_lmul C dX6_weighedAlong_21 ?_
        refine r_setL (lI_mul _ _) ?_
        refine r_aload_n C 0 dX6_weighedAlong_22 rfl rfl ?_
        refine r_get C (CN := RX6) (T := TX6) (N := 6) (k_w hx) rfl hin_X6 (j := 1) (by decide) hk_15 rfl rfl dX6_weighedAlong_23 ?_
        refine r_aload_n C 0 dX6_weighedAlong_26 rfl rfl ?_
        refine r_get C (CN := RX6) (T := TX6) (N := 6) (k_w hx) rfl hin_X6 (j := 3) (by decide) hk_21 rfl rfl dX6_weighedAlong_27 ?_
        refine r_iload C 7 dX6_weighedAlong_30 rfl ?_
        refine r_iald C (k_w4 hx) (by omega) (by omega) dX6_weighedAlong_32 ?_
        refine r_setI (y := (nI (it f p0 (a + c)))) (hp.2.2.2.2 _ (by omega)) ?_
        refine r_iald C (k_w2 hx) (hp.1.lt hp.2.1 _) (by omega) dX6_weighedAlong_33 ?_
        refine r_setI (y := (iI (w (it f p0 (a + c))))) ((hp.1 _ (hp.1.V hp.2.1 _)).2.2.2) ?_
        have hw := hw50 (it f p0 (a + c)) (hp.1.V hp.2.1 _)
        refine r_i2l C dX6_weighedAlong_34 (v := lI (w (it f p0 (a + c)))) (iI_l (by omega) (by omega)) ?_
        refine r_lload C 6 dX6_weighedAlong_35 rfl ?_
        refine r_lmul C dX6_weighedAlong_37 ?_
        refine r_setL (lI_mul _ _) ?_
        refine r_ladd C dX6_weighedAlong_38 ?_
        refine r_setL (lI_add _ _) ?_
        refine r_lstore C [(0, .ref (ad (17 + 5 * x))), (1, .int (nI (a))), (2, .int (nI (n))), (3, .long (lI p)), (5, .long (lI q)), (7, .long (lI (((wg (fun r => w (it f p0 (a + r))) p q c) * q) + ((w (it f p0 (a + c))) * (pw p c))))), (9, .long (lI (pw p c))), (11, .int (nI (a + c)))] [1, 2, 3, 4, 5, 0, 6, 7] dX6_weighedAlong_39 (by decide) rfl ?_
        refine r_lload C 6 dX6_weighedAlong_41 rfl ?_
        refine r_lload_n C 3 dX6_weighedAlong_43 rfl rfl ?_
        refine r_lmul C dX6_weighedAlong_44 ?_
        refine r_setL (lI_mul _ _) ?_
        refine r_lstore C [(0, .ref (ad (17 + 5 * x))), (1, .int (nI (a))), (2, .int (nI (n))), (3, .long (lI p)), (5, .long (lI q)), (7, .long (lI (((wg (fun r => w (it f p0 (a + r))) p q c) * q) + ((w (it f p0 (a + c))) * (pw p c))))), (9, .long (lI ((pw p c) * p))), (11, .int (nI (a + c)))] [1, 2, 3, 4, 5, 6, 0, 7] dX6_weighedAlong_45 (by decide) rfl ?_
        refine r_iinc C [(0, .ref (ad (17 + 5 * x))), (1, .int (nI (a))), (2, .int (nI (n))), (3, .long (lI p)), (5, .long (lI q)), (7, .long (lI (((wg (fun r => w (it f p0 (a + r))) p q c) * q) + ((w (it f p0 (a + c))) * (pw p c))))), (9, .long (lI ((pw p c) * p))), (11, .int (nI ((a + c) + 1)))] [1, 2, 3, 4, 5, 6, 7, 0] 7 dX6_weighedAlong_47 rfl (nI_add _ 1) (by decide) rfl ?_
        refine r_goto C dX6_weighedAlong_50 (tgt := 9) (by decide) ?_
        exact ih (c + 1) (by omega) (by omega)
  exact L9 (n + 1) 0 (by omega) (by omega)
def rmX6_meeting : Room := { frames := 0, cells := 0, slots := 0, locals := 0 }
theorem pk_X6_meeting : Pk yX6_meeting RX6 2 := by decide +kernel
set_option maxHeartbeats 4000000 in
set_option maxRecDepth 100000 in
theorem c_X6_meeting (l : Launch) (g : gE) (ad : Nat → Nat) (u : Me) (x : Nat) (hx : x < 3) (V : Nat → Prop) (f : Nat → Nat) (w : Nat → Int) (a b : Nat) (hW : WOK u x V f w) (ha : V a) (hb : V b) : Cti l yX6_meeting wsX6_meeting rmX6_meeting g ad [.ref (ad (17 + 5 * x)), .int (nI (a)), .int (nI (b))] u (fun r u' => ((∃ m : Nat, it f a m = it f b m ∧ (∀ r, r < m → ¬ it f a r = it f b r) ∧ r = nI m) ∨ ((∀ m, ¬ it f a m = it f b m) ∧ r = -1)) ∧ u = u') := by
  refine Ct.of (cc := cX6_meeting) (nL := 6) (ret := (some .int)) RX6 (by decide) rfl rfl (Nat.le_of_ble_eq_true rfl) (fun kx C E => ?_)
  have hin_X6 : ∀ w ∈ u_ws RX6 TX6 6, w ∈ wsX6_meeting := by decide +kernel
  have hk_11 : Cond.fieldLink RX6 11 "AgainAgain$Walk" "nexts" "[I" ∈ wsX6_meeting := by decide +kernel
  show G kx 0 0 (WW g ad u) 0 [(0, .ref (ad (17 + 5 * x))), (1, .int (nI (a))), (2, .int (nI (b)))] []
  refine r_iload_n C 1 dX6_meeting_0 rfl rfl ?_
  refine r_istore_n C [(0, .ref (ad (17 + 5 * x))), (1, .int (nI (a))), (2, .int (nI (b))), (3, .int (nI (a)))] [1, 2, 3, 0] dX6_meeting_1 rfl (by decide) rfl ?_
  refine r_iload_n C 2 dX6_meeting_2 rfl rfl ?_
  refine r_istore C [(0, .ref (ad (17 + 5 * x))), (1, .int (nI (a))), (2, .int (nI (b))), (3, .int (nI (a))), (4, .int (nI (b)))] [1, 2, 3, 4, 0] dX6_meeting_3 (by decide) rfl ?_
  refine r_iconst C dX6_meeting_5 (v := nI 0) (by decide) ?_
  refine r_istore C [(0, .ref (ad (17 + 5 * x))), (1, .int (nI (a))), (2, .int (nI (b))), (3, .int (nI (a))), (4, .int (nI (b))), (5, .int (nI (0)))] [1, 2, 3, 4, 5, 0] dX6_meeting_6 (by decide) rfl ?_
  have L8 : ∀ (fu : Nat) (c : Nat), 257 < c + fu → (c ≤ 257) → (∀ r, r < c → ¬ it f a r = it f b r) → G kx 0 0 (WW g ad u) 8 [(0, .ref (ad (17 + 5 * x))), (1, .int (nI (a))), (2, .int (nI (b))), (3, .int (nI (it f a c))), (4, .int (nI (it f b c))), (5, .int (nI (c)))] [] := by
    intro fu
    induction fu with
    | zero => intro c hfu hc hne; exact absurd hfu (by omega)
    | succ fu ih =>
      intro c hfu hc hne
      have ha1 := hW.lt ha c
      have hb1 := hW.lt hb c
      refine r_iload C 5 dX6_meeting_8 rfl ?_
      refine r_sipush C dX6_meeting_10 (v := nI 256) (by decide) ?_
      refine r_icmpN_gt C dX6_meeting_13 (tgt := 47) (by decide) (by omega) (by omega) (fun h13 => ?_) (fun h13 => ?_)
      · refine r_iconst C dX6_meeting_47 (v := (-1)) (by decide) ?_
        exact E.2.1 rfl _ _ _ _ dX6_meeting_48 ⟨_, rfl, ⟨Or.inr ⟨no_meet (hW.lt ha) (hW.lt hb) (fun r hr => hne r (by omega)), rfl⟩, rfl⟩⟩
      · refine r_iload_n C 3 dX6_meeting_16 rfl rfl ?_
        refine r_iload C 4 dX6_meeting_17 rfl ?_
        refine r_icmpN_ne C dX6_meeting_19 (tgt := 25) (by decide) (by omega) (by omega) (fun h19 => ?_) (fun h19 => ?_)
        · refine r_aload_n C 0 dX6_meeting_25 rfl rfl ?_
          refine r_get C (CN := RX6) (T := TX6) (N := 6) (k_w hx) rfl hin_X6 (j := 0) (by decide) hk_11 rfl rfl dX6_meeting_26 ?_
          refine r_iload_n C 3 dX6_meeting_29 rfl rfl ?_
          refine r_iald C (k_w1 hx) (by omega) (by omega) dX6_meeting_30 ?_
          refine r_setI (y := (nI (it f a (c + 1)))) ((hW _ (hW.V ha c)).2.2.1) ?_
          refine r_istore_n C [(0, .ref (ad (17 + 5 * x))), (1, .int (nI (a))), (2, .int (nI (b))), (3, .int (nI (it f a (c + 1)))), (4, .int (nI (it f b c))), (5, .int (nI (c)))] [1, 2, 3, 0, 4, 5] dX6_meeting_31 rfl (by decide) rfl ?_
          refine r_aload_n C 0 dX6_meeting_32 rfl rfl ?_
          refine r_get C (CN := RX6) (T := TX6) (N := 6) (k_w hx) rfl hin_X6 (j := 0) (by decide) hk_11 rfl rfl dX6_meeting_33 ?_
          refine r_iload C 4 dX6_meeting_36 rfl ?_
          refine r_iald C (k_w1 hx) (by omega) (by omega) dX6_meeting_38 ?_
          refine r_setI (y := (nI (it f b (c + 1)))) ((hW _ (hW.V hb c)).2.2.1) ?_
          refine r_istore C [(0, .ref (ad (17 + 5 * x))), (1, .int (nI (a))), (2, .int (nI (b))), (3, .int (nI (it f a (c + 1)))), (4, .int (nI (it f b (c + 1)))), (5, .int (nI (c)))] [1, 2, 3, 4, 0, 5] dX6_meeting_39 (by decide) rfl ?_
          refine r_iinc C [(0, .ref (ad (17 + 5 * x))), (1, .int (nI (a))), (2, .int (nI (b))), (3, .int (nI (it f a (c + 1)))), (4, .int (nI (it f b (c + 1)))), (5, .int (nI (c + 1)))] [1, 2, 3, 4, 5, 0] 5 dX6_meeting_41 rfl (nI_add _ 1) (by decide) rfl ?_
          refine r_goto C dX6_meeting_44 (tgt := 8) (by decide) ?_
          exact ih (c + 1) (by omega) (by omega) (fun r hr => by rcases Nat.lt_or_ge r c with z | z; exact hne r z; rw [show r = c by omega]; exact h19)
        · refine r_iload C 5 dX6_meeting_22 rfl ?_
          exact E.2.1 rfl _ _ _ _ dX6_meeting_24 ⟨_, rfl, ⟨Or.inl ⟨c, h19, hne, rfl⟩, rfl⟩⟩
  exact L8 258 0 (by omega) (by omega) (fun r hr => absurd hr (by omega))
