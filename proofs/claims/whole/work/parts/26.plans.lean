def rmX4_greatestShared : Room := { frames := 0, cells := 0, slots := 0, locals := 0 }
theorem pk_X4_greatestShared : Pk yX4_greatestShared RX4 2 := by decide +kernel
set_option maxHeartbeats 4000000 in
set_option maxRecDepth 100000 in
theorem c_X4_greatestShared (l : Launch) (g : gE) (ad : Nat → Nat) (u : Me) (x d : Nat) (hx : x < 4398046511104) (hd : 0 < d) (hd2 : d ≤ 4294967296) : Ctl l yX4_greatestShared wsX4_greatestShared rmX4_greatestShared g ad [.long (lI (x : Nat)), .long (lI (d : Nat))] u (fun r u' => lI (Nat.gcd x d : Nat) = r ∧ u = u') := by
  refine Ct.of (cc := cX4_greatestShared) (nL := 11) (ret := (some .long)) RX4 (by decide) rfl rfl (Nat.le_of_ble_eq_true rfl) (fun kx C E => ?_)
  show G kx 0 0 (WW g ad u) 0 [(0, .long (lI (x : Nat))), (2, .long (lI (d : Nat)))] []
  refine r_lload_n C 1 dX4_greatestShared_0 rfl rfl ?_
  refine r_lstore C [(0, .long (lI (x : Nat))), (2, .long (lI (d : Nat))), (4, .long (lI (d : Nat)))] [1, 2, 0] dX4_greatestShared_1 (by decide) rfl ?_
  refine r_lload_n C 0 dX4_greatestShared_3 rfl rfl ?_
  refine r_lstore C [(0, .long (lI (x : Nat))), (2, .long (lI (d : Nat))), (4, .long (lI (d : Nat))), (6, .long (lI (x : Nat)))] [1, 2, 3, 0] dX4_greatestShared_4 (by decide) rfl ?_
  refine r_iconst C dX4_greatestShared_6 (v := nI 0) (by decide) ?_
  refine r_istore C [(0, .long (lI (x : Nat))), (2, .long (lI (d : Nat))), (4, .long (lI (d : Nat))), (6, .long (lI (x : Nat))), (8, .int (nI (0)))] [1, 2, 3, 4, 0] dX4_greatestShared_7 (by decide) rfl ?_
  have L9 : ∀ (fu : Nat) (c : Nat) (G0 : Nat) (L0 : Nat), 100 < c + fu → (c ≤ 100) → (Nat.gcd G0 L0 = Nat.gcd d x) → (0 < G0) → (G0 < 8796093022208) → (L0 < 8796093022208) → (1 ≤ c → L0 < G0) → (G0 * L0 * 2 ^ c ≤ 2 ^ 76) → (c = 0 → G0 * L0 * 2 ≤ 2 ^ 76) → G kx 0 0 (WW g ad u) 9 [(0, .long (lI (x : Nat))), (2, .long (lI (d : Nat))), (4, .long (lI (G0 : Nat))), (6, .long (lI (L0 : Nat))), (8, .int (nI (c)))] [] := by
    intro fu
    induction fu with
    | zero => intro c G0 L0 hfu hc hg hG hGb hLb hlt hpr hp0; exact absurd hfu (by omega)
    | succ fu ih =>
      intro c G0 L0 hfu hc hg hG hGb hLb hlt hpr hp0
      refine r_iload C 4 dX4_greatestShared_9 rfl ?_
      refine r_bipush C dX4_greatestShared_11 (v := nI 100) (by decide) ?_
      refine r_icmpN_ge C dX4_greatestShared_13 (tgt := 44) (by decide) (by omega) (by omega) (fun h13 => ?_) (fun h13 => ?_)
      · have hL0 : L0 = 0 := eu_end hG ((show c = 100 by omega) ▸ hpr)
        refine r_lload C 2 dX4_greatestShared_44 rfl ?_
        exact E.2.2.2 rfl _ _ _ _ dX4_greatestShared_46 ⟨_, rfl, ⟨by rw [Nat.gcd_comm x d, ← hg, hL0, Nat.gcd_zero_right], rfl⟩⟩
      · refine r_lload C 3 dX4_greatestShared_16 rfl ?_
        refine r_lconst C dX4_greatestShared_18 (v := lI 0) (by decide) ?_
        refine r_lcmp C dX4_greatestShared_19 ?_
        refine r_if_eq C dX4_greatestShared_20 (tgt := 44) (by decide) (fun h20 => ?_) (fun h20 => ?_)
        · have hL0 : L0 = 0 := by have := (lI_cmp0 (by omega) (by omega)).mp h20; omega
          refine r_lload C 2 dX4_greatestShared_44 rfl ?_
          exact E.2.2.2 rfl _ _ _ _ dX4_greatestShared_46 ⟨_, rfl, ⟨by rw [Nat.gcd_comm x d, ← hg, hL0, Nat.gcd_zero_right], rfl⟩⟩
        · have hL0 : ¬ L0 = 0 := fun z => h20 ((lI_cmp0 (by omega) (by omega)).mpr (by omega))
          refine r_lload C 2 dX4_greatestShared_23 rfl ?_
          refine r_lload C 3 dX4_greatestShared_25 rfl ?_
          refine r_lrem C dX4_greatestShared_27 (lI_ne0 (by omega) (by omega)) ?_
          refine r_setL (y := lI (G0 % L0 : Nat)) (lI_remN (by omega) (by omega) (by omega)) ?_
          have hml := Nat.mod_lt G0 (show 0 < L0 by omega)
          refine r_lstore C [(0, .long (lI (x : Nat))), (2, .long (lI (d : Nat))), (4, .long (lI (G0 : Nat))), (6, .long (lI (L0 : Nat))), (8, .int (nI (c))), (9, .long (lI (G0 % L0 : Nat)))] [1, 2, 3, 4, 5, 0] dX4_greatestShared_28 (by decide) rfl ?_
          refine r_lload C 3 dX4_greatestShared_30 rfl ?_
          refine r_lstore C [(0, .long (lI (x : Nat))), (2, .long (lI (d : Nat))), (4, .long (lI (L0 : Nat))), (6, .long (lI (L0 : Nat))), (8, .int (nI (c))), (9, .long (lI (G0 % L0 : Nat)))] [1, 2, 0, 3, 4, 5] dX4_greatestShared_32 (by decide) rfl ?_
          refine r_lload C 5 dX4_greatestShared_34 rfl ?_
          refine r_lstore C [(0, .long (lI (x : Nat))), (2, .long (lI (d : Nat))), (4, .long (lI (L0 : Nat))), (6, .long (lI (G0 % L0 : Nat))), (8, .int (nI (c))), (9, .long (lI (G0 % L0 : Nat)))] [1, 2, 3, 0, 4, 5] dX4_greatestShared_36 (by decide) rfl ?_
          refine r_iinc C [(0, .long (lI (x : Nat))), (2, .long (lI (d : Nat))), (4, .long (lI (L0 : Nat))), (6, .long (lI (G0 % L0 : Nat))), (8, .int (nI (c + 1))), (9, .long (lI (G0 % L0 : Nat)))] [1, 2, 3, 4, 0, 5] 4 dX4_greatestShared_38 rfl (nI_add _ 1) (by decide) rfl ?_
          refine r_goto C dX4_greatestShared_41 (tgt := 9) (by decide) ?_
          refine r_lvs C [0, 1, 2, 3, 4] (lv' := [(0, .long (lI (x : Nat))), (2, .long (lI (d : Nat))), (4, .long (lI (L0 : Nat))), (6, .long (lI (G0 % L0 : Nat))), (8, .int (nI (c + 1)))]) rfl ?_
          exact ih (c + 1) L0 (G0 % L0) (by omega) (by omega) (by rw [Nat.gcd_comm L0, ← Nat.gcd_rec, Nat.gcd_comm]; exact hg) (by omega) hLb (by omega) (fun _ => by omega) (eu_half (by omega) hlt hpr hp0) (fun q => absurd q (by omega))
  exact L9 101 0 d x (by omega) (by omega) rfl (by omega) (by omega) (by omega) (fun q => absurd q (by omega)) (eu_init (by omega) (by omega)).2 (fun _ => (eu_init (by omega) (by omega)).1)
def rmX4_become : Room := { frames := 1, cells := 0, slots := 0, locals := 30 }
theorem pk_X4_become : Pk yX4_become RX4 2 := by decide +kernel
set_option maxHeartbeats 4000000 in
set_option maxRecDepth 100000 in
theorem c_X4_become (l : Launch) (g : gE) (ad : Nat → Nat) (u : Me) (y : Nat) (hy : y < 3) (a b : Int) (ha1 : -4398046511104 < a) (ha2 : a < 4398046511104) (hb : 1 ≤ b) (hb2 : b ≤ 4294967296) : Ctv l yX4_become wsX4_become rmX4_become g ad [.ref (ad (32 + y)), .long (lI a), .long (lI b)] u (fun u' => sL (sL u (2 + 2 * y) (lI (rdN a b))) (3 + 2 * y) (lI (rdD a b)) = u') := by
  refine Ct.of (cc := cX4_become) (nL := 7) (ret := none) RX4 (by decide) rfl rfl (Nat.le_of_ble_eq_true rfl) (fun kx C E => ?_)
  have hin_X4 : ∀ w ∈ u_ws RX4 TX4 2, w ∈ wsX4_become := by decide +kernel
  have hk_7 : Cond.fieldLink RX4 7 "AgainAgain$Ratio" "top" "J" ∈ wsX4_become := by decide +kernel
  have hk_13 : Cond.fieldLink RX4 13 "AgainAgain$Ratio" "bottom" "J" ∈ wsX4_become := by decide +kernel
  have hka_1 : Cond.methodLink RX4 16 Lib.MathLoose.abs_long.x ∈ wsX4_become := by decide +kernel
  have hka_2 : Cond.static Lib.MathLoose.abs_long.x ∈ wsX4_become := by decide +kernel
  have hka_3 : Cond.initialized "java/lang/Math" ∈ wsX4_become := by decide +kernel
  have hka_4 : Cond.code Lib.MathLoose.abs_long.x Lib.MathLoose.abs_long.code 2 (some .long) ∈ wsX4_become := by decide +kernel
  show G kx 0 0 (WW g ad u) 0 [(0, .ref (ad (32 + y))), (1, .long (lI a)), (3, .long (lI b))] []
  have hg1 : 0 < Nat.gcd a.natAbs b.natAbs := Nat.gcd_pos_of_pos_right _ (by omega)
  have hg2 : Nat.gcd a.natAbs b.natAbs ≤ b.natAbs := Nat.gcd_le_right _ (by omega)
  refine r_lload_n C 1 dX4_become_0 rfl rfl ?_
  refine r_absL C hka_1 hka_2 hka_3 hka_4 (Nat.le_of_ble_eq_true rfl) (Nat.le_of_ble_eq_true rfl) (Nat.le_of_ble_eq_true rfl) (Nat.le_of_ble_eq_true rfl) dX4_become_1 ?_
  refine r_setL (y := lI (a.natAbs : Nat)) (abs_lI (by omega) (by omega)) ?_
  refine r_lload_n C 2 dX4_become_4 rfl rfl ?_
  refine r_setL (y := lI (b.natAbs : Nat)) (by congr 1; omega) ?_
  refine r_callSl C (rest := []) (c_X4_greatestShared l g ad u a.natAbs b.natAbs (by omega) (by omega) (by omega)) gX4_become_X4_greatestShared pk_X4_greatestShared dX4_become_5 rfl rfl rfl rfl ⟨(Nat.le_of_ble_eq_true rfl), (Nat.le_of_ble_eq_true rfl)⟩ rfl (Nat.le_of_ble_eq_true rfl) ⟨(Nat.le_of_ble_eq_true rfl), (Nat.le_of_ble_eq_true rfl)⟩ ?_
  rintro _ _ ⟨rfl, rfl⟩
  refine r_lstore C [(0, .ref (ad (32 + y))), (1, .long (lI a)), (3, .long (lI b)), (5, .long (lI (Nat.gcd a.natAbs b.natAbs : Nat)))] [1, 2, 3, 0] dX4_become_8 (by decide) rfl ?_
  refine r_aload_n C 0 dX4_become_10 rfl rfl ?_
  refine r_lload_n C 1 dX4_become_11 rfl rfl ?_
  refine r_lload C 3 dX4_become_12 rfl ?_
  refine r_ldiv C dX4_become_14 (lI_ne0 (by omega) (by omega)) ?_
  refine r_setL (y := lI (rdN a b)) (lI_div (by omega) (by omega) (by omega) (by omega)) ?_
  refine r_putL C (CN := RX4) (T := TX4) (N := 2) (fL_rt hy) rfl hin_X4 tyX4 tyX4_ok nmX4 (by decide) hk_7 rfl rfl (by decide +kernel) dX4_become_15 ?_
  refine r_aload_n C 0 dX4_become_18 rfl rfl ?_
  refine r_lload_n C 2 dX4_become_19 rfl rfl ?_
  refine r_lload C 3 dX4_become_20 rfl ?_
  refine r_ldiv C dX4_become_22 (lI_ne0 (by omega) (by omega)) ?_
  refine r_setL (y := lI (rdD a b)) (lI_div (by omega) (by omega) (by omega) (by omega)) ?_
  refine r_putL C (CN := RX4) (T := TX4) (N := 2) (fL_rb hy) rfl hin_X4 tyX4 tyX4_ok nmX4 (by decide) hk_13 rfl rfl (by decide +kernel) dX4_become_23 ?_
  exact E.1 rfl _ _ _ dX4_become_26 ⟨rfl, rfl⟩
def rmX4_part : Room := { frames := 0, cells := 0, slots := 0, locals := 0 }
theorem pk_X4_part : Pk yX4_part RX4 1 := by decide +kernel
set_option maxHeartbeats 4000000 in
set_option maxRecDepth 100000 in
theorem c_X4_part (l : Launch) (g : gE) (ad : Nat → Nat) (u : Me) (y : Nat) (hy : y < 3) (what : Nat) (hw : what < 2) : Ctl l yX4_part wsX4_part rmX4_part g ad [.ref (ad (32 + y)), .int (nI (what))] u (fun r u' => (if what = 0 then mL u (2 + 2 * y) else mL u (3 + 2 * y)) = r ∧ u = u') := by
  refine Ct.of (cc := cX4_part) (nL := 2) (ret := (some .long)) RX4 (by decide) rfl rfl (Nat.le_of_ble_eq_true rfl) (fun kx C E => ?_)
  have hin_X4 : ∀ w ∈ u_ws RX4 TX4 2, w ∈ wsX4_part := by decide +kernel
  have hk_7 : Cond.fieldLink RX4 7 "AgainAgain$Ratio" "top" "J" ∈ wsX4_part := by decide +kernel
  have hk_13 : Cond.fieldLink RX4 13 "AgainAgain$Ratio" "bottom" "J" ∈ wsX4_part := by decide +kernel
  show G kx 0 0 (WW g ad u) 0 [(0, .ref (ad (32 + y))), (1, .int (nI (what)))] []
  refine r_iload_n C 1 dX4_part_0 rfl rfl ?_
  refine r_ifN_ne C dX4_part_1 (tgt := 11) (by decide) (by omega) (fun h1 => ?_) (fun h1 => ?_)
  · refine r_aload_n C 0 dX4_part_11 rfl rfl ?_
    refine r_get C (CN := RX4) (T := TX4) (N := 2) (k_r hy) rfl hin_X4 (j := 1) (by decide) hk_13 rfl rfl dX4_part_12 ?_
    exact E.2.2.2 rfl _ _ _ _ dX4_part_15 ⟨_, rfl, ⟨if_neg h1, rfl⟩⟩
  · refine r_aload_n C 0 dX4_part_4 rfl rfl ?_
    refine r_get C (CN := RX4) (T := TX4) (N := 2) (k_r hy) rfl hin_X4 (j := 0) (by decide) hk_7 rfl rfl dX4_part_5 ?_
    refine r_goto C dX4_part_8 (tgt := 15) (by decide) ?_
    exact E.2.2.2 rfl _ _ _ _ dX4_part_15 ⟨_, rfl, ⟨if_pos h1, rfl⟩⟩
def rmX4_compareWith : Room := { frames := 1, cells := 0, slots := 0, locals := 23 }
theorem pk_X4_compareWith : Pk yX4_compareWith RX4 2 := by decide +kernel
set_option maxHeartbeats 4000000 in
set_option maxRecDepth 100000 in
theorem c_X4_compareWith (l : Launch) (g : gE) (ad : Nat → Nat) (u : Me) (y : Nat) (hy : y < 3) (t d a b : Int) (ht : mL u (2 + 2 * y) = lI t) (hd : mL u (3 + 2 * y) = lI d) : Cti l yX4_compareWith wsX4_compareWith rmX4_compareWith g ad [.ref (ad (32 + y)), .long (lI a), .long (lI b)] u (fun r u' => lg_cmp (lI (t * b)) (lI (a * d)) = r ∧ u = u') := by
  refine Ct.of (cc := cX4_compareWith) (nL := 5) (ret := (some .int)) RX4 (by decide) rfl rfl (Nat.le_of_ble_eq_true rfl) (fun kx C E => ?_)
  have hin_X4 : ∀ w ∈ u_ws RX4 TX4 2, w ∈ wsX4_compareWith := by decide +kernel
  have hk_7 : Cond.fieldLink RX4 7 "AgainAgain$Ratio" "top" "J" ∈ wsX4_compareWith := by decide +kernel
  have hk_13 : Cond.fieldLink RX4 13 "AgainAgain$Ratio" "bottom" "J" ∈ wsX4_compareWith := by decide +kernel
  show G kx 0 0 (WW g ad u) 0 [(0, .ref (ad (32 + y))), (1, .long (lI a)), (3, .long (lI b))] []
  refine r_aload_n C 0 dX4_compareWith_0 rfl rfl ?_
  refine r_get C (CN := RX4) (T := TX4) (N := 2) (k_r hy) rfl hin_X4 (j := 0) (by decide) hk_7 rfl rfl dX4_compareWith_1 ?_
  refine r_setL (y := (lI t)) (ht) ?_
  refine r_lload_n C 2 dX4_compareWith_4 rfl rfl ?_
  refine r_lmul C dX4_compareWith_5 ?_
  refine r_setL (lI_mul _ _) ?_
  refine r_lload_n C 1 dX4_compareWith_6 rfl rfl ?_
  refine r_aload_n C 0 dX4_compareWith_7 rfl rfl ?_
  refine r_get C (CN := RX4) (T := TX4) (N := 2) (k_r hy) rfl hin_X4 (j := 1) (by decide) hk_13 rfl rfl dX4_compareWith_8 ?_
  refine r_setL (y := (lI d)) (hd) ?_
  refine r_lmul C dX4_compareWith_11 ?_
  refine r_setL (lI_mul _ _) ?_
  refine r_callSi C (rest := []) (c_J13_compare_74951 l g ad u (lI (t * b)) (lI (a * d))) gX4_compareWith_J13_compare_74951 pk_J13_compare_74951 dX4_compareWith_12 rfl rfl rfl rfl ⟨(Nat.le_of_ble_eq_true rfl), (Nat.le_of_ble_eq_true rfl)⟩ rfl (Nat.le_of_ble_eq_true rfl) ⟨(Nat.le_of_ble_eq_true rfl), (Nat.le_of_ble_eq_true rfl)⟩ ?_
  rintro _ _ ⟨rfl, rfl⟩
  exact E.2.1 rfl _ _ _ _ dX4_compareWith_15 ⟨_, rfl, ⟨rfl, rfl⟩⟩
def rmX6_worthInto : Room := { frames := 2, cells := 0, slots := 0, locals := 56 }
theorem pk_X6_worthInto : Pk yX6_worthInto RX6 2 := by decide +kernel
set_option maxHeartbeats 4000000 in
set_option maxRecDepth 100000 in
theorem c_X6_worthInto (l : Launch) (g : gE) (ad : Nat → Nat) (u : Me) (S : Sg) (hC : RepC S u) (hO : Ok S) (x : Nat) (hx : x < 3) (V : Nat → Prop) (f : Nat → Nat) (w : Nat → Int) (p0 : Nat) (hp : PL u x V f w p0) (hw50 : ∀ p, V p → -50 ≤ w p ∧ w p ≤ 50) (y : Nat) (hy : y < 3) : Ctv l yX6_worthInto wsX6_worthInto rmX6_worthInto g ad [.ref (ad (17 + 5 * x)), .ref (ad 1), .ref (ad (32 + y))] u (fun u' => mL u' (2 + 2 * y) = lI (vN S f w p0) ∧ mL u' (3 + 2 * y) = lI (vD S f w p0) ∧ Sm [] [] [] [2 + 2 * y, 3 + 2 * y] u u') := by
  refine Ct.of (cc := cX6_worthInto) (nL := 11) (ret := none) RX6 (by decide) rfl rfl (Nat.le_of_ble_eq_true rfl) (fun kx C E => ?_)
  have hin_X6 : ∀ w ∈ u_ws RX6 TX6 6, w ∈ wsX6_worthInto := by decide +kernel
  have hk_24 : Cond.fieldLink RX6 24 "AgainAgain$Walk" "tail" "I" ∈ wsX6_worthInto := by decide +kernel
  have hk_28 : Cond.fieldLink RX6 28 "AgainAgain$Walk" "ring" "I" ∈ wsX6_worthInto := by decide +kernel
  show G kx 0 0 (WW g ad u) 0 [(0, .ref (ad (17 + 5 * x))), (1, .ref (ad 1)), (2, .ref (ad (32 + y)))] []
  obtain ⟨hT, hT16⟩ := hp.tr
  have hR := hT.1
  refine r_aload_n C 1 dX6_worthInto_0 rfl rfl ?_
  refine r_callVl C (rest := []) (c_X0_rateOver l g ad u S hC) gX6_worthInto_X0_rateOver pk_X0_rateOver k_1 dX6_worthInto_1 rfl rfl rfl rfl ⟨(Nat.le_of_ble_eq_true rfl), (Nat.le_of_ble_eq_true rfl)⟩ rfl rfl (Nat.le_of_ble_eq_true rfl) ⟨(Nat.le_of_ble_eq_true rfl), (Nat.le_of_ble_eq_true rfl)⟩ ?_
  rintro _ _ ⟨rfl, rfl⟩
  refine r_lstore_n C [(0, .ref (ad (17 + 5 * x))), (1, .ref (ad 1)), (2, .ref (ad (32 + y))), (3, .long (lI (sU S)))] [1, 2, 3, 0] dX6_worthInto_4 rfl (by decide) rfl ?_
  refine r_aload_n C 1 dX6_worthInto_5 rfl rfl ?_
  refine r_callVl C (rest := []) (c_X0_rateUnder l g ad u S hC) gX6_worthInto_X0_rateUnder pk_X0_rateUnder k_1 dX6_worthInto_6 rfl rfl rfl rfl ⟨(Nat.le_of_ble_eq_true rfl), (Nat.le_of_ble_eq_true rfl)⟩ rfl rfl (Nat.le_of_ble_eq_true rfl) ⟨(Nat.le_of_ble_eq_true rfl), (Nat.le_of_ble_eq_true rfl)⟩ ?_
  rintro _ _ ⟨rfl, rfl⟩
  refine r_lstore C [(0, .ref (ad (17 + 5 * x))), (1, .ref (ad 1)), (2, .ref (ad (32 + y))), (3, .long (lI (sU S))), (5, .long (lI (sB S)))] [1, 2, 3, 4, 0] dX6_worthInto_9 (by decide) rfl ?_
  refine r_lload C 4 dX6_worthInto_11 rfl ?_
  refine r_aload_n C 0 dX6_worthInto_13 rfl rfl ?_
  refine r_get C (CN := RX6) (T := TX6) (N := 6) (k_w hx) rfl hin_X6 (j := 5) (by decide) hk_28 rfl rfl dX6_worthInto_14 ?_
  refine r_setI (y := (nI (rg f p0))) (hp.2.2.2.1) ?_
  refine r_callSl C (rest := []) (c_X6_power l g ad u (sB S) (rg f p0) (by omega)) gX6_worthInto_X6_power pk_X6_power dX6_worthInto_17 rfl rfl rfl rfl ⟨(Nat.le_of_ble_eq_true rfl), (Nat.le_of_ble_eq_true rfl)⟩ rfl (Nat.le_of_ble_eq_true rfl) ⟨(Nat.le_of_ble_eq_true rfl), (Nat.le_of_ble_eq_true rfl)⟩ ?_
  rintro _ _ ⟨rfl, rfl⟩
  refine r_lload_n C 3 dX6_worthInto_20 rfl rfl ?_
  refine r_aload_n C 0 dX6_worthInto_21 rfl rfl ?_
  refine r_get C (CN := RX6) (T := TX6) (N := 6) (k_w hx) rfl hin_X6 (j := 5) (by decide) hk_28 rfl rfl dX6_worthInto_22 ?_
  refine r_setI (y := (nI (rg f p0))) (hp.2.2.2.1) ?_
  refine r_callSl C (rest := [.long (lI (pw (sB S) (rg f p0)))]) (c_X6_power l g ad u (sU S) (rg f p0) (by omega)) gX6_worthInto_X6_power pk_X6_power dX6_worthInto_25 rfl rfl rfl rfl ⟨(Nat.le_of_ble_eq_true rfl), (Nat.le_of_ble_eq_true rfl)⟩ rfl (Nat.le_of_ble_eq_true rfl) ⟨(Nat.le_of_ble_eq_true rfl), (Nat.le_of_ble_eq_true rfl)⟩ ?_
  rintro _ _ ⟨rfl, rfl⟩
  refine r_lsub C dX6_worthInto_28 ?_
  refine r_setL (lI_sub _ _) ?_
  refine r_lstore C [(0, .ref (ad (17 + 5 * x))), (1, .ref (ad 1)), (2, .ref (ad (32 + y))), (3, .long (lI (sU S))), (5, .long (lI (sB S))), (7, .long (lI ((pw (sB S) (rg f p0)) - (pw (sU S) (rg f p0)))))] [1, 2, 3, 4, 5, 0] dX6_worthInto_29 (by decide) rfl ?_
  refine r_aload_n C 0 dX6_worthInto_31 rfl rfl ?_
  refine r_iconst C dX6_worthInto_32 (v := nI 0) (by decide) ?_
  refine r_aload_n C 0 dX6_worthInto_33 rfl rfl ?_
  refine r_get C (CN := RX6) (T := TX6) (N := 6) (k_w hx) rfl hin_X6 (j := 4) (by decide) hk_24 rfl rfl dX6_worthInto_34 ?_
  refine r_setI (y := (nI (tl f p0))) (hp.2.2.1) ?_
  refine r_lload_n C 3 dX6_worthInto_37 rfl rfl ?_
  refine r_lload C 4 dX6_worthInto_38 rfl ?_
  refine r_callVl C (rest := []) (c_X6_weighedAlong l g ad u x hx V f w p0 hp hw50 0 (tl f p0) (by omega) (sU S) (sB S)) gX6_worthInto_X6_weighedAlong pk_X6_weighedAlong (k_w hx) dX6_worthInto_40 rfl rfl rfl rfl ⟨(Nat.le_of_ble_eq_true rfl), (Nat.le_of_ble_eq_true rfl)⟩ rfl rfl (Nat.le_of_ble_eq_true rfl) ⟨(Nat.le_of_ble_eq_true rfl), (Nat.le_of_ble_eq_true rfl)⟩ ?_
  rintro _ _ ⟨rfl, rfl⟩
  refine r_lload C 5 dX6_worthInto_43 rfl ?_
  refine r_lmul C dX6_worthInto_45 ?_
  refine r_setL (lI_mul _ _) ?_
  refine r_lload_n C 3 dX6_worthInto_46 rfl rfl ?_
  refine r_aload_n C 0 dX6_worthInto_47 rfl rfl ?_
  refine r_get C (CN := RX6) (T := TX6) (N := 6) (k_w hx) rfl hin_X6 (j := 4) (by decide) hk_24 rfl rfl dX6_worthInto_48 ?_
  refine r_setI (y := (nI (tl f p0))) (hp.2.2.1) ?_
  refine r_callSl C (rest := [.long (lI ((wg (fun r => w (it f p0 (0 + r))) (sU S) (sB S) (tl f p0)) * ((pw (sB S) (rg f p0)) - (pw (sU S) (rg f p0)))))]) (c_X6_power l g ad u (sU S) (tl f p0) (by omega)) gX6_worthInto_X6_power pk_X6_power dX6_worthInto_51 rfl rfl rfl rfl ⟨(Nat.le_of_ble_eq_true rfl), (Nat.le_of_ble_eq_true rfl)⟩ rfl (Nat.le_of_ble_eq_true rfl) ⟨(Nat.le_of_ble_eq_true rfl), (Nat.le_of_ble_eq_true rfl)⟩ ?_
  rintro _ _ ⟨rfl, rfl⟩
  refine r_aload_n C 0 dX6_worthInto_54 rfl rfl ?_
  refine r_aload_n C 0 dX6_worthInto_55 rfl rfl ?_
  refine r_get C (CN := RX6) (T := TX6) (N := 6) (k_w hx) rfl hin_X6 (j := 4) (by decide) hk_24 rfl rfl dX6_worthInto_56 ?_
  refine r_setI (y := (nI (tl f p0))) (hp.2.2.1) ?_
  refine r_aload_n C 0 dX6_worthInto_59 rfl rfl ?_
  refine r_get C (CN := RX6) (T := TX6) (N := 6) (k_w hx) rfl hin_X6 (j := 5) (by decide) hk_28 rfl rfl dX6_worthInto_60 ?_
  refine r_setI (y := (nI (rg f p0))) (hp.2.2.2.1) ?_
  refine r_lload_n C 3 dX6_worthInto_63 rfl rfl ?_
  refine r_lload C 4 dX6_worthInto_64 rfl ?_
  refine r_callVl C (rest := [.long (lI (pw (sU S) (tl f p0))), .long (lI ((wg (fun r => w (it f p0 (0 + r))) (sU S) (sB S) (tl f p0)) * ((pw (sB S) (rg f p0)) - (pw (sU S) (rg f p0)))))]) (c_X6_weighedAlong l g ad u x hx V f w p0 hp hw50 (tl f p0) (rg f p0) (by omega) (sU S) (sB S)) gX6_worthInto_X6_weighedAlong pk_X6_weighedAlong (k_w hx) dX6_worthInto_66 rfl rfl rfl rfl ⟨(Nat.le_of_ble_eq_true rfl), (Nat.le_of_ble_eq_true rfl)⟩ rfl rfl (Nat.le_of_ble_eq_true rfl) ⟨(Nat.le_of_ble_eq_true rfl), (Nat.le_of_ble_eq_true rfl)⟩ ?_
  rintro _ _ ⟨rfl, rfl⟩
  refine r_lmul C dX6_worthInto_69 ?_
  refine r_setL (lI_mul _ _) ?_
  refine r_ladd C dX6_worthInto_70 ?_
  refine r_setL (lI_add _ _) ?_
  refine r_lstore C [(0, .ref (ad (17 + 5 * x))), (1, .ref (ad 1)), (2, .ref (ad (32 + y))), (3, .long (lI (sU S))), (5, .long (lI (sB S))), (7, .long (lI ((pw (sB S) (rg f p0)) - (pw (sU S) (rg f p0))))), (9, .long (lI (((wg (fun r => w (it f p0 (0 + r))) (sU S) (sB S) (tl f p0)) * ((pw (sB S) (rg f p0)) - (pw (sU S) (rg f p0)))) + ((pw (sU S) (tl f p0)) * (wg (fun r => w (it f p0 ((tl f p0) + r))) (sU S) (sB S) (rg f p0))))))] [1, 2, 3, 4, 5, 6, 0] dX6_worthInto_71 (by decide) rfl ?_
  refine r_aload_n C 2 dX6_worthInto_73 rfl rfl ?_
  refine r_lload C 4 dX6_worthInto_74 rfl ?_
  refine r_lload C 6 dX6_worthInto_76 rfl ?_
  refine r_lmul C dX6_worthInto_78 ?_
  refine r_setL (lI_mul _ _) ?_
  refine r_lload C 4 dX6_worthInto_79 rfl ?_
  refine r_aload_n C 0 dX6_worthInto_81 rfl rfl ?_
  refine r_get C (CN := RX6) (T := TX6) (N := 6) (k_w hx) rfl hin_X6 (j := 4) (by decide) hk_24 rfl rfl dX6_worthInto_82 ?_
  refine r_setI (y := (nI (tl f p0))) (hp.2.2.1) ?_
  refine r_callSl C (rest := [.long (lI ((sB S) * (((wg (fun r => w (it f p0 (0 + r))) (sU S) (sB S) (tl f p0)) * ((pw (sB S) (rg f p0)) - (pw (sU S) (rg f p0)))) + ((pw (sU S) (tl f p0)) * (wg (fun r => w (it f p0 ((tl f p0) + r))) (sU S) (sB S) (rg f p0)))))), .ref (ad (32 + y))]) (c_X6_power l g ad u (sB S) (tl f p0) (by omega)) gX6_worthInto_X6_power pk_X6_power dX6_worthInto_85 rfl rfl rfl rfl ⟨(Nat.le_of_ble_eq_true rfl), (Nat.le_of_ble_eq_true rfl)⟩ rfl (Nat.le_of_ble_eq_true rfl) ⟨(Nat.le_of_ble_eq_true rfl), (Nat.le_of_ble_eq_true rfl)⟩ ?_
  rintro _ _ ⟨rfl, rfl⟩
  refine r_lload C 5 dX6_worthInto_88 rfl ?_
  refine r_lmul C dX6_worthInto_90 ?_
  refine r_setL (lI_mul _ _) ?_
  have e0 : wg (fun r => w (it f p0 (0 + r))) (sU S) (sB S) (tl f p0) = wg (fun r => w (it f p0 r)) (sU S) (sB S) (tl f p0) := wg_congr (fun r _ => by rw [Nat.zero_add])
  rw [e0]
  have hb := way_bounds hO (fun r => hp.1.lt hp.2.1 r) (fun r => hw50 _ (hp.1.V hp.2.1 r))
  obtain ⟨hb1, hb2, hb3, hb4⟩ := hb
  unfold nmF NUM at hb1 hb2
  unfold dnF DEN at hb3 hb4
  refine r_callVv C (rest := []) (c_X4_become l g ad u y hy ((sB S) * (((wg (fun r => w (it f p0 r)) (sU S) (sB S) (tl f p0)) * ((pw (sB S) (rg f p0)) - (pw (sU S) (rg f p0)))) + ((pw (sU S) (tl f p0)) * (wg (fun r => w (it f p0 ((tl f p0) + r))) (sU S) (sB S) (rg f p0))))) ((pw (sB S) (tl f p0)) * ((pw (sB S) (rg f p0)) - (pw (sU S) (rg f p0)))) hb1 hb2 hb3 hb4) gX6_worthInto_X4_become pk_X4_become (k_r hy) dX6_worthInto_91 rfl rfl rfl rfl ⟨(Nat.le_of_ble_eq_true rfl), (Nat.le_of_ble_eq_true rfl)⟩ rfl rfl (Nat.le_of_ble_eq_true rfl) ⟨(Nat.le_of_ble_eq_true rfl), (Nat.le_of_ble_eq_true rfl)⟩ ?_
  rintro _ rfl
  exact E.1 rfl _ _ _ dX6_worthInto_94 ⟨rfl, ⟨by rw [mL_sL_ne _ _ (by omega), mL_sL_self]; rfl, by rw [mL_sL_self]; rfl, (Sm.rf.sL (by simp) _).sL (by simp) _⟩⟩
def rmX3_plansAgainst : Room := { frames := 0, cells := 0, slots := 0, locals := 0 }
theorem pk_X3_plansAgainst : Pk yX3_plansAgainst RX3 1 := by decide +kernel
set_option maxHeartbeats 4000000 in
set_option maxRecDepth 100000 in
theorem c_X3_plansAgainst (l : Launch) (g : gE) (ad : Nat → Nat) (u : Me) (n : Nat) (hn : n < 5) : Cti l yX3_plansAgainst wsX3_plansAgainst rmX3_plansAgainst g ad [.int (nI (n))] u (fun r u' => nI (3 ^ n) = r ∧ u = u') := by
  refine Ct.of (cc := cX3_plansAgainst) (nL := 3) (ret := (some .int)) RX3 (by decide) rfl rfl (Nat.le_of_ble_eq_true rfl) (fun kx C E => ?_)
  show G kx 0 0 (WW g ad u) 0 [(0, .int (nI (n)))] []
  refine r_iconst C dX3_plansAgainst_0 (v := nI 1) (by decide) ?_
  refine r_istore_n C [(0, .int (nI (n))), (1, .int (nI (1)))] [1, 0] dX3_plansAgainst_1 rfl (by decide) rfl ?_
  refine r_iconst C dX3_plansAgainst_2 (v := nI 0) (by decide) ?_
  refine r_istore_n C [(0, .int (nI (n))), (1, .int (nI (1))), (2, .int (nI (0)))] [1, 2, 0] dX3_plansAgainst_3 rfl (by decide) rfl ?_
  have L4 : ∀ (fu : Nat) (c : Nat), n < c + fu → (c ≤ n) → G kx 0 0 (WW g ad u) 4 [(0, .int (nI (n))), (1, .int (nI (3 ^ c))), (2, .int (nI (c)))] [] := by
    intro fu
    induction fu with
    | zero => intro c hfu hc; exact absurd hfu (by omega)
    | succ fu ih =>
      intro c hfu hc
      refine r_iload_n C 2 dX3_plansAgainst_4 rfl rfl ?_
      refine r_iload_n C 0 dX3_plansAgainst_5 rfl rfl ?_
      refine r_icmpN_ge C dX3_plansAgainst_6 (tgt := 19) (by decide) (by omega) (by omega) (fun h6 => ?_) (fun h6 => ?_)
      · refine r_iload_n C 1 dX3_plansAgainst_19 rfl rfl ?_
        exact E.2.1 rfl _ _ _ _ dX3_plansAgainst_20 ⟨_, rfl, ⟨by rw [show c = n by omega], rfl⟩⟩
      · refine r_iload_n C 1 dX3_plansAgainst_9 rfl rfl ?_
        refine r_iconst C dX3_plansAgainst_10 (v := nI 3) (by decide) ?_
        refine r_imulN C dX3_plansAgainst_11 ?_
        refine r_istore_n C [(0, .int (nI (n))), (1, .int (nI ((3 ^ c) * 3))), (2, .int (nI (c)))] [1, 0, 2] dX3_plansAgainst_12 rfl (by decide) rfl ?_
        refine r_iinc C [(0, .int (nI (n))), (1, .int (nI ((3 ^ c) * 3))), (2, .int (nI (c + 1)))] [1, 2, 0] 2 dX3_plansAgainst_13 rfl (nI_add _ 1) (by decide) rfl ?_
        refine r_goto C dX3_plansAgainst_16 (tgt := 4) (by decide) ?_
        exact ih (c + 1) (by omega) (by omega)
  exact L4 (n + 1) 0 (by omega) (by omega)
def rmX3_slotOf : Room := { frames := 0, cells := 0, slots := 0, locals := 0 }
theorem pk_X3_slotOf : Pk yX3_slotOf RX3 2 := by decide +kernel
set_option maxHeartbeats 4000000 in
set_option maxRecDepth 100000 in
theorem c_X3_slotOf (l : Launch) (g : gE) (ad : Nat → Nat) (u : Me) (m s : Nat) : Cti l yX3_slotOf wsX3_slotOf rmX3_slotOf g ad [.int (nI (m)), .int (nI (s))] u (fun r u' => nI (m * 4 + s) = r ∧ u = u') := by
  refine Ct.of (cc := cX3_slotOf) (nL := 2) (ret := (some .int)) RX3 (by decide) rfl rfl (Nat.le_of_ble_eq_true rfl) (fun kx C E => ?_)
  show G kx 0 0 (WW g ad u) 0 [(0, .int (nI (m))), (1, .int (nI (s)))] []
  refine r_iload_n C 0 dX3_slotOf_0 rfl rfl ?_
  refine r_iconst C dX3_slotOf_1 (v := nI 4) (by decide) ?_
  refine r_imulN C dX3_slotOf_2 ?_
  refine r_iload_n C 1 dX3_slotOf_3 rfl rfl ?_
  refine r_iaddN C dX3_slotOf_4 ?_
  exact E.2.1 rfl _ _ _ _ dX3_slotOf_5 ⟨_, rfl, ⟨rfl, rfl⟩⟩
def rmX3_keep : Room := { frames := 1, cells := 0, slots := 0, locals := 21 }
theorem pk_X3_keep : Pk yX3_keep RX3 2 := by decide +kernel
set_option maxHeartbeats 4000000 in
set_option maxRecDepth 100000 in
theorem c_X3_keep (l : Launch) (g : gE) (ad : Nat → Nat) (u : Me) (j plan : Nat) (hj : j < 48) : Ctv l yX3_keep wsX3_keep rmX3_keep g ad [.ref (ad 13), .int (nI (j)), .int (nI (plan))] u (fun u' => mA u' 14 = upd (mA u 14) j (nI plan) ∧ mJ u' 15 = vp_updL (mJ u 15) j (mL u 2) ∧ mJ u' 16 = vp_updL (mJ u 16) j (mL u 3) ∧ Sm [14] [15, 16] [] [] u u') := by
  refine Ct.of (cc := cX3_keep) (nL := 3) (ret := none) RX3 (by decide) rfl rfl (Nat.le_of_ble_eq_true rfl) (fun kx C E => ?_)
  have hin_X3 : ∀ w ∈ u_ws RX3 TX3 5, w ∈ wsX3_keep := by decide +kernel
  have hk_11 : Cond.fieldLink RX3 11 "AgainAgain$Plans" "plans" "[I" ∈ wsX3_keep := by decide +kernel
  have hk_15 : Cond.fieldLink RX3 15 "AgainAgain$Plans" "tops" "[J" ∈ wsX3_keep := by decide +kernel
  have hk_19 : Cond.fieldLink RX3 19 "AgainAgain$Plans" "bottoms" "[J" ∈ wsX3_keep := by decide +kernel
  have hk_32 : Cond.fieldLink RX3 32 "AgainAgain$Plans" "tried" "LAgainAgain$Ratio;" ∈ wsX3_keep := by decide +kernel
  show G kx 0 0 (WW g ad u) 0 [(0, .ref (ad 13)), (1, .int (nI (j))), (2, .int (nI (plan)))] []
  refine r_aload_n C 0 dX3_keep_0 rfl rfl ?_
  refine r_get C (CN := RX3) (T := TX3) (N := 5) k_13 rfl hin_X3 (j := 0) (by decide) hk_11 rfl rfl dX3_keep_1 ?_
  refine r_iload_n C 1 dX3_keep_4 rfl rfl ?_
  refine r_iload_n C 2 dX3_keep_5 rfl rfl ?_
  refine r_iast C k_14 (by omega) (by omega) dX3_keep_6 ?_
  refine r_aload_n C 0 dX3_keep_7 rfl rfl ?_
  refine r_get C (CN := RX3) (T := TX3) (N := 5) k_13 rfl hin_X3 (j := 1) (by decide) hk_15 rfl rfl dX3_keep_8 ?_
  refine r_iload_n C 1 dX3_keep_11 rfl rfl ?_
  refine r_aload_n C 0 dX3_keep_12 rfl rfl ?_
  refine r_get C (CN := RX3) (T := TX3) (N := 5) k_13 rfl hin_X3 (j := 4) (by decide) hk_32 rfl rfl dX3_keep_13 ?_
  refine r_iconst C dX3_keep_16 (v := nI 0) (by decide) ?_
  refine r_callVl C (rest := [.int (nI (j)), .ref (ad 15)]) (c_X4_part l g ad (sA u (14) (upd (mA u (14)) j (nI (plan)))) 0 (by decide) 0 (by decide)) gX3_keep_X4_part pk_X4_part k_32 dX3_keep_17 rfl rfl rfl rfl ⟨(Nat.le_of_ble_eq_true rfl), (Nat.le_of_ble_eq_true rfl)⟩ rfl rfl (Nat.le_of_ble_eq_true rfl) ⟨(Nat.le_of_ble_eq_true rfl), (Nat.le_of_ble_eq_true rfl)⟩ ?_
  rintro _ _ ⟨rfl, rfl⟩
  refine r_setL (y := (mL (sA u (14) (upd (mA u (14)) j (nI (plan)))) 2)) (rfl) ?_
  refine r_last C k_15 (by omega) (by omega) dX3_keep_20 ?_
  refine r_aload_n C 0 dX3_keep_21 rfl rfl ?_
  refine r_get C (CN := RX3) (T := TX3) (N := 5) k_13 rfl hin_X3 (j := 2) (by decide) hk_19 rfl rfl dX3_keep_22 ?_
  refine r_iload_n C 1 dX3_keep_25 rfl rfl ?_
  refine r_aload_n C 0 dX3_keep_26 rfl rfl ?_
  refine r_get C (CN := RX3) (T := TX3) (N := 5) k_13 rfl hin_X3 (j := 4) (by decide) hk_32 rfl rfl dX3_keep_27 ?_
  refine r_iconst C dX3_keep_30 (v := nI 1) (by decide) ?_
  refine r_callVl C (rest := [.int (nI (j)), .ref (ad 16)]) (c_X4_part l g ad (sJ (sA u (14) (upd (mA u (14)) j (nI (plan)))) (15) (vp_updL (mJ (sA u (14) (upd (mA u (14)) j (nI (plan)))) (15)) j (mL (sA u (14) (upd (mA u (14)) j (nI (plan)))) 2))) 0 (by decide) 1 (by decide)) gX3_keep_X4_part pk_X4_part k_32 dX3_keep_31 rfl rfl rfl rfl ⟨(Nat.le_of_ble_eq_true rfl), (Nat.le_of_ble_eq_true rfl)⟩ rfl rfl (Nat.le_of_ble_eq_true rfl) ⟨(Nat.le_of_ble_eq_true rfl), (Nat.le_of_ble_eq_true rfl)⟩ ?_
  rintro _ _ ⟨rfl, rfl⟩
  refine r_setL (y := (mL (sJ (sA u (14) (upd (mA u (14)) j (nI (plan)))) (15) (vp_updL (mJ (sA u (14) (upd (mA u (14)) j (nI (plan)))) (15)) j (mL (sA u (14) (upd (mA u (14)) j (nI (plan)))) 2))) 3)) (rfl) ?_
  refine r_last C k_16 (by omega) (by omega) dX3_keep_34 ?_
  exact E.1 rfl _ _ _ dX3_keep_35 ⟨rfl, ⟨rfl, rfl, rfl, ((Sm.rf.sA (by decide) _).sJ (by decide) _).sJ (by decide) _⟩⟩
def rmX3_weigh : Room := { frames := 3, cells := 0, slots := 0, locals := 86 }
theorem pk_X3_weigh : Pk yX3_weigh RX3 6 := by decide +kernel
set_option maxHeartbeats 4000000 in
set_option maxRecDepth 100000 in
theorem c_X3_weigh (l : Launch) (g : gE) (ad : Nat → Nat) (u : Me) (S : Sg) (hC : RepC S u) (hO : Ok S) (m s plan : Nat) (hm : m < sN S) (hs : s < sz S m) (hpl : plan < 3 ^ sz S m) (y : Nat) (hy : y < 3) : Ctv l yX3_weigh wsX3_weigh rmX3_weigh g ad [.ref (ad 13), .ref (ad 1), .ref (ad 3), .int (nI (m)), .int (nI (s)), .int (nI (plan)), .ref (ad (32 + y))] u (fun u' => mL u' (2 + 2 * y) = lI (qN S m s plan) ∧ mL u' (3 + 2 * y) = lI (qD S m s plan) ∧ Sm [18, 19, 20, 21] [] [1, 2] [2 + 2 * y, 3 + 2 * y] u u' ∧ RepC S u') := by
  refine Ct.of (cc := cX3_weigh) (nL := 7) (ret := none) RX3 (by decide) rfl rfl (Nat.le_of_ble_eq_true rfl) (fun kx C E => ?_)
  have hin_X3 : ∀ w ∈ u_ws RX3 TX3 5, w ∈ wsX3_weigh := by decide +kernel
  have hk_25 : Cond.fieldLink RX3 25 "AgainAgain$Plans" "walk" "LAgainAgain$Walk;" ∈ wsX3_weigh := by decide +kernel
  show G kx 0 0 (WW g ad u) 0 [(0, .ref (ad 13)), (1, .ref (ad 1)), (2, .ref (ad 3)), (3, .int (nI (m))), (4, .int (nI (s))), (5, .int (nI (plan))), (6, .ref (ad (32 + y)))] []
  have hz := (hO.z m).2
  have h81 : 3 ^ sz S m ≤ 3 ^ 4 := Nat.pow_le_pow_right (by decide) hz
  refine r_aload_n C 0 dX3_weigh_0 rfl rfl ?_
  refine r_get C (CN := RX3) (T := TX3) (N := 5) k_13 rfl hin_X3 (j := 3) (by decide) hk_25 rfl rfl dX3_weigh_1 ?_
  refine r_aload_n C 1 dX3_weigh_4 rfl rfl ?_
  refine r_aload_n C 2 dX3_weigh_5 rfl rfl ?_
  refine r_iload_n C 3 dX3_weigh_6 rfl rfl ?_
  refine r_iload C 5 dX3_weigh_7 rfl ?_
  refine r_callVv C (rest := []) (c_X6_takePlan l g ad u S hC hO 0 (by decide) m plan hm (by omega)) gX3_weigh_X6_takePlan pk_X6_takePlan k_17 dX3_weigh_9 rfl rfl rfl rfl ⟨(Nat.le_of_ble_eq_true rfl), (Nat.le_of_ble_eq_true rfl)⟩ rfl rfl (Nat.le_of_ble_eq_true rfl) ⟨(Nat.le_of_ble_eq_true rfl), (Nat.le_of_ble_eq_true rfl)⟩ ?_
  rintro u1 ⟨hW1, hs1, hC1⟩
  refine r_aload_n C 0 dX3_weigh_12 rfl rfl ?_
  refine r_get C (CN := RX3) (T := TX3) (N := 5) k_13 rfl hin_X3 (j := 3) (by decide) hk_25 rfl rfl dX3_weigh_13 ?_
  refine r_iload C 4 dX3_weigh_16 rfl ?_
  refine r_callVv C (rest := []) (c_X6_startAt l g ad u1 0 (by decide) _ _ _ s hW1 hs) gX3_weigh_X6_startAt pk_X6_startAt k_17 dX3_weigh_18 rfl rfl rfl rfl ⟨(Nat.le_of_ble_eq_true rfl), (Nat.le_of_ble_eq_true rfl)⟩ rfl rfl (Nat.le_of_ble_eq_true rfl) ⟨(Nat.le_of_ble_eq_true rfl), (Nat.le_of_ble_eq_true rfl)⟩ ?_
  rintro u2 ⟨hp2, hs2⟩
  have hC2 : RepC S u2 := hC1.sm hs2 (by unfold leC; decide)
  refine r_aload_n C 0 dX3_weigh_21 rfl rfl ?_
  refine r_get C (CN := RX3) (T := TX3) (N := 5) k_13 rfl hin_X3 (j := 3) (by decide) hk_25 rfl rfl dX3_weigh_22 ?_
  refine r_aload_n C 1 dX3_weigh_25 rfl rfl ?_
  refine r_aload C 6 dX3_weigh_26 rfl ?_
  refine r_callVv C (rest := []) (c_X6_worthInto l g ad u2 S hC2 hO 0 (by decide) _ _ _ s hp2 (fun p _ => hO.p _ _) y hy) gX3_weigh_X6_worthInto pk_X6_worthInto k_17 dX3_weigh_28 rfl rfl rfl rfl ⟨(Nat.le_of_ble_eq_true rfl), (Nat.le_of_ble_eq_true rfl)⟩ rfl rfl (Nat.le_of_ble_eq_true rfl) ⟨(Nat.le_of_ble_eq_true rfl), (Nat.le_of_ble_eq_true rfl)⟩ ?_
  rintro u3 ⟨ht3, hd3, hs3⟩
  exact E.1 rfl _ _ _ dX3_weigh_31 ⟨rfl, ⟨ht3, hd3, ((hs1.wk (by simp) (by simp) (by simp) (by simp)).tr (hs2.wk (by simp) (by simp) (by simp) (by simp))).tr (hs3.wk (by simp) (by simp) (by simp) (by simp)), hC2.sm hs3 (by unfold leC; simp; omega)⟩⟩
def rmX3_bestCompared : Room := { frames := 2, cells := 0, slots := 0, locals := 47 }
theorem pk_X3_bestCompared : Pk yX3_bestCompared RX3 3 := by decide +kernel
set_option maxHeartbeats 4000000 in
set_option maxRecDepth 100000 in
theorem c_X3_bestCompared (l : Launch) (g : gE) (ad : Nat → Nat) (u : Me) (m s : Nat) (hm : m < 12) (hs : s < 4) (a b : Int) (ha : mJ u 15 (m * 4 + s) = lI a) (hb : mJ u 16 (m * 4 + s) = lI b) (y : Nat) (hy : y < 3) (t d : Int) (ht : mL u (2 + 2 * y) = lI t) (hd : mL u (3 + 2 * y) = lI d) : Cti l yX3_bestCompared wsX3_bestCompared rmX3_bestCompared g ad [.ref (ad 13), .int (nI (m)), .int (nI (s)), .ref (ad (32 + y))] u (fun r u' => -lg_cmp (lI (t * b)) (lI (a * d)) = r ∧ u = u') := by
  refine Ct.of (cc := cX3_bestCompared) (nL := 4) (ret := (some .int)) RX3 (by decide) rfl rfl (Nat.le_of_ble_eq_true rfl) (fun kx C E => ?_)
  have hin_X3 : ∀ w ∈ u_ws RX3 TX3 5, w ∈ wsX3_bestCompared := by decide +kernel
  have hk_15 : Cond.fieldLink RX3 15 "AgainAgain$Plans" "tops" "[J" ∈ wsX3_bestCompared := by decide +kernel
  have hk_19 : Cond.fieldLink RX3 19 "AgainAgain$Plans" "bottoms" "[J" ∈ wsX3_bestCompared := by decide +kernel
  show G kx 0 0 (WW g ad u) 0 [(0, .ref (ad 13)), (1, .int (nI (m))), (2, .int (nI (s))), (3, .ref (ad (32 + y)))] []
  refine r_aload_n C 3 dX3_bestCompared_0 rfl rfl ?_
  refine r_aload_n C 0 dX3_bestCompared_1 rfl rfl ?_
  refine r_get C (CN := RX3) (T := TX3) (N := 5) k_13 rfl hin_X3 (j := 1) (by decide) hk_15 rfl rfl dX3_bestCompared_2 ?_
  refine r_iload_n C 1 dX3_bestCompared_5 rfl rfl ?_
  refine r_iload_n C 2 dX3_bestCompared_6 rfl rfl ?_
  refine r_callSi C (rest := [.ref (ad 15), .ref (ad (32 + y))]) (c_X3_slotOf l g ad u m s) gX3_bestCompared_X3_slotOf pk_X3_slotOf dX3_bestCompared_7 rfl rfl rfl rfl ⟨(Nat.le_of_ble_eq_true rfl), (Nat.le_of_ble_eq_true rfl)⟩ rfl (Nat.le_of_ble_eq_true rfl) ⟨(Nat.le_of_ble_eq_true rfl), (Nat.le_of_ble_eq_true rfl)⟩ ?_
  rintro _ _ ⟨rfl, rfl⟩
  refine r_lald C k_15 (by omega) (by omega) dX3_bestCompared_10 ?_
  refine r_setL (y := (lI a)) (ha) ?_
  refine r_aload_n C 0 dX3_bestCompared_11 rfl rfl ?_
  refine r_get C (CN := RX3) (T := TX3) (N := 5) k_13 rfl hin_X3 (j := 2) (by decide) hk_19 rfl rfl dX3_bestCompared_12 ?_
  refine r_iload_n C 1 dX3_bestCompared_15 rfl rfl ?_
  refine r_iload_n C 2 dX3_bestCompared_16 rfl rfl ?_
  refine r_callSi C (rest := [.ref (ad 16), .long (lI a), .ref (ad (32 + y))]) (c_X3_slotOf l g ad u m s) gX3_bestCompared_X3_slotOf pk_X3_slotOf dX3_bestCompared_17 rfl rfl rfl rfl ⟨(Nat.le_of_ble_eq_true rfl), (Nat.le_of_ble_eq_true rfl)⟩ rfl (Nat.le_of_ble_eq_true rfl) ⟨(Nat.le_of_ble_eq_true rfl), (Nat.le_of_ble_eq_true rfl)⟩ ?_
  rintro _ _ ⟨rfl, rfl⟩
  refine r_lald C k_16 (by omega) (by omega) dX3_bestCompared_20 ?_
  refine r_setL (y := (lI b)) (hb) ?_
  refine r_callVi C (rest := []) (c_X4_compareWith l g ad u y hy t d a b ht hd) gX3_bestCompared_X4_compareWith pk_X4_compareWith (k_r hy) dX3_bestCompared_21 rfl rfl rfl rfl ⟨(Nat.le_of_ble_eq_true rfl), (Nat.le_of_ble_eq_true rfl)⟩ rfl rfl (Nat.le_of_ble_eq_true rfl) ⟨(Nat.le_of_ble_eq_true rfl), (Nat.le_of_ble_eq_true rfl)⟩ ?_
  rintro _ _ ⟨rfl, rfl⟩
  refine r_ineg C dX3_bestCompared_24 ?_
  exact E.2.1 rfl _ _ _ _ dX3_bestCompared_25 ⟨_, rfl, ⟨rfl, rfl⟩⟩
def rmX3_learn : Room := { frames := 4, cells := 0, slots := 0, locals := 112 }
theorem pk_X3_learn : Pk yX3_learn RX3 4 := by decide +kernel
set_option maxHeartbeats 4000000 in
set_option maxRecDepth 100000 in
theorem c_X3_learn (l : Launch) (g : gE) (ad : Nat → Nat) (u : Me) (S : Sg) (hC : RepC S u) (hO : Ok S) (m s : Nat) (hm : m < sN S) (hs : s < sz S m) : Ctv l yX3_learn wsX3_learn rmX3_learn g ad [.ref (ad 13), .ref (ad 1), .ref (ad 3), .int (nI (m)), .int (nI (s))] u (fun u' => (LRN u' S m s (bsP S m s) ∧ TBL (m * 4 + s) u u' ∧ Sm [14, 18, 19, 20, 21] [15, 16] [1, 2] [2, 3] u u') ∧ RepC S u') := by
  refine Ct.of (cc := cX3_learn) (nL := 6) (ret := none) RX3 (by decide) rfl rfl (Nat.le_of_ble_eq_true rfl) (fun kx C E => ?_)
  have hin_X3 : ∀ w ∈ u_ws RX3 TX3 5, w ∈ wsX3_learn := by decide +kernel
  have hk_32 : Cond.fieldLink RX3 32 "AgainAgain$Plans" "tried" "LAgainAgain$Ratio;" ∈ wsX3_learn := by decide +kernel
  show G kx 0 0 (WW g ad u) 0 [(0, .ref (ad 13)), (1, .ref (ad 1)), (2, .ref (ad 3)), (3, .int (nI (m))), (4, .int (nI (s)))] []
  have hn := hO.n
  have hz := hO.z m
  have h81 : 3 ^ sz S m ≤ 3 ^ 4 := Nat.pow_le_pow_right (by decide) hz.2
  have h3 : 0 < 3 ^ sz S m := Nat.pow_pos (by decide)
  refine r_aload_n C 0 dX3_learn_0 rfl rfl ?_
  refine r_aload_n C 1 dX3_learn_1 rfl rfl ?_
  refine r_aload_n C 2 dX3_learn_2 rfl rfl ?_
  refine r_iload_n C 3 dX3_learn_3 rfl rfl ?_
  refine r_iload C 4 dX3_learn_4 rfl ?_
  refine r_iconst C dX3_learn_6 (v := nI 0) (by decide) ?_
  refine r_aload_n C 0 dX3_learn_7 rfl rfl ?_
  refine r_get C (CN := RX3) (T := TX3) (N := 5) k_13 rfl hin_X3 (j := 4) (by decide) hk_32 rfl rfl dX3_learn_8 ?_
  refine r_callVv C (rest := []) (c_X3_weigh l g ad u S hC hO m s 0 hm hs (by omega) 0 (by decide)) gX3_learn_X3_weigh pk_X3_weigh k_13 dX3_learn_11 rfl rfl rfl rfl ⟨(Nat.le_of_ble_eq_true rfl), (Nat.le_of_ble_eq_true rfl)⟩ rfl rfl (Nat.le_of_ble_eq_true rfl) ⟨(Nat.le_of_ble_eq_true rfl), (Nat.le_of_ble_eq_true rfl)⟩ ?_
  rintro w1 ⟨hwt, hwd, hws, hwC⟩
  refine r_aload_n C 0 dX3_learn_14 rfl rfl ?_
  refine r_iload_n C 3 dX3_learn_15 rfl rfl ?_
  refine r_iload C 4 dX3_learn_16 rfl ?_
  refine r_callSi C (rest := [.ref (ad 13)]) (c_X3_slotOf l g ad w1 m s) gX3_learn_X3_slotOf pk_X3_slotOf dX3_learn_18 rfl rfl rfl rfl ⟨(Nat.le_of_ble_eq_true rfl), (Nat.le_of_ble_eq_true rfl)⟩ rfl (Nat.le_of_ble_eq_true rfl) ⟨(Nat.le_of_ble_eq_true rfl), (Nat.le_of_ble_eq_true rfl)⟩ ?_
  rintro _ _ ⟨rfl, rfl⟩
  refine r_iconst C dX3_learn_21 (v := nI 0) (by decide) ?_
  refine r_callVv C (rest := []) (c_X3_keep l g ad w1 (m * 4 + s) 0 (by omega)) gX3_learn_X3_keep pk_X3_keep k_13 dX3_learn_22 rfl rfl rfl rfl ⟨(Nat.le_of_ble_eq_true rfl), (Nat.le_of_ble_eq_true rfl)⟩ rfl rfl (Nat.le_of_ble_eq_true rfl) ⟨(Nat.le_of_ble_eq_true rfl), (Nat.le_of_ble_eq_true rfl)⟩ ?_
  rintro uk ⟨hk1, hk2, hk3, hsk⟩
  refine r_iconst C dX3_learn_25 (v := nI 1) (by decide) ?_
  refine r_istore C [(0, .ref (ad 13)), (1, .ref (ad 1)), (2, .ref (ad 3)), (3, .int (nI (m))), (4, .int (nI (s))), (5, .int (nI (1)))] [1, 2, 3, 4, 5, 0] dX3_learn_26 (by decide) rfl ?_
  have L28 : ∀ (fu : Nat) (c : Nat) (v : Me), 3 ^ sz S m < c + 1 + fu → (c + 1 ≤ 3 ^ sz S m) → (LRI u S m s c v) → (RepC S v) → G kx 0 0 (WW g ad v) 28 [(0, .ref (ad 13)), (1, .ref (ad 1)), (2, .ref (ad 3)), (3, .int (nI (m))), (4, .int (nI (s))), (5, .int (nI (c + 1)))] [] := by
    intro fu
    induction fu with
    | zero => intro c v hfu hc hv hC; exact absurd hfu (by omega)
    | succ fu ih =>
      intro c v hfu hc hv hC
      refine r_iload C 5 dX3_learn_28 rfl ?_
      refine r_aload_n C 2 dX3_learn_30 rfl rfl ?_
      refine r_iload_n C 3 dX3_learn_31 rfl rfl ?_
      refine r_callVi C (rest := [.int (nI (c + 1))]) (c_X2_statesOf l g ad v S hC hO m (by assumption)) gX3_learn_X2_statesOf pk_X2_statesOf k_3 dX3_learn_32 rfl rfl rfl rfl ⟨(Nat.le_of_ble_eq_true rfl), (Nat.le_of_ble_eq_true rfl)⟩ rfl rfl (Nat.le_of_ble_eq_true rfl) ⟨(Nat.le_of_ble_eq_true rfl), (Nat.le_of_ble_eq_true rfl)⟩ ?_
      rintro _ _ ⟨rfl, rfl⟩
      refine r_callSi C (rest := [.int (nI (c + 1))]) (c_X3_plansAgainst l g ad v (sz S m) (by omega)) gX3_learn_X3_plansAgainst pk_X3_plansAgainst dX3_learn_35 rfl rfl rfl rfl ⟨(Nat.le_of_ble_eq_true rfl), (Nat.le_of_ble_eq_true rfl)⟩ rfl (Nat.le_of_ble_eq_true rfl) ⟨(Nat.le_of_ble_eq_true rfl), (Nat.le_of_ble_eq_true rfl)⟩ ?_
      rintro _ _ ⟨rfl, rfl⟩
      refine r_icmpN_ge C dX3_learn_38 (tgt := 88) (by decide) (by omega) (by omega) (fun h38 => ?_) (fun h38 => ?_)
      · exact E.1 rfl _ _ _ dX3_learn_88 ⟨rfl, ⟨hv.fin (by omega), hC⟩⟩
      · refine r_aload_n C 0 dX3_learn_41 rfl rfl ?_
        refine r_aload_n C 1 dX3_learn_42 rfl rfl ?_
        refine r_aload_n C 2 dX3_learn_43 rfl rfl ?_
        refine r_iload_n C 3 dX3_learn_44 rfl rfl ?_
        refine r_iload C 4 dX3_learn_45 rfl ?_
        refine r_iload C 5 dX3_learn_47 rfl ?_
        refine r_aload_n C 0 dX3_learn_49 rfl rfl ?_
        refine r_get C (CN := RX3) (T := TX3) (N := 5) k_13 rfl hin_X3 (j := 4) (by decide) hk_32 rfl rfl dX3_learn_50 ?_
        refine r_callVv C (rest := []) (c_X3_weigh l g ad v S hC hO m s (c + 1) hm hs (by omega) 0 (by decide)) gX3_learn_X3_weigh pk_X3_weigh k_13 dX3_learn_53 rfl rfl rfl rfl ⟨(Nat.le_of_ble_eq_true rfl), (Nat.le_of_ble_eq_true rfl)⟩ rfl rfl (Nat.le_of_ble_eq_true rfl) ⟨(Nat.le_of_ble_eq_true rfl), (Nat.le_of_ble_eq_true rfl)⟩ ?_
        rintro w2 ⟨hwt, hwd, hws, hwC⟩
        refine r_aload_n C 0 dX3_learn_56 rfl rfl ?_
        refine r_iload_n C 3 dX3_learn_57 rfl rfl ?_
        refine r_iload C 4 dX3_learn_58 rfl ?_
        refine r_aload_n C 0 dX3_learn_60 rfl rfl ?_
        refine r_get C (CN := RX3) (T := TX3) (N := 5) k_13 rfl hin_X3 (j := 4) (by decide) hk_32 rfl rfl dX3_learn_61 ?_
        refine r_callVi C (rest := []) (c_X3_bestCompared l g ad w2 m s (by omega) (by omega) _ _ (hv.wJ hws).1 (hv.wJ hws).2 0 (by decide) _ _ hwt hwd) gX3_learn_X3_bestCompared pk_X3_bestCompared k_13 dX3_learn_64 rfl rfl rfl rfl ⟨(Nat.le_of_ble_eq_true rfl), (Nat.le_of_ble_eq_true rfl)⟩ rfl rfl (Nat.le_of_ble_eq_true rfl) ⟨(Nat.le_of_ble_eq_true rfl), (Nat.le_of_ble_eq_true rfl)⟩ ?_
        rintro _ _ ⟨rfl, rfl⟩
        refine r_if_ge C dX3_learn_67 (tgt := 82) (by decide) (fun h67 => ?_) (fun h67 => ?_)
        · refine r_iinc C [(0, .ref (ad 13)), (1, .ref (ad 1)), (2, .ref (ad 3)), (3, .int (nI (m))), (4, .int (nI (s))), (5, .int (nI ((c + 1) + 1)))] [1, 2, 3, 4, 5, 0] 5 dX3_learn_82 rfl (nI_add _ 1) (by decide) rfl ?_
          refine r_goto C dX3_learn_85 (tgt := 28) (by decide) ?_
          exact ih (c + 1) _ (by omega) (by omega) (hv.stay hO hs hws (fun z => absurd h67 (Int32.not_le.mpr (neg_cmp_lt.mpr z)))) hwC
        · refine r_aload_n C 0 dX3_learn_70 rfl rfl ?_
          refine r_iload_n C 3 dX3_learn_71 rfl rfl ?_
          refine r_iload C 4 dX3_learn_72 rfl ?_
          refine r_callSi C (rest := [.ref (ad 13)]) (c_X3_slotOf l g ad w2 m s) gX3_learn_X3_slotOf pk_X3_slotOf dX3_learn_74 rfl rfl rfl rfl ⟨(Nat.le_of_ble_eq_true rfl), (Nat.le_of_ble_eq_true rfl)⟩ rfl (Nat.le_of_ble_eq_true rfl) ⟨(Nat.le_of_ble_eq_true rfl), (Nat.le_of_ble_eq_true rfl)⟩ ?_
          rintro _ _ ⟨rfl, rfl⟩
          refine r_iload C 5 dX3_learn_77 rfl ?_
          refine r_callVv C (rest := []) (c_X3_keep l g ad w2 (m * 4 + s) (c + 1) (by omega)) gX3_learn_X3_keep pk_X3_keep k_13 dX3_learn_79 rfl rfl rfl rfl ⟨(Nat.le_of_ble_eq_true rfl), (Nat.le_of_ble_eq_true rfl)⟩ rfl rfl (Nat.le_of_ble_eq_true rfl) ⟨(Nat.le_of_ble_eq_true rfl), (Nat.le_of_ble_eq_true rfl)⟩ ?_
          rintro uk ⟨hk1, hk2, hk3, hsk⟩
          refine r_iinc C [(0, .ref (ad 13)), (1, .ref (ad 1)), (2, .ref (ad 3)), (3, .int (nI (m))), (4, .int (nI (s))), (5, .int (nI ((c + 1) + 1)))] [1, 2, 3, 4, 5, 0] 5 dX3_learn_82 rfl (nI_add _ 1) (by decide) rfl ?_
          refine r_goto C dX3_learn_85 (tgt := 28) (by decide) ?_
          exact ih (c + 1) _ (by omega) (by omega) (hv.better hO hs hwt hwd hws hk1 hk2 hk3 hsk (neg_cmp_lt.mp (Int32.not_le.mp h67))) (hwC.sm hsk (by unfold leC; decide))
  exact L28 (3 ^ sz S m + 1) 0 _ (by omega) (by omega) (LRI.init hwt hwd hws hk1 hk2 hk3 hsk) (hwC.sm hsk (by unfold leC; decide))
def rmX3_learnAll : Room := { frames := 5, cells := 0, slots := 0, locals := 137 }
theorem pk_X3_learnAll : Pk yX3_learnAll RX3 3 := by decide +kernel
set_option maxHeartbeats 4000000 in
set_option maxRecDepth 100000 in
theorem c_X3_learnAll (l : Launch) (g : gE) (ad : Nat → Nat) (u : Me) (S : Sg) (hC : RepC S u) (hO : Ok S) (m : Nat) (hm : m < sN S) : Ctv l yX3_learnAll wsX3_learnAll rmX3_learnAll g ad [.ref (ad 13), .ref (ad 1), .ref (ad 3), .int (nI (m))] u (fun u' => ((∀ s, s < sz S m → LRN u' S m s (bsP S m s)) ∧ (∀ i, ¬ i / 4 = m → mA u' 14 i = mA u 14 i ∧ mJ u' 15 i = mJ u 15 i ∧ mJ u' 16 i = mJ u 16 i) ∧ Sm [14, 18, 19, 20, 21] [15, 16] [1, 2] [2, 3] u u') ∧ RepC S u') := by
  refine Ct.of (cc := cX3_learnAll) (nL := 5) (ret := none) RX3 (by decide) rfl rfl (Nat.le_of_ble_eq_true rfl) (fun kx C E => ?_)
  show G kx 0 0 (WW g ad u) 0 [(0, .ref (ad 13)), (1, .ref (ad 1)), (2, .ref (ad 3)), (3, .int (nI (m)))] []
  have hz := hO.z m
  refine r_iconst C dX3_learnAll_0 (v := nI 0) (by decide) ?_
  refine r_istore C [(0, .ref (ad 13)), (1, .ref (ad 1)), (2, .ref (ad 3)), (3, .int (nI (m))), (4, .int (nI (0)))] [1, 2, 3, 4, 0] dX3_learnAll_1 (by decide) rfl ?_
  have L3 : ∀ (fu : Nat) (s : Nat) (v : Me), sz S m < s + fu → (s ≤ sz S m) → (LAI u S m s v) → (RepC S v) → G kx 0 0 (WW g ad v) 3 [(0, .ref (ad 13)), (1, .ref (ad 1)), (2, .ref (ad 3)), (3, .int (nI (m))), (4, .int (nI (s)))] [] := by
    intro fu
    induction fu with
    | zero => intro s v hfu hss hv hC; exact absurd hfu (by omega)
    | succ fu ih =>
      intro s v hfu hss hv hC
      refine r_iload C 4 dX3_learnAll_3 rfl ?_
      refine r_aload_n C 2 dX3_learnAll_5 rfl rfl ?_
      refine r_iload_n C 3 dX3_learnAll_6 rfl rfl ?_
      refine r_callVi C (rest := [.int (nI (s))]) (c_X2_statesOf l g ad v S hC hO m (by assumption)) gX3_learnAll_X2_statesOf pk_X2_statesOf k_3 dX3_learnAll_7 rfl rfl rfl rfl ⟨(Nat.le_of_ble_eq_true rfl), (Nat.le_of_ble_eq_true rfl)⟩ rfl rfl (Nat.le_of_ble_eq_true rfl) ⟨(Nat.le_of_ble_eq_true rfl), (Nat.le_of_ble_eq_true rfl)⟩ ?_
      rintro _ _ ⟨rfl, rfl⟩
      refine r_icmpN_ge C dX3_learnAll_10 (tgt := 28) (by decide) (by omega) (by omega) (fun h10 => ?_) (fun h10 => ?_)
      · exact E.1 rfl _ _ _ dX3_learnAll_28 ⟨rfl, ⟨hv.fin (by omega), hC⟩⟩
      · have hs : s < sz S m := by omega
        refine r_aload_n C 0 dX3_learnAll_13 rfl rfl ?_
        refine r_aload_n C 1 dX3_learnAll_14 rfl rfl ?_
        refine r_aload_n C 2 dX3_learnAll_15 rfl rfl ?_
        refine r_iload_n C 3 dX3_learnAll_16 rfl rfl ?_
        refine r_iload C 4 dX3_learnAll_17 rfl ?_
        refine r_callVv C (rest := []) (c_X3_learn l g ad v S hC hO m s (by assumption) (by assumption)) gX3_learnAll_X3_learn pk_X3_learn k_13 dX3_learnAll_19 rfl rfl rfl rfl ⟨(Nat.le_of_ble_eq_true rfl), (Nat.le_of_ble_eq_true rfl)⟩ rfl rfl (Nat.le_of_ble_eq_true rfl) ⟨(Nat.le_of_ble_eq_true rfl), (Nat.le_of_ble_eq_true rfl)⟩ ?_
        rintro ul ⟨⟨hl1, hl2, hl3⟩, hlC⟩
        refine r_iinc C [(0, .ref (ad 13)), (1, .ref (ad 1)), (2, .ref (ad 3)), (3, .int (nI (m))), (4, .int (nI (s + 1)))] [1, 2, 3, 4, 0] 4 dX3_learnAll_22 rfl (nI_add _ 1) (by decide) rfl ?_
        refine r_goto C dX3_learnAll_25 (tgt := 3) (by decide) ?_
        exact ih (s + 1) _ (by omega) (by omega) (hv.step hO hs hl1 hl2 hl3) hlC
  exact L3 (sz S m + 1) 0 u (by omega) (by omega) (LAI.init u S m) hC
def rmX3_bestPlan : Room := { frames := 1, cells := 0, slots := 0, locals := 21 }
theorem pk_X3_bestPlan : Pk yX3_bestPlan RX3 2 := by decide +kernel
set_option maxHeartbeats 4000000 in
set_option maxRecDepth 100000 in
theorem c_X3_bestPlan (l : Launch) (g : gE) (ad : Nat → Nat) (u : Me) (m s plan : Nat) (hm : m < 12) (hs : s < 4) (hl : mA u 14 (m * 4 + s) = nI plan) : Cti l yX3_bestPlan wsX3_bestPlan rmX3_bestPlan g ad [.ref (ad 13), .int (nI (m)), .int (nI (s))] u (fun r u' => nI plan = r ∧ u = u') := by
  refine Ct.of (cc := cX3_bestPlan) (nL := 3) (ret := (some .int)) RX3 (by decide) rfl rfl (Nat.le_of_ble_eq_true rfl) (fun kx C E => ?_)
  have hin_X3 : ∀ w ∈ u_ws RX3 TX3 5, w ∈ wsX3_bestPlan := by decide +kernel
  have hk_11 : Cond.fieldLink RX3 11 "AgainAgain$Plans" "plans" "[I" ∈ wsX3_bestPlan := by decide +kernel
  show G kx 0 0 (WW g ad u) 0 [(0, .ref (ad 13)), (1, .int (nI (m))), (2, .int (nI (s)))] []
  refine r_aload_n C 0 dX3_bestPlan_0 rfl rfl ?_
  refine r_get C (CN := RX3) (T := TX3) (N := 5) k_13 rfl hin_X3 (j := 0) (by decide) hk_11 rfl rfl dX3_bestPlan_1 ?_
  refine r_iload_n C 1 dX3_bestPlan_4 rfl rfl ?_
  refine r_iload_n C 2 dX3_bestPlan_5 rfl rfl ?_
  refine r_callSi C (rest := [.ref (ad 14)]) (c_X3_slotOf l g ad u m s) gX3_bestPlan_X3_slotOf pk_X3_slotOf dX3_bestPlan_6 rfl rfl rfl rfl ⟨(Nat.le_of_ble_eq_true rfl), (Nat.le_of_ble_eq_true rfl)⟩ rfl (Nat.le_of_ble_eq_true rfl) ⟨(Nat.le_of_ble_eq_true rfl), (Nat.le_of_ble_eq_true rfl)⟩ ?_
  rintro _ _ ⟨rfl, rfl⟩
  refine r_iald C k_14 (by omega) (by omega) dX3_bestPlan_9 ?_
  refine r_setI (y := (nI (plan))) (hl) ?_
  exact E.2.1 rfl _ _ _ _ dX3_bestPlan_10 ⟨_, rfl, ⟨rfl, rfl⟩⟩
def rmX3_bestPart : Room := { frames := 1, cells := 0, slots := 0, locals := 21 }
theorem pk_X3_bestPart : Pk yX3_bestPart RX3 3 := by decide +kernel
set_option maxHeartbeats 4000000 in
set_option maxRecDepth 100000 in
theorem c_X3_bestPart (l : Launch) (g : gE) (ad : Nat → Nat) (u : Me) (m s : Nat) (hm : m < 12) (hs : s < 4) (a b : Int) (ha : mJ u 15 (m * 4 + s) = lI a) (hb : mJ u 16 (m * 4 + s) = lI b) (what : Nat) (hw : what < 2) : Ctl l yX3_bestPart wsX3_bestPart rmX3_bestPart g ad [.ref (ad 13), .int (nI (m)), .int (nI (s)), .int (nI (what))] u (fun r u' => (if what = 0 then lI a else lI b) = r ∧ u = u') := by
  refine Ct.of (cc := cX3_bestPart) (nL := 4) (ret := (some .long)) RX3 (by decide) rfl rfl (Nat.le_of_ble_eq_true rfl) (fun kx C E => ?_)
  have hin_X3 : ∀ w ∈ u_ws RX3 TX3 5, w ∈ wsX3_bestPart := by decide +kernel
  have hk_15 : Cond.fieldLink RX3 15 "AgainAgain$Plans" "tops" "[J" ∈ wsX3_bestPart := by decide +kernel
  have hk_19 : Cond.fieldLink RX3 19 "AgainAgain$Plans" "bottoms" "[J" ∈ wsX3_bestPart := by decide +kernel
  show G kx 0 0 (WW g ad u) 0 [(0, .ref (ad 13)), (1, .int (nI (m))), (2, .int (nI (s))), (3, .int (nI (what)))] []
  refine r_iload_n C 3 dX3_bestPart_0 rfl rfl ?_
  refine r_ifN_ne C dX3_bestPart_1 (tgt := 17) (by decide) (by omega) (fun h1 => ?_) (fun h1 => ?_)
  · refine r_aload_n C 0 dX3_bestPart_17 rfl rfl ?_
    refine r_get C (CN := RX3) (T := TX3) (N := 5) k_13 rfl hin_X3 (j := 2) (by decide) hk_19 rfl rfl dX3_bestPart_18 ?_
    refine r_iload_n C 1 dX3_bestPart_21 rfl rfl ?_
    refine r_iload_n C 2 dX3_bestPart_22 rfl rfl ?_
    refine r_callSi C (rest := [.ref (ad 16)]) (c_X3_slotOf l g ad u m s) gX3_bestPart_X3_slotOf pk_X3_slotOf dX3_bestPart_23 rfl rfl rfl rfl ⟨(Nat.le_of_ble_eq_true rfl), (Nat.le_of_ble_eq_true rfl)⟩ rfl (Nat.le_of_ble_eq_true rfl) ⟨(Nat.le_of_ble_eq_true rfl), (Nat.le_of_ble_eq_true rfl)⟩ ?_
    rintro _ _ ⟨rfl, rfl⟩
    refine r_lald C k_16 (by omega) (by omega) dX3_bestPart_26 ?_
    refine r_setL (y := (lI b)) (hb) ?_
    exact E.2.2.2 rfl _ _ _ _ dX3_bestPart_27 ⟨_, rfl, ⟨if_neg h1, rfl⟩⟩
  · refine r_aload_n C 0 dX3_bestPart_4 rfl rfl ?_
    refine r_get C (CN := RX3) (T := TX3) (N := 5) k_13 rfl hin_X3 (j := 1) (by decide) hk_15 rfl rfl dX3_bestPart_5 ?_
    refine r_iload_n C 1 dX3_bestPart_8 rfl rfl ?_
    refine r_iload_n C 2 dX3_bestPart_9 rfl rfl ?_
    refine r_callSi C (rest := [.ref (ad 15)]) (c_X3_slotOf l g ad u m s) gX3_bestPart_X3_slotOf pk_X3_slotOf dX3_bestPart_10 rfl rfl rfl rfl ⟨(Nat.le_of_ble_eq_true rfl), (Nat.le_of_ble_eq_true rfl)⟩ rfl (Nat.le_of_ble_eq_true rfl) ⟨(Nat.le_of_ble_eq_true rfl), (Nat.le_of_ble_eq_true rfl)⟩ ?_
    rintro _ _ ⟨rfl, rfl⟩
    refine r_lald C k_15 (by omega) (by omega) dX3_bestPart_13 ?_
    refine r_setL (y := (lI a)) (ha) ?_
    refine r_goto C dX3_bestPart_14 (tgt := 27) (by decide) ?_
    exact E.2.2.2 rfl _ _ _ _ dX3_bestPart_27 ⟨_, rfl, ⟨if_pos h1, rfl⟩⟩
