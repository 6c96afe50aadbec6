
theorem tab_ne {w : Int32} (h : w.toInt < 0 ∨ 3 < w.toInt) {k : Nat} (hk : k < 4) : ¬ w = nI k := by
  rintro rfl
  rw [nI_toInt (by omega)] at h; omega
theorem lnM_eq {v w : Nat} (hv : v ≤ 3) (hw : w < 3) : lnM v = nI w ↔ v = w + 1 := by
  rcases (show v = 0 ∨ v = 1 ∨ v = 2 ∨ v = 3 by omega) with rfl | rfl | rfl | rfl <;> rcases (show w = 0 ∨ w = 1 ∨ w = 2 by omega) with rfl | rfl | rfl <;> decide
theorem lI_to32 (n : Nat) : (lI (n : Int)).toInt32 = nI n := (Int64.toInt32_ofInt).trans (nI_iI n).symm
theorem isR_of_l {n : Nat} (hn : n < 2 ^ 31) {m : Int32} (h1 : ¬ lg_cmp (lI m.toInt) (lI 0) < 0) (h2 : lg_cmp (lI m.toInt) (lI (n : Nat)) < 0) : isR n m := by
  have b1 := m.toInt_lt
  have b2 := m.le_toInt
  have k1 : ¬ m.toInt < 0 := fun z => h1 ((lg_cmp_lt _ _).mpr ((lI_lt (by omega) (by omega) (by omega) (by omega)).mpr z))
  have k2 := (lI_lt (by omega) (by omega) (by omega) (by omega)).mp ((lg_cmp_lt _ _).mp h2)
  refine ⟨m.toInt.toNat, by omega, ?_⟩
  apply Int32.toInt_inj.mp
  rw [nI_toInt (by omega)]; omega
theorem m20_ne {i : Nat} (h : i ≤ 16) : ¬ iI (-20 - (i : Int)) = 0 := by
  intro e
  have e2 := congrArg Int32.toInt e
  rw [iI_toInt (by omega) (by omega)] at e2
  have e3 : (0 : Int32).toInt = 0 := rfl
  omega
theorem pdA_Mi {S : Sg} {u : Me} {k f n i : Nat} (h : RepM (PD S k f n i) u) (hO : Ok S) (h0 : sN S < 12) (h1 : 1 ≤ n) (hn : n ≤ 4) (hi : i < 4 * n) (h4 : i % 4 = 0) (hv : isR 3 (sc S k (f + i))) : RepM (PD S k f n (i + 1)) (sA u 39 (upd (mA u 39) (4 * sN S + i / 4) (sc S k (f + i)))) := by
  obtain ⟨s, rfl⟩ : ∃ s, i = 4 * s := ⟨i / 4, by omega⟩
  rw [show 4 * s / 4 = s by omega]
  exact pdA_M h hO h0 h1 hn (by omega) hv
theorem pdN_Mi {S : Sg} {u : Me} {k f n i : Nat} (h : RepM (PD S k f n i) u) (hO : Ok S) (h0 : sN S < 12) (h1 : 1 ≤ n) (hn : n ≤ 4) (hi : i < 4 * n) (h4 : ¬ i % 4 = 0) (hv : isR n (sc S k (f + i))) : RepM (PD S k f n (i + 1)) (sA u 40 (upd (mA u 40) (12 * sN S + 3 * (i / 4) + i % 4 - 1) (sc S k (f + i)))) := by
  obtain ⟨s, b, hb, rfl⟩ : ∃ s b, b < 3 ∧ i = 4 * s + 1 + b := ⟨i / 4, i % 4 - 1, by omega, by omega⟩
  rw [show 12 * sN S + 3 * ((4 * s + 1 + b) / 4) + (4 * s + 1 + b) % 4 - 1 = 12 * sN S + 3 * s + b by omega]
  exact pdN_M h hO h0 h1 hn (by omega) hb hv
def rmX8_smallest : Room := { frames := 2, cells := 0, slots := 0, locals := 46 }
theorem pk_X8_smallest : Pk yX8_smallest RX8 1 := by decide +kernel
set_option maxHeartbeats 4000000 in
set_option maxRecDepth 100000 in
theorem c_X8_smallest (l : Launch) (g : gE) (ad : Nat → Nat) (u : Me) (S : Sg) (hM : RepM S u) (hO : Ok S) (m : Int32) : Cti l yX8_smallest wsX8_smallest rmX8_smallest g ad [.ref (ad 36), .int (m)] u (fun r u' => smaA S m = r ∧ RepM S u' ∧ SmR u u') := by
  refine Ct.of (cc := cX8_smallest) (nL := 7) (ret := (some .int)) RX8 (by decide) rfl rfl (Nat.le_of_ble_eq_true rfl) (fun kx C E => ?_)
  have hin_X8 : ∀ w ∈ u_ws RX8 TX8 21, w ∈ wsX8_smallest := by decide +kernel
  have hk_20 : Cond.fieldLink RX8 20 "AgainAgainModel" "many" "[I" ∈ wsX8_smallest := by decide +kernel
  have hk_26 : Cond.fieldLink RX8 26 "AgainAgainModel" "nexts" "[I" ∈ wsX8_smallest := by decide +kernel
  have hk_44 : Cond.fieldLink RX8 44 "AgainAgainModel" "unlike" "[Z" ∈ wsX8_smallest := by decide +kernel
  show G kx 0 0 (WW g ad u) 0 [(0, .ref (ad 36)), (1, .int (m))] []
  have hn := hO.n
  refine r_aload_n C 0 dX8_smallest_0 rfl rfl ?_
  refine r_iload_n C 1 dX8_smallest_1 rfl rfl ?_
  refine r_callVi C (rest := []) (c_X8_isMachine l g ad u S hM hO m) gX8_smallest_X8_isMachine pk_X8_isMachine k_36 dX8_smallest_2 rfl rfl rfl rfl ⟨(Nat.le_of_ble_eq_true rfl), (Nat.le_of_ble_eq_true rfl)⟩ rfl rfl (Nat.le_of_ble_eq_true rfl) ⟨(Nat.le_of_ble_eq_true rfl), (Nat.le_of_ble_eq_true rfl)⟩ ?_
  rintro _ _ ⟨rfl, rfl⟩
  refine r_ifB_ne C dX8_smallest_5 (tgt := 10) (by decide) (fun h5 => ?_) (fun h5 => ?_)
  · obtain ⟨m0, hm, rfl⟩ := h5
    have hz := hO.z m0
    refine r_aload_n C 0 dX8_smallest_10 rfl rfl ?_
    refine r_iload_n C 1 dX8_smallest_11 rfl rfl ?_
    refine r_iload_n C 1 dX8_smallest_12 rfl rfl ?_
    refine r_callVv C (rest := []) (c_X8_findUnlike l g ad u S hM hO m0 m0 (by assumption) (by assumption)) gX8_smallest_X8_findUnlike pk_X8_findUnlike k_36 dX8_smallest_13 rfl rfl rfl rfl ⟨(Nat.le_of_ble_eq_true rfl), (Nat.le_of_ble_eq_true rfl)⟩ rfl rfl (Nat.le_of_ble_eq_true rfl) ⟨(Nat.le_of_ble_eq_true rfl), (Nat.le_of_ble_eq_true rfl)⟩ ?_
    rintro k1 ⟨⟨hk1, hsk⟩, hM⟩
    refine r_iconst C dX8_smallest_16 (v := nI 1) (by decide) ?_
    refine r_istore_n C [(0, .ref (ad 36)), (1, .int (nI (m0))), (2, .int (nI (1)))] [1, 2, 0] dX8_smallest_17 rfl (by decide) rfl ?_
    refine r_iconst C dX8_smallest_18 (v := nI 0) (by decide) ?_
    refine r_istore_n C [(0, .ref (ad 36)), (1, .int (nI (m0))), (2, .int (nI (1))), (3, .int (nI (0)))] [1, 2, 3, 0] dX8_smallest_19 rfl (by decide) rfl ?_
    have L20 : ∀ (fu : Nat) (p : Nat), 4 < p + fu → (p ≤ 4) → G kx 0 0 (WW g ad k1) 20 [(0, .ref (ad 36)), (1, .int (nI (m0))), (2, .int (nI (rcP S m0 p))), (3, .int (nI (p)))] [] := by
      intro fu
      induction fu with
      | zero => intro p hfu hp; exact absurd hfu (by omega)
      | succ fu ih =>
        intro p hfu hp
        refine r_iload_n C 3 dX8_smallest_20 rfl rfl ?_
        refine r_iconst C dX8_smallest_21 (v := nI 4) (by decide) ?_
        refine r_icmpN_ge C dX8_smallest_22 (tgt := 102) (by decide) (by omega) (by omega) (fun h22 => ?_) (fun h22 => ?_)
        · refine r_iconst C dX8_smallest_102 (v := nI 0) (by decide) ?_
          refine r_istore_n C [(0, .ref (ad 36)), (1, .int (nI (m0))), (2, .int (nI (rcP S m0 p))), (3, .int (nI (0)))] [1, 2, 3, 0] dX8_smallest_103 rfl (by decide) rfl ?_
          refine r_iconst C dX8_smallest_104 (v := nI 0) (by decide) ?_
          refine r_istore C [(0, .ref (ad 36)), (1, .int (nI (m0))), (2, .int (nI (rcP S m0 p))), (3, .int (nI (0))), (4, .int (nI (0)))] [1, 2, 3, 4, 0] dX8_smallest_105 (by decide) rfl ?_
          rw [show rcP S m0 p = (rcP S m0 4) by rw [show p = 4 by omega]]
          have L107 : ∀ (fu : Nat) (s : Nat), sz S m0 < s + fu → (s ≤ sz S m0) → G kx 0 0 (WW g ad k1) 107 [(0, .ref (ad 36)), (1, .int (nI (m0))), (2, .int (nI ((rcP S m0 4)))), (3, .int (nI (cntN (fresh S m0 (rcP S m0 4)) s))), (4, .int (nI (s)))] [] := by
            intro fu
            induction fu with
            | zero => intro s hfu hss; exact absurd hfu (by omega)
            | succ fu ih =>
              intro s hfu hss
              have hcn := cntN_le (fresh S m0 (rcP S m0 4)) s
              have hand := and1_lt ((rcP S m0 4) >>> s)
              refine r_iload C 4 dX8_smallest_107 rfl ?_
              refine r_aload_n C 0 dX8_smallest_109 rfl rfl ?_
              refine r_get C (CN := RX8) (T := TX8) (N := 21) k_36 rfl hin_X8 (j := 4) (by decide) hk_20 rfl rfl dX8_smallest_110 ?_
              refine r_iload_n C 1 dX8_smallest_113 rfl rfl ?_
              refine r_iald C k_38 (by omega) (by omega) dX8_smallest_114 ?_
              refine r_setI (y := (nI (sz S m0))) (hM.z (by first | assumption | omega)) ?_
              refine r_icmpN_ge C dX8_smallest_115 (tgt := 206) (by decide) (by omega) (by omega) (fun h115 => ?_) (fun h115 => ?_)
              · refine r_iload_n C 3 dX8_smallest_206 rfl rfl ?_
                exact E.2.1 rfl _ _ _ _ dX8_smallest_207 ⟨_, rfl, ⟨by unfold smaA; rw [ifp_t ⟨m0, hm, rfl⟩, cl_nI (show m0 < 2 ^ 31 by omega), show s = sz S m0 by omega], hM, (SmR.of hsk (by decide) (by decide) (by decide) (by decide))⟩⟩
              · have hsl : s < sz S m0 := by omega
                have hl4 := rcP_lt hO m0 4
                refine r_iload_n C 2 dX8_smallest_118 rfl rfl ?_
                refine r_iload C 4 dX8_smallest_119 rfl ?_
                refine r_ishrN C dX8_smallest_121 (by omega) (by omega) ?_
                refine r_iconst C dX8_smallest_122 (v := nI 1) (by decide) ?_
                refine r_iandN C dX8_smallest_123 ?_
                refine r_iconst C dX8_smallest_124 (v := nI 1) (by decide) ?_
                refine r_icmpN_ne C dX8_smallest_125 (tgt := 132) (by decide) (by omega) (by omega) (fun h125 => ?_) (fun h125 => ?_)
                · refine r_iconst C dX8_smallest_132 (v := nI 0) (by decide) ?_
                  refine r_setI (y := bI ((rcP S m0 4).testBit s = true ∧ ∀ c, c < 0 → (rcP S m0 4).testBit c = true → ¬ Lk S m0 s m0 c)) ((bF (fun q => h125 ((tb_iff _ _).mpr q.1))).symm) ?_
                  refine r_istore C [(0, .ref (ad 36)), (1, .int (nI (m0))), (2, .int (nI ((rcP S m0 4)))), (3, .int (nI (cntN (fresh S m0 (rcP S m0 4)) s))), (4, .int (nI (s))), (5, .int (bI (((rcP S m0 4).testBit s = true ∧ ∀ c, c < 0 → (rcP S m0 4).testBit c = true → ¬ Lk S m0 s m0 c))))] [1, 2, 3, 4, 5, 0] dX8_smallest_133 (by decide) rfl ?_
                  refine r_iconst C dX8_smallest_135 (v := nI 0) (by decide) ?_
                  refine r_istore C [(0, .ref (ad 36)), (1, .int (nI (m0))), (2, .int (nI ((rcP S m0 4)))), (3, .int (nI (cntN (fresh S m0 (rcP S m0 4)) s))), (4, .int (nI (s))), (5, .int (bI (((rcP S m0 4).testBit s = true ∧ ∀ c, c < 0 → (rcP S m0 4).testBit c = true → ¬ Lk S m0 s m0 c)))), (6, .int (nI (0)))] [1, 2, 3, 4, 5, 6, 0] dX8_smallest_136 (by decide) rfl ?_
                  have ihq := ih
                  have L138 : ∀ (fu : Nat) (t : Nat), s < t + fu → (t ≤ s) → G kx 0 0 (WW g ad k1) 138 [(0, .ref (ad 36)), (1, .int (nI (m0))), (2, .int (nI ((rcP S m0 4)))), (3, .int (nI (cntN (fresh S m0 (rcP S m0 4)) s))), (4, .int (nI (s))), (5, .int (bI (((rcP S m0 4).testBit s = true ∧ ∀ c, c < t → (rcP S m0 4).testBit c = true → ¬ Lk S m0 s m0 c)))), (6, .int (nI (t)))] [] := by
                    intro fu
                    induction fu with
                    | zero => intro t hfu hts; exact absurd hfu (by omega)
                    | succ fu ih =>
                      intro t hfu hts
                      have hand := and1_lt ((rcP S m0 4) >>> t)
                      refine r_iload C 6 dX8_smallest_138 rfl ?_
                      refine r_iload C 4 dX8_smallest_140 rfl ?_
                      refine r_icmpN_ge C dX8_smallest_142 (tgt := 187) (by decide) (by omega) (by omega) (fun h142 => ?_) (fun h142 => ?_)
                      · refine r_iload_n C 3 dX8_smallest_187 rfl rfl ?_
                        refine r_iload C 5 dX8_smallest_188 rfl ?_
                        refine r_ifB_eq C dX8_smallest_190 (tgt := 197) (by decide) (fun h190 => ?_) (fun h190 => ?_)
                        · refine r_iconst C dX8_smallest_197 (v := nI 0) (by decide) ?_
                          refine r_iaddN C dX8_smallest_198 ?_
                          refine r_istore_n C [(0, .ref (ad 36)), (1, .int (nI (m0))), (2, .int (nI ((rcP S m0 4)))), (3, .int (nI ((cntN (fresh S m0 (rcP S m0 4)) s) + 0))), (4, .int (nI (s))), (5, .int (bI (((rcP S m0 4).testBit s = true ∧ ∀ c, c < t → (rcP S m0 4).testBit c = true → ¬ Lk S m0 s m0 c)))), (6, .int (nI (t)))] [1, 2, 3, 0, 4, 5, 6] dX8_smallest_199 rfl (by decide) rfl ?_
                          refine r_iinc C [(0, .ref (ad 36)), (1, .int (nI (m0))), (2, .int (nI ((rcP S m0 4)))), (3, .int (nI ((cntN (fresh S m0 (rcP S m0 4)) s) + 0))), (4, .int (nI (s + 1))), (5, .int (bI (((rcP S m0 4).testBit s = true ∧ ∀ c, c < t → (rcP S m0 4).testBit c = true → ¬ Lk S m0 s m0 c)))), (6, .int (nI (t)))] [1, 2, 3, 4, 0, 5, 6] 4 dX8_smallest_200 rfl (nI_add _ 1) (by decide) rfl ?_
                          refine r_goto C dX8_smallest_203 (tgt := 107) (by decide) ?_
                          refine r_lvs C [0, 1, 2, 3, 4] (lv' := [(0, .ref (ad 36)), (1, .int (nI (m0))), (2, .int (nI ((rcP S m0 4)))), (3, .int (nI ((cntN (fresh S m0 (rcP S m0 4)) s) + 0))), (4, .int (nI (s + 1)))]) rfl ?_
                          rw [Nat.add_zero, ← cntN_f (P := (fresh S m0 (rcP S m0 4))) (n := s) (fun q => h190 ⟨q.1, fun c hc => q.2 c (by omega)⟩)]
                          exact ihq (s + 1) (by omega) (by omega)
                        · refine r_iconst C dX8_smallest_193 (v := nI 1) (by decide) ?_
                          refine r_goto C dX8_smallest_194 (tgt := 198) (by decide) ?_
                          refine r_iaddN C dX8_smallest_198 ?_
                          refine r_istore_n C [(0, .ref (ad 36)), (1, .int (nI (m0))), (2, .int (nI ((rcP S m0 4)))), (3, .int (nI ((cntN (fresh S m0 (rcP S m0 4)) s) + 1))), (4, .int (nI (s))), (5, .int (bI (((rcP S m0 4).testBit s = true ∧ ∀ c, c < t → (rcP S m0 4).testBit c = true → ¬ Lk S m0 s m0 c)))), (6, .int (nI (t)))] [1, 2, 3, 0, 4, 5, 6] dX8_smallest_199 rfl (by decide) rfl ?_
                          refine r_iinc C [(0, .ref (ad 36)), (1, .int (nI (m0))), (2, .int (nI ((rcP S m0 4)))), (3, .int (nI ((cntN (fresh S m0 (rcP S m0 4)) s) + 1))), (4, .int (nI (s + 1))), (5, .int (bI (((rcP S m0 4).testBit s = true ∧ ∀ c, c < t → (rcP S m0 4).testBit c = true → ¬ Lk S m0 s m0 c)))), (6, .int (nI (t)))] [1, 2, 3, 4, 0, 5, 6] 4 dX8_smallest_200 rfl (nI_add _ 1) (by decide) rfl ?_
                          refine r_goto C dX8_smallest_203 (tgt := 107) (by decide) ?_
                          refine r_lvs C [0, 1, 2, 3, 4] (lv' := [(0, .ref (ad 36)), (1, .int (nI (m0))), (2, .int (nI ((rcP S m0 4)))), (3, .int (nI ((cntN (fresh S m0 (rcP S m0 4)) s) + 1))), (4, .int (nI (s + 1)))]) rfl ?_
                          rw [← cntN_t (P := (fresh S m0 (rcP S m0 4))) (n := s) ⟨h190.1, fun c hc => h190.2 c (by omega)⟩]
                          exact ihq (s + 1) (by omega) (by omega)
                      · refine r_iload C 5 dX8_smallest_145 rfl ?_
                        refine r_ifB_eq C dX8_smallest_147 (tgt := 178) (by decide) (fun h147 => ?_) (fun h147 => ?_)
                        · have hold : ¬ ((rcP S m0 4).testBit s = true ∧ ∀ c, c < (t + 1) → (rcP S m0 4).testBit c = true → ¬ Lk S m0 s m0 c) := fun q => h147 ⟨q.1, fun c hc => q.2 c (by omega)⟩
                          refine r_iconst C dX8_smallest_178 (v := nI 0) (by decide) ?_
                          refine r_setI (y := bI ((rcP S m0 4).testBit s = true ∧ ∀ c, c < (t + 1) → (rcP S m0 4).testBit c = true → ¬ Lk S m0 s m0 c)) ((bF hold).symm) ?_
                          refine r_istore C [(0, .ref (ad 36)), (1, .int (nI (m0))), (2, .int (nI ((rcP S m0 4)))), (3, .int (nI (cntN (fresh S m0 (rcP S m0 4)) s))), (4, .int (nI (s))), (5, .int (bI (((rcP S m0 4).testBit s = true ∧ ∀ c, c < (t + 1) → (rcP S m0 4).testBit c = true → ¬ Lk S m0 s m0 c)))), (6, .int (nI (t)))] [1, 2, 3, 4, 5, 0, 6] dX8_smallest_179 (by decide) rfl ?_
                          refine r_iinc C [(0, .ref (ad 36)), (1, .int (nI (m0))), (2, .int (nI ((rcP S m0 4)))), (3, .int (nI (cntN (fresh S m0 (rcP S m0 4)) s))), (4, .int (nI (s))), (5, .int (bI (((rcP S m0 4).testBit s = true ∧ ∀ c, c < (t + 1) → (rcP S m0 4).testBit c = true → ¬ Lk S m0 s m0 c)))), (6, .int (nI (t + 1)))] [1, 2, 3, 4, 5, 6, 0] 6 dX8_smallest_181 rfl (nI_add _ 1) (by decide) rfl ?_
                          refine r_goto C dX8_smallest_184 (tgt := 138) (by decide) ?_
                          exact ih (t + 1) (by omega) (by omega)
                        · refine r_iload_n C 2 dX8_smallest_150 rfl rfl ?_
                          refine r_iload C 6 dX8_smallest_151 rfl ?_
                          refine r_ishrN C dX8_smallest_153 (by omega) (by omega) ?_
                          refine r_iconst C dX8_smallest_154 (v := nI 1) (by decide) ?_
                          refine r_iandN C dX8_smallest_155 ?_
                          refine r_ifN_eq C dX8_smallest_156 (tgt := 174) (by decide) (by omega) (fun h156 => ?_) (fun h156 => ?_)
                          · have hnew : ∀ c, c < t + 1 → (rcP S m0 4).testBit c = true → ¬ Lk S m0 s m0 c := fun c hc hb => by
                              rcases Nat.lt_or_ge c t with z | z
                              · exact h147.2 c z hb
                              · rw [show c = t by omega] at hb; exact absurd ((tb_iff _ _).mpr hb) (by omega)
                            refine r_iconst C dX8_smallest_174 (v := nI 1) (by decide) ?_
                            refine r_goto C dX8_smallest_175 (tgt := 179) (by decide) ?_
                            refine r_setI (y := bI ((rcP S m0 4).testBit s = true ∧ ∀ c, c < (t + 1) → (rcP S m0 4).testBit c = true → ¬ Lk S m0 s m0 c)) ((bT ⟨h147.1, hnew⟩).symm) ?_
                            refine r_istore C [(0, .ref (ad 36)), (1, .int (nI (m0))), (2, .int (nI ((rcP S m0 4)))), (3, .int (nI (cntN (fresh S m0 (rcP S m0 4)) s))), (4, .int (nI (s))), (5, .int (bI (((rcP S m0 4).testBit s = true ∧ ∀ c, c < (t + 1) → (rcP S m0 4).testBit c = true → ¬ Lk S m0 s m0 c)))), (6, .int (nI (t)))] [1, 2, 3, 4, 5, 0, 6] dX8_smallest_179 (by decide) rfl ?_
                            refine r_iinc C [(0, .ref (ad 36)), (1, .int (nI (m0))), (2, .int (nI ((rcP S m0 4)))), (3, .int (nI (cntN (fresh S m0 (rcP S m0 4)) s))), (4, .int (nI (s))), (5, .int (bI (((rcP S m0 4).testBit s = true ∧ ∀ c, c < (t + 1) → (rcP S m0 4).testBit c = true → ¬ Lk S m0 s m0 c)))), (6, .int (nI (t + 1)))] [1, 2, 3, 4, 5, 6, 0] 6 dX8_smallest_181 rfl (nI_add _ 1) (by decide) rfl ?_
                            refine r_goto C dX8_smallest_184 (tgt := 138) (by decide) ?_
                            exact ih (t + 1) (by omega) (by omega)
                          · have hbt : (rcP S m0 4).testBit t = true := (tb_iff _ _).mp (by omega)
                            refine r_aload_n C 0 dX8_smallest_159 rfl rfl ?_
                            refine r_get C (CN := RX8) (T := TX8) (N := 21) k_36 rfl hin_X8 (j := 16) (by decide) hk_44 rfl rfl dX8_smallest_160 ?_
                            refine r_iconst C dX8_smallest_163 (v := nI 4) (by decide) ?_
                            refine r_iload C 4 dX8_smallest_164 rfl ?_
                            refine r_imulN C dX8_smallest_166 ?_
                            refine r_iload C 6 dX8_smallest_167 rfl ?_
                            refine r_iaddN C dX8_smallest_169 ?_
                            refine r_zald C k_46 (by omega) (by omega) dX8_smallest_170 ?_
                            refine r_setI (y := (bI (¬ Lk S m0 s m0 t))) (hk1 s t (by omega) (by omega)) ?_
                            refine r_ifB_eq C dX8_smallest_171 (tgt := 178) (by decide) (fun h171 => ?_) (fun h171 => ?_)
                            · have hold : ¬ ((rcP S m0 4).testBit s = true ∧ ∀ c, c < (t + 1) → (rcP S m0 4).testBit c = true → ¬ Lk S m0 s m0 c) := fun q => h171 (q.2 t (by omega) hbt)
                              refine r_iconst C dX8_smallest_178 (v := nI 0) (by decide) ?_
                              refine r_setI (y := bI ((rcP S m0 4).testBit s = true ∧ ∀ c, c < (t + 1) → (rcP S m0 4).testBit c = true → ¬ Lk S m0 s m0 c)) ((bF hold).symm) ?_
                              refine r_istore C [(0, .ref (ad 36)), (1, .int (nI (m0))), (2, .int (nI ((rcP S m0 4)))), (3, .int (nI (cntN (fresh S m0 (rcP S m0 4)) s))), (4, .int (nI (s))), (5, .int (bI (((rcP S m0 4).testBit s = true ∧ ∀ c, c < (t + 1) → (rcP S m0 4).testBit c = true → ¬ Lk S m0 s m0 c)))), (6, .int (nI (t)))] [1, 2, 3, 4, 5, 0, 6] dX8_smallest_179 (by decide) rfl ?_
                              refine r_iinc C [(0, .ref (ad 36)), (1, .int (nI (m0))), (2, .int (nI ((rcP S m0 4)))), (3, .int (nI (cntN (fresh S m0 (rcP S m0 4)) s))), (4, .int (nI (s))), (5, .int (bI (((rcP S m0 4).testBit s = true ∧ ∀ c, c < (t + 1) → (rcP S m0 4).testBit c = true → ¬ Lk S m0 s m0 c)))), (6, .int (nI (t + 1)))] [1, 2, 3, 4, 5, 6, 0] 6 dX8_smallest_181 rfl (nI_add _ 1) (by decide) rfl ?_
                              refine r_goto C dX8_smallest_184 (tgt := 138) (by decide) ?_
                              exact ih (t + 1) (by omega) (by omega)
                            · have hnew : ∀ c, c < t + 1 → (rcP S m0 4).testBit c = true → ¬ Lk S m0 s m0 c := fun c hc hb => by
                                rcases Nat.lt_or_ge c t with z | z
                                · exact h147.2 c z hb
                                · rw [show c = t by omega]; exact h171
                              refine r_iconst C dX8_smallest_174 (v := nI 1) (by decide) ?_
                              refine r_goto C dX8_smallest_175 (tgt := 179) (by decide) ?_
                              refine r_setI (y := bI ((rcP S m0 4).testBit s = true ∧ ∀ c, c < (t + 1) → (rcP S m0 4).testBit c = true → ¬ Lk S m0 s m0 c)) ((bT ⟨h147.1, hnew⟩).symm) ?_
                              refine r_istore C [(0, .ref (ad 36)), (1, .int (nI (m0))), (2, .int (nI ((rcP S m0 4)))), (3, .int (nI (cntN (fresh S m0 (rcP S m0 4)) s))), (4, .int (nI (s))), (5, .int (bI (((rcP S m0 4).testBit s = true ∧ ∀ c, c < (t + 1) → (rcP S m0 4).testBit c = true → ¬ Lk S m0 s m0 c)))), (6, .int (nI (t)))] [1, 2, 3, 4, 5, 0, 6] dX8_smallest_179 (by decide) rfl ?_
                              refine r_iinc C [(0, .ref (ad 36)), (1, .int (nI (m0))), (2, .int (nI ((rcP S m0 4)))), (3, .int (nI (cntN (fresh S m0 (rcP S m0 4)) s))), (4, .int (nI (s))), (5, .int (bI (((rcP S m0 4).testBit s = true ∧ ∀ c, c < (t + 1) → (rcP S m0 4).testBit c = true → ¬ Lk S m0 s m0 c)))), (6, .int (nI (t + 1)))] [1, 2, 3, 4, 5, 6, 0] 6 dX8_smallest_181 rfl (nI_add _ 1) (by decide) rfl ?_
                              refine r_goto C dX8_smallest_184 (tgt := 138) (by decide) ?_
                              exact ih (t + 1) (by omega) (by omega)
                  exact L138 (s + 1) 0 (by omega) (by omega)
                · refine r_iconst C dX8_smallest_128 (v := nI 1) (by decide) ?_
                  refine r_goto C dX8_smallest_129 (tgt := 133) (by decide) ?_
                  refine r_setI (y := bI ((rcP S m0 4).testBit s = true ∧ ∀ c, c < 0 → (rcP S m0 4).testBit c = true → ¬ Lk S m0 s m0 c)) ((bT ⟨(tb_iff _ _).mp h125, fun c hc => absurd hc (by omega)⟩).symm) ?_
                  refine r_istore C [(0, .ref (ad 36)), (1, .int (nI (m0))), (2, .int (nI ((rcP S m0 4)))), (3, .int (nI (cntN (fresh S m0 (rcP S m0 4)) s))), (4, .int (nI (s))), (5, .int (bI (((rcP S m0 4).testBit s = true ∧ ∀ c, c < 0 → (rcP S m0 4).testBit c = true → ¬ Lk S m0 s m0 c))))] [1, 2, 3, 4, 5, 0] dX8_smallest_133 (by decide) rfl ?_
                  refine r_iconst C dX8_smallest_135 (v := nI 0) (by decide) ?_
                  refine r_istore C [(0, .ref (ad 36)), (1, .int (nI (m0))), (2, .int (nI ((rcP S m0 4)))), (3, .int (nI (cntN (fresh S m0 (rcP S m0 4)) s))), (4, .int (nI (s))), (5, .int (bI (((rcP S m0 4).testBit s = true ∧ ∀ c, c < 0 → (rcP S m0 4).testBit c = true → ¬ Lk S m0 s m0 c)))), (6, .int (nI (0)))] [1, 2, 3, 4, 5, 6, 0] dX8_smallest_136 (by decide) rfl ?_
                  have ihq := ih
                  have L138 : ∀ (fu : Nat) (t : Nat), s < t + fu → (t ≤ s) → G kx 0 0 (WW g ad k1) 138 [(0, .ref (ad 36)), (1, .int (nI (m0))), (2, .int (nI ((rcP S m0 4)))), (3, .int (nI (cntN (fresh S m0 (rcP S m0 4)) s))), (4, .int (nI (s))), (5, .int (bI (((rcP S m0 4).testBit s = true ∧ ∀ c, c < t → (rcP S m0 4).testBit c = true → ¬ Lk S m0 s m0 c)))), (6, .int (nI (t)))] [] := by
                    intro fu
                    induction fu with
                    | zero => intro t hfu hts; exact absurd hfu (by omega)
                    | succ fu ih =>
                      intro t hfu hts
                      have hand := and1_lt ((rcP S m0 4) >>> t)
                      refine r_iload C 6 dX8_smallest_138 rfl ?_
                      refine r_iload C 4 dX8_smallest_140 rfl ?_
                      refine r_icmpN_ge C dX8_smallest_142 (tgt := 187) (by decide) (by omega) (by omega) (fun h142 => ?_) (fun h142 => ?_)
                      · refine r_iload_n C 3 dX8_smallest_187 rfl rfl ?_
                        refine r_iload C 5 dX8_smallest_188 rfl ?_
                        refine r_ifB_eq C dX8_smallest_190 (tgt := 197) (by decide) (fun h190 => ?_) (fun h190 => ?_)
                        · refine r_iconst C dX8_smallest_197 (v := nI 0) (by decide) ?_
                          refine r_iaddN C dX8_smallest_198 ?_
                          refine r_istore_n C [(0, .ref (ad 36)), (1, .int (nI (m0))), (2, .int (nI ((rcP S m0 4)))), (3, .int (nI ((cntN (fresh S m0 (rcP S m0 4)) s) + 0))), (4, .int (nI (s))), (5, .int (bI (((rcP S m0 4).testBit s = true ∧ ∀ c, c < t → (rcP S m0 4).testBit c = true → ¬ Lk S m0 s m0 c)))), (6, .int (nI (t)))] [1, 2, 3, 0, 4, 5, 6] dX8_smallest_199 rfl (by decide) rfl ?_
                          refine r_iinc C [(0, .ref (ad 36)), (1, .int (nI (m0))), (2, .int (nI ((rcP S m0 4)))), (3, .int (nI ((cntN (fresh S m0 (rcP S m0 4)) s) + 0))), (4, .int (nI (s + 1))), (5, .int (bI (((rcP S m0 4).testBit s = true ∧ ∀ c, c < t → (rcP S m0 4).testBit c = true → ¬ Lk S m0 s m0 c)))), (6, .int (nI (t)))] [1, 2, 3, 4, 0, 5, 6] 4 dX8_smallest_200 rfl (nI_add _ 1) (by decide) rfl ?_
                          refine r_goto C dX8_smallest_203 (tgt := 107) (by decide) ?_
                          refine r_lvs C [0, 1, 2, 3, 4] (lv' := [(0, .ref (ad 36)), (1, .int (nI (m0))), (2, .int (nI ((rcP S m0 4)))), (3, .int (nI ((cntN (fresh S m0 (rcP S m0 4)) s) + 0))), (4, .int (nI (s + 1)))]) rfl ?_
                          rw [Nat.add_zero, ← cntN_f (P := (fresh S m0 (rcP S m0 4))) (n := s) (fun q => h190 ⟨q.1, fun c hc => q.2 c (by omega)⟩)]
                          exact ihq (s + 1) (by omega) (by omega)
                        · refine r_iconst C dX8_smallest_193 (v := nI 1) (by decide) ?_
                          refine r_goto C dX8_smallest_194 (tgt := 198) (by decide) ?_
                          refine r_iaddN C dX8_smallest_198 ?_
                          refine r_istore_n C [(0, .ref (ad 36)), (1, .int (nI (m0))), (2, .int (nI ((rcP S m0 4)))), (3, .int (nI ((cntN (fresh S m0 (rcP S m0 4)) s) + 1))), (4, .int (nI (s))), (5, .int (bI (((rcP S m0 4).testBit s = true ∧ ∀ c, c < t → (rcP S m0 4).testBit c = true → ¬ Lk S m0 s m0 c)))), (6, .int (nI (t)))] [1, 2, 3, 0, 4, 5, 6] dX8_smallest_199 rfl (by decide) rfl ?_
                          refine r_iinc C [(0, .ref (ad 36)), (1, .int (nI (m0))), (2, .int (nI ((rcP S m0 4)))), (3, .int (nI ((cntN (fresh S m0 (rcP S m0 4)) s) + 1))), (4, .int (nI (s + 1))), (5, .int (bI (((rcP S m0 4).testBit s = true ∧ ∀ c, c < t → (rcP S m0 4).testBit c = true → ¬ Lk S m0 s m0 c)))), (6, .int (nI (t)))] [1, 2, 3, 4, 0, 5, 6] 4 dX8_smallest_200 rfl (nI_add _ 1) (by decide) rfl ?_
                          refine r_goto C dX8_smallest_203 (tgt := 107) (by decide) ?_
                          refine r_lvs C [0, 1, 2, 3, 4] (lv' := [(0, .ref (ad 36)), (1, .int (nI (m0))), (2, .int (nI ((rcP S m0 4)))), (3, .int (nI ((cntN (fresh S m0 (rcP S m0 4)) s) + 1))), (4, .int (nI (s + 1)))]) rfl ?_
                          rw [← cntN_t (P := (fresh S m0 (rcP S m0 4))) (n := s) ⟨h190.1, fun c hc => h190.2 c (by omega)⟩]
                          exact ihq (s + 1) (by omega) (by omega)
                      · refine r_iload C 5 dX8_smallest_145 rfl ?_
                        refine r_ifB_eq C dX8_smallest_147 (tgt := 178) (by decide) (fun h147 => ?_) (fun h147 => ?_)
                        · have hold : ¬ ((rcP S m0 4).testBit s = true ∧ ∀ c, c < (t + 1) → (rcP S m0 4).testBit c = true → ¬ Lk S m0 s m0 c) := fun q => h147 ⟨q.1, fun c hc => q.2 c (by omega)⟩
                          refine r_iconst C dX8_smallest_178 (v := nI 0) (by decide) ?_
                          refine r_setI (y := bI ((rcP S m0 4).testBit s = true ∧ ∀ c, c < (t + 1) → (rcP S m0 4).testBit c = true → ¬ Lk S m0 s m0 c)) ((bF hold).symm) ?_
                          refine r_istore C [(0, .ref (ad 36)), (1, .int (nI (m0))), (2, .int (nI ((rcP S m0 4)))), (3, .int (nI (cntN (fresh S m0 (rcP S m0 4)) s))), (4, .int (nI (s))), (5, .int (bI (((rcP S m0 4).testBit s = true ∧ ∀ c, c < (t + 1) → (rcP S m0 4).testBit c = true → ¬ Lk S m0 s m0 c)))), (6, .int (nI (t)))] [1, 2, 3, 4, 5, 0, 6] dX8_smallest_179 (by decide) rfl ?_
                          refine r_iinc C [(0, .ref (ad 36)), (1, .int (nI (m0))), (2, .int (nI ((rcP S m0 4)))), (3, .int (nI (cntN (fresh S m0 (rcP S m0 4)) s))), (4, .int (nI (s))), (5, .int (bI (((rcP S m0 4).testBit s = true ∧ ∀ c, c < (t + 1) → (rcP S m0 4).testBit c = true → ¬ Lk S m0 s m0 c)))), (6, .int (nI (t + 1)))] [1, 2, 3, 4, 5, 6, 0] 6 dX8_smallest_181 rfl (nI_add _ 1) (by decide) rfl ?_
                          refine r_goto C dX8_smallest_184 (tgt := 138) (by decide) ?_
                          exact ih (t + 1) (by omega) (by omega)
                        · refine r_iload_n C 2 dX8_smallest_150 rfl rfl ?_
                          refine r_iload C 6 dX8_smallest_151 rfl ?_
                          refine r_ishrN C dX8_smallest_153 (by omega) (by omega) ?_
                          refine r_iconst C dX8_smallest_154 (v := nI 1) (by decide) ?_
                          refine r_iandN C dX8_smallest_155 ?_
                          refine r_ifN_eq C dX8_smallest_156 (tgt := 174) (by decide) (by omega) (fun h156 => ?_) (fun h156 => ?_)
                          · have hnew : ∀ c, c < t + 1 → (rcP S m0 4).testBit c = true → ¬ Lk S m0 s m0 c := fun c hc hb => by
                              rcases Nat.lt_or_ge c t with z | z
                              · exact h147.2 c z hb
                              · rw [show c = t by omega] at hb; exact absurd ((tb_iff _ _).mpr hb) (by omega)
                            refine r_iconst C dX8_smallest_174 (v := nI 1) (by decide) ?_
                            refine r_goto C dX8_smallest_175 (tgt := 179) (by decide) ?_
                            refine r_setI (y := bI ((rcP S m0 4).testBit s = true ∧ ∀ c, c < (t + 1) → (rcP S m0 4).testBit c = true → ¬ Lk S m0 s m0 c)) ((bT ⟨h147.1, hnew⟩).symm) ?_
                            refine r_istore C [(0, .ref (ad 36)), (1, .int (nI (m0))), (2, .int (nI ((rcP S m0 4)))), (3, .int (nI (cntN (fresh S m0 (rcP S m0 4)) s))), (4, .int (nI (s))), (5, .int (bI (((rcP S m0 4).testBit s = true ∧ ∀ c, c < (t + 1) → (rcP S m0 4).testBit c = true → ¬ Lk S m0 s m0 c)))), (6, .int (nI (t)))] [1, 2, 3, 4, 5, 0, 6] dX8_smallest_179 (by decide) rfl ?_
                            refine r_iinc C [(0, .ref (ad 36)), (1, .int (nI (m0))), (2, .int (nI ((rcP S m0 4)))), (3, .int (nI (cntN (fresh S m0 (rcP S m0 4)) s))), (4, .int (nI (s))), (5, .int (bI (((rcP S m0 4).testBit s = true ∧ ∀ c, c < (t + 1) → (rcP S m0 4).testBit c = true → ¬ Lk S m0 s m0 c)))), (6, .int (nI (t + 1)))] [1, 2, 3, 4, 5, 6, 0] 6 dX8_smallest_181 rfl (nI_add _ 1) (by decide) rfl ?_
                            refine r_goto C dX8_smallest_184 (tgt := 138) (by decide) ?_
                            exact ih (t + 1) (by omega) (by omega)
                          · have hbt : (rcP S m0 4).testBit t = true := (tb_iff _ _).mp (by omega)
                            refine r_aload_n C 0 dX8_smallest_159 rfl rfl ?_
                            refine r_get C (CN := RX8) (T := TX8) (N := 21) k_36 rfl hin_X8 (j := 16) (by decide) hk_44 rfl rfl dX8_smallest_160 ?_
                            refine r_iconst C dX8_smallest_163 (v := nI 4) (by decide) ?_
                            refine r_iload C 4 dX8_smallest_164 rfl ?_
                            refine r_imulN C dX8_smallest_166 ?_
                            refine r_iload C 6 dX8_smallest_167 rfl ?_
                            refine r_iaddN C dX8_smallest_169 ?_
                            refine r_zald C k_46 (by omega) (by omega) dX8_smallest_170 ?_
                            refine r_setI (y := (bI (¬ Lk S m0 s m0 t))) (hk1 s t (by omega) (by omega)) ?_
                            refine r_ifB_eq C dX8_smallest_171 (tgt := 178) (by decide) (fun h171 => ?_) (fun h171 => ?_)
                            · have hold : ¬ ((rcP S m0 4).testBit s = true ∧ ∀ c, c < (t + 1) → (rcP S m0 4).testBit c = true → ¬ Lk S m0 s m0 c) := fun q => h171 (q.2 t (by omega) hbt)
                              refine r_iconst C dX8_smallest_178 (v := nI 0) (by decide) ?_
                              refine r_setI (y := bI ((rcP S m0 4).testBit s = true ∧ ∀ c, c < (t + 1) → (rcP S m0 4).testBit c = true → ¬ Lk S m0 s m0 c)) ((bF hold).symm) ?_
                              refine r_istore C [(0, .ref (ad 36)), (1, .int (nI (m0))), (2, .int (nI ((rcP S m0 4)))), (3, .int (nI (cntN (fresh S m0 (rcP S m0 4)) s))), (4, .int (nI (s))), (5, .int (bI (((rcP S m0 4).testBit s = true ∧ ∀ c, c < (t + 1) → (rcP S m0 4).testBit c = true → ¬ Lk S m0 s m0 c)))), (6, .int (nI (t)))] [1, 2, 3, 4, 5, 0, 6] dX8_smallest_179 (by decide) rfl ?_
                              refine r_iinc C [(0, .ref (ad 36)), (1, .int (nI (m0))), (2, .int (nI ((rcP S m0 4)))), (3, .int (nI (cntN (fresh S m0 (rcP S m0 4)) s))), (4, .int (nI (s))), (5, .int (bI (((rcP S m0 4).testBit s = true ∧ ∀ c, c < (t + 1) → (rcP S m0 4).testBit c = true → ¬ Lk S m0 s m0 c)))), (6, .int (nI (t + 1)))] [1, 2, 3, 4, 5, 6, 0] 6 dX8_smallest_181 rfl (nI_add _ 1) (by decide) rfl ?_
                              refine r_goto C dX8_smallest_184 (tgt := 138) (by decide) ?_
                              exact ih (t + 1) (by omega) (by omega)
                            · have hnew : ∀ c, c < t + 1 → (rcP S m0 4).testBit c = true → ¬ Lk S m0 s m0 c := fun c hc hb => by
                                rcases Nat.lt_or_ge c t with z | z
                                · exact h147.2 c z hb
                                · rw [show c = t by omega]; exact h171
                              refine r_iconst C dX8_smallest_174 (v := nI 1) (by decide) ?_
                              refine r_goto C dX8_smallest_175 (tgt := 179) (by decide) ?_
                              refine r_setI (y := bI ((rcP S m0 4).testBit s = true ∧ ∀ c, c < (t + 1) → (rcP S m0 4).testBit c = true → ¬ Lk S m0 s m0 c)) ((bT ⟨h147.1, hnew⟩).symm) ?_
                              refine r_istore C [(0, .ref (ad 36)), (1, .int (nI (m0))), (2, .int (nI ((rcP S m0 4)))), (3, .int (nI (cntN (fresh S m0 (rcP S m0 4)) s))), (4, .int (nI (s))), (5, .int (bI (((rcP S m0 4).testBit s = true ∧ ∀ c, c < (t + 1) → (rcP S m0 4).testBit c = true → ¬ Lk S m0 s m0 c)))), (6, .int (nI (t)))] [1, 2, 3, 4, 5, 0, 6] dX8_smallest_179 (by decide) rfl ?_
                              refine r_iinc C [(0, .ref (ad 36)), (1, .int (nI (m0))), (2, .int (nI ((rcP S m0 4)))), (3, .int (nI (cntN (fresh S m0 (rcP S m0 4)) s))), (4, .int (nI (s))), (5, .int (bI (((rcP S m0 4).testBit s = true ∧ ∀ c, c < (t + 1) → (rcP S m0 4).testBit c = true → ¬ Lk S m0 s m0 c)))), (6, .int (nI (t + 1)))] [1, 2, 3, 4, 5, 6, 0] 6 dX8_smallest_181 rfl (nI_add _ 1) (by decide) rfl ?_
                              refine r_goto C dX8_smallest_184 (tgt := 138) (by decide) ?_
                              exact ih (t + 1) (by omega) (by omega)
                  exact L138 (s + 1) 0 (by omega) (by omega)
          exact L107 (sz S m0 + 1) 0 (by omega) (by omega)
        · refine r_iconst C dX8_smallest_25 (v := nI 0) (by decide) ?_
          refine r_istore C [(0, .ref (ad 36)), (1, .int (nI (m0))), (2, .int (nI (rcP S m0 p))), (3, .int (nI (p))), (4, .int (nI (0)))] [1, 2, 3, 4, 0] dX8_smallest_26 (by decide) rfl ?_
          have ihp := ih
          have L28 : ∀ (fu : Nat) (s : Nat), sz S m0 < s + fu → (s ≤ sz S m0) → G kx 0 0 (WW g ad k1) 28 [(0, .ref (ad 36)), (1, .int (nI (m0))), (2, .int (nI (rcS S m0 (rcP S m0 p) s))), (3, .int (nI (p))), (4, .int (nI (s)))] [] := by
            intro fu
            induction fu with
            | zero => intro s hfu hs; exact absurd hfu (by omega)
            | succ fu ih =>
              intro s hfu hs
              refine r_iload C 4 dX8_smallest_28 rfl ?_
              refine r_aload_n C 0 dX8_smallest_30 rfl rfl ?_
              refine r_get C (CN := RX8) (T := TX8) (N := 21) k_36 rfl hin_X8 (j := 4) (by decide) hk_20 rfl rfl dX8_smallest_31 ?_
              refine r_iload_n C 1 dX8_smallest_34 rfl rfl ?_
              refine r_iald C k_38 (by omega) (by omega) dX8_smallest_35 ?_
              refine r_setI (y := (nI (sz S m0))) (hM.z (by first | assumption | omega)) ?_
              refine r_icmpN_ge C dX8_smallest_36 (tgt := 96) (by decide) (by omega) (by omega) (fun h36 => ?_) (fun h36 => ?_)
              · refine r_iinc C [(0, .ref (ad 36)), (1, .int (nI (m0))), (2, .int (nI (rcS S m0 (rcP S m0 p) s))), (3, .int (nI (p + 1))), (4, .int (nI (s)))] [1, 2, 3, 0, 4] 3 dX8_smallest_96 rfl (nI_add _ 1) (by decide) rfl ?_
                refine r_goto C dX8_smallest_99 (tgt := 20) (by decide) ?_
                refine r_lvs C [0, 1, 2, 3] (lv' := [(0, .ref (ad 36)), (1, .int (nI (m0))), (2, .int (nI (rcS S m0 (rcP S m0 p) s))), (3, .int (nI (p + 1)))]) rfl ?_
                rw [show rcS S m0 (rcP S m0 p) s = rcP S m0 (p + 1) by rw [show s = sz S m0 by omega]; rfl]
                exact ihp (p + 1) (by omega) (by omega)
              · have hsl : s < sz S m0 := by omega
                refine r_iconst C dX8_smallest_39 (v := nI 0) (by decide) ?_
                refine r_istore C [(0, .ref (ad 36)), (1, .int (nI (m0))), (2, .int (nI (rcS S m0 (rcP S m0 p) s))), (3, .int (nI (p))), (4, .int (nI (s))), (5, .int (nI (0)))] [1, 2, 3, 4, 5, 0] dX8_smallest_40 (by decide) rfl ?_
                have ihs := ih
                have L42 : ∀ (fu : Nat) (a : Nat), 3 < a + fu → (a ≤ 3) → G kx 0 0 (WW g ad k1) 42 [(0, .ref (ad 36)), (1, .int (nI (m0))), (2, .int (nI (rcA S m0 s (rcS S m0 (rcP S m0 p) s) a))), (3, .int (nI (p))), (4, .int (nI (s))), (5, .int (nI (a)))] [] := by
                  intro fu
                  induction fu with
                  | zero => intro a hfu ha; exact absurd hfu (by omega)
                  | succ fu ih =>
                    intro a hfu ha
                    have hl := rcA_lt hO (m := m0) (s := s) (rcS_lt (m := m0) hO (rcP_lt hO m0 p) s) a
                    have hx4 := hO.x4 m0 s a
                    have hand := and1_lt (rcA S m0 s (rcS S m0 (rcP S m0 p) s) a >>> s)
                    refine r_iload C 5 dX8_smallest_42 rfl ?_
                    refine r_iconst C dX8_smallest_44 (v := nI 3) (by decide) ?_
                    refine r_icmpN_ge C dX8_smallest_45 (tgt := 90) (by decide) (by omega) (by omega) (fun h45 => ?_) (fun h45 => ?_)
                    · refine r_iinc C [(0, .ref (ad 36)), (1, .int (nI (m0))), (2, .int (nI (rcA S m0 s (rcS S m0 (rcP S m0 p) s) a))), (3, .int (nI (p))), (4, .int (nI (s + 1))), (5, .int (nI (a)))] [1, 2, 3, 4, 0, 5] 4 dX8_smallest_90 rfl (nI_add _ 1) (by decide) rfl ?_
                      refine r_goto C dX8_smallest_93 (tgt := 28) (by decide) ?_
                      refine r_lvs C [0, 1, 2, 3, 4] (lv' := [(0, .ref (ad 36)), (1, .int (nI (m0))), (2, .int (nI (rcA S m0 s (rcS S m0 (rcP S m0 p) s) a))), (3, .int (nI (p))), (4, .int (nI (s + 1)))]) rfl ?_
                      rw [show rcA S m0 s (rcS S m0 (rcP S m0 p) s) a = rcS S m0 (rcP S m0 p) (s + 1) by rw [show a = 3 by omega]; rfl]
                      exact ihs (s + 1) (by omega) (by omega)
                    · have ha3 : a < 3 := by omega
                      refine r_iload_n C 2 dX8_smallest_48 rfl rfl ?_
                      refine r_iload_n C 2 dX8_smallest_49 rfl rfl ?_
                      refine r_iload C 4 dX8_smallest_50 rfl ?_
                      refine r_ishrN C dX8_smallest_52 (by omega) (by omega) ?_
                      refine r_iconst C dX8_smallest_53 (v := nI 1) (by decide) ?_
                      refine r_iandN C dX8_smallest_54 ?_
                      refine r_iconst C dX8_smallest_55 (v := nI 1) (by decide) ?_
                      refine r_icmpN_ne C dX8_smallest_56 (tgt := 81) (by decide) (by omega) (by omega) (fun h56 => ?_) (fun h56 => ?_)
                      · refine r_iconst C dX8_smallest_81 (v := nI 0) (by decide) ?_
                        refine r_iorN C dX8_smallest_82 ?_
                        refine r_istore_n C [(0, .ref (ad 36)), (1, .int (nI (m0))), (2, .int (nI ((rcA S m0 s (rcS S m0 (rcP S m0 p) s) a) ||| 0))), (3, .int (nI (p))), (4, .int (nI (s))), (5, .int (nI (a)))] [1, 2, 0, 3, 4, 5] dX8_smallest_83 rfl (by decide) rfl ?_
                        refine r_iinc C [(0, .ref (ad 36)), (1, .int (nI (m0))), (2, .int (nI ((rcA S m0 s (rcS S m0 (rcP S m0 p) s) a) ||| 0))), (3, .int (nI (p))), (4, .int (nI (s))), (5, .int (nI (a + 1)))] [1, 2, 3, 4, 5, 0] 5 dX8_smallest_84 rfl (nI_add _ 1) (by decide) rfl ?_
                        refine r_goto C dX8_smallest_87 (tgt := 42) (by decide) ?_
                        rw [Nat.or_zero, ← rcA_f (fun z => h56 ((tb_iff _ _).mpr z))]
                        exact ih (a + 1) (by omega) (by omega)
                      · refine r_iconst C dX8_smallest_59 (v := nI 1) (by decide) ?_
                        refine r_aload_n C 0 dX8_smallest_60 rfl rfl ?_
                        refine r_get C (CN := RX8) (T := TX8) (N := 21) k_36 rfl hin_X8 (j := 6) (by decide) hk_26 rfl rfl dX8_smallest_61 ?_
                        refine r_bipush C dX8_smallest_64 (v := nI 12) (by decide) ?_
                        refine r_iload_n C 1 dX8_smallest_66 rfl rfl ?_
                        refine r_imulN C dX8_smallest_67 ?_
                        refine r_iconst C dX8_smallest_68 (v := nI 3) (by decide) ?_
                        refine r_iload C 4 dX8_smallest_69 rfl ?_
                        refine r_imulN C dX8_smallest_71 ?_
                        refine r_iaddN C dX8_smallest_72 ?_
                        refine r_iload C 5 dX8_smallest_73 rfl ?_
                        refine r_iaddN C dX8_smallest_75 ?_
                        refine r_iald C k_40 (by omega) (by omega) dX8_smallest_76 ?_
                        refine r_setI (y := (nI (sx S m0 s a))) (hM.x (by assumption) (by first | assumption | omega) (by first | assumption | omega)) ?_
                        refine r_ishlN C dX8_smallest_77 (by omega) ?_
                        refine r_goto C dX8_smallest_78 (tgt := 82) (by decide) ?_
                        refine r_iorN C dX8_smallest_82 ?_
                        refine r_istore_n C [(0, .ref (ad 36)), (1, .int (nI (m0))), (2, .int (nI ((rcA S m0 s (rcS S m0 (rcP S m0 p) s) a) ||| (2 ^ (sx S m0 s a))))), (3, .int (nI (p))), (4, .int (nI (s))), (5, .int (nI (a)))] [1, 2, 0, 3, 4, 5] dX8_smallest_83 rfl (by decide) rfl ?_
                        refine r_iinc C [(0, .ref (ad 36)), (1, .int (nI (m0))), (2, .int (nI ((rcA S m0 s (rcS S m0 (rcP S m0 p) s) a) ||| (2 ^ (sx S m0 s a))))), (3, .int (nI (p))), (4, .int (nI (s))), (5, .int (nI (a + 1)))] [1, 2, 3, 4, 5, 0] 5 dX8_smallest_84 rfl (nI_add _ 1) (by decide) rfl ?_
                        refine r_goto C dX8_smallest_87 (tgt := 42) (by decide) ?_
                        rw [← rcA_t ((tb_iff _ _).mp h56)]
                        exact ih (a + 1) (by omega) (by omega)
                exact L42 4 0 (by omega) (by omega)
          exact L28 (sz S m0 + 1) 0 (by omega) (by omega)
    exact L20 5 0 (by omega) (by omega)
  · refine r_iconst C dX8_smallest_8 (v := (-1)) (by decide) ?_
    exact E.2.1 rfl _ _ _ _ dX8_smallest_9 ⟨_, rfl, ⟨ifp_f h5 _ _, hM, SmR.rf⟩⟩
def rmX8_count : Room := { frames := 6, cells := 0, slots := 0, locals := 151 }
theorem pk_X8_count : Pk yX8_count RX8 1 := by decide +kernel
set_option maxHeartbeats 4000000 in
set_option maxRecDepth 100000 in
theorem c_X8_count (l : Launch) (g : gE) (ad : Nat → Nat) (u : Me) (S : Sg) (hM : RepM S u) (hO : Ok S) (w : Int32) : Cti l yX8_count wsX8_count rmX8_count g ad [.ref (ad 36), .int (w)] u (fun r u' => couA S w = r ∧ RepM S u' ∧ SmR u u') := by
  refine Ct.of (cc := cX8_count) (nL := 6) (ret := (some .int)) RX8 (by decide) rfl rfl (Nat.le_of_ble_eq_true rfl) (fun kx C E => ?_)
  have hin_X8 : ∀ w ∈ u_ws RX8 TX8 21, w ∈ wsX8_count := by decide +kernel
  have hk_29 : Cond.fieldLink RX8 29 "AgainAgainModel" "lanes" "[I" ∈ wsX8_count := by decide +kernel
  have hk_32 : Cond.fieldLink RX8 32 "AgainAgainModel" "sizes" "[I" ∈ wsX8_count := by decide +kernel
  have hk_63 : Cond.fieldLink RX8 63 "AgainAgainModel" "machines" "I" ∈ wsX8_count := by decide +kernel
  show G kx 0 0 (WW g ad u) 0 [(0, .ref (ad 36)), (1, .int (w))] []
  have hn := hO.n
  have hl3 := (hO.s 0).1
  rcases tab4 w with rfl | rfl | rfl | rfl | hw
  · refine r_iload_n C 1 dX8_count_0 rfl rfl ?_
    refine r_iconst C dX8_count_1 (v := nI 1) (by decide) ?_
    refine r_icmpN_ne C dX8_count_2 (tgt := 78) (by decide) (by omega) (by omega) (fun h2 => ?_) (fun h2 => ?_)
    · refine r_iload_n C 1 dX8_count_78 rfl rfl ?_
      refine r_iconst C dX8_count_79 (v := nI 2) (by decide) ?_
      refine r_icmpN_ne C dX8_count_80 (tgt := 140) (by decide) (by omega) (by omega) (fun h80 => ?_) (fun h80 => ?_)
      · refine r_iload_n C 1 dX8_count_140 rfl rfl ?_
        refine r_ifN_ne C dX8_count_141 (tgt := 151) (by decide) (by omega) (fun h141 => ?_) (fun h141 => ?_)
        · exact absurd rfl h141
        · refine r_aload_n C 0 dX8_count_144 rfl rfl ?_
          refine r_get C (CN := RX8) (T := TX8) (N := 21) k_36 rfl hin_X8 (j := 3) (by decide) hk_63 rfl rfl dX8_count_145 ?_
          refine r_setI (y := (nI (sN S))) (hM.n) ?_
          refine r_goto C dX8_count_148 (tgt := 182) (by decide) ?_
          exact E.2.1 rfl _ _ _ _ dX8_count_182 ⟨_, rfl, ⟨couA_0, hM, SmR.rf⟩⟩
      · exact absurd h80 (by decide)
    · exact absurd h2 (by decide)
  · refine r_iload_n C 1 dX8_count_0 rfl rfl ?_
    refine r_iconst C dX8_count_1 (v := nI 1) (by decide) ?_
    refine r_icmpN_ne C dX8_count_2 (tgt := 78) (by decide) (by omega) (by omega) (fun h2 => ?_) (fun h2 => ?_)
    · exact absurd rfl h2
    · refine r_iconst C dX8_count_5 (v := nI 0) (by decide) ?_
      refine r_istore_n C [(0, .ref (ad 36)), (1, .int (nI (1))), (2, .int (nI (0)))] [1, 2, 0] dX8_count_6 rfl (by decide) rfl ?_
      refine r_iconst C dX8_count_7 (v := nI 0) (by decide) ?_
      refine r_istore_n C [(0, .ref (ad 36)), (1, .int (nI (1))), (2, .int (nI (0))), (3, .int (nI (0)))] [1, 2, 3, 0] dX8_count_8 rfl (by decide) rfl ?_
      have L9 : ∀ (fu : Nat) (i : Nat) (v : Me), sN S < i + fu → (i ≤ sN S) → (Sm [46] [] [] [] u v) → (RepM S v) → G kx 0 0 (WW g ad v) 9 [(0, .ref (ad 36)), (1, .int (nI (1))), (2, .int (nI (cntN (fun m => ∀ i, i < m → ¬ Lk S i 0 m 0) i))), (3, .int (nI (i)))] [] := by
        intro fu
        induction fu with
        | zero => intro i v hfu hin hv hM; exact absurd hfu (by omega)
        | succ fu ih =>
          intro i v hfu hin hv hM
          have hcn := cntN_le (fun m => ∀ i, i < m → ¬ Lk S i 0 m 0) i
          refine r_iload_n C 3 dX8_count_9 rfl rfl ?_
          refine r_aload_n C 0 dX8_count_10 rfl rfl ?_
          refine r_get C (CN := RX8) (T := TX8) (N := 21) k_36 rfl hin_X8 (j := 3) (by decide) hk_63 rfl rfl dX8_count_11 ?_
          refine r_setI (y := (nI (sN S))) (hM.n) ?_
          refine r_icmpN_ge C dX8_count_14 (tgt := 76) (by decide) (by omega) (by omega) (fun h14 => ?_) (fun h14 => ?_)
          · refine r_iload_n C 2 dX8_count_76 rfl rfl ?_
            exact E.2.1 rfl _ _ _ _ dX8_count_77 ⟨_, rfl, ⟨by rw [couA_1, show i = sN S by omega], hM, (SmR.of hv (by decide) (by decide) (by decide) (by decide))⟩⟩
          · have hi : i < sN S := by omega
            refine r_iconst C dX8_count_17 (v := nI 1) (by decide) ?_
            refine r_setI (y := bI (∀ c, c < 0 → ¬ Lk S c 0 i 0)) ((bT (fun c hc => absurd hc (by omega))).symm) ?_
            refine r_istore C [(0, .ref (ad 36)), (1, .int (nI (1))), (2, .int (nI (cntN (fun m => ∀ i, i < m → ¬ Lk S i 0 m 0) i))), (3, .int (nI (i))), (4, .int (bI ((∀ c, c < 0 → ¬ Lk S c 0 i 0))))] [1, 2, 3, 4, 0] dX8_count_18 (by decide) rfl ?_
            refine r_iconst C dX8_count_20 (v := nI 0) (by decide) ?_
            refine r_istore C [(0, .ref (ad 36)), (1, .int (nI (1))), (2, .int (nI (cntN (fun m => ∀ i, i < m → ¬ Lk S i 0 m 0) i))), (3, .int (nI (i))), (4, .int (bI ((∀ c, c < 0 → ¬ Lk S c 0 i 0)))), (5, .int (nI (0)))] [1, 2, 3, 4, 5, 0] dX8_count_21 (by decide) rfl ?_
            have iho := ih
            have L23 : ∀ (fu : Nat) (j : Nat) (v : Me), i < j + fu → (j ≤ i) → (Sm [46] [] [] [] u v) → (RepM S v) → G kx 0 0 (WW g ad v) 23 [(0, .ref (ad 36)), (1, .int (nI (1))), (2, .int (nI (cntN (fun m => ∀ i, i < m → ¬ Lk S i 0 m 0) i))), (3, .int (nI (i))), (4, .int (bI ((∀ c, c < j → ¬ Lk S c 0 i 0)))), (5, .int (nI (j)))] [] := by
              intro fu
              induction fu with
              | zero => intro j v hfu hji hv hM; exact absurd hfu (by omega)
              | succ fu ih =>
                intro j v hfu hji hv hM
                refine r_iload C 5 dX8_count_23 rfl ?_
                refine r_iload_n C 3 dX8_count_25 rfl rfl ?_
                refine r_icmpN_ge C dX8_count_26 (tgt := 57) (by decide) (by omega) (by omega) (fun h26 => ?_) (fun h26 => ?_)
                · refine r_iload_n C 2 dX8_count_57 rfl rfl ?_
                  refine r_iload C 4 dX8_count_58 rfl ?_
                  refine r_ifB_eq C dX8_count_60 (tgt := 67) (by decide) (fun h60 => ?_) (fun h60 => ?_)
                  · refine r_iconst C dX8_count_67 (v := nI 0) (by decide) ?_
                    refine r_iaddN C dX8_count_68 ?_
                    refine r_istore_n C [(0, .ref (ad 36)), (1, .int (nI (1))), (2, .int (nI ((cntN (fun m => ∀ i, i < m → ¬ Lk S i 0 m 0) i) + 0))), (3, .int (nI (i))), (4, .int (bI ((∀ c, c < j → ¬ Lk S c 0 i 0)))), (5, .int (nI (j)))] [1, 2, 0, 3, 4, 5] dX8_count_69 rfl (by decide) rfl ?_
                    refine r_iinc C [(0, .ref (ad 36)), (1, .int (nI (1))), (2, .int (nI ((cntN (fun m => ∀ i, i < m → ¬ Lk S i 0 m 0) i) + 0))), (3, .int (nI (i + 1))), (4, .int (bI ((∀ c, c < j → ¬ Lk S c 0 i 0)))), (5, .int (nI (j)))] [1, 2, 3, 0, 4, 5] 3 dX8_count_70 rfl (nI_add _ 1) (by decide) rfl ?_
                    refine r_goto C dX8_count_73 (tgt := 9) (by decide) ?_
                    refine r_lvs C [0, 1, 2, 3] (lv' := [(0, .ref (ad 36)), (1, .int (nI (1))), (2, .int (nI ((cntN (fun m => ∀ i, i < m → ¬ Lk S i 0 m 0) i) + 0))), (3, .int (nI (i + 1)))]) rfl ?_
                    rw [Nat.add_zero, ← cntN_f (P := (fun m => ∀ i, i < m → ¬ Lk S i 0 m 0)) (n := i) (fun q => h60 (fun c hc => q c (by omega)))]
                    exact iho (i + 1) v (by omega) (by omega) hv hM
                  · refine r_iconst C dX8_count_63 (v := nI 1) (by decide) ?_
                    refine r_goto C dX8_count_64 (tgt := 68) (by decide) ?_
                    refine r_iaddN C dX8_count_68 ?_
                    refine r_istore_n C [(0, .ref (ad 36)), (1, .int (nI (1))), (2, .int (nI ((cntN (fun m => ∀ i, i < m → ¬ Lk S i 0 m 0) i) + 1))), (3, .int (nI (i))), (4, .int (bI ((∀ c, c < j → ¬ Lk S c 0 i 0)))), (5, .int (nI (j)))] [1, 2, 0, 3, 4, 5] dX8_count_69 rfl (by decide) rfl ?_
                    refine r_iinc C [(0, .ref (ad 36)), (1, .int (nI (1))), (2, .int (nI ((cntN (fun m => ∀ i, i < m → ¬ Lk S i 0 m 0) i) + 1))), (3, .int (nI (i + 1))), (4, .int (bI ((∀ c, c < j → ¬ Lk S c 0 i 0)))), (5, .int (nI (j)))] [1, 2, 3, 0, 4, 5] 3 dX8_count_70 rfl (nI_add _ 1) (by decide) rfl ?_
                    refine r_goto C dX8_count_73 (tgt := 9) (by decide) ?_
                    refine r_lvs C [0, 1, 2, 3] (lv' := [(0, .ref (ad 36)), (1, .int (nI (1))), (2, .int (nI ((cntN (fun m => ∀ i, i < m → ¬ Lk S i 0 m 0) i) + 1))), (3, .int (nI (i + 1)))]) rfl ?_
                    rw [← cntN_t (P := (fun m => ∀ i, i < m → ¬ Lk S i 0 m 0)) (n := i) (fun c hc => h60 c (by omega))]
                    exact iho (i + 1) v (by omega) (by omega) hv hM
                · refine r_iload C 4 dX8_count_29 rfl ?_
                  refine r_ifB_eq C dX8_count_31 (tgt := 48) (by decide) (fun h31 => ?_) (fun h31 => ?_)
                  · have hold : ¬ (∀ c, c < (j + 1) → ¬ Lk S c 0 i 0) := fun q => h31 (fun c hc => q c (by omega))
                    refine r_iconst C dX8_count_48 (v := nI 0) (by decide) ?_
                    refine r_setI (y := bI (∀ c, c < (j + 1) → ¬ Lk S c 0 i 0)) ((bF hold).symm) ?_
                    refine r_istore C [(0, .ref (ad 36)), (1, .int (nI (1))), (2, .int (nI (cntN (fun m => ∀ i, i < m → ¬ Lk S i 0 m 0) i))), (3, .int (nI (i))), (4, .int (bI ((∀ c, c < (j + 1) → ¬ Lk S c 0 i 0)))), (5, .int (nI (j)))] [1, 2, 3, 4, 0, 5] dX8_count_49 (by decide) rfl ?_
                    refine r_iinc C [(0, .ref (ad 36)), (1, .int (nI (1))), (2, .int (nI (cntN (fun m => ∀ i, i < m → ¬ Lk S i 0 m 0) i))), (3, .int (nI (i))), (4, .int (bI ((∀ c, c < (j + 1) → ¬ Lk S c 0 i 0)))), (5, .int (nI (j + 1)))] [1, 2, 3, 4, 5, 0] 5 dX8_count_51 rfl (nI_add _ 1) (by decide) rfl ?_
                    refine r_goto C dX8_count_54 (tgt := 23) (by decide) ?_
                    exact ih (j + 1) _ (by omega) (by omega) hv hM
                  · refine r_aload_n C 0 dX8_count_34 rfl rfl ?_
                    refine r_iload_n C 3 dX8_count_35 rfl rfl ?_
                    refine r_iload C 5 dX8_count_36 rfl ?_
                    refine r_callVi C (rest := []) (c_X8_areLike l g ad v S hM hO i j (by first | assumption | omega) (by first | assumption | omega)) gX8_count_X8_areLike pk_X8_areLike k_36 dX8_count_38 rfl rfl rfl rfl ⟨(Nat.le_of_ble_eq_true rfl), (Nat.le_of_ble_eq_true rfl)⟩ rfl rfl (Nat.le_of_ble_eq_true rfl) ⟨(Nat.le_of_ble_eq_true rfl), (Nat.le_of_ble_eq_true rfl)⟩ ?_
                    rintro _ k1 ⟨⟨rfl, hsk⟩, hM⟩
                    refine r_ifB_ne C dX8_count_41 (tgt := 48) (by decide) (fun h41 => ?_) (fun h41 => ?_)
                    · have hold : ¬ (∀ c, c < (j + 1) → ¬ Lk S c 0 i 0) := fun q => q j (by omega) h41.symm
                      refine r_iconst C dX8_count_48 (v := nI 0) (by decide) ?_
                      refine r_setI (y := bI (∀ c, c < (j + 1) → ¬ Lk S c 0 i 0)) ((bF hold).symm) ?_
                      refine r_istore C [(0, .ref (ad 36)), (1, .int (nI (1))), (2, .int (nI (cntN (fun m => ∀ i, i < m → ¬ Lk S i 0 m 0) i))), (3, .int (nI (i))), (4, .int (bI ((∀ c, c < (j + 1) → ¬ Lk S c 0 i 0)))), (5, .int (nI (j)))] [1, 2, 3, 4, 0, 5] dX8_count_49 (by decide) rfl ?_
                      refine r_iinc C [(0, .ref (ad 36)), (1, .int (nI (1))), (2, .int (nI (cntN (fun m => ∀ i, i < m → ¬ Lk S i 0 m 0) i))), (3, .int (nI (i))), (4, .int (bI ((∀ c, c < (j + 1) → ¬ Lk S c 0 i 0)))), (5, .int (nI (j + 1)))] [1, 2, 3, 4, 5, 0] 5 dX8_count_51 rfl (nI_add _ 1) (by decide) rfl ?_
                      refine r_goto C dX8_count_54 (tgt := 23) (by decide) ?_
                      exact ih (j + 1) _ (by omega) (by omega) (hv.tr hsk) hM
                    · have hnew : (∀ c, c < (j + 1) → ¬ Lk S c 0 i 0) := fun c hc => by
                        rcases Nat.lt_or_ge c j with z | z
                        · exact h31 c z
                        · rw [show c = j by omega]; exact fun q => h41 q.symm
                      refine r_iconst C dX8_count_44 (v := nI 1) (by decide) ?_
                      refine r_goto C dX8_count_45 (tgt := 49) (by decide) ?_
                      refine r_setI (y := bI (∀ c, c < (j + 1) → ¬ Lk S c 0 i 0)) ((bT hnew).symm) ?_
                      refine r_istore C [(0, .ref (ad 36)), (1, .int (nI (1))), (2, .int (nI (cntN (fun m => ∀ i, i < m → ¬ Lk S i 0 m 0) i))), (3, .int (nI (i))), (4, .int (bI ((∀ c, c < (j + 1) → ¬ Lk S c 0 i 0)))), (5, .int (nI (j)))] [1, 2, 3, 4, 0, 5] dX8_count_49 (by decide) rfl ?_
                      refine r_iinc C [(0, .ref (ad 36)), (1, .int (nI (1))), (2, .int (nI (cntN (fun m => ∀ i, i < m → ¬ Lk S i 0 m 0) i))), (3, .int (nI (i))), (4, .int (bI ((∀ c, c < (j + 1) → ¬ Lk S c 0 i 0)))), (5, .int (nI (j + 1)))] [1, 2, 3, 4, 5, 0] 5 dX8_count_51 rfl (nI_add _ 1) (by decide) rfl ?_
                      refine r_goto C dX8_count_54 (tgt := 23) (by decide) ?_
                      exact ih (j + 1) _ (by omega) (by omega) (hv.tr hsk) hM
            exact L23 (i + 1) 0 v (by omega) (by omega) hv hM
      exact L9 (sN S + 1) 0 u (by omega) (by omega) Sm.rf hM
  · refine r_iload_n C 1 dX8_count_0 rfl rfl ?_
    refine r_iconst C dX8_count_1 (v := nI 1) (by decide) ?_
    refine r_icmpN_ne C dX8_count_2 (tgt := 78) (by decide) (by omega) (by omega) (fun h2 => ?_) (fun h2 => ?_)
    · refine r_iload_n C 1 dX8_count_78 rfl rfl ?_
      refine r_iconst C dX8_count_79 (v := nI 2) (by decide) ?_
      refine r_icmpN_ne C dX8_count_80 (tgt := 140) (by decide) (by omega) (by omega) (fun h80 => ?_) (fun h80 => ?_)
      · exact absurd rfl h80
      · refine r_iconst C dX8_count_83 (v := nI 0) (by decide) ?_
        refine r_istore_n C [(0, .ref (ad 36)), (1, .int (nI (2))), (2, .int (nI (0)))] [1, 2, 0] dX8_count_84 rfl (by decide) rfl ?_
        refine r_iconst C dX8_count_85 (v := nI 0) (by decide) ?_
        refine r_istore_n C [(0, .ref (ad 36)), (1, .int (nI (2))), (2, .int (nI (0))), (3, .int (nI (0)))] [1, 2, 3, 0] dX8_count_86 rfl (by decide) rfl ?_
        have L87 : ∀ (fu : Nat) (i : Nat) (v : Me), sN S < i + fu → (i ≤ sN S) → (Sm [44, 45] [] [10, 11, 12] [8, 9, 10, 11] u v) → (RepM S v) → G kx 0 0 (WW g ad v) 87 [(0, .ref (ad 36)), (1, .int (nI (2))), (2, .int (nI (rpS S i))), (3, .int (nI (i)))] [] := by
          intro fu
          induction fu with
          | zero => intro i v hfu hin hv hM; exact absurd hfu (by omega)
          | succ fu ih =>
            intro i v hfu hin hv hM
            refine r_iload_n C 3 dX8_count_87 rfl rfl ?_
            refine r_aload_n C 0 dX8_count_88 rfl rfl ?_
            refine r_get C (CN := RX8) (T := TX8) (N := 21) k_36 rfl hin_X8 (j := 3) (by decide) hk_63 rfl rfl dX8_count_89 ?_
            refine r_setI (y := (nI (sN S))) (hM.n) ?_
            refine r_icmpN_ge C dX8_count_92 (tgt := 138) (by decide) (by omega) (by omega) (fun h92 => ?_) (fun h92 => ?_)
            · refine r_iload_n C 2 dX8_count_138 rfl rfl ?_
              exact E.2.1 rfl _ _ _ _ dX8_count_139 ⟨_, rfl, ⟨by rw [couA_2, show i = sN S by omega], hM, (SmR.of hv (by decide) (by decide) (by decide) (by decide))⟩⟩
            · have hi : i < sN S := by omega
              refine r_iload_n C 3 dX8_count_95 rfl rfl ?_
              refine r_istore C [(0, .ref (ad 36)), (1, .int (nI (2))), (2, .int (nI (rpS S i))), (3, .int (nI (i))), (4, .int (nI (i)))] [1, 2, 3, 4, 0] dX8_count_96 (by decide) rfl ?_
              have iho := ih
              have L98 : ∀ (fu : Nat) (j : Nat) (v : Me), sN S < j + fu → (j ≤ sN S) → (i ≤ j) → (Sm [44, 45] [] [10, 11, 12] [8, 9, 10, 11] u v) → (RepM S v) → G kx 0 0 (WW g ad v) 98 [(0, .ref (ad 36)), (1, .int (nI (2))), (2, .int (nI (rpS S i + rpI S i j))), (3, .int (nI (i))), (4, .int (nI (j)))] [] := by
                intro fu
                induction fu with
                | zero => intro j v hfu hjn hij hv hM; exact absurd hfu (by omega)
                | succ fu ih =>
                  intro j v hfu hjn hij hv hM
                  have hq1 := rpS_le S i
                  have hq2 := rpI_le S i j
                  have hq3 : i * sN S ≤ 12 * 12 := Nat.mul_le_mul (by omega) (by omega)
                  refine r_iload C 4 dX8_count_98 rfl ?_
                  refine r_aload_n C 0 dX8_count_100 rfl rfl ?_
                  refine r_get C (CN := RX8) (T := TX8) (N := 21) k_36 rfl hin_X8 (j := 3) (by decide) hk_63 rfl rfl dX8_count_101 ?_
                  refine r_setI (y := (nI (sN S))) (hM.n) ?_
                  refine r_icmpN_ge C dX8_count_104 (tgt := 132) (by decide) (by omega) (by omega) (fun h104 => ?_) (fun h104 => ?_)
                  · refine r_iinc C [(0, .ref (ad 36)), (1, .int (nI (2))), (2, .int (nI (rpS S i + rpI S i j))), (3, .int (nI (i + 1))), (4, .int (nI (j)))] [1, 2, 3, 0, 4] 3 dX8_count_132 rfl (nI_add _ 1) (by decide) rfl ?_
                    refine r_goto C dX8_count_135 (tgt := 87) (by decide) ?_
                    refine r_lvs C [0, 1, 2, 3] (lv' := [(0, .ref (ad 36)), (1, .int (nI (2))), (2, .int (nI (rpS S i + rpI S i j))), (3, .int (nI (i + 1)))]) rfl ?_
                    rw [show rpS S i + rpI S i j = rpS S (i + 1) by rw [show j = sN S by omega]; rfl]
                    exact iho (i + 1) v (by omega) (by omega) hv hM
                  · have hj : j < sN S := by omega
                    refine r_iload_n C 2 dX8_count_107 rfl rfl ?_
                    refine r_aload_n C 0 dX8_count_108 rfl rfl ?_
                    refine r_iload_n C 3 dX8_count_109 rfl rfl ?_
                    refine r_iload C 4 dX8_count_110 rfl ?_
                    refine r_iconst C dX8_count_112 (v := nI 0) (by decide) ?_
                    refine r_callVi C (rest := [.int (nI (rpS S i + rpI S i j))]) (c_X8_rests l g ad v S hM hO i 0 j 0 (by first | assumption | omega) (hO.z _).1 (by first | assumption | omega) (hO.z _).1 0 rfl) gX8_count_X8_rests pk_X8_rests k_36 dX8_count_113 rfl rfl rfl rfl ⟨(Nat.le_of_ble_eq_true rfl), (Nat.le_of_ble_eq_true rfl)⟩ rfl rfl (Nat.le_of_ble_eq_true rfl) ⟨(Nat.le_of_ble_eq_true rfl), (Nat.le_of_ble_eq_true rfl)⟩ ?_
                    rintro _ f1 ⟨⟨rfl, hf1⟩, hM⟩
                    refine r_ifB_eq C dX8_count_116 (tgt := 123) (by decide) (fun h116 => ?_) (fun h116 => ?_)
                    · refine r_iconst C dX8_count_123 (v := nI 0) (by decide) ?_
                      refine r_iaddN C dX8_count_124 ?_
                      refine r_istore_n C [(0, .ref (ad 36)), (1, .int (nI (2))), (2, .int (nI ((rpS S i + rpI S i j) + 0))), (3, .int (nI (i))), (4, .int (nI (j)))] [1, 2, 0, 3, 4] dX8_count_125 rfl (by decide) rfl ?_
                      refine r_iinc C [(0, .ref (ad 36)), (1, .int (nI (2))), (2, .int (nI ((rpS S i + rpI S i j) + 0))), (3, .int (nI (i))), (4, .int (nI (j + 1)))] [1, 2, 3, 4, 0] 4 dX8_count_126 rfl (nI_add _ 1) (by decide) rfl ?_
                      refine r_goto C dX8_count_129 (tgt := 98) (by decide) ?_
                      rw [Nat.add_zero, ← show rpI S i (j + 1) = rpI S i j from cntN_f (fun z => h116 z.2)]
                      exact ih (j + 1) _ (by omega) (by omega) (by omega) (hv.tr hf1) hM
                    · refine r_iconst C dX8_count_119 (v := nI 1) (by decide) ?_
                      refine r_goto C dX8_count_120 (tgt := 124) (by decide) ?_
                      refine r_iaddN C dX8_count_124 ?_
                      refine r_istore_n C [(0, .ref (ad 36)), (1, .int (nI (2))), (2, .int (nI ((rpS S i + rpI S i j) + 1))), (3, .int (nI (i))), (4, .int (nI (j)))] [1, 2, 0, 3, 4] dX8_count_125 rfl (by decide) rfl ?_
                      refine r_iinc C [(0, .ref (ad 36)), (1, .int (nI (2))), (2, .int (nI ((rpS S i + rpI S i j) + 1))), (3, .int (nI (i))), (4, .int (nI (j + 1)))] [1, 2, 3, 4, 0] 4 dX8_count_126 rfl (nI_add _ 1) (by decide) rfl ?_
                      refine r_goto C dX8_count_129 (tgt := 98) (by decide) ?_
                      rw [← show rpS S i + rpI S i (j + 1) = rpS S i + rpI S i j + 1 by rw [show rpI S i (j + 1) = rpI S i j + 1 from cntN_t ⟨hij, h116⟩]; rfl]
                      exact ih (j + 1) _ (by omega) (by omega) (by omega) (hv.tr hf1) hM
              have q := L98 (sN S + 1) i v (by omega) (by omega) (by omega) hv hM
              rw [rpI_0 S i i (by omega)] at q
              exact q
        exact L87 (sN S + 1) 0 u (by omega) (by omega) Sm.rf hM
    · exact absurd h2 (by decide)
  · refine r_iload_n C 1 dX8_count_0 rfl rfl ?_
    refine r_iconst C dX8_count_1 (v := nI 1) (by decide) ?_
    refine r_icmpN_ne C dX8_count_2 (tgt := 78) (by decide) (by omega) (by omega) (fun h2 => ?_) (fun h2 => ?_)
    · refine r_iload_n C 1 dX8_count_78 rfl rfl ?_
      refine r_iconst C dX8_count_79 (v := nI 2) (by decide) ?_
      refine r_icmpN_ne C dX8_count_80 (tgt := 140) (by decide) (by omega) (by omega) (fun h80 => ?_) (fun h80 => ?_)
      · refine r_iload_n C 1 dX8_count_140 rfl rfl ?_
        refine r_ifN_ne C dX8_count_141 (tgt := 151) (by decide) (by omega) (fun h141 => ?_) (fun h141 => ?_)
        · refine r_iload_n C 1 dX8_count_151 rfl rfl ?_
          refine r_iconst C dX8_count_152 (v := nI 3) (by decide) ?_
          refine r_icmpN_ne C dX8_count_153 (tgt := 181) (by decide) (by omega) (by omega) (fun h153 => ?_) (fun h153 => ?_)
          · exact absurd rfl h153
          · refine r_aload_n C 0 dX8_count_156 rfl rfl ?_
            refine r_get C (CN := RX8) (T := TX8) (N := 21) k_36 rfl hin_X8 (j := 7) (by decide) hk_29 rfl rfl dX8_count_157 ?_
            refine r_iconst C dX8_count_160 (v := nI 0) (by decide) ?_
            refine r_iald C k_41 (by omega) (by omega) dX8_count_161 ?_
            refine r_setI (y := (lnM (sl S 0))) (hM.l (by decide)) ?_
            refine r_bipush C dX8_count_162 (v := (-4)) (by decide) ?_
            refine r_icmp_ne C dX8_count_164 (tgt := 172) (by decide) (fun h164 => ?_) (fun h164 => ?_)
            · refine r_aload_n C 0 dX8_count_172 rfl rfl ?_
              refine r_get C (CN := RX8) (T := TX8) (N := 21) k_36 rfl hin_X8 (j := 8) (by decide) hk_32 rfl rfl dX8_count_173 ?_
              refine r_iconst C dX8_count_176 (v := nI 0) (by decide) ?_
              refine r_iald C k_42 (by omega) (by omega) dX8_count_177 ?_
              refine r_setI (y := (nI (sk S 0))) (hM.k (by decide)) ?_
              refine r_goto C dX8_count_178 (tgt := 182) (by decide) ?_
              exact E.2.1 rfl _ _ _ _ dX8_count_182 ⟨_, rfl, ⟨couA_3.trans (if_neg (fun z => h164 ((lnM_not hl3).mpr z))), hM, SmR.rf⟩⟩
            · refine r_bipush C dX8_count_167 (v := (-4)) (by decide) ?_
              refine r_goto C dX8_count_169 (tgt := 182) (by decide) ?_
              exact E.2.1 rfl _ _ _ _ dX8_count_182 ⟨_, rfl, ⟨couA_3.trans (if_pos ((lnM_not hl3).mp h164)), hM, SmR.rf⟩⟩
        · exact absurd h141 (by decide)
      · exact absurd h80 (by decide)
    · exact absurd h2 (by decide)
  · refine r_iload_n C 1 dX8_count_0 rfl rfl ?_
    refine r_iconst C dX8_count_1 (v := nI 1) (by decide) ?_
    refine r_icmp_ne C dX8_count_2 (tgt := 78) (by decide) (fun h2 => ?_) (fun h2 => ?_)
    · refine r_iload_n C 1 dX8_count_78 rfl rfl ?_
      refine r_iconst C dX8_count_79 (v := nI 2) (by decide) ?_
      refine r_icmp_ne C dX8_count_80 (tgt := 140) (by decide) (fun h80 => ?_) (fun h80 => ?_)
      · refine r_iload_n C 1 dX8_count_140 rfl rfl ?_
        refine r_if_ne C dX8_count_141 (tgt := 151) (by decide) (fun h141 => ?_) (fun h141 => ?_)
        · refine r_iload_n C 1 dX8_count_151 rfl rfl ?_
          refine r_iconst C dX8_count_152 (v := nI 3) (by decide) ?_
          refine r_icmp_ne C dX8_count_153 (tgt := 181) (by decide) (fun h153 => ?_) (fun h153 => ?_)
          · refine r_iconst C dX8_count_181 (v := (-1)) (by decide) ?_
            exact E.2.1 rfl _ _ _ _ dX8_count_182 ⟨_, rfl, ⟨couA_o hw, hM, SmR.rf⟩⟩
          · exact absurd h153 (tab_ne hw (by decide))
        · exact absurd (h141.trans nI_0.symm) (tab_ne hw (by decide))
      · exact absurd h80 (tab_ne hw (by decide))
    · exact absurd h2 (tab_ne hw (by decide))
def rmX8_draw : Room := { frames := 2, cells := 0, slots := 0, locals := 48 }
theorem pk_X8_draw : Pk yX8_draw RX8 4 := by decide +kernel
set_option maxHeartbeats 4000000 in
set_option maxRecDepth 100000 in
theorem c_X8_draw (l : Launch) (g : gE) (ad : Nat → Nat) (u : Me) (S : Sg) (hM : RepM S u) (hO : Ok S) (kk v f n : Int32) : Cti l yX8_draw wsX8_draw rmX8_draw g ad [.ref (ad 36), .int (kk), .int (v), .int (f), .int (n)] u (fun r u' => ∃ S', drawA S kk v f n = (r, S') ∧ RepM S' u' ∧ SmR u u') := by
  refine Ct.of (cc := cX8_draw) (nL := 8) (ret := (some .int)) RX8 (by decide) rfl rfl (Nat.le_of_ble_eq_true rfl) (fun kx C E => ?_)
  have hin_X8 : ∀ w ∈ u_ws RX8 TX8 21, w ∈ wsX8_draw := by decide +kernel
  have hk_23 : Cond.fieldLink RX8 23 "AgainAgainModel" "acts" "[I" ∈ wsX8_draw := by decide +kernel
  have hk_26 : Cond.fieldLink RX8 26 "AgainAgainModel" "nexts" "[I" ∈ wsX8_draw := by decide +kernel
  have hk_29 : Cond.fieldLink RX8 29 "AgainAgainModel" "lanes" "[I" ∈ wsX8_draw := by decide +kernel
  have hk_32 : Cond.fieldLink RX8 32 "AgainAgainModel" "sizes" "[I" ∈ wsX8_draw := by decide +kernel
  have hk_35 : Cond.fieldLink RX8 35 "AgainAgainModel" "cells" "[I" ∈ wsX8_draw := by decide +kernel
  have hk_51 : Cond.constantLong RX8 51 (2) ∈ wsX8_draw := by decide +kernel
  have hk_61 : Cond.constantLong RX8 61 (4) ∈ wsX8_draw := by decide +kernel
  show G kx 0 0 (WW g ad u) 0 [(0, .ref (ad 36)), (1, .int (kk)), (2, .int (v)), (3, .int (f)), (4, .int (n))] []
  have hn := hO.n
  refine r_iload_n C 1 dX8_draw_0 rfl rfl ?_
  refine r_iload_n C 2 dX8_draw_1 rfl rfl ?_
  refine r_callSi C (rest := []) (c_X8_isSheet l g ad u kk v) gX8_draw_X8_isSheet pk_X8_isSheet dX8_draw_2 rfl rfl rfl rfl ⟨(Nat.le_of_ble_eq_true rfl), (Nat.le_of_ble_eq_true rfl)⟩ rfl (Nat.le_of_ble_eq_true rfl) ⟨(Nat.le_of_ble_eq_true rfl), (Nat.le_of_ble_eq_true rfl)⟩ ?_
  rintro _ _ ⟨rfl, rfl⟩
  refine r_ifB_eq C dX8_draw_5 (tgt := 21) (by decide) (fun h5 => ?_) (fun h5 => ?_)
  · refine r_iconst C dX8_draw_21 (v := (-1)) (by decide) ?_
    exact E.2.1 rfl _ _ _ _ dX8_draw_22 ⟨_, rfl, ⟨S, ifp_f (fun q => by first | exact h5 ⟨q.1, q.2.1⟩ | exact h18 q.2.2) _ _, hM, SmR.rf⟩⟩
  · obtain ⟨⟨k0, hk, rfl⟩, ⟨v0, hv, rfl⟩⟩ := h5
    refine r_iload C 4 dX8_draw_8 rfl ?_
    refine r_i2l C dX8_draw_10 (v := (n).toInt64) rfl ?_
    refine r_lconst C dX8_draw_11 (v := lI 1) (by decide) ?_
    refine r_ldc2 C (v := (4)) hk_61 dX8_draw_12 ?_
    refine r_setL (y := lI (4)) (by decide) ?_
    refine r_callSi C (rest := []) (c_X8_in l g ad u ((n).toInt64) (lI 1) (lI (4))) gX8_draw_X8_in pk_X8_in dX8_draw_15 rfl rfl rfl rfl ⟨(Nat.le_of_ble_eq_true rfl), (Nat.le_of_ble_eq_true rfl)⟩ rfl (Nat.le_of_ble_eq_true rfl) ⟨(Nat.le_of_ble_eq_true rfl), (Nat.le_of_ble_eq_true rfl)⟩ ?_
    rintro _ _ ⟨rfl, rfl⟩
    refine r_setI (y := (bI (isAB 1 4 n))) (bI_iff (inAB_iff (a := 1) (b := 4) (by decide) (by decide))) ?_
    refine r_ifB_ne C dX8_draw_18 (tgt := 23) (by decide) (fun h18 => ?_) (fun h18 => ?_)
    · obtain ⟨n0, hn1, hn4, rfl⟩ := h18
      have h60 := (hO.s k0).2
      have hl3 := (hO.s k0).1
      refine r_aload_n C 0 dX8_draw_23 rfl rfl ?_
      refine r_get C (CN := RX8) (T := TX8) (N := 21) k_36 rfl hin_X8 (j := 7) (by decide) hk_29 rfl rfl dX8_draw_24 ?_
      refine r_iload_n C 1 dX8_draw_27 rfl rfl ?_
      refine r_iald C k_41 (by omega) (by omega) dX8_draw_28 ?_
      refine r_setI (y := (lnM (sl S k0))) (hM.l hk) ?_
      refine r_iload_n C 2 dX8_draw_29 rfl rfl ?_
      refine r_icmp_eq C dX8_draw_30 (tgt := 52) (by decide) (fun h30 => ?_) (fun h30 => ?_)
      · have hle : sl S k0 = v0 + 1 := (lnM_eq hl3 hv).mp h30
        have h0 : ¬ sl S k0 = 0 := by omega
        refine r_iconst C dX8_draw_52 (v := nI 0) (by decide) ?_
        refine r_istore C [(0, .ref (ad 36)), (1, .int (nI (k0))), (2, .int (nI (v0))), (3, .int (f)), (4, .int (nI (n0))), (5, .int (nI (0)))] [1, 2, 3, 4, 5, 0] dX8_draw_53 (by decide) rfl ?_
        by_cases hf : isR (sk S k0) f
        · obtain ⟨f0, hf0, rfl⟩ := hf
          have hcf0 : cfA S k0 n0 (nI f0) = cfF S k0 n0 f0 0 (4 * n0) := by unfold cfA; rw [ifp_t ⟨f0, hf0, rfl⟩, nI_clamp (show f0 < 2 ^ 31 by omega)]
          have L55 : ∀ (fu : Nat) (i : Nat), 4 * n0 < i + fu → (i ≤ 4 * n0) → (cfF S k0 n0 f0 0 (4 * n0) = cfF S k0 n0 f0 i (4 * n0 - i)) → G kx 0 0 (WW g ad u) 55 [(0, .ref (ad 36)), (1, .int (nI (k0))), (2, .int (nI (v0))), (3, .int (nI (f0))), (4, .int (nI (n0))), (5, .int (nI (i)))] [] := by
            intro fu
            induction fu with
            | zero => intro i hfu hi hcf; exact absurd hfu (by omega)
            | succ fu ih =>
              intro i hfu hi hcf
              refine r_iload C 5 dX8_draw_55 rfl ?_
              refine r_iconst C dX8_draw_57 (v := nI 4) (by decide) ?_
              refine r_iload C 4 dX8_draw_58 rfl ?_
              refine r_imulN C dX8_draw_60 ?_
              refine r_icmpN_ge C dX8_draw_61 (tgt := 146) (by decide) (by omega) (by omega) (fun h61 => ?_) (fun h61 => ?_)
              · have hz : cfF S k0 n0 f0 0 (4 * n0) = 0 := by rw [hcf, show 4 * n0 - i = 0 by omega]; rfl
                have hall : ∀ j, j < 4 * n0 → f0 + j < sk S k0 ∧ isR (mst n0 j) (sc S k0 (f0 + j)) := fun j hj => cfF_ok (4 * n0) 0 (by omega) hz j (by omega) (by omega)
                rcases Nat.lt_or_ge (sN S) 12 with h12 | h12
                · refine r_aload_n C 0 dX8_draw_146 rfl rfl ?_
                  refine r_iload C 4 dX8_draw_147 rfl ?_
                  refine r_callVi C (rest := []) (c_X8_machine l g ad u S hM hO (nI n0)) gX8_draw_X8_machine pk_X8_machine k_36 dX8_draw_149 rfl rfl rfl rfl ⟨(Nat.le_of_ble_eq_true rfl), (Nat.le_of_ble_eq_true rfl)⟩ rfl rfl (Nat.le_of_ble_eq_true rfl) ⟨(Nat.le_of_ble_eq_true rfl), (Nat.le_of_ble_eq_true rfl)⟩ ?_
                  rintro r1 m1 ⟨S1, hma, hM1, hsm⟩
                  have hme : machA S (nI n0) = (nI (sN S), addS S n0) := by unfold machA; rw [ifp_t ⟨n0, hn1, hn4, rfl⟩, ifp_f (show ¬ sN S = 12 by omega), cl_nI (show n0 < 2 ^ 31 by omega)]
                  obtain ⟨rfl, rfl⟩ := Prod.mk.inj (hma.symm.trans hme)
                  refine r_istore C [(0, .ref (ad 36)), (1, .int (nI (k0))), (2, .int (nI (v0))), (3, .int (nI (f0))), (4, .int (nI (n0))), (5, .int (nI (sN S)))] [1, 2, 3, 4, 5, 0] dX8_draw_152 (by decide) rfl ?_
                  refine r_iconst C dX8_draw_154 (v := nI 0) (by decide) ?_
                  refine r_istore C [(0, .ref (ad 36)), (1, .int (nI (k0))), (2, .int (nI (v0))), (3, .int (nI (f0))), (4, .int (nI (n0))), (5, .int (nI (sN S))), (6, .int (nI (0)))] [1, 2, 3, 4, 5, 6, 0] dX8_draw_155 (by decide) rfl ?_
                  have L157 : ∀ (fu : Nat) (i : Nat) (v : Me), 4 * n0 < i + fu → (i ≤ 4 * n0) → (RepM (PD S k0 f0 n0 i) v) → (SmR u v) → G kx 0 0 (WW g ad v) 157 [(0, .ref (ad 36)), (1, .int (nI (k0))), (2, .int (nI (v0))), (3, .int (nI (f0))), (4, .int (nI (n0))), (5, .int (nI (sN S))), (6, .int (nI (i)))] [] := by
                    intro fu
                    induction fu with
                    | zero => intro i v hfu hi2 hM hv2; exact absurd hfu (by omega)
                    | succ fu ih =>
                      intro i v hfu hi2 hM hv2
                      refine r_iload C 6 dX8_draw_157 rfl ?_
                      refine r_iconst C dX8_draw_159 (v := nI 4) (by decide) ?_
                      refine r_iload C 4 dX8_draw_160 rfl ?_
                      refine r_imulN C dX8_draw_162 ?_
                      refine r_icmpN_ge C dX8_draw_163 (tgt := 245) (by decide) (by omega) (by omega) (fun h163 => ?_) (fun h163 => ?_)
                      · refine r_iload C 5 dX8_draw_245 rfl ?_
                        exact E.2.1 rfl _ _ _ _ dX8_draw_247 ⟨_, rfl, ⟨PD S k0 f0 n0 (4 * n0), by unfold drawA; rw [ifp_t ⟨⟨k0, hk, rfl⟩, ⟨v0, hv, rfl⟩, ⟨n0, hn1, hn4, rfl⟩⟩, cl_nI (show k0 < 2 ^ 31 by omega), ifp_f h0, cl_nI (show v0 < 2 ^ 31 by omega), ifp_t hle, cl_nI (show n0 < 2 ^ 31 by omega), hcf0, ifp_t hz, ifp_f (show ¬ sN S = 12 by omega), cl_nI (show f0 < 2 ^ 31 by omega)], (by rw [show 4 * n0 = i by omega]; exact hM), hv2⟩⟩
                      · have hmq := (hall i (by omega)).2
                        have hfq := (hall i (by omega)).1
                        refine r_iload C 5 dX8_draw_166 rfl ?_
                        refine r_ifN_lt C dX8_draw_168 (tgt := 245) (by decide) (by omega) (fun h168 => ?_) (fun h168 => ?_)
                        · exact absurd h168 (by omega)
                        · refine r_aload_n C 0 dX8_draw_171 rfl rfl ?_
                          refine r_get C (CN := RX8) (T := TX8) (N := 21) k_36 rfl hin_X8 (j := 9) (by decide) hk_35 rfl rfl dX8_draw_172 ?_
                          refine r_bipush C dX8_draw_175 (v := nI 60) (by decide) ?_
                          refine r_iload_n C 1 dX8_draw_177 rfl rfl ?_
                          refine r_imulN C dX8_draw_178 ?_
                          refine r_iload_n C 3 dX8_draw_179 rfl rfl ?_
                          refine r_iaddN C dX8_draw_180 ?_
                          refine r_iload C 6 dX8_draw_181 rfl ?_
                          refine r_iaddN C dX8_draw_183 ?_
                          refine r_iald C k_43 (by omega) (by omega) dX8_draw_184 ?_
                          refine r_setI (y := (sc S k0 (f0 + i))) ((congrArg (mA v 43) (show 60 * k0 + f0 + i = 60 * k0 + (f0 + i) by omega)).trans (hM.c hk (show f0 + i < sk S k0 from (hall i (by omega)).1))) ?_
                          refine r_istore C [(0, .ref (ad 36)), (1, .int (nI (k0))), (2, .int (nI (v0))), (3, .int (nI (f0))), (4, .int (nI (n0))), (5, .int (nI (sN S))), (6, .int (nI (i))), (7, .int (sc S k0 (f0 + i)))] [1, 2, 3, 4, 5, 6, 7, 0] dX8_draw_185 (by decide) rfl ?_
                          refine r_iload C 6 dX8_draw_187 rfl ?_
                          refine r_iconst C dX8_draw_189 (v := nI 4) (by decide) ?_
                          refine r_iremN C dX8_draw_190 (by omega) (by omega) (by omega) ?_
                          refine r_ifN_ne C dX8_draw_191 (tgt := 213) (by decide) (by omega) (fun h191 => ?_) (fun h191 => ?_)
                          · have hvn : isR n0 (sc S k0 (f0 + i)) := by unfold mst at hmq; rwa [if_neg h191] at hmq
                            refine r_aload_n C 0 dX8_draw_213 rfl rfl ?_
                            refine r_get C (CN := RX8) (T := TX8) (N := 21) k_36 rfl hin_X8 (j := 6) (by decide) hk_26 rfl rfl dX8_draw_214 ?_
                            refine r_bipush C dX8_draw_217 (v := nI 12) (by decide) ?_
                            refine r_iload C 5 dX8_draw_219 rfl ?_
                            refine r_imulN C dX8_draw_221 ?_
                            refine r_iconst C dX8_draw_222 (v := nI 3) (by decide) ?_
                            refine r_iload C 6 dX8_draw_223 rfl ?_
                            refine r_iconst C dX8_draw_225 (v := nI 4) (by decide) ?_
                            refine r_idivN C dX8_draw_226 (by omega) (by omega) (by omega) ?_
                            refine r_imulN C dX8_draw_227 ?_
                            refine r_iaddN C dX8_draw_228 ?_
                            refine r_iload C 6 dX8_draw_229 rfl ?_
                            refine r_iconst C dX8_draw_231 (v := nI 4) (by decide) ?_
                            refine r_iremN C dX8_draw_232 (by omega) (by omega) (by omega) ?_
                            refine r_iaddN C dX8_draw_233 ?_
                            refine r_iconst C dX8_draw_234 (v := nI 1) (by decide) ?_
                            refine r_isubN C dX8_draw_235 (by omega) ?_
                            refine r_iload C 7 dX8_draw_236 rfl ?_
                            refine r_iast C k_40 (by omega) (by omega) dX8_draw_238 ?_
                            refine r_iinc C [(0, .ref (ad 36)), (1, .int (nI (k0))), (2, .int (nI (v0))), (3, .int (nI (f0))), (4, .int (nI (n0))), (5, .int (nI (sN S))), (6, .int (nI (i + 1))), (7, .int (sc S k0 (f0 + i)))] [1, 2, 3, 4, 5, 6, 0, 7] 6 dX8_draw_239 rfl (nI_add _ 1) (by decide) rfl ?_
                            refine r_goto C dX8_draw_242 (tgt := 157) (by decide) ?_
                            refine r_lvs C [0, 1, 2, 3, 4, 5, 6] (lv' := [(0, .ref (ad 36)), (1, .int (nI (k0))), (2, .int (nI (v0))), (3, .int (nI (f0))), (4, .int (nI (n0))), (5, .int (nI (sN S))), (6, .int (nI (i + 1)))]) rfl ?_
                            exact ih (i + 1) _ (by omega) (by omega) (pdN_Mi hM hO h12 hn1 hn4 (by omega) h191 hvn) (hv2.tr (SmR.of (Sm.rf.sA (c := 40) (fa := [40]) (fj := []) (fi := []) (fl := []) (by decide) _) (by decide) (by decide) (by decide) (by decide)))
                          · have hvn : isR 3 (sc S k0 (f0 + i)) := by unfold mst at hmq; rwa [if_pos h191] at hmq
                            refine r_aload_n C 0 dX8_draw_194 rfl rfl ?_
                            refine r_get C (CN := RX8) (T := TX8) (N := 21) k_36 rfl hin_X8 (j := 5) (by decide) hk_23 rfl rfl dX8_draw_195 ?_
                            refine r_iconst C dX8_draw_198 (v := nI 4) (by decide) ?_
                            refine r_iload C 5 dX8_draw_199 rfl ?_
                            refine r_imulN C dX8_draw_201 ?_
                            refine r_iload C 6 dX8_draw_202 rfl ?_
                            refine r_iconst C dX8_draw_204 (v := nI 4) (by decide) ?_
                            refine r_idivN C dX8_draw_205 (by omega) (by omega) (by omega) ?_
                            refine r_iaddN C dX8_draw_206 ?_
                            refine r_iload C 7 dX8_draw_207 rfl ?_
                            refine r_iast C k_39 (by omega) (by omega) dX8_draw_209 ?_
                            refine r_goto C dX8_draw_210 (tgt := 239) (by decide) ?_
                            refine r_iinc C [(0, .ref (ad 36)), (1, .int (nI (k0))), (2, .int (nI (v0))), (3, .int (nI (f0))), (4, .int (nI (n0))), (5, .int (nI (sN S))), (6, .int (nI (i + 1))), (7, .int (sc S k0 (f0 + i)))] [1, 2, 3, 4, 5, 6, 0, 7] 6 dX8_draw_239 rfl (nI_add _ 1) (by decide) rfl ?_
                            refine r_goto C dX8_draw_242 (tgt := 157) (by decide) ?_
                            refine r_lvs C [0, 1, 2, 3, 4, 5, 6] (lv' := [(0, .ref (ad 36)), (1, .int (nI (k0))), (2, .int (nI (v0))), (3, .int (nI (f0))), (4, .int (nI (n0))), (5, .int (nI (sN S))), (6, .int (nI (i + 1)))]) rfl ?_
                            exact ih (i + 1) _ (by omega) (by omega) (pdA_Mi hM hO h12 hn1 hn4 (by omega) h191 hvn) (hv2.tr (SmR.of (Sm.rf.sA (c := 39) (fa := [39]) (fj := []) (fi := []) (fl := []) (by decide) _) (by decide) (by decide) (by decide) (by decide)))
                  exact L157 (4 * n0 + 1) 0 m1 (by omega) (by omega) (hM1.PD0 k0 f0) hsm
                · refine r_aload_n C 0 dX8_draw_146 rfl rfl ?_
                  refine r_iload C 4 dX8_draw_147 rfl ?_
                  refine r_callVi C (rest := []) (c_X8_machine l g ad u S hM hO (nI n0)) gX8_draw_X8_machine pk_X8_machine k_36 dX8_draw_149 rfl rfl rfl rfl ⟨(Nat.le_of_ble_eq_true rfl), (Nat.le_of_ble_eq_true rfl)⟩ rfl rfl (Nat.le_of_ble_eq_true rfl) ⟨(Nat.le_of_ble_eq_true rfl), (Nat.le_of_ble_eq_true rfl)⟩ ?_
                  rintro r1 m1 ⟨S1, hma, hM1, hsm⟩
                  have hme : machA S (nI n0) = (-3, S) := by unfold machA; rw [ifp_t ⟨n0, hn1, hn4, rfl⟩, ifp_t (show sN S = 12 by omega)]
                  obtain ⟨rfl, hS1⟩ := Prod.mk.inj (hma.symm.trans hme)
                  rw [hS1] at hM1
                  refine r_istore C [(0, .ref (ad 36)), (1, .int (nI (k0))), (2, .int (nI (v0))), (3, .int (nI (f0))), (4, .int (nI (n0))), (5, .int ((-3)))] [1, 2, 3, 4, 5, 0] dX8_draw_152 (by decide) rfl ?_
                  refine r_iconst C dX8_draw_154 (v := nI 0) (by decide) ?_
                  refine r_istore C [(0, .ref (ad 36)), (1, .int (nI (k0))), (2, .int (nI (v0))), (3, .int (nI (f0))), (4, .int (nI (n0))), (5, .int ((-3))), (6, .int (nI (0)))] [1, 2, 3, 4, 5, 6, 0] dX8_draw_155 (by decide) rfl ?_
                  refine r_iload C 6 dX8_draw_157 rfl ?_
                  refine r_iconst C dX8_draw_159 (v := nI 4) (by decide) ?_
                  refine r_iload C 4 dX8_draw_160 rfl ?_
                  refine r_imulN C dX8_draw_162 ?_
                  refine r_icmpN_ge C dX8_draw_163 (tgt := 245) (by decide) (by omega) (by omega) (fun h163 => ?_) (fun h163 => ?_)
                  · exact absurd h163 (by omega)
                  · refine r_iload C 5 dX8_draw_166 rfl ?_
                    refine r_if_lt C dX8_draw_168 (tgt := 245) (by decide) (fun h168 => ?_) (fun h168 => ?_)
                    · refine r_iload C 5 dX8_draw_245 rfl ?_
                      exact E.2.1 rfl _ _ _ _ dX8_draw_247 ⟨_, rfl, ⟨S, by unfold drawA; rw [ifp_t ⟨⟨k0, hk, rfl⟩, ⟨v0, hv, rfl⟩, ⟨n0, hn1, hn4, rfl⟩⟩, cl_nI (show k0 < 2 ^ 31 by omega), ifp_f h0, cl_nI (show v0 < 2 ^ 31 by omega), ifp_t hle, cl_nI (show n0 < 2 ^ 31 by omega), hcf0, ifp_t hz, ifp_t (Nat.le_antisymm hn h12)], hM1, hsm⟩⟩
                    · exact absurd (by decide) h168
              · refine r_iload_n C 3 dX8_draw_64 rfl rfl ?_
                refine r_i2l C dX8_draw_65 (v := lI (f0 : Nat)) (nI_lI (by omega)) ?_
                refine r_iload C 5 dX8_draw_66 rfl ?_
                refine r_i2l C dX8_draw_68 (v := lI (i : Nat)) (nI_lI (by omega)) ?_
                refine r_ladd C dX8_draw_69 ?_
                refine r_setL (y := lI ((f0 + i : Nat) : Int)) ((lI_add _ _).trans (congrArg lI (by omega))) ?_
                refine r_lstore C [(0, .ref (ad 36)), (1, .int (nI (k0))), (2, .int (nI (v0))), (3, .int (nI (f0))), (4, .int (nI (n0))), (5, .int (nI (i))), (6, .long (lI ((f0 + i : Nat) : Int)))] [1, 2, 3, 4, 5, 6, 0] dX8_draw_70 (by decide) rfl ?_
                refine r_lload C 6 dX8_draw_72 rfl ?_
                refine r_lconst C dX8_draw_74 (v := lI 0) (by decide) ?_
                refine r_lcmp C dX8_draw_75 ?_
                refine r_if_lt C dX8_draw_76 (tgt := 92) (by decide) (fun h76 => ?_) (fun h76 => ?_)
                · exact absurd ((lI_lt (by omega) (by omega) (by omega) (by omega)).mp ((lg_cmp_lt _ _).mp h76)) (by omega)
                · refine r_lload C 6 dX8_draw_79 rfl ?_
                  refine r_aload_n C 0 dX8_draw_81 rfl rfl ?_
                  refine r_get C (CN := RX8) (T := TX8) (N := 21) k_36 rfl hin_X8 (j := 8) (by decide) hk_32 rfl rfl dX8_draw_82 ?_
                  refine r_iload_n C 1 dX8_draw_85 rfl rfl ?_
                  refine r_iald C k_42 (by omega) (by omega) dX8_draw_86 ?_
                  refine r_setI (y := (nI (sk S k0))) (hM.k hk) ?_
                  refine r_i2l C dX8_draw_87 (v := lI ((sk S k0) : Nat)) (nI_lI (by omega)) ?_
                  refine r_lcmp C dX8_draw_88 ?_
                  refine r_if_lt C dX8_draw_89 (tgt := 95) (by decide) (fun h89 => ?_) (fun h89 => ?_)
                  · have hfi : f0 + i < sk S k0 := by
                      have q := (lI_lt (by omega) (by omega) (by omega) (by omega)).mp ((lg_cmp_lt _ _).mp h89)
                      omega
                    refine r_aload_n C 0 dX8_draw_95 rfl rfl ?_
                    refine r_get C (CN := RX8) (T := TX8) (N := 21) k_36 rfl hin_X8 (j := 9) (by decide) hk_35 rfl rfl dX8_draw_96 ?_
                    refine r_bipush C dX8_draw_99 (v := nI 60) (by decide) ?_
                    refine r_iload_n C 1 dX8_draw_101 rfl rfl ?_
                    refine r_imulN C dX8_draw_102 ?_
                    refine r_lload C 6 dX8_draw_103 rfl ?_
                    refine r_l2i C dX8_draw_105 (v := nI (f0 + i)) (lI_to32 (f0 + i)) ?_
                    refine r_iaddN C dX8_draw_106 ?_
                    refine r_iald C k_43 (by omega) (by omega) dX8_draw_107 ?_
                    refine r_setI (y := (sc S k0 (f0 + i))) (hM.c hk hfi) ?_
                    refine r_i2l C dX8_draw_108 (v := (sc S k0 (f0 + i)).toInt64) rfl ?_
                    refine r_lconst C dX8_draw_109 (v := lI 0) (by decide) ?_
                    refine r_iload C 5 dX8_draw_110 rfl ?_
                    refine r_iconst C dX8_draw_112 (v := nI 4) (by decide) ?_
                    refine r_iremN C dX8_draw_113 (by omega) (by omega) (by omega) ?_
                    refine r_ifN_ne C dX8_draw_114 (tgt := 123) (by decide) (by omega) (fun h114 => ?_) (fun h114 => ?_)
                    · refine r_iload C 4 dX8_draw_123 rfl ?_
                      refine r_iconst C dX8_draw_125 (v := nI 1) (by decide) ?_
                      refine r_isub C dX8_draw_126 ?_
                      refine r_setI (y := iI ((n0 : Nat) - 1)) (iI_sub ((n0 : Nat) : Int) ((1 : Nat) : Int)) ?_
                      refine r_i2l C dX8_draw_127 (v := lI ((n0 : Nat) - 1)) (iI_l (by omega) (by omega)) ?_
                      refine r_callSi C (rest := []) (c_X8_in l g ad u ((sc S k0 (f0 + i)).toInt64) (lI 0) (lI ((n0 : Nat) - 1))) gX8_draw_X8_in pk_X8_in dX8_draw_128 rfl rfl rfl rfl ⟨(Nat.le_of_ble_eq_true rfl), (Nat.le_of_ble_eq_true rfl)⟩ rfl (Nat.le_of_ble_eq_true rfl) ⟨(Nat.le_of_ble_eq_true rfl), (Nat.le_of_ble_eq_true rfl)⟩ ?_
                      rintro _ _ ⟨rfl, rfl⟩
                      refine r_setI (y := (bI (isR n0 (sc S k0 (f0 + i))))) (bI_iff (inR_iff (n := n0) (by omega))) ?_
                      refine r_ifB_ne C dX8_draw_131 (tgt := 140) (by decide) (fun h131 => ?_) (fun h131 => ?_)
                      · have hval : isR (mst n0 i) (sc S k0 (f0 + i)) := by unfold mst; first | (rw [if_pos h114]; exact h131) | (rw [if_neg h114]; exact h131)
                        refine r_iinc C [(0, .ref (ad 36)), (1, .int (nI (k0))), (2, .int (nI (v0))), (3, .int (nI (f0))), (4, .int (nI (n0))), (5, .int (nI (i + 1))), (6, .long (lI ((f0 + i : Nat) : Int)))] [1, 2, 3, 4, 5, 0, 6] 5 dX8_draw_140 rfl (nI_add _ 1) (by decide) rfl ?_
                        refine r_goto C dX8_draw_143 (tgt := 55) (by decide) ?_
                        refine r_lvs C [0, 1, 2, 3, 4, 5] (lv' := [(0, .ref (ad 36)), (1, .int (nI (k0))), (2, .int (nI (v0))), (3, .int (nI (f0))), (4, .int (nI (n0))), (5, .int (nI (i + 1)))]) rfl ?_
                        exact ih (i + 1) (by omega) (by omega) (hcf.trans (cfF_s2 (by omega) hfi hval))
                      · have hval : ¬ isR (mst n0 i) (sc S k0 (f0 + i)) := by unfold mst; first | (rw [if_pos h114]; exact h131) | (rw [if_neg h114]; exact h131)
                        refine r_bipush C dX8_draw_134 (v := (-20)) (by decide) ?_
                        refine r_iload C 5 dX8_draw_136 rfl ?_
                        refine r_isub C dX8_draw_138 ?_
                        refine r_setI (y := iI (-20 - (i : Int))) (m20_sub i) ?_
                        exact E.2.1 rfl _ _ _ _ dX8_draw_139 ⟨_, rfl, ⟨S, (by unfold drawA; rw [ifp_t ⟨⟨k0, hk, rfl⟩, ⟨v0, hv, rfl⟩, ⟨n0, hn1, hn4, rfl⟩⟩, cl_nI (show k0 < 2 ^ 31 by omega), ifp_f h0, cl_nI (show v0 < 2 ^ 31 by omega), ifp_t hle, cl_nI (show n0 < 2 ^ 31 by omega), hcf0, hcf, cfF_v2 (N := 4 * n0) (by omega) hfi hval, ifp_f (m20_ne (by omega))]), hM, SmR.rf⟩⟩
                    · refine r_ldc2 C (v := (2)) hk_51 dX8_draw_117 ?_
                      refine r_setL (y := lI (2)) (by decide) ?_
                      refine r_goto C dX8_draw_120 (tgt := 128) (by decide) ?_
                      refine r_callSi C (rest := []) (c_X8_in l g ad u ((sc S k0 (f0 + i)).toInt64) (lI 0) (lI (2))) gX8_draw_X8_in pk_X8_in dX8_draw_128 rfl rfl rfl rfl ⟨(Nat.le_of_ble_eq_true rfl), (Nat.le_of_ble_eq_true rfl)⟩ rfl (Nat.le_of_ble_eq_true rfl) ⟨(Nat.le_of_ble_eq_true rfl), (Nat.le_of_ble_eq_true rfl)⟩ ?_
                      rintro _ _ ⟨rfl, rfl⟩
                      refine r_setI (y := (bI (isR 3 (sc S k0 (f0 + i))))) (bI_iff (inL_iff (n := 2) (by decide))) ?_
                      refine r_ifB_ne C dX8_draw_131 (tgt := 140) (by decide) (fun h131 => ?_) (fun h131 => ?_)
                      · have hval : isR (mst n0 i) (sc S k0 (f0 + i)) := by unfold mst; first | (rw [if_pos h114]; exact h131) | (rw [if_neg h114]; exact h131)
                        refine r_iinc C [(0, .ref (ad 36)), (1, .int (nI (k0))), (2, .int (nI (v0))), (3, .int (nI (f0))), (4, .int (nI (n0))), (5, .int (nI (i + 1))), (6, .long (lI ((f0 + i : Nat) : Int)))] [1, 2, 3, 4, 5, 0, 6] 5 dX8_draw_140 rfl (nI_add _ 1) (by decide) rfl ?_
                        refine r_goto C dX8_draw_143 (tgt := 55) (by decide) ?_
                        refine r_lvs C [0, 1, 2, 3, 4, 5] (lv' := [(0, .ref (ad 36)), (1, .int (nI (k0))), (2, .int (nI (v0))), (3, .int (nI (f0))), (4, .int (nI (n0))), (5, .int (nI (i + 1)))]) rfl ?_
                        exact ih (i + 1) (by omega) (by omega) (hcf.trans (cfF_s2 (by omega) hfi hval))
                      · have hval : ¬ isR (mst n0 i) (sc S k0 (f0 + i)) := by unfold mst; first | (rw [if_pos h114]; exact h131) | (rw [if_neg h114]; exact h131)
                        refine r_bipush C dX8_draw_134 (v := (-20)) (by decide) ?_
                        refine r_iload C 5 dX8_draw_136 rfl ?_
                        refine r_isub C dX8_draw_138 ?_
                        refine r_setI (y := iI (-20 - (i : Int))) (m20_sub i) ?_
                        exact E.2.1 rfl _ _ _ _ dX8_draw_139 ⟨_, rfl, ⟨S, (by unfold drawA; rw [ifp_t ⟨⟨k0, hk, rfl⟩, ⟨v0, hv, rfl⟩, ⟨n0, hn1, hn4, rfl⟩⟩, cl_nI (show k0 < 2 ^ 31 by omega), ifp_f h0, cl_nI (show v0 < 2 ^ 31 by omega), ifp_t hle, cl_nI (show n0 < 2 ^ 31 by omega), hcf0, hcf, cfF_v2 (N := 4 * n0) (by omega) hfi hval, ifp_f (m20_ne (by omega))]), hM, SmR.rf⟩⟩
                  · have hfi : ¬ f0 + i < sk S k0 := fun z => h89 ((lg_cmp_lt _ _).mpr ((lI_lt (by omega) (by omega) (by omega) (by omega)).mpr (by omega)))
                    refine r_bipush C dX8_draw_92 (v := (-12)) (by decide) ?_
                    exact E.2.1 rfl _ _ _ _ dX8_draw_94 ⟨_, rfl, ⟨S, (by unfold drawA; rw [ifp_t ⟨⟨k0, hk, rfl⟩, ⟨v0, hv, rfl⟩, ⟨n0, hn1, hn4, rfl⟩⟩, cl_nI (show k0 < 2 ^ 31 by omega), ifp_f h0, cl_nI (show v0 < 2 ^ 31 by omega), ifp_t hle, cl_nI (show n0 < 2 ^ 31 by omega), hcf0, hcf, cfF_i2 (N := 4 * n0) (by omega) hfi, ifp_f (show ¬ ((-12 : Int32) = 0) by decide)]), hM, SmR.rf⟩⟩
          exact L55 (4 * n0 + 1) 0 (by omega) (by omega) rfl
        · refine r_iload C 5 dX8_draw_55 rfl ?_
          refine r_iconst C dX8_draw_57 (v := nI 4) (by decide) ?_
          refine r_iload C 4 dX8_draw_58 rfl ?_
          refine r_imulN C dX8_draw_60 ?_
          refine r_icmpN_ge C dX8_draw_61 (tgt := 146) (by decide) (by omega) (by omega) (fun h61 => ?_) (fun h61 => ?_)
          · exact absurd h61 (by omega)
          · refine r_iload_n C 3 dX8_draw_64 rfl rfl ?_
            refine r_i2l C dX8_draw_65 (v := (f).toInt64) rfl ?_
            refine r_iload C 5 dX8_draw_66 rfl ?_
            refine r_i2l C dX8_draw_68 (v := lI (0 : Nat)) (nI_lI (by omega)) ?_
            refine r_ladd C dX8_draw_69 ?_
            refine r_setL (y := lI f.toInt) (by rw [i64_lI, lI_add]; exact congrArg lI (by omega)) ?_
            refine r_lstore C [(0, .ref (ad 36)), (1, .int (nI (k0))), (2, .int (nI (v0))), (3, .int (f)), (4, .int (nI (n0))), (5, .int (nI (0))), (6, .long (lI f.toInt))] [1, 2, 3, 4, 5, 6, 0] dX8_draw_70 (by decide) rfl ?_
            refine r_lload C 6 dX8_draw_72 rfl ?_
            refine r_lconst C dX8_draw_74 (v := lI 0) (by decide) ?_
            refine r_lcmp C dX8_draw_75 ?_
            refine r_if_lt C dX8_draw_76 (tgt := 92) (by decide) (fun h76 => ?_) (fun h76 => ?_)
            · refine r_bipush C dX8_draw_92 (v := (-12)) (by decide) ?_
              exact E.2.1 rfl _ _ _ _ dX8_draw_94 ⟨_, rfl, ⟨S, (by unfold drawA; rw [ifp_t ⟨⟨k0, hk, rfl⟩, ⟨v0, hv, rfl⟩, ⟨n0, hn1, hn4, rfl⟩⟩, cl_nI (show k0 < 2 ^ 31 by omega), ifp_f h0, cl_nI (show v0 < 2 ^ 31 by omega), ifp_t hle, cl_nI (show n0 < 2 ^ 31 by omega), show cfA S k0 n0 f = -12 from ifp_f hf _ _, ifp_f (show ¬ ((-12 : Int32) = 0) by decide)]), hM, SmR.rf⟩⟩
            · refine r_lload C 6 dX8_draw_79 rfl ?_
              refine r_aload_n C 0 dX8_draw_81 rfl rfl ?_
              refine r_get C (CN := RX8) (T := TX8) (N := 21) k_36 rfl hin_X8 (j := 8) (by decide) hk_32 rfl rfl dX8_draw_82 ?_
              refine r_iload_n C 1 dX8_draw_85 rfl rfl ?_
              refine r_iald C k_42 (by omega) (by omega) dX8_draw_86 ?_
              refine r_setI (y := (nI (sk S k0))) (hM.k hk) ?_
              refine r_i2l C dX8_draw_87 (v := lI ((sk S k0) : Nat)) (nI_lI (by omega)) ?_
              refine r_lcmp C dX8_draw_88 ?_
              refine r_if_lt C dX8_draw_89 (tgt := 95) (by decide) (fun h89 => ?_) (fun h89 => ?_)
              · exact absurd (isR_of_l (by omega) h76 h89) hf
              · refine r_bipush C dX8_draw_92 (v := (-12)) (by decide) ?_
                exact E.2.1 rfl _ _ _ _ dX8_draw_94 ⟨_, rfl, ⟨S, (by unfold drawA; rw [ifp_t ⟨⟨k0, hk, rfl⟩, ⟨v0, hv, rfl⟩, ⟨n0, hn1, hn4, rfl⟩⟩, cl_nI (show k0 < 2 ^ 31 by omega), ifp_f h0, cl_nI (show v0 < 2 ^ 31 by omega), ifp_t hle, cl_nI (show n0 < 2 ^ 31 by omega), show cfA S k0 n0 f = -12 from ifp_f hf _ _, ifp_f (show ¬ ((-12 : Int32) = 0) by decide)]), hM, SmR.rf⟩⟩
      · have hln : ¬ sl S k0 = v0 + 1 := fun z => h30 ((lnM_eq hl3 hv).mpr z)
        refine r_aload_n C 0 dX8_draw_33 rfl rfl ?_
        refine r_get C (CN := RX8) (T := TX8) (N := 21) k_36 rfl hin_X8 (j := 7) (by decide) hk_29 rfl rfl dX8_draw_34 ?_
        refine r_iload_n C 1 dX8_draw_37 rfl rfl ?_
        refine r_iald C k_41 (by omega) (by omega) dX8_draw_38 ?_
        refine r_setI (y := (lnM (sl S k0))) (hM.l hk) ?_
        refine r_bipush C dX8_draw_39 (v := (-4)) (by decide) ?_
        refine r_icmp_ne C dX8_draw_41 (tgt := 49) (by decide) (fun h41 => ?_) (fun h41 => ?_)
        · refine r_bipush C dX8_draw_49 (v := (-13)) (by decide) ?_
          exact E.2.1 rfl _ _ _ _ dX8_draw_51 ⟨_, rfl, ⟨S, (by unfold drawA; rw [ifp_t ⟨⟨k0, hk, rfl⟩, ⟨v0, hv, rfl⟩, ⟨n0, hn1, hn4, rfl⟩⟩, cl_nI (show k0 < 2 ^ 31 by omega), ifp_f (fun z => h41 ((lnM_not hl3).mpr z)), cl_nI (show v0 < 2 ^ 31 by omega), ifp_f hln]), hM, SmR.rf⟩⟩
        · refine r_bipush C dX8_draw_44 (v := (-11)) (by decide) ?_
          refine r_goto C dX8_draw_46 (tgt := 51) (by decide) ?_
          exact E.2.1 rfl _ _ _ _ dX8_draw_51 ⟨_, rfl, ⟨S, (by unfold drawA; rw [ifp_t ⟨⟨k0, hk, rfl⟩, ⟨v0, hv, rfl⟩, ⟨n0, hn1, hn4, rfl⟩⟩, cl_nI (show k0 < 2 ^ 31 by omega), ifp_t ((lnM_not hl3).mp h41)]), hM, SmR.rf⟩⟩
    · refine r_iconst C dX8_draw_21 (v := (-1)) (by decide) ?_
      exact E.2.1 rfl _ _ _ _ dX8_draw_22 ⟨_, rfl, ⟨S, ifp_f (fun q => by first | exact h5 ⟨q.1, q.2.1⟩ | exact h18 q.2.2) _ _, hM, SmR.rf⟩⟩
