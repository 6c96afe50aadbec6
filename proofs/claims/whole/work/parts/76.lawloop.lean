section LL
variable {l : Launch} {g : gE} {k : KX} {ad : Nat → Nat} {b L : Nat} {xs : Nat → Int32}
theorem law_end (C : Cx l g room_1 4 k cL_law wsL_law RL) (X : Lx b L xs k) (hL : L ≤ 2560) {i : Nat} {u : Me} (h0 : L < i + 0) (hi : i ≤ 2600) : G k 48 1418 (WW g ad u) 18 [(0, .ref b), (1, .ref (ad 0)), (2, .ref (ad 36)), (3, .int (nI (i)))] [] := by
  refine r_iload_n C 3 dL_law_18 rfl rfl ?_
  refine r_aload_n C 0 dL_law_19 rfl rfl ?_
  refine r_slen C X dL_law_20 ?_
  refine r_iconst C dL_law_21 (v := nI 5) (by decide) ?_
  refine r_isub C dL_law_22 ?_
  refine r_setI (y := iI ((L : Nat) - 5)) (iI_sub ((L : Nat) : Int) ((5 : Nat) : Int)) ?_
  refine r_icmp_gt C dL_law_23 (tgt := 1261) (by decide) (fun h => ?_) (fun h => ?_)
  · refine r_iconst C dL_law_1261 (v := 1) (by decide) ?_
    exact r_lwret C X dL_law_1262
  · exact absurd (lw_le hL hi h) (by omega)
set_option maxHeartbeats 4000000 in
set_option maxRecDepth 100000 in
theorem law_loop (C : Cx l g room_1 4 k cL_law wsL_law RL) (X : Lx b L xs k) (hL : L ≤ 2560) : ∀ (fu i : Nat) (S : Sg) (u : Me), L < i + fu → i ≤ 2600 → RepC S u → RepM S u → Ok S → G k 48 1418 (WW g ad u) 18 [(0, .ref b), (1, .ref (ad 0)), (2, .ref (ad 36)), (3, .int (nI (i)))] [] := by
  intro fu
  induction fu with
  | zero => intro i S u hfu hi hC hM hO; exact law_end C X hL (by omega) hi
  | succ fu ih =>
    intro i S u hfu hi hC hM hO
    refine r_iload_n C 3 dL_law_18 rfl rfl ?_
    refine r_aload_n C 0 dL_law_19 rfl rfl ?_
    refine r_slen C X dL_law_20 ?_
    refine r_iconst C dL_law_21 (v := nI 5) (by decide) ?_
    refine r_isub C dL_law_22 ?_
    refine r_setI (y := iI ((L : Nat) - 5)) (iI_sub ((L : Nat) : Int) ((5 : Nat) : Int)) ?_
    refine r_icmp_gt C dL_law_23 (tgt := 1261) (by decide) (fun h => ?_) (fun h => ?_)
    · refine r_iconst C dL_law_1261 (v := 1) (by decide) ?_
      exact r_lwret C X dL_law_1262
    · have hle : i + 5 ≤ L := lw_le hL hi h
      have hK : LK k g ad b i := fun S' u' hC hM hO => by
        refine r_iinc C [(0, .ref b), (1, .ref (ad 0)), (2, .ref (ad 36)), (3, .int (nI (i + 5)))] [1, 2, 3, 0] 3 dL_law_1255 rfl (nI_add i 5) (by decide) rfl ?_
        refine r_goto C dL_law_1258 (tgt := 18) (by decide) ?_
        exact ih (i + 5) S' u' (by omega) (by omega) hC hM hO
      refine r_aload_n C 0 dL_law_26 rfl rfl ?_
      refine r_iload_n C 3 dL_law_27 rfl rfl ?_
      refine r_sld C X (by omega) hL dL_law_28 ?_
      refine r_bipush C dL_law_29 (v := nI 31) (by decide) ?_
      refine r_iand C dL_law_31 ?_
      obtain ⟨c, hc, e⟩ := and31 (xs i)
      refine r_setI (y := nI c) e ?_
      rcases lt32 hc with rfl | rfl | rfl | rfl | rfl | rfl | rfl | rfl | rfl | rfl | rfl | rfl | rfl | rfl | rfl | rfl | rfl | rfl | rfl | rfl | rfl | rfl | rfl | rfl | rfl | rfl | rfl | rfl | rfl | rfl | rfl | rfl
      · refine r_tableIn C dL_law_32 (off := 132) (tgt := 164) (by decide) (by decide) (by decide) (by decide) ?_
        exact law_c0 C X hL hle hC hM hO hK
      · refine r_tableIn C dL_law_32 (off := 175) (tgt := 207) (by decide) (by decide) (by decide) (by decide) ?_
        exact law_c1 C X hL hle hC hM hO hK
      · refine r_tableIn C dL_law_32 (off := 208) (tgt := 240) (by decide) (by decide) (by decide) (by decide) ?_
        exact law_c2 C X hL hle hC hM hO hK
      · refine r_tableIn C dL_law_32 (off := 231) (tgt := 263) (by decide) (by decide) (by decide) (by decide) ?_
        exact law_c3 C X hL hle hC hM hO hK
      · refine r_tableIn C dL_law_32 (off := 274) (tgt := 306) (by decide) (by decide) (by decide) (by decide) ?_
        exact law_c4 C X hL hle hC hM hO hK
      · refine r_tableIn C dL_law_32 (off := 327) (tgt := 359) (by decide) (by decide) (by decide) (by decide) ?_
        exact law_c5 C X hL hle hC hM hO hK
      · refine r_tableIn C dL_law_32 (off := 370) (tgt := 402) (by decide) (by decide) (by decide) (by decide) ?_
        exact law_c6 C X hL hle hC hM hO hK
      · refine r_tableIn C dL_law_32 (off := 383) (tgt := 415) (by decide) (by decide) (by decide) (by decide) ?_
        exact law_c7 C X hL hle hC hM hO hK
      · refine r_tableIn C dL_law_32 (off := 426) (tgt := 458) (by decide) (by decide) (by decide) (by decide) ?_
        exact law_c8 C X hL hle hC hM hO hK
      · refine r_tableIn C dL_law_32 (off := 469) (tgt := 501) (by decide) (by decide) (by decide) (by decide) ?_
        exact law_c9 C X hL hle hC hM hO hK
      · refine r_tableIn C dL_law_32 (off := 522) (tgt := 554) (by decide) (by decide) (by decide) (by decide) ?_
        exact law_c10 C X hL hle hC hM hO hK
      · refine r_tableIn C dL_law_32 (off := 565) (tgt := 597) (by decide) (by decide) (by decide) (by decide) ?_
        exact law_c11 C X hL hle hC hM hO hK
      · refine r_tableIn C dL_law_32 (off := 608) (tgt := 640) (by decide) (by decide) (by decide) (by decide) ?_
        exact law_c12 C X hL hle hC hM hO hK
      · refine r_tableIn C dL_law_32 (off := 651) (tgt := 683) (by decide) (by decide) (by decide) (by decide) ?_
        exact law_c13 C X hL hle hC hM hO hK
      · refine r_tableIn C dL_law_32 (off := 695) (tgt := 727) (by decide) (by decide) (by decide) (by decide) ?_
        exact law_c14 C X hL hle hC hM hO hK
      · refine r_tableIn C dL_law_32 (off := 739) (tgt := 771) (by decide) (by decide) (by decide) (by decide) ?_
        exact law_c15 C X hL hle hC hM hO hK
      · refine r_tableIn C dL_law_32 (off := 782) (tgt := 814) (by decide) (by decide) (by decide) (by decide) ?_
        exact law_c16 C X hL hle hC hM hO hK
      · refine r_tableIn C dL_law_32 (off := 815) (tgt := 847) (by decide) (by decide) (by decide) (by decide) ?_
        exact law_c17 C X hL hle hC hM hO hK
      · refine r_tableIn C dL_law_32 (off := 838) (tgt := 870) (by decide) (by decide) (by decide) (by decide) ?_
        exact law_c18 C X hL hle hC hM hO hK
      · refine r_tableIn C dL_law_32 (off := 871) (tgt := 903) (by decide) (by decide) (by decide) (by decide) ?_
        exact law_c19 C X hL hle hC hM hO hK
      · refine r_tableIn C dL_law_32 (off := 915) (tgt := 947) (by decide) (by decide) (by decide) (by decide) ?_
        exact law_c20 C X hL hle hC hM hO hK
      · refine r_tableIn C dL_law_32 (off := 969) (tgt := 1001) (by decide) (by decide) (by decide) (by decide) ?_
        exact law_c21 C X hL hle hC hM hO hK
      · refine r_tableIn C dL_law_32 (off := 1002) (tgt := 1034) (by decide) (by decide) (by decide) (by decide) ?_
        exact law_c22 C X hL hle hC hM hO hK
      · refine r_tableIn C dL_law_32 (off := 1035) (tgt := 1067) (by decide) (by decide) (by decide) (by decide) ?_
        exact law_c23 C X hL hle hC hM hO hK
      · refine r_tableIn C dL_law_32 (off := 1078) (tgt := 1110) (by decide) (by decide) (by decide) (by decide) ?_
        exact law_c24 C X hL hle hC hM hO hK
      · refine r_tableIn C dL_law_32 (off := 1111) (tgt := 1143) (by decide) (by decide) (by decide) (by decide) ?_
        exact law_c25 C X hL hle hC hM hO hK
      · refine r_tableIn C dL_law_32 (off := 1134) (tgt := 1166) (by decide) (by decide) (by decide) (by decide) ?_
        exact law_c26 C X hL hle hC hM hO hK
      · refine r_tableIn C dL_law_32 (off := 1167) (tgt := 1199) (by decide) (by decide) (by decide) (by decide) ?_
        exact law_c27 C X hL hle hC hM hO hK
      · refine r_tableIn C dL_law_32 (off := 1200) (tgt := 1232) (by decide) (by decide) (by decide) (by decide) ?_
        exact law_c28 C X hL hle hC hM hO hK
      · refine r_tableOut C dL_law_32 (tgt := 1255) (by decide) (by decide) ?_
        exact hK S u hC hM hO
      · refine r_tableOut C dL_law_32 (tgt := 1255) (by decide) (by decide) ?_
        exact hK S u hC hM hO
      · refine r_tableOut C dL_law_32 (tgt := 1255) (by decide) (by decide) ?_
        exact hK S u hC hM hO
end LL
