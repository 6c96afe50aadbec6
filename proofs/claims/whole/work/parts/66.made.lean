def rm_fill4 : Room := { frames := 0, cells := 0, slots := 0, locals := 0 }
set_option maxHeartbeats 4000000 in
set_option maxRecDepth 100000 in
theorem c_fill4 (l : Launch) (g : gE) (h0 : Nat) (f0 : Nat → Int32) (v0 : Int32) : Cc l yJ7_fill_53178 wsJ7_fill_53178 rm_fill4 g [.ref h0, .int v0] [(h0, .inl (g.2.2.1, 4, .inl (f0)))] [] (fun w1 => w1 = [(h0, .inl (g.2.2.1, 4, .inl (upd (upd (upd (upd (f0) 0 v0) 1 v0) 2 v0) 3 v0)))]) 0 0 := by
  refine Cc.of (cc := cJ7_fill_53178) (nL := 4) RJ7 (by decide) rfl rfl (Nat.le_of_ble_eq_true rfl) (fun kx C N E => ?_)
  show G kx 0 0 [(h0, .inl (g.2.2.1, 4, .inl (f0)))] 0 [(0, .ref h0), (1, .int v0)] []
  refine r_iconst C dJ7_fill_53178_0 (v := nI 0) (by decide) ?_
  refine r_istore_n C [(0, .ref h0), (1, .int v0), (2, .int (nI 0))] [1, 2, 0] dJ7_fill_53178_1 rfl (by decide) rfl ?_
  refine r_aload_n C 0 dJ7_fill_53178_2 rfl rfl ?_
  refine rc_alen C 0 rfl dJ7_fill_53178_3 ?_
  refine r_istore_n C [(0, .ref h0), (1, .int v0), (2, .int (nI 0)), (3, .int (nI 4))] [1, 2, 3, 0] dJ7_fill_53178_4 rfl (by decide) rfl ?_
  refine r_iload_n C 2 dJ7_fill_53178_5 rfl rfl ?_
  refine r_iload_n C 3 dJ7_fill_53178_6 rfl rfl ?_
  refine r_icmpN_ge C dJ7_fill_53178_7 (tgt := 20) (by decide) (by decide) (by decide) (fun h => absurd h (by decide)) (fun _ => ?_)
  refine r_aload_n C 0 dJ7_fill_53178_10 rfl rfl ?_
  refine r_iload_n C 2 dJ7_fill_53178_11 rfl rfl ?_
  refine r_iload_n C 1 dJ7_fill_53178_12 rfl rfl ?_
  refine rc_iast C 0 (j := 0) rfl (by decide) (by decide) dJ7_fill_53178_13 ?_
  refine rc_ws (ws' := [(h0, .inl (g.2.2.1, 4, .inl (upd (f0) 0 v0)))]) rfl ?_
  refine r_iinc C [(0, .ref h0), (1, .int v0), (2, .int (nI 1)), (3, .int (nI 4))] [1, 2, 0, 3] 2 dJ7_fill_53178_14 rfl (v := nI 1) (by decide) (by decide) rfl ?_
  refine r_goto C dJ7_fill_53178_17 (tgt := 5) (by decide) ?_
  refine r_iload_n C 2 dJ7_fill_53178_5 rfl rfl ?_
  refine r_iload_n C 3 dJ7_fill_53178_6 rfl rfl ?_
  refine r_icmpN_ge C dJ7_fill_53178_7 (tgt := 20) (by decide) (by decide) (by decide) (fun h => absurd h (by decide)) (fun _ => ?_)
  refine r_aload_n C 0 dJ7_fill_53178_10 rfl rfl ?_
  refine r_iload_n C 2 dJ7_fill_53178_11 rfl rfl ?_
  refine r_iload_n C 1 dJ7_fill_53178_12 rfl rfl ?_
  refine rc_iast C 0 (j := 1) rfl (by decide) (by decide) dJ7_fill_53178_13 ?_
  refine rc_ws (ws' := [(h0, .inl (g.2.2.1, 4, .inl (upd (upd (f0) 0 v0) 1 v0)))]) rfl ?_
  refine r_iinc C [(0, .ref h0), (1, .int v0), (2, .int (nI 2)), (3, .int (nI 4))] [1, 2, 0, 3] 2 dJ7_fill_53178_14 rfl (v := nI 2) (by decide) (by decide) rfl ?_
  refine r_goto C dJ7_fill_53178_17 (tgt := 5) (by decide) ?_
  refine r_iload_n C 2 dJ7_fill_53178_5 rfl rfl ?_
  refine r_iload_n C 3 dJ7_fill_53178_6 rfl rfl ?_
  refine r_icmpN_ge C dJ7_fill_53178_7 (tgt := 20) (by decide) (by decide) (by decide) (fun h => absurd h (by decide)) (fun _ => ?_)
  refine r_aload_n C 0 dJ7_fill_53178_10 rfl rfl ?_
  refine r_iload_n C 2 dJ7_fill_53178_11 rfl rfl ?_
  refine r_iload_n C 1 dJ7_fill_53178_12 rfl rfl ?_
  refine rc_iast C 0 (j := 2) rfl (by decide) (by decide) dJ7_fill_53178_13 ?_
  refine rc_ws (ws' := [(h0, .inl (g.2.2.1, 4, .inl (upd (upd (upd (f0) 0 v0) 1 v0) 2 v0)))]) rfl ?_
  refine r_iinc C [(0, .ref h0), (1, .int v0), (2, .int (nI 3)), (3, .int (nI 4))] [1, 2, 0, 3] 2 dJ7_fill_53178_14 rfl (v := nI 3) (by decide) (by decide) rfl ?_
  refine r_goto C dJ7_fill_53178_17 (tgt := 5) (by decide) ?_
  refine r_iload_n C 2 dJ7_fill_53178_5 rfl rfl ?_
  refine r_iload_n C 3 dJ7_fill_53178_6 rfl rfl ?_
  refine r_icmpN_ge C dJ7_fill_53178_7 (tgt := 20) (by decide) (by decide) (by decide) (fun h => absurd h (by decide)) (fun _ => ?_)
  refine r_aload_n C 0 dJ7_fill_53178_10 rfl rfl ?_
  refine r_iload_n C 2 dJ7_fill_53178_11 rfl rfl ?_
  refine r_iload_n C 1 dJ7_fill_53178_12 rfl rfl ?_
  refine rc_iast C 0 (j := 3) rfl (by decide) (by decide) dJ7_fill_53178_13 ?_
  refine rc_ws (ws' := [(h0, .inl (g.2.2.1, 4, .inl (upd (upd (upd (upd (f0) 0 v0) 1 v0) 2 v0) 3 v0)))]) rfl ?_
  refine r_iinc C [(0, .ref h0), (1, .int v0), (2, .int (nI 4)), (3, .int (nI 4))] [1, 2, 0, 3] 2 dJ7_fill_53178_14 rfl (v := nI 4) (by decide) (by decide) rfl ?_
  refine r_goto C dJ7_fill_53178_17 (tgt := 5) (by decide) ?_
  refine r_iload_n C 2 dJ7_fill_53178_5 rfl rfl ?_
  refine r_iload_n C 3 dJ7_fill_53178_6 rfl rfl ?_
  refine r_icmpN_ge C dJ7_fill_53178_7 (tgt := 20) (by decide) (by decide) (by decide) (fun _ => ?_) (fun h => absurd (by decide) h)
  exact E _ _ _ dJ7_fill_53178_20 rfl
def rmX0_init : Room := { frames := 1, cells := 1, slots := 9, locals := 12 }
theorem pk_X0_init : Pk yX0_init RX0 0 := by decide +kernel
def PX0_init (g : gE) (h0 : Nat) (w1 : va_W) : Prop := ∃ q1 : Nat, w1 = [(h0, .inr (0, [.ref q1, .long (lI 1), .long (lI 2)])), (q1, .inl (g.2.2.1, 9, .inl (fun _ => 0)))]
set_option maxHeartbeats 4000000 in
set_option maxRecDepth 100000 in
theorem c_X0_init (l : Launch) (g : gE) (h0 : Nat) : Cc l yX0_init wsX0_init rmX0_init g [.ref h0] [(h0, .inr (0, [.null, .long 0, .long 0]))] [] (PX0_init g h0) 1 9 := by
  refine Cc.of (cc := cX0_init) (nL := 1) RX0 (by decide) rfl rfl (Nat.le_of_ble_eq_true rfl) (fun kx C N E => ?_)
  have hin_X0 : ∀ w ∈ u_ws RX0 TX0 3, w ∈ wsX0_init := by decide +kernel
  have ho_1 : Cond.methodLink RX0 1 objectInit ∈ wsX0_init := by decide +kernel
  have ho_2 : Cond.instanceMethod objectInit ∈ wsX0_init := by decide +kernel
  have ho_3 : Cond.code objectInit ⟨#[0xb1]⟩ 1 none ∈ wsX0_init := by decide +kernel
  have ha_I : Cond.arrayClass .int ∈ wsX0_init := by decide +kernel
  have hk_9 : Cond.fieldLink RX0 9 "AgainAgain$Game" "gains" "[I" ∈ wsX0_init := by decide +kernel
  have hk_13 : Cond.fieldLink RX0 13 "AgainAgain$Game" "over" "J" ∈ wsX0_init := by decide +kernel
  have hk_17 : Cond.constantLong RX0 17 (2) ∈ wsX0_init := by decide +kernel
  have hk_19 : Cond.fieldLink RX0 19 "AgainAgain$Game" "under" "J" ∈ wsX0_init := by decide +kernel
  show G kx 0 0 [(h0, .inr (0, [.null, .long 0, .long 0]))] 0 [(0, .ref h0)] []
  refine r_aload_n C 0 dX0_init_0 rfl rfl ?_
  refine rc_objInit C ho_1 ho_2 ho_3 dX0_init_1 (Nat.le_of_ble_eq_true rfl) (Nat.le_of_ble_eq_true rfl) ?_
  refine r_aload_n C 0 dX0_init_4 rfl rfl ?_
  refine r_bipush C dX0_init_5 (v := nI 9) (by decide) ?_
  refine rc_newI C ha_I (by decide) (Nat.le_of_ble_eq_true rfl) (Nat.le_of_ble_eq_true rfl) dX0_init_7 (fun q1 => ?_)
  refine rc_ws (ws' := [(h0, .inr (0, [.null, .long 0, .long 0])), (q1, .inl (g.2.2.1, 9, .inl (fun _ => 0)))]) rfl ?_
  refine rc_putF C N 0 (ty := .array .int) (j := 0) rfl rfl hin_X0 tyX0 tyX0_ok nmX0 (by decide) hk_9 rfl rfl (by decide +kernel) rfl rfl (Nat.le_of_ble_eq_true rfl) dX0_init_9 ?_
  refine rc_ws (ws' := [(h0, .inr (0, [.ref q1, .long 0, .long 0])), (q1, .inl (g.2.2.1, 9, .inl (fun _ => 0)))]) rfl ?_
  refine r_aload_n C 0 dX0_init_12 rfl rfl ?_
  refine r_lconst C dX0_init_13 (v := lI 1) (by decide) ?_
  refine rc_put C 0 (ty := .long) (j := 1) rfl rfl hin_X0 tyX0 tyX0_ok nmX0 (by decide) hk_13 rfl (by decide +kernel) rfl rfl (Nat.le_of_ble_eq_true rfl) dX0_init_14 ?_
  refine rc_ws (ws' := [(h0, .inr (0, [.ref q1, .long (lI 1), .long 0])), (q1, .inl (g.2.2.1, 9, .inl (fun _ => 0)))]) rfl ?_
  refine r_aload_n C 0 dX0_init_17 rfl rfl ?_
  refine r_ldc2 C (v := (2)) hk_17 dX0_init_18 ?_
  refine r_setL (y := lI 2) (by decide) ?_
  refine rc_put C 0 (ty := .long) (j := 2) rfl rfl hin_X0 tyX0 tyX0_ok nmX0 (by decide) hk_19 rfl (by decide +kernel) rfl rfl (Nat.le_of_ble_eq_true rfl) dX0_init_21 ?_
  refine rc_ws (ws' := [(h0, .inr (0, [.ref q1, .long (lI 1), .long (lI 2)])), (q1, .inl (g.2.2.1, 9, .inl (fun _ => 0)))]) rfl ?_
  exact E _ _ _ dX0_init_24 ⟨q1, rfl⟩
def rmX1_init : Room := { frames := 1, cells := 1, slots := 16, locals := 12 }
theorem pk_X1_init : Pk yX1_init RX1 0 := by decide +kernel
def PX1_init (g : gE) (h0 : Nat) (w1 : va_W) : Prop := ∃ q1 : Nat, w1 = [(h0, .inr (1, [.ref q1])), (q1, .inl (g.2.2.1, 16, .inl (fun _ => 0)))]
set_option maxHeartbeats 4000000 in
set_option maxRecDepth 100000 in
theorem c_X1_init (l : Launch) (g : gE) (h0 : Nat) : Cc l yX1_init wsX1_init rmX1_init g [.ref h0] [(h0, .inr (1, [.null]))] [] (PX1_init g h0) 1 16 := by
  refine Cc.of (cc := cX1_init) (nL := 1) RX1 (by decide) rfl rfl (Nat.le_of_ble_eq_true rfl) (fun kx C N E => ?_)
  have hin_X1 : ∀ w ∈ u_ws RX1 TX1 1, w ∈ wsX1_init := by decide +kernel
  have ho_1 : Cond.methodLink RX1 1 objectInit ∈ wsX1_init := by decide +kernel
  have ho_2 : Cond.instanceMethod objectInit ∈ wsX1_init := by decide +kernel
  have ho_3 : Cond.code objectInit ⟨#[0xb1]⟩ 1 none ∈ wsX1_init := by decide +kernel
  have ha_I : Cond.arrayClass .int ∈ wsX1_init := by decide +kernel
  have hk_9 : Cond.fieldLink RX1 9 "AgainAgain$Likeness" "pairs" "[I" ∈ wsX1_init := by decide +kernel
  show G kx 0 0 [(h0, .inr (1, [.null]))] 0 [(0, .ref h0)] []
  refine r_aload_n C 0 dX1_init_0 rfl rfl ?_
  refine rc_objInit C ho_1 ho_2 ho_3 dX1_init_1 (Nat.le_of_ble_eq_true rfl) (Nat.le_of_ble_eq_true rfl) ?_
  refine r_aload_n C 0 dX1_init_4 rfl rfl ?_
  refine r_bipush C dX1_init_5 (v := nI 16) (by decide) ?_
  refine rc_newI C ha_I (by decide) (Nat.le_of_ble_eq_true rfl) (Nat.le_of_ble_eq_true rfl) dX1_init_7 (fun q1 => ?_)
  refine rc_ws (ws' := [(h0, .inr (1, [.null])), (q1, .inl (g.2.2.1, 16, .inl (fun _ => 0)))]) rfl ?_
  refine rc_putF C N 0 (ty := .array .int) (j := 0) rfl rfl hin_X1 tyX1 tyX1_ok nmX1 (by decide) hk_9 rfl rfl (by decide +kernel) rfl rfl (Nat.le_of_ble_eq_true rfl) dX1_init_9 ?_
  refine rc_ws (ws' := [(h0, .inr (1, [.ref q1])), (q1, .inl (g.2.2.1, 16, .inl (fun _ => 0)))]) rfl ?_
  exact E _ _ _ dX1_init_12 ⟨q1, rfl⟩
def rmX2_init : Room := { frames := 1, cells := 3, slots := 204, locals := 12 }
theorem pk_X2_init : Pk yX2_init RX2 0 := by decide +kernel
def PX2_init (g : gE) (h0 : Nat) (w1 : va_W) : Prop := ∃ q1 q2 q3 : Nat, w1 = [(h0, .inr (2, [.ref q1, .ref q2, .ref q3, .int (nI 0)])), (q1, .inl (g.2.2.1, 12, .inl (fun _ => 0))), (q2, .inl (g.2.2.1, 48, .inl (fun _ => 0))), (q3, .inl (g.2.2.1, 144, .inl (fun _ => 0)))]
set_option maxHeartbeats 4000000 in
set_option maxRecDepth 100000 in
theorem c_X2_init (l : Launch) (g : gE) (h0 : Nat) : Cc l yX2_init wsX2_init rmX2_init g [.ref h0] [(h0, .inr (2, [.null, .null, .null, .int 0]))] [] (PX2_init g h0) 3 204 := by
  refine Cc.of (cc := cX2_init) (nL := 1) RX2 (by decide) rfl rfl (Nat.le_of_ble_eq_true rfl) (fun kx C N E => ?_)
  have hin_X2 : ∀ w ∈ u_ws RX2 TX2 4, w ∈ wsX2_init := by decide +kernel
  have ho_1 : Cond.methodLink RX2 1 objectInit ∈ wsX2_init := by decide +kernel
  have ho_2 : Cond.instanceMethod objectInit ∈ wsX2_init := by decide +kernel
  have ho_3 : Cond.code objectInit ⟨#[0xb1]⟩ 1 none ∈ wsX2_init := by decide +kernel
  have ha_I : Cond.arrayClass .int ∈ wsX2_init := by decide +kernel
  have hk_9 : Cond.fieldLink RX2 9 "AgainAgain$Machines" "sizes" "[I" ∈ wsX2_init := by decide +kernel
  have hk_13 : Cond.fieldLink RX2 13 "AgainAgain$Machines" "actions" "[I" ∈ wsX2_init := by decide +kernel
  have hk_18 : Cond.fieldLink RX2 18 "AgainAgain$Machines" "nexts" "[I" ∈ wsX2_init := by decide +kernel
  have hk_21 : Cond.fieldLink RX2 21 "AgainAgain$Machines" "many" "I" ∈ wsX2_init := by decide +kernel
  show G kx 0 0 [(h0, .inr (2, [.null, .null, .null, .int 0]))] 0 [(0, .ref h0)] []
  refine r_aload_n C 0 dX2_init_0 rfl rfl ?_
  refine rc_objInit C ho_1 ho_2 ho_3 dX2_init_1 (Nat.le_of_ble_eq_true rfl) (Nat.le_of_ble_eq_true rfl) ?_
  refine r_aload_n C 0 dX2_init_4 rfl rfl ?_
  refine r_bipush C dX2_init_5 (v := nI 12) (by decide) ?_
  refine rc_newI C ha_I (by decide) (Nat.le_of_ble_eq_true rfl) (Nat.le_of_ble_eq_true rfl) dX2_init_7 (fun q1 => ?_)
  refine rc_ws (ws' := [(h0, .inr (2, [.null, .null, .null, .int 0])), (q1, .inl (g.2.2.1, 12, .inl (fun _ => 0)))]) rfl ?_
  refine rc_putF C N 0 (ty := .array .int) (j := 0) rfl rfl hin_X2 tyX2 tyX2_ok nmX2 (by decide) hk_9 rfl rfl (by decide +kernel) rfl rfl (Nat.le_of_ble_eq_true rfl) dX2_init_9 ?_
  refine rc_ws (ws' := [(h0, .inr (2, [.ref q1, .null, .null, .int 0])), (q1, .inl (g.2.2.1, 12, .inl (fun _ => 0)))]) rfl ?_
  refine r_aload_n C 0 dX2_init_12 rfl rfl ?_
  refine r_bipush C dX2_init_13 (v := nI 48) (by decide) ?_
  refine rc_newI C ha_I (by decide) (Nat.le_of_ble_eq_true rfl) (Nat.le_of_ble_eq_true rfl) dX2_init_15 (fun q2 => ?_)
  refine rc_ws (ws' := [(h0, .inr (2, [.ref q1, .null, .null, .int 0])), (q1, .inl (g.2.2.1, 12, .inl (fun _ => 0))), (q2, .inl (g.2.2.1, 48, .inl (fun _ => 0)))]) rfl ?_
  refine rc_putF C N 0 (ty := .array .int) (j := 1) rfl rfl hin_X2 tyX2 tyX2_ok nmX2 (by decide) hk_13 rfl rfl (by decide +kernel) rfl rfl (Nat.le_of_ble_eq_true rfl) dX2_init_17 ?_
  refine rc_ws (ws' := [(h0, .inr (2, [.ref q1, .ref q2, .null, .int 0])), (q1, .inl (g.2.2.1, 12, .inl (fun _ => 0))), (q2, .inl (g.2.2.1, 48, .inl (fun _ => 0)))]) rfl ?_
  refine r_aload_n C 0 dX2_init_20 rfl rfl ?_
  refine r_sipush C dX2_init_21 (v := nI 144) (by decide) ?_
  refine rc_newI C ha_I (by decide) (Nat.le_of_ble_eq_true rfl) (Nat.le_of_ble_eq_true rfl) dX2_init_24 (fun q3 => ?_)
  refine rc_ws (ws' := [(h0, .inr (2, [.ref q1, .ref q2, .null, .int 0])), (q1, .inl (g.2.2.1, 12, .inl (fun _ => 0))), (q2, .inl (g.2.2.1, 48, .inl (fun _ => 0))), (q3, .inl (g.2.2.1, 144, .inl (fun _ => 0)))]) rfl ?_
  refine rc_putF C N 0 (ty := .array .int) (j := 2) rfl rfl hin_X2 tyX2 tyX2_ok nmX2 (by decide) hk_18 rfl rfl (by decide +kernel) rfl rfl (Nat.le_of_ble_eq_true rfl) dX2_init_26 ?_
  refine rc_ws (ws' := [(h0, .inr (2, [.ref q1, .ref q2, .ref q3, .int 0])), (q1, .inl (g.2.2.1, 12, .inl (fun _ => 0))), (q2, .inl (g.2.2.1, 48, .inl (fun _ => 0))), (q3, .inl (g.2.2.1, 144, .inl (fun _ => 0)))]) rfl ?_
  refine r_aload_n C 0 dX2_init_29 rfl rfl ?_
  refine r_iconst C dX2_init_30 (v := nI 0) (by decide) ?_
  refine rc_put C 0 (ty := .int) (j := 3) rfl rfl hin_X2 tyX2 tyX2_ok nmX2 (by decide) hk_21 rfl (by decide +kernel) rfl rfl (Nat.le_of_ble_eq_true rfl) dX2_init_31 ?_
  refine rc_ws (ws' := [(h0, .inr (2, [.ref q1, .ref q2, .ref q3, .int (nI 0)])), (q1, .inl (g.2.2.1, 12, .inl (fun _ => 0))), (q2, .inl (g.2.2.1, 48, .inl (fun _ => 0))), (q3, .inl (g.2.2.1, 144, .inl (fun _ => 0)))]) rfl ?_
  exact E _ _ _ dX2_init_34 ⟨q1, q2, q3, rfl⟩
def rmX4_init : Room := { frames := 1, cells := 0, slots := 0, locals := 12 }
theorem pk_X4_init : Pk yX4_init RX4 0 := by decide +kernel
def PX4_init (g : gE) (h0 : Nat) (w1 : va_W) : Prop := w1 = [(h0, .inr (4, [.long (lI 0), .long (lI 1)]))]
set_option maxHeartbeats 4000000 in
set_option maxRecDepth 100000 in
theorem c_X4_init (l : Launch) (g : gE) (h0 : Nat) : Cc l yX4_init wsX4_init rmX4_init g [.ref h0] [(h0, .inr (4, [.long 0, .long 0]))] [] (PX4_init g h0) 0 0 := by
  refine Cc.of (cc := cX4_init) (nL := 1) RX4 (by decide) rfl rfl (Nat.le_of_ble_eq_true rfl) (fun kx C N E => ?_)
  have hin_X4 : ∀ w ∈ u_ws RX4 TX4 2, w ∈ wsX4_init := by decide +kernel
  have ho_1 : Cond.methodLink RX4 1 objectInit ∈ wsX4_init := by decide +kernel
  have ho_2 : Cond.instanceMethod objectInit ∈ wsX4_init := by decide +kernel
  have ho_3 : Cond.code objectInit ⟨#[0xb1]⟩ 1 none ∈ wsX4_init := by decide +kernel
  have hk_7 : Cond.fieldLink RX4 7 "AgainAgain$Ratio" "top" "J" ∈ wsX4_init := by decide +kernel
  have hk_13 : Cond.fieldLink RX4 13 "AgainAgain$Ratio" "bottom" "J" ∈ wsX4_init := by decide +kernel
  show G kx 0 0 [(h0, .inr (4, [.long 0, .long 0]))] 0 [(0, .ref h0)] []
  refine r_aload_n C 0 dX4_init_0 rfl rfl ?_
  refine rc_objInit C ho_1 ho_2 ho_3 dX4_init_1 (Nat.le_of_ble_eq_true rfl) (Nat.le_of_ble_eq_true rfl) ?_
  refine r_aload_n C 0 dX4_init_4 rfl rfl ?_
  refine r_lconst C dX4_init_5 (v := lI 0) (by decide) ?_
  refine rc_put C 0 (ty := .long) (j := 0) rfl rfl hin_X4 tyX4 tyX4_ok nmX4 (by decide) hk_7 rfl (by decide +kernel) rfl rfl (Nat.le_of_ble_eq_true rfl) dX4_init_6 ?_
  refine rc_ws (ws' := [(h0, .inr (4, [.long (lI 0), .long 0]))]) rfl ?_
  refine r_aload_n C 0 dX4_init_9 rfl rfl ?_
  refine r_lconst C dX4_init_10 (v := lI 1) (by decide) ?_
  refine rc_put C 0 (ty := .long) (j := 1) rfl rfl hin_X4 tyX4 tyX4_ok nmX4 (by decide) hk_13 rfl (by decide +kernel) rfl rfl (Nat.le_of_ble_eq_true rfl) dX4_init_11 ?_
  refine rc_ws (ws' := [(h0, .inr (4, [.long (lI 0), .long (lI 1)]))]) rfl ?_
  exact E _ _ _ dX4_init_14 rfl
def rmX5_init : Room := { frames := 1, cells := 3, slots := 248, locals := 23 }
theorem pk_X5_init : Pk yX5_init RX5 0 := by decide +kernel
def PX5_init (g : gE) (h0 : Nat) (w1 : va_W) : Prop := ∃ q1 q2 q3 : Nat, w1 = [(h0, .inr (5, [.ref q1, .ref q2, .ref q3])), (q2, .inl (g.2.2.1, 4, .inl (fun _ => 0))), (q3, .inl (g.2.2.1, 240, .inl (fun _ => 0))), (q1, .inl (g.2.2.1, 4, .inl (upd (upd (upd (upd (fun _ => 0) 0 ((-1))) 1 ((-1))) 2 ((-1))) 3 ((-1)))))]
set_option maxHeartbeats 4000000 in
set_option maxRecDepth 100000 in
theorem c_X5_init (l : Launch) (g : gE) (h0 : Nat) : Cc l yX5_init wsX5_init rmX5_init g [.ref h0] [(h0, .inr (5, [.null, .null, .null]))] [] (PX5_init g h0) 3 248 := by
  refine Cc.of (cc := cX5_init) (nL := 1) RX5 (by decide) rfl rfl (Nat.le_of_ble_eq_true rfl) (fun kx C N E => ?_)
  have hin_X5 : ∀ w ∈ u_ws RX5 TX5 3, w ∈ wsX5_init := by decide +kernel
  have ho_1 : Cond.methodLink RX5 1 objectInit ∈ wsX5_init := by decide +kernel
  have ho_2 : Cond.instanceMethod objectInit ∈ wsX5_init := by decide +kernel
  have ho_3 : Cond.code objectInit ⟨#[0xb1]⟩ 1 none ∈ wsX5_init := by decide +kernel
  have ha_I : Cond.arrayClass .int ∈ wsX5_init := by decide +kernel
  have hk_9 : Cond.fieldLink RX5 9 "AgainAgain$Sheets" "lanes" "[I" ∈ wsX5_init := by decide +kernel
  have hk_13 : Cond.fieldLink RX5 13 "AgainAgain$Sheets" "sizes" "[I" ∈ wsX5_init := by decide +kernel
  have hk_16 : Cond.fieldLink RX5 16 "AgainAgain$Sheets" "cells" "[I" ∈ wsX5_init := by decide +kernel
  show G kx 0 0 [(h0, .inr (5, [.null, .null, .null]))] 0 [(0, .ref h0)] []
  refine r_aload_n C 0 dX5_init_0 rfl rfl ?_
  refine rc_objInit C ho_1 ho_2 ho_3 dX5_init_1 (Nat.le_of_ble_eq_true rfl) (Nat.le_of_ble_eq_true rfl) ?_
  refine r_aload_n C 0 dX5_init_4 rfl rfl ?_
  refine r_iconst C dX5_init_5 (v := nI 4) (by decide) ?_
  refine rc_newI C ha_I (by decide) (Nat.le_of_ble_eq_true rfl) (Nat.le_of_ble_eq_true rfl) dX5_init_6 (fun q1 => ?_)
  refine rc_ws (ws' := [(h0, .inr (5, [.null, .null, .null])), (q1, .inl (g.2.2.1, 4, .inl (fun _ => 0)))]) rfl ?_
  refine rc_putF C N 0 (ty := .array .int) (j := 0) rfl rfl hin_X5 tyX5 tyX5_ok nmX5 (by decide) hk_9 rfl rfl (by decide +kernel) rfl rfl (Nat.le_of_ble_eq_true rfl) dX5_init_8 ?_
  refine rc_ws (ws' := [(h0, .inr (5, [.ref q1, .null, .null])), (q1, .inl (g.2.2.1, 4, .inl (fun _ => 0)))]) rfl ?_
  refine r_aload_n C 0 dX5_init_11 rfl rfl ?_
  refine r_iconst C dX5_init_12 (v := nI 4) (by decide) ?_
  refine rc_newI C ha_I (by decide) (Nat.le_of_ble_eq_true rfl) (Nat.le_of_ble_eq_true rfl) dX5_init_13 (fun q2 => ?_)
  refine rc_ws (ws' := [(h0, .inr (5, [.ref q1, .null, .null])), (q1, .inl (g.2.2.1, 4, .inl (fun _ => 0))), (q2, .inl (g.2.2.1, 4, .inl (fun _ => 0)))]) rfl ?_
  refine rc_putF C N 0 (ty := .array .int) (j := 1) rfl rfl hin_X5 tyX5 tyX5_ok nmX5 (by decide) hk_13 rfl rfl (by decide +kernel) rfl rfl (Nat.le_of_ble_eq_true rfl) dX5_init_15 ?_
  refine rc_ws (ws' := [(h0, .inr (5, [.ref q1, .ref q2, .null])), (q1, .inl (g.2.2.1, 4, .inl (fun _ => 0))), (q2, .inl (g.2.2.1, 4, .inl (fun _ => 0)))]) rfl ?_
  refine r_aload_n C 0 dX5_init_18 rfl rfl ?_
  refine r_sipush C dX5_init_19 (v := nI 240) (by decide) ?_
  refine rc_newI C ha_I (by decide) (Nat.le_of_ble_eq_true rfl) (Nat.le_of_ble_eq_true rfl) dX5_init_22 (fun q3 => ?_)
  refine rc_ws (ws' := [(h0, .inr (5, [.ref q1, .ref q2, .null])), (q1, .inl (g.2.2.1, 4, .inl (fun _ => 0))), (q2, .inl (g.2.2.1, 4, .inl (fun _ => 0))), (q3, .inl (g.2.2.1, 240, .inl (fun _ => 0)))]) rfl ?_
  refine rc_putF C N 0 (ty := .array .int) (j := 2) rfl rfl hin_X5 tyX5 tyX5_ok nmX5 (by decide) hk_16 rfl rfl (by decide +kernel) rfl rfl (Nat.le_of_ble_eq_true rfl) dX5_init_24 ?_
  refine rc_ws (ws' := [(h0, .inr (5, [.ref q1, .ref q2, .ref q3])), (q1, .inl (g.2.2.1, 4, .inl (fun _ => 0))), (q2, .inl (g.2.2.1, 4, .inl (fun _ => 0))), (q3, .inl (g.2.2.1, 240, .inl (fun _ => 0)))]) rfl ?_
  refine r_aload_n C 0 dX5_init_27 rfl rfl ?_
  refine rc_get C 0 (j := 0) rfl rfl hin_X5 (by decide) hk_9 rfl dX5_init_28 ?_
  refine r_iconst C dX5_init_31 (v := (-1)) (by decide) ?_
  refine rc_stat C N (wr := [(h0, .inr (5, [.ref q1, .ref q2, .ref q3])), (q2, .inl (g.2.2.1, 4, .inl (fun _ => 0))), (q3, .inl (g.2.2.1, 240, .inl (fun _ => 0)))]) (As := [.ref q1, .int ((-1))]) [1] [0, 2, 3] (c_fill4 l g q1 (fun _ => 0) ((-1))) gX5_init_J7_fill_53178 rfl rfl rfl pk_J7_fill_53178.2 rfl ⟨(Nat.le_of_ble_eq_true rfl), (Nat.le_of_ble_eq_true rfl)⟩ (fun q h => absurd h List.not_mem_nil) rfl rfl rfl rfl rfl (by decide) (Nat.le_of_ble_eq_true rfl) rfl ⟨(Nat.le_of_ble_eq_true rfl), (Nat.le_of_ble_eq_true rfl)⟩ dX5_init_32 ?_
  rintro _ rfl
  refine rc_ws (ws' := [(h0, .inr (5, [.ref q1, .ref q2, .ref q3])), (q2, .inl (g.2.2.1, 4, .inl (fun _ => 0))), (q3, .inl (g.2.2.1, 240, .inl (fun _ => 0))), (q1, .inl (g.2.2.1, 4, .inl (upd (upd (upd (upd (fun _ => 0) 0 ((-1))) 1 ((-1))) 2 ((-1))) 3 ((-1)))))]) rfl ?_
  exact E _ _ _ dX5_init_35 ⟨q1, q2, q3, rfl⟩
def rmX6_init : Room := { frames := 1, cells := 4, slots := 64, locals := 12 }
theorem pk_X6_init : Pk yX6_init RX6 0 := by decide +kernel
def PX6_init (g : gE) (h0 : Nat) (w1 : va_W) : Prop := ∃ q1 q2 q3 q4 : Nat, w1 = [(h0, .inr (6, [.ref q1, .ref q2, .ref q3, .ref q4, .int (nI 0), .int (nI 1)])), (q1, .inl (g.2.2.1, 16, .inl (fun _ => 0))), (q2, .inl (g.2.2.1, 16, .inl (fun _ => 0))), (q3, .inl (g.2.2.1, 16, .inl (fun _ => 0))), (q4, .inl (g.2.2.1, 16, .inl (fun _ => 0)))]
set_option maxHeartbeats 4000000 in
set_option maxRecDepth 100000 in
theorem c_X6_init (l : Launch) (g : gE) (h0 : Nat) : Cc l yX6_init wsX6_init rmX6_init g [.ref h0] [(h0, .inr (6, [.null, .null, .null, .null, .int 0, .int 0]))] [] (PX6_init g h0) 4 64 := by
  refine Cc.of (cc := cX6_init) (nL := 1) RX6 (by decide) rfl rfl (Nat.le_of_ble_eq_true rfl) (fun kx C N E => ?_)
  have hin_X6 : ∀ w ∈ u_ws RX6 TX6 6, w ∈ wsX6_init := by decide +kernel
  have ho_1 : Cond.methodLink RX6 5 objectInit ∈ wsX6_init := by decide +kernel
  have ho_2 : Cond.instanceMethod objectInit ∈ wsX6_init := by decide +kernel
  have ho_3 : Cond.code objectInit ⟨#[0xb1]⟩ 1 none ∈ wsX6_init := by decide +kernel
  have ha_I : Cond.arrayClass .int ∈ wsX6_init := by decide +kernel
  have hk_11 : Cond.fieldLink RX6 11 "AgainAgain$Walk" "nexts" "[I" ∈ wsX6_init := by decide +kernel
  have hk_15 : Cond.fieldLink RX6 15 "AgainAgain$Walk" "gains" "[I" ∈ wsX6_init := by decide +kernel
  have hk_18 : Cond.fieldLink RX6 18 "AgainAgain$Walk" "firstMet" "[I" ∈ wsX6_init := by decide +kernel
  have hk_21 : Cond.fieldLink RX6 21 "AgainAgain$Walk" "path" "[I" ∈ wsX6_init := by decide +kernel
  have hk_24 : Cond.fieldLink RX6 24 "AgainAgain$Walk" "tail" "I" ∈ wsX6_init := by decide +kernel
  have hk_28 : Cond.fieldLink RX6 28 "AgainAgain$Walk" "ring" "I" ∈ wsX6_init := by decide +kernel
  show G kx 0 0 [(h0, .inr (6, [.null, .null, .null, .null, .int 0, .int 0]))] 0 [(0, .ref h0)] []
  refine r_aload_n C 0 dX6_init_0 rfl rfl ?_
  refine rc_objInit C ho_1 ho_2 ho_3 dX6_init_1 (Nat.le_of_ble_eq_true rfl) (Nat.le_of_ble_eq_true rfl) ?_
  refine r_aload_n C 0 dX6_init_4 rfl rfl ?_
  refine r_bipush C dX6_init_5 (v := nI 16) (by decide) ?_
  refine rc_newI C ha_I (by decide) (Nat.le_of_ble_eq_true rfl) (Nat.le_of_ble_eq_true rfl) dX6_init_7 (fun q1 => ?_)
  refine rc_ws (ws' := [(h0, .inr (6, [.null, .null, .null, .null, .int 0, .int 0])), (q1, .inl (g.2.2.1, 16, .inl (fun _ => 0)))]) rfl ?_
  refine rc_putF C N 0 (ty := .array .int) (j := 0) rfl rfl hin_X6 tyX6 tyX6_ok nmX6 (by decide) hk_11 rfl rfl (by decide +kernel) rfl rfl (Nat.le_of_ble_eq_true rfl) dX6_init_9 ?_
  refine rc_ws (ws' := [(h0, .inr (6, [.ref q1, .null, .null, .null, .int 0, .int 0])), (q1, .inl (g.2.2.1, 16, .inl (fun _ => 0)))]) rfl ?_
  refine r_aload_n C 0 dX6_init_12 rfl rfl ?_
  refine r_bipush C dX6_init_13 (v := nI 16) (by decide) ?_
  refine rc_newI C ha_I (by decide) (Nat.le_of_ble_eq_true rfl) (Nat.le_of_ble_eq_true rfl) dX6_init_15 (fun q2 => ?_)
  refine rc_ws (ws' := [(h0, .inr (6, [.ref q1, .null, .null, .null, .int 0, .int 0])), (q1, .inl (g.2.2.1, 16, .inl (fun _ => 0))), (q2, .inl (g.2.2.1, 16, .inl (fun _ => 0)))]) rfl ?_
  refine rc_putF C N 0 (ty := .array .int) (j := 1) rfl rfl hin_X6 tyX6 tyX6_ok nmX6 (by decide) hk_15 rfl rfl (by decide +kernel) rfl rfl (Nat.le_of_ble_eq_true rfl) dX6_init_17 ?_
  refine rc_ws (ws' := [(h0, .inr (6, [.ref q1, .ref q2, .null, .null, .int 0, .int 0])), (q1, .inl (g.2.2.1, 16, .inl (fun _ => 0))), (q2, .inl (g.2.2.1, 16, .inl (fun _ => 0)))]) rfl ?_
  refine r_aload_n C 0 dX6_init_20 rfl rfl ?_
  refine r_bipush C dX6_init_21 (v := nI 16) (by decide) ?_
  refine rc_newI C ha_I (by decide) (Nat.le_of_ble_eq_true rfl) (Nat.le_of_ble_eq_true rfl) dX6_init_23 (fun q3 => ?_)
  refine rc_ws (ws' := [(h0, .inr (6, [.ref q1, .ref q2, .null, .null, .int 0, .int 0])), (q1, .inl (g.2.2.1, 16, .inl (fun _ => 0))), (q2, .inl (g.2.2.1, 16, .inl (fun _ => 0))), (q3, .inl (g.2.2.1, 16, .inl (fun _ => 0)))]) rfl ?_
  refine rc_putF C N 0 (ty := .array .int) (j := 2) rfl rfl hin_X6 tyX6 tyX6_ok nmX6 (by decide) hk_18 rfl rfl (by decide +kernel) rfl rfl (Nat.le_of_ble_eq_true rfl) dX6_init_25 ?_
  refine rc_ws (ws' := [(h0, .inr (6, [.ref q1, .ref q2, .ref q3, .null, .int 0, .int 0])), (q1, .inl (g.2.2.1, 16, .inl (fun _ => 0))), (q2, .inl (g.2.2.1, 16, .inl (fun _ => 0))), (q3, .inl (g.2.2.1, 16, .inl (fun _ => 0)))]) rfl ?_
  refine r_aload_n C 0 dX6_init_28 rfl rfl ?_
  refine r_bipush C dX6_init_29 (v := nI 16) (by decide) ?_
  refine rc_newI C ha_I (by decide) (Nat.le_of_ble_eq_true rfl) (Nat.le_of_ble_eq_true rfl) dX6_init_31 (fun q4 => ?_)
  refine rc_ws (ws' := [(h0, .inr (6, [.ref q1, .ref q2, .ref q3, .null, .int 0, .int 0])), (q1, .inl (g.2.2.1, 16, .inl (fun _ => 0))), (q2, .inl (g.2.2.1, 16, .inl (fun _ => 0))), (q3, .inl (g.2.2.1, 16, .inl (fun _ => 0))), (q4, .inl (g.2.2.1, 16, .inl (fun _ => 0)))]) rfl ?_
  refine rc_putF C N 0 (ty := .array .int) (j := 3) rfl rfl hin_X6 tyX6 tyX6_ok nmX6 (by decide) hk_21 rfl rfl (by decide +kernel) rfl rfl (Nat.le_of_ble_eq_true rfl) dX6_init_33 ?_
  refine rc_ws (ws' := [(h0, .inr (6, [.ref q1, .ref q2, .ref q3, .ref q4, .int 0, .int 0])), (q1, .inl (g.2.2.1, 16, .inl (fun _ => 0))), (q2, .inl (g.2.2.1, 16, .inl (fun _ => 0))), (q3, .inl (g.2.2.1, 16, .inl (fun _ => 0))), (q4, .inl (g.2.2.1, 16, .inl (fun _ => 0)))]) rfl ?_
  refine r_aload_n C 0 dX6_init_36 rfl rfl ?_
  refine r_iconst C dX6_init_37 (v := nI 0) (by decide) ?_
  refine rc_put C 0 (ty := .int) (j := 4) rfl rfl hin_X6 tyX6 tyX6_ok nmX6 (by decide) hk_24 rfl (by decide +kernel) rfl rfl (Nat.le_of_ble_eq_true rfl) dX6_init_38 ?_
  refine rc_ws (ws' := [(h0, .inr (6, [.ref q1, .ref q2, .ref q3, .ref q4, .int (nI 0), .int 0])), (q1, .inl (g.2.2.1, 16, .inl (fun _ => 0))), (q2, .inl (g.2.2.1, 16, .inl (fun _ => 0))), (q3, .inl (g.2.2.1, 16, .inl (fun _ => 0))), (q4, .inl (g.2.2.1, 16, .inl (fun _ => 0)))]) rfl ?_
  refine r_aload_n C 0 dX6_init_41 rfl rfl ?_
  refine r_iconst C dX6_init_42 (v := nI 1) (by decide) ?_
  refine rc_put C 0 (ty := .int) (j := 5) rfl rfl hin_X6 tyX6 tyX6_ok nmX6 (by decide) hk_28 rfl (by decide +kernel) rfl rfl (Nat.le_of_ble_eq_true rfl) dX6_init_43 ?_
  refine rc_ws (ws' := [(h0, .inr (6, [.ref q1, .ref q2, .ref q3, .ref q4, .int (nI 0), .int (nI 1)])), (q1, .inl (g.2.2.1, 16, .inl (fun _ => 0))), (q2, .inl (g.2.2.1, 16, .inl (fun _ => 0))), (q3, .inl (g.2.2.1, 16, .inl (fun _ => 0))), (q4, .inl (g.2.2.1, 16, .inl (fun _ => 0)))]) rfl ?_
  exact E _ _ _ dX6_init_46 ⟨q1, q2, q3, q4, rfl⟩
def L3 : List (String × Nat × MethodName × String) := [(RX3, 24, yX6_init, "AgainAgain"), (RX3, 31, yX4_init, "AgainAgain")]
def L7 : List (String × Nat × MethodName × String) := [(RX7, 9, yX0_init, "AgainAgain"), (RX7, 18, yX2_init, "AgainAgain"), (RX7, 32, yX1_init, "AgainAgain"), (RX7, 39, yX3_init, "AgainAgain"), (RX7, 46, yX6_init, "AgainAgain"), (RX7, 56, yX4_init, "AgainAgain")] ++ L3
def rmX3_init : Room := { frames := 2, cells := 9, slots := 216, locals := 32 }
theorem pk_X3_init : Pk yX3_init RX3 0 := by decide +kernel
def PX3_init (g : gE) (h0 : Nat) (w1 : va_W) : Prop := ∃ q1 q2 q3 q4 q5 q6 q7 q8 q9 : Nat, w1 = [(h0, .inr (3, [.ref q1, .ref q2, .ref q3, .ref q4, .ref q9])), (q1, .inl (g.2.2.1, 48, .inl (fun _ => 0))), (q2, .inl (g.2.2.2.1, 48, .inr (.inl (fun _ => 0)))), (q3, .inl (g.2.2.2.1, 48, .inr (.inl (fun _ => 0)))), (q4, .inr (6, [.ref q5, .ref q6, .ref q7, .ref q8, .int (nI 0), .int (nI 1)])), (q5, .inl (g.2.2.1, 16, .inl (fun _ => 0))), (q6, .inl (g.2.2.1, 16, .inl (fun _ => 0))), (q7, .inl (g.2.2.1, 16, .inl (fun _ => 0))), (q8, .inl (g.2.2.1, 16, .inl (fun _ => 0))), (q9, .inr (4, [.long (lI 0), .long (lI 1)]))]
set_option maxHeartbeats 4000000 in
set_option maxRecDepth 100000 in
theorem c_X3_init (l : Launch) (g : gE) (h0 : Nat) : Cc l yX3_init wsX3_init rmX3_init g [.ref h0] [(h0, .inr (3, [.null, .null, .null, .null, .null]))] L3 (PX3_init g h0) 9 216 := by
  refine Cc.of (cc := cX3_init) (nL := 1) RX3 (by decide) rfl rfl (Nat.le_of_ble_eq_true rfl) (fun kx C N E => ?_)
  have hin_X3 : ∀ w ∈ u_ws RX3 TX3 5, w ∈ wsX3_init := by decide +kernel
  have hin_X4 : ∀ w ∈ u_ws RX4 TX4 2, w ∈ wsX3_init := by decide +kernel
  have hin_X6 : ∀ w ∈ u_ws RX6 TX6 6, w ∈ wsX3_init := by decide +kernel
  have ho_1 : Cond.methodLink RX3 3 objectInit ∈ wsX3_init := by decide +kernel
  have ho_2 : Cond.instanceMethod objectInit ∈ wsX3_init := by decide +kernel
  have ho_3 : Cond.code objectInit ⟨#[0xb1]⟩ 1 none ∈ wsX3_init := by decide +kernel
  have ha_I : Cond.arrayClass .int ∈ wsX3_init := by decide +kernel
  have hk_11 : Cond.fieldLink RX3 11 "AgainAgain$Plans" "plans" "[I" ∈ wsX3_init := by decide +kernel
  have ha_J : Cond.arrayClass .long ∈ wsX3_init := by decide +kernel
  have hk_15 : Cond.fieldLink RX3 15 "AgainAgain$Plans" "tops" "[J" ∈ wsX3_init := by decide +kernel
  have hk_19 : Cond.fieldLink RX3 19 "AgainAgain$Plans" "bottoms" "[J" ∈ wsX3_init := by decide +kernel
  have hc_22 : Cond.classLink RX3 22 RX6 ∈ wsX3_init := by decide +kernel
  have hi_6 : Cond.instantiable RX6 6 ∈ wsX3_init := by decide +kernel
  have hz_6 : Cond.initialized RX6 ∈ wsX3_init := by decide +kernel
  have hm_6 : Cond.instanceMethod yX6_init ∈ wsX3_init := by decide +kernel
  have hk_25 : Cond.fieldLink RX3 25 "AgainAgain$Plans" "walk" "LAgainAgain$Walk;" ∈ wsX3_init := by decide +kernel
  have hc_29 : Cond.classLink RX3 29 RX4 ∈ wsX3_init := by decide +kernel
  have hi_4 : Cond.instantiable RX4 2 ∈ wsX3_init := by decide +kernel
  have hz_4 : Cond.initialized RX4 ∈ wsX3_init := by decide +kernel
  have hm_4 : Cond.instanceMethod yX4_init ∈ wsX3_init := by decide +kernel
  have hk_32 : Cond.fieldLink RX3 32 "AgainAgain$Plans" "tried" "LAgainAgain$Ratio;" ∈ wsX3_init := by decide +kernel
  show G kx 0 0 [(h0, .inr (3, [.null, .null, .null, .null, .null]))] 0 [(0, .ref h0)] []
  refine r_aload_n C 0 dX3_init_0 rfl rfl ?_
  refine rc_objInit C ho_1 ho_2 ho_3 dX3_init_1 (Nat.le_of_ble_eq_true rfl) (Nat.le_of_ble_eq_true rfl) ?_
  refine r_aload_n C 0 dX3_init_4 rfl rfl ?_
  refine r_bipush C dX3_init_5 (v := nI 48) (by decide) ?_
  refine rc_newI C ha_I (by decide) (Nat.le_of_ble_eq_true rfl) (Nat.le_of_ble_eq_true rfl) dX3_init_7 (fun q1 => ?_)
  refine rc_ws (ws' := [(h0, .inr (3, [.null, .null, .null, .null, .null])), (q1, .inl (g.2.2.1, 48, .inl (fun _ => 0)))]) rfl ?_
  refine rc_putF C N 0 (ty := .array .int) (j := 0) rfl rfl hin_X3 tyX3 tyX3_ok nmX3 (by decide) hk_11 rfl rfl (by decide +kernel) rfl rfl (Nat.le_of_ble_eq_true rfl) dX3_init_9 ?_
  refine rc_ws (ws' := [(h0, .inr (3, [.ref q1, .null, .null, .null, .null])), (q1, .inl (g.2.2.1, 48, .inl (fun _ => 0)))]) rfl ?_
  refine r_aload_n C 0 dX3_init_12 rfl rfl ?_
  refine r_bipush C dX3_init_13 (v := nI 48) (by decide) ?_
  refine rc_newJ C ha_J (by decide) (Nat.le_of_ble_eq_true rfl) (Nat.le_of_ble_eq_true rfl) dX3_init_15 (fun q2 => ?_)
  refine rc_ws (ws' := [(h0, .inr (3, [.ref q1, .null, .null, .null, .null])), (q1, .inl (g.2.2.1, 48, .inl (fun _ => 0))), (q2, .inl (g.2.2.2.1, 48, .inr (.inl (fun _ => 0))))]) rfl ?_
  refine rc_putF C N 0 (ty := .array .long) (j := 1) rfl rfl hin_X3 tyX3 tyX3_ok nmX3 (by decide) hk_15 rfl rfl (by decide +kernel) rfl rfl (Nat.le_of_ble_eq_true rfl) dX3_init_17 ?_
  refine rc_ws (ws' := [(h0, .inr (3, [.ref q1, .ref q2, .null, .null, .null])), (q1, .inl (g.2.2.1, 48, .inl (fun _ => 0))), (q2, .inl (g.2.2.2.1, 48, .inr (.inl (fun _ => 0))))]) rfl ?_
  refine r_aload_n C 0 dX3_init_20 rfl rfl ?_
  refine r_bipush C dX3_init_21 (v := nI 48) (by decide) ?_
  refine rc_newJ C ha_J (by decide) (Nat.le_of_ble_eq_true rfl) (Nat.le_of_ble_eq_true rfl) dX3_init_23 (fun q3 => ?_)
  refine rc_ws (ws' := [(h0, .inr (3, [.ref q1, .ref q2, .null, .null, .null])), (q1, .inl (g.2.2.1, 48, .inl (fun _ => 0))), (q2, .inl (g.2.2.2.1, 48, .inr (.inl (fun _ => 0)))), (q3, .inl (g.2.2.2.1, 48, .inr (.inl (fun _ => 0))))]) rfl ?_
  refine rc_putF C N 0 (ty := .array .long) (j := 2) rfl rfl hin_X3 tyX3 tyX3_ok nmX3 (by decide) hk_19 rfl rfl (by decide +kernel) rfl rfl (Nat.le_of_ble_eq_true rfl) dX3_init_25 ?_
  refine rc_ws (ws' := [(h0, .inr (3, [.ref q1, .ref q2, .ref q3, .null, .null])), (q1, .inl (g.2.2.1, 48, .inl (fun _ => 0))), (q2, .inl (g.2.2.2.1, 48, .inr (.inl (fun _ => 0)))), (q3, .inl (g.2.2.2.1, 48, .inr (.inl (fun _ => 0))))]) rfl ?_
  refine r_aload_n C 0 dX3_init_28 rfl rfl ?_
  refine rc_new C (ci := 6) (fs := [.null, .null, .null, .null, .int 0, .int 0]) tyX6 tyX6_ok hin_X6 hc_22 hi_6 hz_6 rfl (fun j hj => by rcases (show j = 0 ∨ j = 1 ∨ j = 2 ∨ j = 3 ∨ j = 4 ∨ j = 5 by omega) with rfl | rfl | rfl | rfl | rfl | rfl <;> rfl) (Nat.le_of_ble_eq_true rfl) (Nat.le_of_ble_eq_true rfl) dX3_init_29 (fun q4 => ?_)
  refine rc_ws (ws' := [(h0, .inr (3, [.ref q1, .ref q2, .ref q3, .null, .null])), (q1, .inl (g.2.2.1, 48, .inl (fun _ => 0))), (q2, .inl (g.2.2.2.1, 48, .inr (.inl (fun _ => 0)))), (q3, .inl (g.2.2.2.1, 48, .inr (.inl (fun _ => 0)))), (q4, .inr (6, [.null, .null, .null, .null, .int 0, .int 0]))]) rfl ?_
  refine r_dup C dX3_init_32 rfl ?_
  refine rc_initN C N (host := "AgainAgain") (wr := [(h0, .inr (3, [.ref q1, .ref q2, .ref q3, .null, .null])), (q1, .inl (g.2.2.1, 48, .inl (fun _ => 0))), (q2, .inl (g.2.2.2.1, 48, .inr (.inl (fun _ => 0)))), (q3, .inl (g.2.2.2.1, 48, .inr (.inl (fun _ => 0))))]) [4] [0, 1, 2, 3] (c_X6_init l g q4) gX3_init_X6_init_n24 rfl rfl rfl rfl hz_6 hm_6 pk_X6_init.2 ⟨(Nat.le_of_ble_eq_true rfl), (Nat.le_of_ble_eq_true rfl)⟩ (List.mem_of_getElem? (i := 0) rfl) (fun q h => absurd h List.not_mem_nil) rfl rfl rfl rfl rfl (by decide) (Nat.le_of_ble_eq_true rfl) ⟨(Nat.le_of_ble_eq_true rfl), (Nat.le_of_ble_eq_true rfl)⟩ dX3_init_33 ?_
  rintro _ ⟨q5, q6, q7, q8, rfl⟩
  refine rc_ws (ws' := [(h0, .inr (3, [.ref q1, .ref q2, .ref q3, .null, .null])), (q1, .inl (g.2.2.1, 48, .inl (fun _ => 0))), (q2, .inl (g.2.2.2.1, 48, .inr (.inl (fun _ => 0)))), (q3, .inl (g.2.2.2.1, 48, .inr (.inl (fun _ => 0)))), (q4, .inr (6, [.ref q5, .ref q6, .ref q7, .ref q8, .int (nI 0), .int (nI 1)])), (q5, .inl (g.2.2.1, 16, .inl (fun _ => 0))), (q6, .inl (g.2.2.1, 16, .inl (fun _ => 0))), (q7, .inl (g.2.2.1, 16, .inl (fun _ => 0))), (q8, .inl (g.2.2.1, 16, .inl (fun _ => 0)))]) rfl ?_
  refine rc_putF C N 0 (ty := .object "AgainAgain$Walk") (j := 3) rfl rfl hin_X3 tyX3 tyX3_ok nmX3 (by decide) hk_25 rfl rfl (by decide +kernel) rfl rfl (Nat.le_of_ble_eq_true rfl) dX3_init_36 ?_
  refine rc_ws (ws' := [(h0, .inr (3, [.ref q1, .ref q2, .ref q3, .ref q4, .null])), (q1, .inl (g.2.2.1, 48, .inl (fun _ => 0))), (q2, .inl (g.2.2.2.1, 48, .inr (.inl (fun _ => 0)))), (q3, .inl (g.2.2.2.1, 48, .inr (.inl (fun _ => 0)))), (q4, .inr (6, [.ref q5, .ref q6, .ref q7, .ref q8, .int (nI 0), .int (nI 1)])), (q5, .inl (g.2.2.1, 16, .inl (fun _ => 0))), (q6, .inl (g.2.2.1, 16, .inl (fun _ => 0))), (q7, .inl (g.2.2.1, 16, .inl (fun _ => 0))), (q8, .inl (g.2.2.1, 16, .inl (fun _ => 0)))]) rfl ?_
  refine r_aload_n C 0 dX3_init_39 rfl rfl ?_
  refine rc_new C (ci := 4) (fs := [.long 0, .long 0]) tyX4 tyX4_ok hin_X4 hc_29 hi_4 hz_4 rfl (fun j hj => by rcases (show j = 0 ∨ j = 1 by omega) with rfl | rfl <;> rfl) (Nat.le_of_ble_eq_true rfl) (Nat.le_of_ble_eq_true rfl) dX3_init_40 (fun q9 => ?_)
  refine rc_ws (ws' := [(h0, .inr (3, [.ref q1, .ref q2, .ref q3, .ref q4, .null])), (q1, .inl (g.2.2.1, 48, .inl (fun _ => 0))), (q2, .inl (g.2.2.2.1, 48, .inr (.inl (fun _ => 0)))), (q3, .inl (g.2.2.2.1, 48, .inr (.inl (fun _ => 0)))), (q4, .inr (6, [.ref q5, .ref q6, .ref q7, .ref q8, .int (nI 0), .int (nI 1)])), (q5, .inl (g.2.2.1, 16, .inl (fun _ => 0))), (q6, .inl (g.2.2.1, 16, .inl (fun _ => 0))), (q7, .inl (g.2.2.1, 16, .inl (fun _ => 0))), (q8, .inl (g.2.2.1, 16, .inl (fun _ => 0))), (q9, .inr (4, [.long 0, .long 0]))]) rfl ?_
  refine r_dup C dX3_init_43 rfl ?_
  refine rc_initN C N (host := "AgainAgain") (wr := [(h0, .inr (3, [.ref q1, .ref q2, .ref q3, .ref q4, .null])), (q1, .inl (g.2.2.1, 48, .inl (fun _ => 0))), (q2, .inl (g.2.2.2.1, 48, .inr (.inl (fun _ => 0)))), (q3, .inl (g.2.2.2.1, 48, .inr (.inl (fun _ => 0)))), (q4, .inr (6, [.ref q5, .ref q6, .ref q7, .ref q8, .int (nI 0), .int (nI 1)])), (q5, .inl (g.2.2.1, 16, .inl (fun _ => 0))), (q6, .inl (g.2.2.1, 16, .inl (fun _ => 0))), (q7, .inl (g.2.2.1, 16, .inl (fun _ => 0))), (q8, .inl (g.2.2.1, 16, .inl (fun _ => 0)))]) [9] [0, 1, 2, 3, 4, 5, 6, 7, 8] (c_X4_init l g q9) gX3_init_X4_init_n31 rfl rfl rfl rfl hz_4 hm_4 pk_X4_init.2 ⟨(Nat.le_of_ble_eq_true rfl), (Nat.le_of_ble_eq_true rfl)⟩ (List.mem_of_getElem? (i := 1) rfl) (fun q h => absurd h List.not_mem_nil) rfl rfl rfl rfl rfl (by decide) (Nat.le_of_ble_eq_true rfl) ⟨(Nat.le_of_ble_eq_true rfl), (Nat.le_of_ble_eq_true rfl)⟩ dX3_init_44 ?_
  rintro _ rfl
  refine rc_ws (ws' := [(h0, .inr (3, [.ref q1, .ref q2, .ref q3, .ref q4, .null])), (q1, .inl (g.2.2.1, 48, .inl (fun _ => 0))), (q2, .inl (g.2.2.2.1, 48, .inr (.inl (fun _ => 0)))), (q3, .inl (g.2.2.2.1, 48, .inr (.inl (fun _ => 0)))), (q4, .inr (6, [.ref q5, .ref q6, .ref q7, .ref q8, .int (nI 0), .int (nI 1)])), (q5, .inl (g.2.2.1, 16, .inl (fun _ => 0))), (q6, .inl (g.2.2.1, 16, .inl (fun _ => 0))), (q7, .inl (g.2.2.1, 16, .inl (fun _ => 0))), (q8, .inl (g.2.2.1, 16, .inl (fun _ => 0))), (q9, .inr (4, [.long (lI 0), .long (lI 1)]))]) rfl ?_
  refine rc_putF C N 0 (ty := .object "AgainAgain$Ratio") (j := 4) rfl rfl hin_X3 tyX3 tyX3_ok nmX3 (by decide) hk_32 rfl rfl (by decide +kernel) rfl rfl (Nat.le_of_ble_eq_true rfl) dX3_init_47 ?_
  refine rc_ws (ws' := [(h0, .inr (3, [.ref q1, .ref q2, .ref q3, .ref q4, .ref q9])), (q1, .inl (g.2.2.1, 48, .inl (fun _ => 0))), (q2, .inl (g.2.2.2.1, 48, .inr (.inl (fun _ => 0)))), (q3, .inl (g.2.2.2.1, 48, .inr (.inl (fun _ => 0)))), (q4, .inr (6, [.ref q5, .ref q6, .ref q7, .ref q8, .int (nI 0), .int (nI 1)])), (q5, .inl (g.2.2.1, 16, .inl (fun _ => 0))), (q6, .inl (g.2.2.1, 16, .inl (fun _ => 0))), (q7, .inl (g.2.2.1, 16, .inl (fun _ => 0))), (q8, .inl (g.2.2.1, 16, .inl (fun _ => 0))), (q9, .inr (4, [.long (lI 0), .long (lI 1)]))]) rfl ?_
  exact E _ _ _ dX3_init_50 ⟨q1, q2, q3, q4, q5, q6, q7, q8, q9, rfl⟩
def rmX7_init : Room := { frames := 3, cells := 35, slots := 865, locals := 52 }
theorem pk_X7_init : Pk yX7_init RX7 0 := by decide +kernel
def PX7_init (g : gE) (h0 : Nat) (w1 : va_W) : Prop := ∃ q1 q2 q3 q4 q5 q6 q7 q8 q9 q10 q11 q12 q13 q14 q15 q16 q17 q18 q19 q20 q21 q22 q23 q24 q25 q26 q27 q28 q29 q30 q31 q32 q33 q34 q35 : Nat, w1 = [(h0, .inr (7, [.ref q1, .ref q3, .ref q7, .ref q11, .ref q13, .ref q23, .ref q28, .ref q33, .ref q34, .ref q35])), (q1, .inr (0, [.ref q2, .long (lI 1), .long (lI 2)])), (q2, .inl (g.2.2.1, 9, .inl (fun _ => 0))), (q3, .inr (2, [.ref q4, .ref q5, .ref q6, .int (nI 0)])), (q4, .inl (g.2.2.1, 12, .inl (fun _ => 0))), (q5, .inl (g.2.2.1, 48, .inl (fun _ => 0))), (q6, .inl (g.2.2.1, 144, .inl (fun _ => 0))), (q7, .inr (5, [.ref q8, .ref q9, .ref q10])), (q9, .inl (g.2.2.1, 4, .inl (fun _ => 0))), (q10, .inl (g.2.2.1, 240, .inl (fun _ => 0))), (q8, .inl (g.2.2.1, 4, .inl (upd (upd (upd (upd (fun _ => 0) 0 ((-1))) 1 ((-1))) 2 ((-1))) 3 ((-1))))), (q11, .inr (1, [.ref q12])), (q12, .inl (g.2.2.1, 16, .inl (fun _ => 0))), (q13, .inr (3, [.ref q14, .ref q15, .ref q16, .ref q17, .ref q22])), (q14, .inl (g.2.2.1, 48, .inl (fun _ => 0))), (q15, .inl (g.2.2.2.1, 48, .inr (.inl (fun _ => 0)))), (q16, .inl (g.2.2.2.1, 48, .inr (.inl (fun _ => 0)))), (q17, .inr (6, [.ref q18, .ref q19, .ref q20, .ref q21, .int (nI 0), .int (nI 1)])), (q18, .inl (g.2.2.1, 16, .inl (fun _ => 0))), (q19, .inl (g.2.2.1, 16, .inl (fun _ => 0))), (q20, .inl (g.2.2.1, 16, .inl (fun _ => 0))), (q21, .inl (g.2.2.1, 16, .inl (fun _ => 0))), (q22, .inr (4, [.long (lI 0), .long (lI 1)])), (q23, .inr (6, [.ref q24, .ref q25, .ref q26, .ref q27, .int (nI 0), .int (nI 1)])), (q24, .inl (g.2.2.1, 16, .inl (fun _ => 0))), (q25, .inl (g.2.2.1, 16, .inl (fun _ => 0))), (q26, .inl (g.2.2.1, 16, .inl (fun _ => 0))), (q27, .inl (g.2.2.1, 16, .inl (fun _ => 0))), (q28, .inr (6, [.ref q29, .ref q30, .ref q31, .ref q32, .int (nI 0), .int (nI 1)])), (q29, .inl (g.2.2.1, 16, .inl (fun _ => 0))), (q30, .inl (g.2.2.1, 16, .inl (fun _ => 0))), (q31, .inl (g.2.2.1, 16, .inl (fun _ => 0))), (q32, .inl (g.2.2.1, 16, .inl (fun _ => 0))), (q33, .inr (4, [.long (lI 0), .long (lI 1)])), (q34, .inr (4, [.long (lI 0), .long (lI 1)])), (q35, .inl (g.2.2.1, 12, .inl (fun _ => 0)))]
set_option maxHeartbeats 4000000 in
set_option maxRecDepth 100000 in
theorem c_X7_init (l : Launch) (g : gE) (h0 : Nat) : Cc l yX7_init wsX7_init rmX7_init g [.ref h0] [(h0, .inr (7, [.null, .null, .null, .null, .null, .null, .null, .null, .null, .null]))] L7 (PX7_init g h0) 35 865 := by
  refine Cc.of (cc := cX7_init) (nL := 1) RX7 (by decide) rfl rfl (Nat.le_of_ble_eq_true rfl) (fun kx C N E => ?_)
  have hin_X0 : ∀ w ∈ u_ws RX0 TX0 3, w ∈ wsX7_init := by decide +kernel
  have hin_X1 : ∀ w ∈ u_ws RX1 TX1 1, w ∈ wsX7_init := by decide +kernel
  have hin_X2 : ∀ w ∈ u_ws RX2 TX2 4, w ∈ wsX7_init := by decide +kernel
  have hin_X3 : ∀ w ∈ u_ws RX3 TX3 5, w ∈ wsX7_init := by decide +kernel
  have hin_X4 : ∀ w ∈ u_ws RX4 TX4 2, w ∈ wsX7_init := by decide +kernel
  have hin_X5 : ∀ w ∈ u_ws RX5 TX5 3, w ∈ wsX7_init := by decide +kernel
  have hin_X6 : ∀ w ∈ u_ws RX6 TX6 6, w ∈ wsX7_init := by decide +kernel
  have hin_X7 : ∀ w ∈ u_ws RX7 TX7 10, w ∈ wsX7_init := by decide +kernel
  have ho_1 : Cond.methodLink RX7 3 objectInit ∈ wsX7_init := by decide +kernel
  have ho_2 : Cond.instanceMethod objectInit ∈ wsX7_init := by decide +kernel
  have ho_3 : Cond.code objectInit ⟨#[0xb1]⟩ 1 none ∈ wsX7_init := by decide +kernel
  have hc_1 : Cond.classLink RX7 1 RX0 ∈ wsX7_init := by decide +kernel
  have hi_0 : Cond.instantiable RX0 3 ∈ wsX7_init := by decide +kernel
  have hz_0 : Cond.initialized RX0 ∈ wsX7_init := by decide +kernel
  have hm_0 : Cond.instanceMethod yX0_init ∈ wsX7_init := by decide +kernel
  have hk_10 : Cond.fieldLink RX7 10 "AgainAgain" "game" "LAgainAgain$Game;" ∈ wsX7_init := by decide +kernel
  have hc_16 : Cond.classLink RX7 16 RX2 ∈ wsX7_init := by decide +kernel
  have hi_2 : Cond.instantiable RX2 4 ∈ wsX7_init := by decide +kernel
  have hz_2 : Cond.initialized RX2 ∈ wsX7_init := by decide +kernel
  have hm_2 : Cond.instanceMethod yX2_init ∈ wsX7_init := by decide +kernel
  have hk_19 : Cond.fieldLink RX7 19 "AgainAgain" "machines" "LAgainAgain$Machines;" ∈ wsX7_init := by decide +kernel
  have hc_23 : Cond.classLink RX7 23 RX5 ∈ wsX7_init := by decide +kernel
  have hi_5 : Cond.instantiable RX5 3 ∈ wsX7_init := by decide +kernel
  have hz_5 : Cond.initialized RX5 ∈ wsX7_init := by decide +kernel
  have hm_5 : Cond.instanceMethod yX5_init ∈ wsX7_init := by decide +kernel
  have hl_25 : Cond.methodLink RX7 25 yX5_init ∈ wsX7_init := by decide +kernel
  have hk_26 : Cond.fieldLink RX7 26 "AgainAgain" "sheets" "LAgainAgain$Sheets;" ∈ wsX7_init := by decide +kernel
  have hc_30 : Cond.classLink RX7 30 RX1 ∈ wsX7_init := by decide +kernel
  have hi_1 : Cond.instantiable RX1 1 ∈ wsX7_init := by decide +kernel
  have hz_1 : Cond.initialized RX1 ∈ wsX7_init := by decide +kernel
  have hm_1 : Cond.instanceMethod yX1_init ∈ wsX7_init := by decide +kernel
  have hk_33 : Cond.fieldLink RX7 33 "AgainAgain" "likeness" "LAgainAgain$Likeness;" ∈ wsX7_init := by decide +kernel
  have hc_37 : Cond.classLink RX7 37 RX3 ∈ wsX7_init := by decide +kernel
  have hi_3 : Cond.instantiable RX3 5 ∈ wsX7_init := by decide +kernel
  have hz_3 : Cond.initialized RX3 ∈ wsX7_init := by decide +kernel
  have hm_3 : Cond.instanceMethod yX3_init ∈ wsX7_init := by decide +kernel
  have hk_40 : Cond.fieldLink RX7 40 "AgainAgain" "plans" "LAgainAgain$Plans;" ∈ wsX7_init := by decide +kernel
  have hc_44 : Cond.classLink RX7 44 RX6 ∈ wsX7_init := by decide +kernel
  have hi_6 : Cond.instantiable RX6 6 ∈ wsX7_init := by decide +kernel
  have hz_6 : Cond.initialized RX6 ∈ wsX7_init := by decide +kernel
  have hm_6 : Cond.instanceMethod yX6_init ∈ wsX7_init := by decide +kernel
  have hk_47 : Cond.fieldLink RX7 47 "AgainAgain" "walk" "LAgainAgain$Walk;" ∈ wsX7_init := by decide +kernel
  have hk_51 : Cond.fieldLink RX7 51 "AgainAgain" "back" "LAgainAgain$Walk;" ∈ wsX7_init := by decide +kernel
  have hc_54 : Cond.classLink RX7 54 RX4 ∈ wsX7_init := by decide +kernel
  have hi_4 : Cond.instantiable RX4 2 ∈ wsX7_init := by decide +kernel
  have hz_4 : Cond.initialized RX4 ∈ wsX7_init := by decide +kernel
  have hm_4 : Cond.instanceMethod yX4_init ∈ wsX7_init := by decide +kernel
  have hk_57 : Cond.fieldLink RX7 57 "AgainAgain" "ratio" "LAgainAgain$Ratio;" ∈ wsX7_init := by decide +kernel
  have hk_61 : Cond.fieldLink RX7 61 "AgainAgain" "other" "LAgainAgain$Ratio;" ∈ wsX7_init := by decide +kernel
  have ha_I : Cond.arrayClass .int ∈ wsX7_init := by decide +kernel
  have hk_64 : Cond.fieldLink RX7 64 "AgainAgain" "scores" "[I" ∈ wsX7_init := by decide +kernel
  show G kx 0 0 [(h0, .inr (7, [.null, .null, .null, .null, .null, .null, .null, .null, .null, .null]))] 0 [(0, .ref h0)] []
  refine r_aload_n C 0 dX7_init_0 rfl rfl ?_
  refine rc_objInit C ho_1 ho_2 ho_3 dX7_init_1 (Nat.le_of_ble_eq_true rfl) (Nat.le_of_ble_eq_true rfl) ?_
  refine r_aload_n C 0 dX7_init_4 rfl rfl ?_
  refine rc_new C (ci := 0) (fs := [.null, .long 0, .long 0]) tyX0 tyX0_ok hin_X0 hc_1 hi_0 hz_0 rfl (fun j hj => by rcases (show j = 0 ∨ j = 1 ∨ j = 2 by omega) with rfl | rfl | rfl <;> rfl) (Nat.le_of_ble_eq_true rfl) (Nat.le_of_ble_eq_true rfl) dX7_init_5 (fun q1 => ?_)
  refine rc_ws (ws' := [(h0, .inr (7, [.null, .null, .null, .null, .null, .null, .null, .null, .null, .null])), (q1, .inr (0, [.null, .long 0, .long 0]))]) rfl ?_
  refine r_dup C dX7_init_8 rfl ?_
  refine rc_initN C N (host := "AgainAgain") (wr := [(h0, .inr (7, [.null, .null, .null, .null, .null, .null, .null, .null, .null, .null]))]) [1] [0] (c_X0_init l g q1) gX7_init_X0_init_n9 rfl rfl rfl rfl hz_0 hm_0 pk_X0_init.2 ⟨(Nat.le_of_ble_eq_true rfl), (Nat.le_of_ble_eq_true rfl)⟩ (List.mem_of_getElem? (i := 0) rfl) (fun q h => absurd h List.not_mem_nil) rfl rfl rfl rfl rfl (by decide) (Nat.le_of_ble_eq_true rfl) ⟨(Nat.le_of_ble_eq_true rfl), (Nat.le_of_ble_eq_true rfl)⟩ dX7_init_9 ?_
  rintro _ ⟨q2, rfl⟩
  refine rc_ws (ws' := [(h0, .inr (7, [.null, .null, .null, .null, .null, .null, .null, .null, .null, .null])), (q1, .inr (0, [.ref q2, .long (lI 1), .long (lI 2)])), (q2, .inl (g.2.2.1, 9, .inl (fun _ => 0)))]) rfl ?_
  refine rc_putF C N 0 (ty := .object "AgainAgain$Game") (j := 0) rfl rfl hin_X7 tyX7 tyX7_ok nmX7 (by decide) hk_10 rfl rfl (by decide +kernel) rfl rfl (Nat.le_of_ble_eq_true rfl) dX7_init_12 ?_
  refine rc_ws (ws' := [(h0, .inr (7, [.ref q1, .null, .null, .null, .null, .null, .null, .null, .null, .null])), (q1, .inr (0, [.ref q2, .long (lI 1), .long (lI 2)])), (q2, .inl (g.2.2.1, 9, .inl (fun _ => 0)))]) rfl ?_
  refine r_aload_n C 0 dX7_init_15 rfl rfl ?_
  refine rc_new C (ci := 2) (fs := [.null, .null, .null, .int 0]) tyX2 tyX2_ok hin_X2 hc_16 hi_2 hz_2 rfl (fun j hj => by rcases (show j = 0 ∨ j = 1 ∨ j = 2 ∨ j = 3 by omega) with rfl | rfl | rfl | rfl <;> rfl) (Nat.le_of_ble_eq_true rfl) (Nat.le_of_ble_eq_true rfl) dX7_init_16 (fun q3 => ?_)
  refine rc_ws (ws' := [(h0, .inr (7, [.ref q1, .null, .null, .null, .null, .null, .null, .null, .null, .null])), (q1, .inr (0, [.ref q2, .long (lI 1), .long (lI 2)])), (q2, .inl (g.2.2.1, 9, .inl (fun _ => 0))), (q3, .inr (2, [.null, .null, .null, .int 0]))]) rfl ?_
  refine r_dup C dX7_init_19 rfl ?_
  refine rc_initN C N (host := "AgainAgain") (wr := [(h0, .inr (7, [.ref q1, .null, .null, .null, .null, .null, .null, .null, .null, .null])), (q1, .inr (0, [.ref q2, .long (lI 1), .long (lI 2)])), (q2, .inl (g.2.2.1, 9, .inl (fun _ => 0)))]) [3] [0, 1, 2] (c_X2_init l g q3) gX7_init_X2_init_n18 rfl rfl rfl rfl hz_2 hm_2 pk_X2_init.2 ⟨(Nat.le_of_ble_eq_true rfl), (Nat.le_of_ble_eq_true rfl)⟩ (List.mem_of_getElem? (i := 1) rfl) (fun q h => absurd h List.not_mem_nil) rfl rfl rfl rfl rfl (by decide) (Nat.le_of_ble_eq_true rfl) ⟨(Nat.le_of_ble_eq_true rfl), (Nat.le_of_ble_eq_true rfl)⟩ dX7_init_20 ?_
  rintro _ ⟨q4, q5, q6, rfl⟩
  refine rc_ws (ws' := [(h0, .inr (7, [.ref q1, .null, .null, .null, .null, .null, .null, .null, .null, .null])), (q1, .inr (0, [.ref q2, .long (lI 1), .long (lI 2)])), (q2, .inl (g.2.2.1, 9, .inl (fun _ => 0))), (q3, .inr (2, [.ref q4, .ref q5, .ref q6, .int (nI 0)])), (q4, .inl (g.2.2.1, 12, .inl (fun _ => 0))), (q5, .inl (g.2.2.1, 48, .inl (fun _ => 0))), (q6, .inl (g.2.2.1, 144, .inl (fun _ => 0)))]) rfl ?_
  refine rc_putF C N 0 (ty := .object "AgainAgain$Machines") (j := 1) rfl rfl hin_X7 tyX7 tyX7_ok nmX7 (by decide) hk_19 rfl rfl (by decide +kernel) rfl rfl (Nat.le_of_ble_eq_true rfl) dX7_init_23 ?_
  refine rc_ws (ws' := [(h0, .inr (7, [.ref q1, .ref q3, .null, .null, .null, .null, .null, .null, .null, .null])), (q1, .inr (0, [.ref q2, .long (lI 1), .long (lI 2)])), (q2, .inl (g.2.2.1, 9, .inl (fun _ => 0))), (q3, .inr (2, [.ref q4, .ref q5, .ref q6, .int (nI 0)])), (q4, .inl (g.2.2.1, 12, .inl (fun _ => 0))), (q5, .inl (g.2.2.1, 48, .inl (fun _ => 0))), (q6, .inl (g.2.2.1, 144, .inl (fun _ => 0)))]) rfl ?_
  refine r_aload_n C 0 dX7_init_26 rfl rfl ?_
  refine rc_new C (ci := 5) (fs := [.null, .null, .null]) tyX5 tyX5_ok hin_X5 hc_23 hi_5 hz_5 rfl (fun j hj => by rcases (show j = 0 ∨ j = 1 ∨ j = 2 by omega) with rfl | rfl | rfl <;> rfl) (Nat.le_of_ble_eq_true rfl) (Nat.le_of_ble_eq_true rfl) dX7_init_27 (fun q7 => ?_)
  refine rc_ws (ws' := [(h0, .inr (7, [.ref q1, .ref q3, .null, .null, .null, .null, .null, .null, .null, .null])), (q1, .inr (0, [.ref q2, .long (lI 1), .long (lI 2)])), (q2, .inl (g.2.2.1, 9, .inl (fun _ => 0))), (q3, .inr (2, [.ref q4, .ref q5, .ref q6, .int (nI 0)])), (q4, .inl (g.2.2.1, 12, .inl (fun _ => 0))), (q5, .inl (g.2.2.1, 48, .inl (fun _ => 0))), (q6, .inl (g.2.2.1, 144, .inl (fun _ => 0))), (q7, .inr (5, [.null, .null, .null]))]) rfl ?_
  refine r_dup C dX7_init_30 rfl ?_
  refine rc_init C N (wr := [(h0, .inr (7, [.ref q1, .ref q3, .null, .null, .null, .null, .null, .null, .null, .null])), (q1, .inr (0, [.ref q2, .long (lI 1), .long (lI 2)])), (q2, .inl (g.2.2.1, 9, .inl (fun _ => 0))), (q3, .inr (2, [.ref q4, .ref q5, .ref q6, .int (nI 0)])), (q4, .inl (g.2.2.1, 12, .inl (fun _ => 0))), (q5, .inl (g.2.2.1, 48, .inl (fun _ => 0))), (q6, .inl (g.2.2.1, 144, .inl (fun _ => 0)))]) [7] [0, 1, 2, 3, 4, 5, 6] (c_X5_init l g q7) gX7_init_X5_init rfl rfl rfl rfl hz_5 hm_5 pk_X5_init.2 ⟨(Nat.le_of_ble_eq_true rfl), (Nat.le_of_ble_eq_true rfl)⟩ hl_25 (fun q h => absurd h List.not_mem_nil) rfl rfl rfl rfl rfl (by decide) (Nat.le_of_ble_eq_true rfl) ⟨(Nat.le_of_ble_eq_true rfl), (Nat.le_of_ble_eq_true rfl)⟩ dX7_init_31 ?_
  rintro _ ⟨q8, q9, q10, rfl⟩
  refine rc_ws (ws' := [(h0, .inr (7, [.ref q1, .ref q3, .null, .null, .null, .null, .null, .null, .null, .null])), (q1, .inr (0, [.ref q2, .long (lI 1), .long (lI 2)])), (q2, .inl (g.2.2.1, 9, .inl (fun _ => 0))), (q3, .inr (2, [.ref q4, .ref q5, .ref q6, .int (nI 0)])), (q4, .inl (g.2.2.1, 12, .inl (fun _ => 0))), (q5, .inl (g.2.2.1, 48, .inl (fun _ => 0))), (q6, .inl (g.2.2.1, 144, .inl (fun _ => 0))), (q7, .inr (5, [.ref q8, .ref q9, .ref q10])), (q9, .inl (g.2.2.1, 4, .inl (fun _ => 0))), (q10, .inl (g.2.2.1, 240, .inl (fun _ => 0))), (q8, .inl (g.2.2.1, 4, .inl (upd (upd (upd (upd (fun _ => 0) 0 ((-1))) 1 ((-1))) 2 ((-1))) 3 ((-1)))))]) rfl ?_
  refine rc_putF C N 0 (ty := .object "AgainAgain$Sheets") (j := 2) rfl rfl hin_X7 tyX7 tyX7_ok nmX7 (by decide) hk_26 rfl rfl (by decide +kernel) rfl rfl (Nat.le_of_ble_eq_true rfl) dX7_init_34 ?_
  refine rc_ws (ws' := [(h0, .inr (7, [.ref q1, .ref q3, .ref q7, .null, .null, .null, .null, .null, .null, .null])), (q1, .inr (0, [.ref q2, .long (lI 1), .long (lI 2)])), (q2, .inl (g.2.2.1, 9, .inl (fun _ => 0))), (q3, .inr (2, [.ref q4, .ref q5, .ref q6, .int (nI 0)])), (q4, .inl (g.2.2.1, 12, .inl (fun _ => 0))), (q5, .inl (g.2.2.1, 48, .inl (fun _ => 0))), (q6, .inl (g.2.2.1, 144, .inl (fun _ => 0))), (q7, .inr (5, [.ref q8, .ref q9, .ref q10])), (q9, .inl (g.2.2.1, 4, .inl (fun _ => 0))), (q10, .inl (g.2.2.1, 240, .inl (fun _ => 0))), (q8, .inl (g.2.2.1, 4, .inl (upd (upd (upd (upd (fun _ => 0) 0 ((-1))) 1 ((-1))) 2 ((-1))) 3 ((-1)))))]) rfl ?_
  refine r_aload_n C 0 dX7_init_37 rfl rfl ?_
  refine rc_new C (ci := 1) (fs := [.null]) tyX1 tyX1_ok hin_X1 hc_30 hi_1 hz_1 rfl (fun j hj => by rcases (show j = 0 by omega) with rfl <;> rfl) (Nat.le_of_ble_eq_true rfl) (Nat.le_of_ble_eq_true rfl) dX7_init_38 (fun q11 => ?_)
  refine rc_ws (ws' := [(h0, .inr (7, [.ref q1, .ref q3, .ref q7, .null, .null, .null, .null, .null, .null, .null])), (q1, .inr (0, [.ref q2, .long (lI 1), .long (lI 2)])), (q2, .inl (g.2.2.1, 9, .inl (fun _ => 0))), (q3, .inr (2, [.ref q4, .ref q5, .ref q6, .int (nI 0)])), (q4, .inl (g.2.2.1, 12, .inl (fun _ => 0))), (q5, .inl (g.2.2.1, 48, .inl (fun _ => 0))), (q6, .inl (g.2.2.1, 144, .inl (fun _ => 0))), (q7, .inr (5, [.ref q8, .ref q9, .ref q10])), (q9, .inl (g.2.2.1, 4, .inl (fun _ => 0))), (q10, .inl (g.2.2.1, 240, .inl (fun _ => 0))), (q8, .inl (g.2.2.1, 4, .inl (upd (upd (upd (upd (fun _ => 0) 0 ((-1))) 1 ((-1))) 2 ((-1))) 3 ((-1))))), (q11, .inr (1, [.null]))]) rfl ?_
  refine r_dup C dX7_init_41 rfl ?_
  refine rc_initN C N (host := "AgainAgain") (wr := [(h0, .inr (7, [.ref q1, .ref q3, .ref q7, .null, .null, .null, .null, .null, .null, .null])), (q1, .inr (0, [.ref q2, .long (lI 1), .long (lI 2)])), (q2, .inl (g.2.2.1, 9, .inl (fun _ => 0))), (q3, .inr (2, [.ref q4, .ref q5, .ref q6, .int (nI 0)])), (q4, .inl (g.2.2.1, 12, .inl (fun _ => 0))), (q5, .inl (g.2.2.1, 48, .inl (fun _ => 0))), (q6, .inl (g.2.2.1, 144, .inl (fun _ => 0))), (q7, .inr (5, [.ref q8, .ref q9, .ref q10])), (q9, .inl (g.2.2.1, 4, .inl (fun _ => 0))), (q10, .inl (g.2.2.1, 240, .inl (fun _ => 0))), (q8, .inl (g.2.2.1, 4, .inl (upd (upd (upd (upd (fun _ => 0) 0 ((-1))) 1 ((-1))) 2 ((-1))) 3 ((-1)))))]) [11] [0, 1, 2, 3, 4, 5, 6, 7, 8, 9, 10] (c_X1_init l g q11) gX7_init_X1_init_n32 rfl rfl rfl rfl hz_1 hm_1 pk_X1_init.2 ⟨(Nat.le_of_ble_eq_true rfl), (Nat.le_of_ble_eq_true rfl)⟩ (List.mem_of_getElem? (i := 2) rfl) (fun q h => absurd h List.not_mem_nil) rfl rfl rfl rfl rfl (by decide) (Nat.le_of_ble_eq_true rfl) ⟨(Nat.le_of_ble_eq_true rfl), (Nat.le_of_ble_eq_true rfl)⟩ dX7_init_42 ?_
  rintro _ ⟨q12, rfl⟩
  refine rc_ws (ws' := [(h0, .inr (7, [.ref q1, .ref q3, .ref q7, .null, .null, .null, .null, .null, .null, .null])), (q1, .inr (0, [.ref q2, .long (lI 1), .long (lI 2)])), (q2, .inl (g.2.2.1, 9, .inl (fun _ => 0))), (q3, .inr (2, [.ref q4, .ref q5, .ref q6, .int (nI 0)])), (q4, .inl (g.2.2.1, 12, .inl (fun _ => 0))), (q5, .inl (g.2.2.1, 48, .inl (fun _ => 0))), (q6, .inl (g.2.2.1, 144, .inl (fun _ => 0))), (q7, .inr (5, [.ref q8, .ref q9, .ref q10])), (q9, .inl (g.2.2.1, 4, .inl (fun _ => 0))), (q10, .inl (g.2.2.1, 240, .inl (fun _ => 0))), (q8, .inl (g.2.2.1, 4, .inl (upd (upd (upd (upd (fun _ => 0) 0 ((-1))) 1 ((-1))) 2 ((-1))) 3 ((-1))))), (q11, .inr (1, [.ref q12])), (q12, .inl (g.2.2.1, 16, .inl (fun _ => 0)))]) rfl ?_
  refine rc_putF C N 0 (ty := .object "AgainAgain$Likeness") (j := 3) rfl rfl hin_X7 tyX7 tyX7_ok nmX7 (by decide) hk_33 rfl rfl (by decide +kernel) rfl rfl (Nat.le_of_ble_eq_true rfl) dX7_init_45 ?_
  refine rc_ws (ws' := [(h0, .inr (7, [.ref q1, .ref q3, .ref q7, .ref q11, .null, .null, .null, .null, .null, .null])), (q1, .inr (0, [.ref q2, .long (lI 1), .long (lI 2)])), (q2, .inl (g.2.2.1, 9, .inl (fun _ => 0))), (q3, .inr (2, [.ref q4, .ref q5, .ref q6, .int (nI 0)])), (q4, .inl (g.2.2.1, 12, .inl (fun _ => 0))), (q5, .inl (g.2.2.1, 48, .inl (fun _ => 0))), (q6, .inl (g.2.2.1, 144, .inl (fun _ => 0))), (q7, .inr (5, [.ref q8, .ref q9, .ref q10])), (q9, .inl (g.2.2.1, 4, .inl (fun _ => 0))), (q10, .inl (g.2.2.1, 240, .inl (fun _ => 0))), (q8, .inl (g.2.2.1, 4, .inl (upd (upd (upd (upd (fun _ => 0) 0 ((-1))) 1 ((-1))) 2 ((-1))) 3 ((-1))))), (q11, .inr (1, [.ref q12])), (q12, .inl (g.2.2.1, 16, .inl (fun _ => 0)))]) rfl ?_
  refine r_aload_n C 0 dX7_init_48 rfl rfl ?_
  refine rc_new C (ci := 3) (fs := [.null, .null, .null, .null, .null]) tyX3 tyX3_ok hin_X3 hc_37 hi_3 hz_3 rfl (fun j hj => by rcases (show j = 0 ∨ j = 1 ∨ j = 2 ∨ j = 3 ∨ j = 4 by omega) with rfl | rfl | rfl | rfl | rfl <;> rfl) (Nat.le_of_ble_eq_true rfl) (Nat.le_of_ble_eq_true rfl) dX7_init_49 (fun q13 => ?_)
  refine rc_ws (ws' := [(h0, .inr (7, [.ref q1, .ref q3, .ref q7, .ref q11, .null, .null, .null, .null, .null, .null])), (q1, .inr (0, [.ref q2, .long (lI 1), .long (lI 2)])), (q2, .inl (g.2.2.1, 9, .inl (fun _ => 0))), (q3, .inr (2, [.ref q4, .ref q5, .ref q6, .int (nI 0)])), (q4, .inl (g.2.2.1, 12, .inl (fun _ => 0))), (q5, .inl (g.2.2.1, 48, .inl (fun _ => 0))), (q6, .inl (g.2.2.1, 144, .inl (fun _ => 0))), (q7, .inr (5, [.ref q8, .ref q9, .ref q10])), (q9, .inl (g.2.2.1, 4, .inl (fun _ => 0))), (q10, .inl (g.2.2.1, 240, .inl (fun _ => 0))), (q8, .inl (g.2.2.1, 4, .inl (upd (upd (upd (upd (fun _ => 0) 0 ((-1))) 1 ((-1))) 2 ((-1))) 3 ((-1))))), (q11, .inr (1, [.ref q12])), (q12, .inl (g.2.2.1, 16, .inl (fun _ => 0))), (q13, .inr (3, [.null, .null, .null, .null, .null]))]) rfl ?_
  refine r_dup C dX7_init_52 rfl ?_
  refine rc_initN C N (host := "AgainAgain") (wr := [(h0, .inr (7, [.ref q1, .ref q3, .ref q7, .ref q11, .null, .null, .null, .null, .null, .null])), (q1, .inr (0, [.ref q2, .long (lI 1), .long (lI 2)])), (q2, .inl (g.2.2.1, 9, .inl (fun _ => 0))), (q3, .inr (2, [.ref q4, .ref q5, .ref q6, .int (nI 0)])), (q4, .inl (g.2.2.1, 12, .inl (fun _ => 0))), (q5, .inl (g.2.2.1, 48, .inl (fun _ => 0))), (q6, .inl (g.2.2.1, 144, .inl (fun _ => 0))), (q7, .inr (5, [.ref q8, .ref q9, .ref q10])), (q9, .inl (g.2.2.1, 4, .inl (fun _ => 0))), (q10, .inl (g.2.2.1, 240, .inl (fun _ => 0))), (q8, .inl (g.2.2.1, 4, .inl (upd (upd (upd (upd (fun _ => 0) 0 ((-1))) 1 ((-1))) 2 ((-1))) 3 ((-1))))), (q11, .inr (1, [.ref q12])), (q12, .inl (g.2.2.1, 16, .inl (fun _ => 0)))]) [13] [0, 1, 2, 3, 4, 5, 6, 7, 8, 9, 10, 11, 12] (c_X3_init l g q13) gX7_init_X3_init_n39 rfl rfl rfl rfl hz_3 hm_3 pk_X3_init.2 ⟨(Nat.le_of_ble_eq_true rfl), (Nat.le_of_ble_eq_true rfl)⟩ (List.mem_of_getElem? (i := 3) rfl) (fun q h => List.mem_append_right _ h) rfl rfl rfl rfl rfl (by decide) (Nat.le_of_ble_eq_true rfl) ⟨(Nat.le_of_ble_eq_true rfl), (Nat.le_of_ble_eq_true rfl)⟩ dX7_init_53 ?_
  rintro _ ⟨q14, q15, q16, q17, q18, q19, q20, q21, q22, rfl⟩
  refine rc_ws (ws' := [(h0, .inr (7, [.ref q1, .ref q3, .ref q7, .ref q11, .null, .null, .null, .null, .null, .null])), (q1, .inr (0, [.ref q2, .long (lI 1), .long (lI 2)])), (q2, .inl (g.2.2.1, 9, .inl (fun _ => 0))), (q3, .inr (2, [.ref q4, .ref q5, .ref q6, .int (nI 0)])), (q4, .inl (g.2.2.1, 12, .inl (fun _ => 0))), (q5, .inl (g.2.2.1, 48, .inl (fun _ => 0))), (q6, .inl (g.2.2.1, 144, .inl (fun _ => 0))), (q7, .inr (5, [.ref q8, .ref q9, .ref q10])), (q9, .inl (g.2.2.1, 4, .inl (fun _ => 0))), (q10, .inl (g.2.2.1, 240, .inl (fun _ => 0))), (q8, .inl (g.2.2.1, 4, .inl (upd (upd (upd (upd (fun _ => 0) 0 ((-1))) 1 ((-1))) 2 ((-1))) 3 ((-1))))), (q11, .inr (1, [.ref q12])), (q12, .inl (g.2.2.1, 16, .inl (fun _ => 0))), (q13, .inr (3, [.ref q14, .ref q15, .ref q16, .ref q17, .ref q22])), (q14, .inl (g.2.2.1, 48, .inl (fun _ => 0))), (q15, .inl (g.2.2.2.1, 48, .inr (.inl (fun _ => 0)))), (q16, .inl (g.2.2.2.1, 48, .inr (.inl (fun _ => 0)))), (q17, .inr (6, [.ref q18, .ref q19, .ref q20, .ref q21, .int (nI 0), .int (nI 1)])), (q18, .inl (g.2.2.1, 16, .inl (fun _ => 0))), (q19, .inl (g.2.2.1, 16, .inl (fun _ => 0))), (q20, .inl (g.2.2.1, 16, .inl (fun _ => 0))), (q21, .inl (g.2.2.1, 16, .inl (fun _ => 0))), (q22, .inr (4, [.long (lI 0), .long (lI 1)]))]) rfl ?_
  refine rc_putF C N 0 (ty := .object "AgainAgain$Plans") (j := 4) rfl rfl hin_X7 tyX7 tyX7_ok nmX7 (by decide) hk_40 rfl rfl (by decide +kernel) rfl rfl (Nat.le_of_ble_eq_true rfl) dX7_init_56 ?_
  refine rc_ws (ws' := [(h0, .inr (7, [.ref q1, .ref q3, .ref q7, .ref q11, .ref q13, .null, .null, .null, .null, .null])), (q1, .inr (0, [.ref q2, .long (lI 1), .long (lI 2)])), (q2, .inl (g.2.2.1, 9, .inl (fun _ => 0))), (q3, .inr (2, [.ref q4, .ref q5, .ref q6, .int (nI 0)])), (q4, .inl (g.2.2.1, 12, .inl (fun _ => 0))), (q5, .inl (g.2.2.1, 48, .inl (fun _ => 0))), (q6, .inl (g.2.2.1, 144, .inl (fun _ => 0))), (q7, .inr (5, [.ref q8, .ref q9, .ref q10])), (q9, .inl (g.2.2.1, 4, .inl (fun _ => 0))), (q10, .inl (g.2.2.1, 240, .inl (fun _ => 0))), (q8, .inl (g.2.2.1, 4, .inl (upd (upd (upd (upd (fun _ => 0) 0 ((-1))) 1 ((-1))) 2 ((-1))) 3 ((-1))))), (q11, .inr (1, [.ref q12])), (q12, .inl (g.2.2.1, 16, .inl (fun _ => 0))), (q13, .inr (3, [.ref q14, .ref q15, .ref q16, .ref q17, .ref q22])), (q14, .inl (g.2.2.1, 48, .inl (fun _ => 0))), (q15, .inl (g.2.2.2.1, 48, .inr (.inl (fun _ => 0)))), (q16, .inl (g.2.2.2.1, 48, .inr (.inl (fun _ => 0)))), (q17, .inr (6, [.ref q18, .ref q19, .ref q20, .ref q21, .int (nI 0), .int (nI 1)])), (q18, .inl (g.2.2.1, 16, .inl (fun _ => 0))), (q19, .inl (g.2.2.1, 16, .inl (fun _ => 0))), (q20, .inl (g.2.2.1, 16, .inl (fun _ => 0))), (q21, .inl (g.2.2.1, 16, .inl (fun _ => 0))), (q22, .inr (4, [.long (lI 0), .long (lI 1)]))]) rfl ?_
  refine r_aload_n C 0 dX7_init_59 rfl rfl ?_
  refine rc_new C (ci := 6) (fs := [.null, .null, .null, .null, .int 0, .int 0]) tyX6 tyX6_ok hin_X6 hc_44 hi_6 hz_6 rfl (fun j hj => by rcases (show j = 0 ∨ j = 1 ∨ j = 2 ∨ j = 3 ∨ j = 4 ∨ j = 5 by omega) with rfl | rfl | rfl | rfl | rfl | rfl <;> rfl) (Nat.le_of_ble_eq_true rfl) (Nat.le_of_ble_eq_true rfl) dX7_init_60 (fun q23 => ?_)
  refine rc_ws (ws' := [(h0, .inr (7, [.ref q1, .ref q3, .ref q7, .ref q11, .ref q13, .null, .null, .null, .null, .null])), (q1, .inr (0, [.ref q2, .long (lI 1), .long (lI 2)])), (q2, .inl (g.2.2.1, 9, .inl (fun _ => 0))), (q3, .inr (2, [.ref q4, .ref q5, .ref q6, .int (nI 0)])), (q4, .inl (g.2.2.1, 12, .inl (fun _ => 0))), (q5, .inl (g.2.2.1, 48, .inl (fun _ => 0))), (q6, .inl (g.2.2.1, 144, .inl (fun _ => 0))), (q7, .inr (5, [.ref q8, .ref q9, .ref q10])), (q9, .inl (g.2.2.1, 4, .inl (fun _ => 0))), (q10, .inl (g.2.2.1, 240, .inl (fun _ => 0))), (q8, .inl (g.2.2.1, 4, .inl (upd (upd (upd (upd (fun _ => 0) 0 ((-1))) 1 ((-1))) 2 ((-1))) 3 ((-1))))), (q11, .inr (1, [.ref q12])), (q12, .inl (g.2.2.1, 16, .inl (fun _ => 0))), (q13, .inr (3, [.ref q14, .ref q15, .ref q16, .ref q17, .ref q22])), (q14, .inl (g.2.2.1, 48, .inl (fun _ => 0))), (q15, .inl (g.2.2.2.1, 48, .inr (.inl (fun _ => 0)))), (q16, .inl (g.2.2.2.1, 48, .inr (.inl (fun _ => 0)))), (q17, .inr (6, [.ref q18, .ref q19, .ref q20, .ref q21, .int (nI 0), .int (nI 1)])), (q18, .inl (g.2.2.1, 16, .inl (fun _ => 0))), (q19, .inl (g.2.2.1, 16, .inl (fun _ => 0))), (q20, .inl (g.2.2.1, 16, .inl (fun _ => 0))), (q21, .inl (g.2.2.1, 16, .inl (fun _ => 0))), (q22, .inr (4, [.long (lI 0), .long (lI 1)])), (q23, .inr (6, [.null, .null, .null, .null, .int 0, .int 0]))]) rfl ?_
  refine r_dup C dX7_init_63 rfl ?_
  refine rc_initN C N (host := "AgainAgain") (wr := [(h0, .inr (7, [.ref q1, .ref q3, .ref q7, .ref q11, .ref q13, .null, .null, .null, .null, .null])), (q1, .inr (0, [.ref q2, .long (lI 1), .long (lI 2)])), (q2, .inl (g.2.2.1, 9, .inl (fun _ => 0))), (q3, .inr (2, [.ref q4, .ref q5, .ref q6, .int (nI 0)])), (q4, .inl (g.2.2.1, 12, .inl (fun _ => 0))), (q5, .inl (g.2.2.1, 48, .inl (fun _ => 0))), (q6, .inl (g.2.2.1, 144, .inl (fun _ => 0))), (q7, .inr (5, [.ref q8, .ref q9, .ref q10])), (q9, .inl (g.2.2.1, 4, .inl (fun _ => 0))), (q10, .inl (g.2.2.1, 240, .inl (fun _ => 0))), (q8, .inl (g.2.2.1, 4, .inl (upd (upd (upd (upd (fun _ => 0) 0 ((-1))) 1 ((-1))) 2 ((-1))) 3 ((-1))))), (q11, .inr (1, [.ref q12])), (q12, .inl (g.2.2.1, 16, .inl (fun _ => 0))), (q13, .inr (3, [.ref q14, .ref q15, .ref q16, .ref q17, .ref q22])), (q14, .inl (g.2.2.1, 48, .inl (fun _ => 0))), (q15, .inl (g.2.2.2.1, 48, .inr (.inl (fun _ => 0)))), (q16, .inl (g.2.2.2.1, 48, .inr (.inl (fun _ => 0)))), (q17, .inr (6, [.ref q18, .ref q19, .ref q20, .ref q21, .int (nI 0), .int (nI 1)])), (q18, .inl (g.2.2.1, 16, .inl (fun _ => 0))), (q19, .inl (g.2.2.1, 16, .inl (fun _ => 0))), (q20, .inl (g.2.2.1, 16, .inl (fun _ => 0))), (q21, .inl (g.2.2.1, 16, .inl (fun _ => 0))), (q22, .inr (4, [.long (lI 0), .long (lI 1)]))]) [23] [0, 1, 2, 3, 4, 5, 6, 7, 8, 9, 10, 11, 12, 13, 14, 15, 16, 17, 18, 19, 20, 21, 22] (c_X6_init l g q23) gX7_init_X6_init_n46 rfl rfl rfl rfl hz_6 hm_6 pk_X6_init.2 ⟨(Nat.le_of_ble_eq_true rfl), (Nat.le_of_ble_eq_true rfl)⟩ (List.mem_of_getElem? (i := 4) rfl) (fun q h => absurd h List.not_mem_nil) rfl rfl rfl rfl rfl (by decide) (Nat.le_of_ble_eq_true rfl) ⟨(Nat.le_of_ble_eq_true rfl), (Nat.le_of_ble_eq_true rfl)⟩ dX7_init_64 ?_
  rintro _ ⟨q24, q25, q26, q27, rfl⟩
  refine rc_ws (ws' := [(h0, .inr (7, [.ref q1, .ref q3, .ref q7, .ref q11, .ref q13, .null, .null, .null, .null, .null])), (q1, .inr (0, [.ref q2, .long (lI 1), .long (lI 2)])), (q2, .inl (g.2.2.1, 9, .inl (fun _ => 0))), (q3, .inr (2, [.ref q4, .ref q5, .ref q6, .int (nI 0)])), (q4, .inl (g.2.2.1, 12, .inl (fun _ => 0))), (q5, .inl (g.2.2.1, 48, .inl (fun _ => 0))), (q6, .inl (g.2.2.1, 144, .inl (fun _ => 0))), (q7, .inr (5, [.ref q8, .ref q9, .ref q10])), (q9, .inl (g.2.2.1, 4, .inl (fun _ => 0))), (q10, .inl (g.2.2.1, 240, .inl (fun _ => 0))), (q8, .inl (g.2.2.1, 4, .inl (upd (upd (upd (upd (fun _ => 0) 0 ((-1))) 1 ((-1))) 2 ((-1))) 3 ((-1))))), (q11, .inr (1, [.ref q12])), (q12, .inl (g.2.2.1, 16, .inl (fun _ => 0))), (q13, .inr (3, [.ref q14, .ref q15, .ref q16, .ref q17, .ref q22])), (q14, .inl (g.2.2.1, 48, .inl (fun _ => 0))), (q15, .inl (g.2.2.2.1, 48, .inr (.inl (fun _ => 0)))), (q16, .inl (g.2.2.2.1, 48, .inr (.inl (fun _ => 0)))), (q17, .inr (6, [.ref q18, .ref q19, .ref q20, .ref q21, .int (nI 0), .int (nI 1)])), (q18, .inl (g.2.2.1, 16, .inl (fun _ => 0))), (q19, .inl (g.2.2.1, 16, .inl (fun _ => 0))), (q20, .inl (g.2.2.1, 16, .inl (fun _ => 0))), (q21, .inl (g.2.2.1, 16, .inl (fun _ => 0))), (q22, .inr (4, [.long (lI 0), .long (lI 1)])), (q23, .inr (6, [.ref q24, .ref q25, .ref q26, .ref q27, .int (nI 0), .int (nI 1)])), (q24, .inl (g.2.2.1, 16, .inl (fun _ => 0))), (q25, .inl (g.2.2.1, 16, .inl (fun _ => 0))), (q26, .inl (g.2.2.1, 16, .inl (fun _ => 0))), (q27, .inl (g.2.2.1, 16, .inl (fun _ => 0)))]) rfl ?_
  refine rc_putF C N 0 (ty := .object "AgainAgain$Walk") (j := 5) rfl rfl hin_X7 tyX7 tyX7_ok nmX7 (by decide) hk_47 rfl rfl (by decide +kernel) rfl rfl (Nat.le_of_ble_eq_true rfl) dX7_init_67 ?_
  refine rc_ws (ws' := [(h0, .inr (7, [.ref q1, .ref q3, .ref q7, .ref q11, .ref q13, .ref q23, .null, .null, .null, .null])), (q1, .inr (0, [.ref q2, .long (lI 1), .long (lI 2)])), (q2, .inl (g.2.2.1, 9, .inl (fun _ => 0))), (q3, .inr (2, [.ref q4, .ref q5, .ref q6, .int (nI 0)])), (q4, .inl (g.2.2.1, 12, .inl (fun _ => 0))), (q5, .inl (g.2.2.1, 48, .inl (fun _ => 0))), (q6, .inl (g.2.2.1, 144, .inl (fun _ => 0))), (q7, .inr (5, [.ref q8, .ref q9, .ref q10])), (q9, .inl (g.2.2.1, 4, .inl (fun _ => 0))), (q10, .inl (g.2.2.1, 240, .inl (fun _ => 0))), (q8, .inl (g.2.2.1, 4, .inl (upd (upd (upd (upd (fun _ => 0) 0 ((-1))) 1 ((-1))) 2 ((-1))) 3 ((-1))))), (q11, .inr (1, [.ref q12])), (q12, .inl (g.2.2.1, 16, .inl (fun _ => 0))), (q13, .inr (3, [.ref q14, .ref q15, .ref q16, .ref q17, .ref q22])), (q14, .inl (g.2.2.1, 48, .inl (fun _ => 0))), (q15, .inl (g.2.2.2.1, 48, .inr (.inl (fun _ => 0)))), (q16, .inl (g.2.2.2.1, 48, .inr (.inl (fun _ => 0)))), (q17, .inr (6, [.ref q18, .ref q19, .ref q20, .ref q21, .int (nI 0), .int (nI 1)])), (q18, .inl (g.2.2.1, 16, .inl (fun _ => 0))), (q19, .inl (g.2.2.1, 16, .inl (fun _ => 0))), (q20, .inl (g.2.2.1, 16, .inl (fun _ => 0))), (q21, .inl (g.2.2.1, 16, .inl (fun _ => 0))), (q22, .inr (4, [.long (lI 0), .long (lI 1)])), (q23, .inr (6, [.ref q24, .ref q25, .ref q26, .ref q27, .int (nI 0), .int (nI 1)])), (q24, .inl (g.2.2.1, 16, .inl (fun _ => 0))), (q25, .inl (g.2.2.1, 16, .inl (fun _ => 0))), (q26, .inl (g.2.2.1, 16, .inl (fun _ => 0))), (q27, .inl (g.2.2.1, 16, .inl (fun _ => 0)))]) rfl ?_
  refine r_aload_n C 0 dX7_init_70 rfl rfl ?_
  refine rc_new C (ci := 6) (fs := [.null, .null, .null, .null, .int 0, .int 0]) tyX6 tyX6_ok hin_X6 hc_44 hi_6 hz_6 rfl (fun j hj => by rcases (show j = 0 ∨ j = 1 ∨ j = 2 ∨ j = 3 ∨ j = 4 ∨ j = 5 by omega) with rfl | rfl | rfl | rfl | rfl | rfl <;> rfl) (Nat.le_of_ble_eq_true rfl) (Nat.le_of_ble_eq_true rfl) dX7_init_71 (fun q28 => ?_)
  refine rc_ws (ws' := [(h0, .inr (7, [.ref q1, .ref q3, .ref q7, .ref q11, .ref q13, .ref q23, .null, .null, .null, .null])), (q1, .inr (0, [.ref q2, .long (lI 1), .long (lI 2)])), (q2, .inl (g.2.2.1, 9, .inl (fun _ => 0))), (q3, .inr (2, [.ref q4, .ref q5, .ref q6, .int (nI 0)])), (q4, .inl (g.2.2.1, 12, .inl (fun _ => 0))), (q5, .inl (g.2.2.1, 48, .inl (fun _ => 0))), (q6, .inl (g.2.2.1, 144, .inl (fun _ => 0))), (q7, .inr (5, [.ref q8, .ref q9, .ref q10])), (q9, .inl (g.2.2.1, 4, .inl (fun _ => 0))), (q10, .inl (g.2.2.1, 240, .inl (fun _ => 0))), (q8, .inl (g.2.2.1, 4, .inl (upd (upd (upd (upd (fun _ => 0) 0 ((-1))) 1 ((-1))) 2 ((-1))) 3 ((-1))))), (q11, .inr (1, [.ref q12])), (q12, .inl (g.2.2.1, 16, .inl (fun _ => 0))), (q13, .inr (3, [.ref q14, .ref q15, .ref q16, .ref q17, .ref q22])), (q14, .inl (g.2.2.1, 48, .inl (fun _ => 0))), (q15, .inl (g.2.2.2.1, 48, .inr (.inl (fun _ => 0)))), (q16, .inl (g.2.2.2.1, 48, .inr (.inl (fun _ => 0)))), (q17, .inr (6, [.ref q18, .ref q19, .ref q20, .ref q21, .int (nI 0), .int (nI 1)])), (q18, .inl (g.2.2.1, 16, .inl (fun _ => 0))), (q19, .inl (g.2.2.1, 16, .inl (fun _ => 0))), (q20, .inl (g.2.2.1, 16, .inl (fun _ => 0))), (q21, .inl (g.2.2.1, 16, .inl (fun _ => 0))), (q22, .inr (4, [.long (lI 0), .long (lI 1)])), (q23, .inr (6, [.ref q24, .ref q25, .ref q26, .ref q27, .int (nI 0), .int (nI 1)])), (q24, .inl (g.2.2.1, 16, .inl (fun _ => 0))), (q25, .inl (g.2.2.1, 16, .inl (fun _ => 0))), (q26, .inl (g.2.2.1, 16, .inl (fun _ => 0))), (q27, .inl (g.2.2.1, 16, .inl (fun _ => 0))), (q28, .inr (6, [.null, .null, .null, .null, .int 0, .int 0]))]) rfl ?_
  refine r_dup C dX7_init_74 rfl ?_
  refine rc_initN C N (host := "AgainAgain") (wr := [(h0, .inr (7, [.ref q1, .ref q3, .ref q7, .ref q11, .ref q13, .ref q23, .null, .null, .null, .null])), (q1, .inr (0, [.ref q2, .long (lI 1), .long (lI 2)])), (q2, .inl (g.2.2.1, 9, .inl (fun _ => 0))), (q3, .inr (2, [.ref q4, .ref q5, .ref q6, .int (nI 0)])), (q4, .inl (g.2.2.1, 12, .inl (fun _ => 0))), (q5, .inl (g.2.2.1, 48, .inl (fun _ => 0))), (q6, .inl (g.2.2.1, 144, .inl (fun _ => 0))), (q7, .inr (5, [.ref q8, .ref q9, .ref q10])), (q9, .inl (g.2.2.1, 4, .inl (fun _ => 0))), (q10, .inl (g.2.2.1, 240, .inl (fun _ => 0))), (q8, .inl (g.2.2.1, 4, .inl (upd (upd (upd (upd (fun _ => 0) 0 ((-1))) 1 ((-1))) 2 ((-1))) 3 ((-1))))), (q11, .inr (1, [.ref q12])), (q12, .inl (g.2.2.1, 16, .inl (fun _ => 0))), (q13, .inr (3, [.ref q14, .ref q15, .ref q16, .ref q17, .ref q22])), (q14, .inl (g.2.2.1, 48, .inl (fun _ => 0))), (q15, .inl (g.2.2.2.1, 48, .inr (.inl (fun _ => 0)))), (q16, .inl (g.2.2.2.1, 48, .inr (.inl (fun _ => 0)))), (q17, .inr (6, [.ref q18, .ref q19, .ref q20, .ref q21, .int (nI 0), .int (nI 1)])), (q18, .inl (g.2.2.1, 16, .inl (fun _ => 0))), (q19, .inl (g.2.2.1, 16, .inl (fun _ => 0))), (q20, .inl (g.2.2.1, 16, .inl (fun _ => 0))), (q21, .inl (g.2.2.1, 16, .inl (fun _ => 0))), (q22, .inr (4, [.long (lI 0), .long (lI 1)])), (q23, .inr (6, [.ref q24, .ref q25, .ref q26, .ref q27, .int (nI 0), .int (nI 1)])), (q24, .inl (g.2.2.1, 16, .inl (fun _ => 0))), (q25, .inl (g.2.2.1, 16, .inl (fun _ => 0))), (q26, .inl (g.2.2.1, 16, .inl (fun _ => 0))), (q27, .inl (g.2.2.1, 16, .inl (fun _ => 0)))]) [28] [0, 1, 2, 3, 4, 5, 6, 7, 8, 9, 10, 11, 12, 13, 14, 15, 16, 17, 18, 19, 20, 21, 22, 23, 24, 25, 26, 27] (c_X6_init l g q28) gX7_init_X6_init_n46 rfl rfl rfl rfl hz_6 hm_6 pk_X6_init.2 ⟨(Nat.le_of_ble_eq_true rfl), (Nat.le_of_ble_eq_true rfl)⟩ (List.mem_of_getElem? (i := 4) rfl) (fun q h => absurd h List.not_mem_nil) rfl rfl rfl rfl rfl (by decide) (Nat.le_of_ble_eq_true rfl) ⟨(Nat.le_of_ble_eq_true rfl), (Nat.le_of_ble_eq_true rfl)⟩ dX7_init_75 ?_
  rintro _ ⟨q29, q30, q31, q32, rfl⟩
  refine rc_ws (ws' := [(h0, .inr (7, [.ref q1, .ref q3, .ref q7, .ref q11, .ref q13, .ref q23, .null, .null, .null, .null])), (q1, .inr (0, [.ref q2, .long (lI 1), .long (lI 2)])), (q2, .inl (g.2.2.1, 9, .inl (fun _ => 0))), (q3, .inr (2, [.ref q4, .ref q5, .ref q6, .int (nI 0)])), (q4, .inl (g.2.2.1, 12, .inl (fun _ => 0))), (q5, .inl (g.2.2.1, 48, .inl (fun _ => 0))), (q6, .inl (g.2.2.1, 144, .inl (fun _ => 0))), (q7, .inr (5, [.ref q8, .ref q9, .ref q10])), (q9, .inl (g.2.2.1, 4, .inl (fun _ => 0))), (q10, .inl (g.2.2.1, 240, .inl (fun _ => 0))), (q8, .inl (g.2.2.1, 4, .inl (upd (upd (upd (upd (fun _ => 0) 0 ((-1))) 1 ((-1))) 2 ((-1))) 3 ((-1))))), (q11, .inr (1, [.ref q12])), (q12, .inl (g.2.2.1, 16, .inl (fun _ => 0))), (q13, .inr (3, [.ref q14, .ref q15, .ref q16, .ref q17, .ref q22])), (q14, .inl (g.2.2.1, 48, .inl (fun _ => 0))), (q15, .inl (g.2.2.2.1, 48, .inr (.inl (fun _ => 0)))), (q16, .inl (g.2.2.2.1, 48, .inr (.inl (fun _ => 0)))), (q17, .inr (6, [.ref q18, .ref q19, .ref q20, .ref q21, .int (nI 0), .int (nI 1)])), (q18, .inl (g.2.2.1, 16, .inl (fun _ => 0))), (q19, .inl (g.2.2.1, 16, .inl (fun _ => 0))), (q20, .inl (g.2.2.1, 16, .inl (fun _ => 0))), (q21, .inl (g.2.2.1, 16, .inl (fun _ => 0))), (q22, .inr (4, [.long (lI 0), .long (lI 1)])), (q23, .inr (6, [.ref q24, .ref q25, .ref q26, .ref q27, .int (nI 0), .int (nI 1)])), (q24, .inl (g.2.2.1, 16, .inl (fun _ => 0))), (q25, .inl (g.2.2.1, 16, .inl (fun _ => 0))), (q26, .inl (g.2.2.1, 16, .inl (fun _ => 0))), (q27, .inl (g.2.2.1, 16, .inl (fun _ => 0))), (q28, .inr (6, [.ref q29, .ref q30, .ref q31, .ref q32, .int (nI 0), .int (nI 1)])), (q29, .inl (g.2.2.1, 16, .inl (fun _ => 0))), (q30, .inl (g.2.2.1, 16, .inl (fun _ => 0))), (q31, .inl (g.2.2.1, 16, .inl (fun _ => 0))), (q32, .inl (g.2.2.1, 16, .inl (fun _ => 0)))]) rfl ?_
  refine rc_putF C N 0 (ty := .object "AgainAgain$Walk") (j := 6) rfl rfl hin_X7 tyX7 tyX7_ok nmX7 (by decide) hk_51 rfl rfl (by decide +kernel) rfl rfl (Nat.le_of_ble_eq_true rfl) dX7_init_78 ?_
  refine rc_ws (ws' := [(h0, .inr (7, [.ref q1, .ref q3, .ref q7, .ref q11, .ref q13, .ref q23, .ref q28, .null, .null, .null])), (q1, .inr (0, [.ref q2, .long (lI 1), .long (lI 2)])), (q2, .inl (g.2.2.1, 9, .inl (fun _ => 0))), (q3, .inr (2, [.ref q4, .ref q5, .ref q6, .int (nI 0)])), (q4, .inl (g.2.2.1, 12, .inl (fun _ => 0))), (q5, .inl (g.2.2.1, 48, .inl (fun _ => 0))), (q6, .inl (g.2.2.1, 144, .inl (fun _ => 0))), (q7, .inr (5, [.ref q8, .ref q9, .ref q10])), (q9, .inl (g.2.2.1, 4, .inl (fun _ => 0))), (q10, .inl (g.2.2.1, 240, .inl (fun _ => 0))), (q8, .inl (g.2.2.1, 4, .inl (upd (upd (upd (upd (fun _ => 0) 0 ((-1))) 1 ((-1))) 2 ((-1))) 3 ((-1))))), (q11, .inr (1, [.ref q12])), (q12, .inl (g.2.2.1, 16, .inl (fun _ => 0))), (q13, .inr (3, [.ref q14, .ref q15, .ref q16, .ref q17, .ref q22])), (q14, .inl (g.2.2.1, 48, .inl (fun _ => 0))), (q15, .inl (g.2.2.2.1, 48, .inr (.inl (fun _ => 0)))), (q16, .inl (g.2.2.2.1, 48, .inr (.inl (fun _ => 0)))), (q17, .inr (6, [.ref q18, .ref q19, .ref q20, .ref q21, .int (nI 0), .int (nI 1)])), (q18, .inl (g.2.2.1, 16, .inl (fun _ => 0))), (q19, .inl (g.2.2.1, 16, .inl (fun _ => 0))), (q20, .inl (g.2.2.1, 16, .inl (fun _ => 0))), (q21, .inl (g.2.2.1, 16, .inl (fun _ => 0))), (q22, .inr (4, [.long (lI 0), .long (lI 1)])), (q23, .inr (6, [.ref q24, .ref q25, .ref q26, .ref q27, .int (nI 0), .int (nI 1)])), (q24, .inl (g.2.2.1, 16, .inl (fun _ => 0))), (q25, .inl (g.2.2.1, 16, .inl (fun _ => 0))), (q26, .inl (g.2.2.1, 16, .inl (fun _ => 0))), (q27, .inl (g.2.2.1, 16, .inl (fun _ => 0))), (q28, .inr (6, [.ref q29, .ref q30, .ref q31, .ref q32, .int (nI 0), .int (nI 1)])), (q29, .inl (g.2.2.1, 16, .inl (fun _ => 0))), (q30, .inl (g.2.2.1, 16, .inl (fun _ => 0))), (q31, .inl (g.2.2.1, 16, .inl (fun _ => 0))), (q32, .inl (g.2.2.1, 16, .inl (fun _ => 0)))]) rfl ?_
  refine r_aload_n C 0 dX7_init_81 rfl rfl ?_
  refine rc_new C (ci := 4) (fs := [.long 0, .long 0]) tyX4 tyX4_ok hin_X4 hc_54 hi_4 hz_4 rfl (fun j hj => by rcases (show j = 0 ∨ j = 1 by omega) with rfl | rfl <;> rfl) (Nat.le_of_ble_eq_true rfl) (Nat.le_of_ble_eq_true rfl) dX7_init_82 (fun q33 => ?_)
  refine rc_ws (ws' := [(h0, .inr (7, [.ref q1, .ref q3, .ref q7, .ref q11, .ref q13, .ref q23, .ref q28, .null, .null, .null])), (q1, .inr (0, [.ref q2, .long (lI 1), .long (lI 2)])), (q2, .inl (g.2.2.1, 9, .inl (fun _ => 0))), (q3, .inr (2, [.ref q4, .ref q5, .ref q6, .int (nI 0)])), (q4, .inl (g.2.2.1, 12, .inl (fun _ => 0))), (q5, .inl (g.2.2.1, 48, .inl (fun _ => 0))), (q6, .inl (g.2.2.1, 144, .inl (fun _ => 0))), (q7, .inr (5, [.ref q8, .ref q9, .ref q10])), (q9, .inl (g.2.2.1, 4, .inl (fun _ => 0))), (q10, .inl (g.2.2.1, 240, .inl (fun _ => 0))), (q8, .inl (g.2.2.1, 4, .inl (upd (upd (upd (upd (fun _ => 0) 0 ((-1))) 1 ((-1))) 2 ((-1))) 3 ((-1))))), (q11, .inr (1, [.ref q12])), (q12, .inl (g.2.2.1, 16, .inl (fun _ => 0))), (q13, .inr (3, [.ref q14, .ref q15, .ref q16, .ref q17, .ref q22])), (q14, .inl (g.2.2.1, 48, .inl (fun _ => 0))), (q15, .inl (g.2.2.2.1, 48, .inr (.inl (fun _ => 0)))), (q16, .inl (g.2.2.2.1, 48, .inr (.inl (fun _ => 0)))), (q17, .inr (6, [.ref q18, .ref q19, .ref q20, .ref q21, .int (nI 0), .int (nI 1)])), (q18, .inl (g.2.2.1, 16, .inl (fun _ => 0))), (q19, .inl (g.2.2.1, 16, .inl (fun _ => 0))), (q20, .inl (g.2.2.1, 16, .inl (fun _ => 0))), (q21, .inl (g.2.2.1, 16, .inl (fun _ => 0))), (q22, .inr (4, [.long (lI 0), .long (lI 1)])), (q23, .inr (6, [.ref q24, .ref q25, .ref q26, .ref q27, .int (nI 0), .int (nI 1)])), (q24, .inl (g.2.2.1, 16, .inl (fun _ => 0))), (q25, .inl (g.2.2.1, 16, .inl (fun _ => 0))), (q26, .inl (g.2.2.1, 16, .inl (fun _ => 0))), (q27, .inl (g.2.2.1, 16, .inl (fun _ => 0))), (q28, .inr (6, [.ref q29, .ref q30, .ref q31, .ref q32, .int (nI 0), .int (nI 1)])), (q29, .inl (g.2.2.1, 16, .inl (fun _ => 0))), (q30, .inl (g.2.2.1, 16, .inl (fun _ => 0))), (q31, .inl (g.2.2.1, 16, .inl (fun _ => 0))), (q32, .inl (g.2.2.1, 16, .inl (fun _ => 0))), (q33, .inr (4, [.long 0, .long 0]))]) rfl ?_
  refine r_dup C dX7_init_85 rfl ?_
  refine rc_initN C N (host := "AgainAgain") (wr := [(h0, .inr (7, [.ref q1, .ref q3, .ref q7, .ref q11, .ref q13, .ref q23, .ref q28, .null, .null, .null])), (q1, .inr (0, [.ref q2, .long (lI 1), .long (lI 2)])), (q2, .inl (g.2.2.1, 9, .inl (fun _ => 0))), (q3, .inr (2, [.ref q4, .ref q5, .ref q6, .int (nI 0)])), (q4, .inl (g.2.2.1, 12, .inl (fun _ => 0))), (q5, .inl (g.2.2.1, 48, .inl (fun _ => 0))), (q6, .inl (g.2.2.1, 144, .inl (fun _ => 0))), (q7, .inr (5, [.ref q8, .ref q9, .ref q10])), (q9, .inl (g.2.2.1, 4, .inl (fun _ => 0))), (q10, .inl (g.2.2.1, 240, .inl (fun _ => 0))), (q8, .inl (g.2.2.1, 4, .inl (upd (upd (upd (upd (fun _ => 0) 0 ((-1))) 1 ((-1))) 2 ((-1))) 3 ((-1))))), (q11, .inr (1, [.ref q12])), (q12, .inl (g.2.2.1, 16, .inl (fun _ => 0))), (q13, .inr (3, [.ref q14, .ref q15, .ref q16, .ref q17, .ref q22])), (q14, .inl (g.2.2.1, 48, .inl (fun _ => 0))), (q15, .inl (g.2.2.2.1, 48, .inr (.inl (fun _ => 0)))), (q16, .inl (g.2.2.2.1, 48, .inr (.inl (fun _ => 0)))), (q17, .inr (6, [.ref q18, .ref q19, .ref q20, .ref q21, .int (nI 0), .int (nI 1)])), (q18, .inl (g.2.2.1, 16, .inl (fun _ => 0))), (q19, .inl (g.2.2.1, 16, .inl (fun _ => 0))), (q20, .inl (g.2.2.1, 16, .inl (fun _ => 0))), (q21, .inl (g.2.2.1, 16, .inl (fun _ => 0))), (q22, .inr (4, [.long (lI 0), .long (lI 1)])), (q23, .inr (6, [.ref q24, .ref q25, .ref q26, .ref q27, .int (nI 0), .int (nI 1)])), (q24, .inl (g.2.2.1, 16, .inl (fun _ => 0))), (q25, .inl (g.2.2.1, 16, .inl (fun _ => 0))), (q26, .inl (g.2.2.1, 16, .inl (fun _ => 0))), (q27, .inl (g.2.2.1, 16, .inl (fun _ => 0))), (q28, .inr (6, [.ref q29, .ref q30, .ref q31, .ref q32, .int (nI 0), .int (nI 1)])), (q29, .inl (g.2.2.1, 16, .inl (fun _ => 0))), (q30, .inl (g.2.2.1, 16, .inl (fun _ => 0))), (q31, .inl (g.2.2.1, 16, .inl (fun _ => 0))), (q32, .inl (g.2.2.1, 16, .inl (fun _ => 0)))]) [33] [0, 1, 2, 3, 4, 5, 6, 7, 8, 9, 10, 11, 12, 13, 14, 15, 16, 17, 18, 19, 20, 21, 22, 23, 24, 25, 26, 27, 28, 29, 30, 31, 32] (c_X4_init l g q33) gX7_init_X4_init_n56 rfl rfl rfl rfl hz_4 hm_4 pk_X4_init.2 ⟨(Nat.le_of_ble_eq_true rfl), (Nat.le_of_ble_eq_true rfl)⟩ (List.mem_of_getElem? (i := 5) rfl) (fun q h => absurd h List.not_mem_nil) rfl rfl rfl rfl rfl (by decide) (Nat.le_of_ble_eq_true rfl) ⟨(Nat.le_of_ble_eq_true rfl), (Nat.le_of_ble_eq_true rfl)⟩ dX7_init_86 ?_
  rintro _ rfl
  refine rc_ws (ws' := [(h0, .inr (7, [.ref q1, .ref q3, .ref q7, .ref q11, .ref q13, .ref q23, .ref q28, .null, .null, .null])), (q1, .inr (0, [.ref q2, .long (lI 1), .long (lI 2)])), (q2, .inl (g.2.2.1, 9, .inl (fun _ => 0))), (q3, .inr (2, [.ref q4, .ref q5, .ref q6, .int (nI 0)])), (q4, .inl (g.2.2.1, 12, .inl (fun _ => 0))), (q5, .inl (g.2.2.1, 48, .inl (fun _ => 0))), (q6, .inl (g.2.2.1, 144, .inl (fun _ => 0))), (q7, .inr (5, [.ref q8, .ref q9, .ref q10])), (q9, .inl (g.2.2.1, 4, .inl (fun _ => 0))), (q10, .inl (g.2.2.1, 240, .inl (fun _ => 0))), (q8, .inl (g.2.2.1, 4, .inl (upd (upd (upd (upd (fun _ => 0) 0 ((-1))) 1 ((-1))) 2 ((-1))) 3 ((-1))))), (q11, .inr (1, [.ref q12])), (q12, .inl (g.2.2.1, 16, .inl (fun _ => 0))), (q13, .inr (3, [.ref q14, .ref q15, .ref q16, .ref q17, .ref q22])), (q14, .inl (g.2.2.1, 48, .inl (fun _ => 0))), (q15, .inl (g.2.2.2.1, 48, .inr (.inl (fun _ => 0)))), (q16, .inl (g.2.2.2.1, 48, .inr (.inl (fun _ => 0)))), (q17, .inr (6, [.ref q18, .ref q19, .ref q20, .ref q21, .int (nI 0), .int (nI 1)])), (q18, .inl (g.2.2.1, 16, .inl (fun _ => 0))), (q19, .inl (g.2.2.1, 16, .inl (fun _ => 0))), (q20, .inl (g.2.2.1, 16, .inl (fun _ => 0))), (q21, .inl (g.2.2.1, 16, .inl (fun _ => 0))), (q22, .inr (4, [.long (lI 0), .long (lI 1)])), (q23, .inr (6, [.ref q24, .ref q25, .ref q26, .ref q27, .int (nI 0), .int (nI 1)])), (q24, .inl (g.2.2.1, 16, .inl (fun _ => 0))), (q25, .inl (g.2.2.1, 16, .inl (fun _ => 0))), (q26, .inl (g.2.2.1, 16, .inl (fun _ => 0))), (q27, .inl (g.2.2.1, 16, .inl (fun _ => 0))), (q28, .inr (6, [.ref q29, .ref q30, .ref q31, .ref q32, .int (nI 0), .int (nI 1)])), (q29, .inl (g.2.2.1, 16, .inl (fun _ => 0))), (q30, .inl (g.2.2.1, 16, .inl (fun _ => 0))), (q31, .inl (g.2.2.1, 16, .inl (fun _ => 0))), (q32, .inl (g.2.2.1, 16, .inl (fun _ => 0))), (q33, .inr (4, [.long (lI 0), .long (lI 1)]))]) rfl ?_
  refine rc_putF C N 0 (ty := .object "AgainAgain$Ratio") (j := 7) rfl rfl hin_X7 tyX7 tyX7_ok nmX7 (by decide) hk_57 rfl rfl (by decide +kernel) rfl rfl (Nat.le_of_ble_eq_true rfl) dX7_init_89 ?_
  refine rc_ws (ws' := [(h0, .inr (7, [.ref q1, .ref q3, .ref q7, .ref q11, .ref q13, .ref q23, .ref q28, .ref q33, .null, .null])), (q1, .inr (0, [.ref q2, .long (lI 1), .long (lI 2)])), (q2, .inl (g.2.2.1, 9, .inl (fun _ => 0))), (q3, .inr (2, [.ref q4, .ref q5, .ref q6, .int (nI 0)])), (q4, .inl (g.2.2.1, 12, .inl (fun _ => 0))), (q5, .inl (g.2.2.1, 48, .inl (fun _ => 0))), (q6, .inl (g.2.2.1, 144, .inl (fun _ => 0))), (q7, .inr (5, [.ref q8, .ref q9, .ref q10])), (q9, .inl (g.2.2.1, 4, .inl (fun _ => 0))), (q10, .inl (g.2.2.1, 240, .inl (fun _ => 0))), (q8, .inl (g.2.2.1, 4, .inl (upd (upd (upd (upd (fun _ => 0) 0 ((-1))) 1 ((-1))) 2 ((-1))) 3 ((-1))))), (q11, .inr (1, [.ref q12])), (q12, .inl (g.2.2.1, 16, .inl (fun _ => 0))), (q13, .inr (3, [.ref q14, .ref q15, .ref q16, .ref q17, .ref q22])), (q14, .inl (g.2.2.1, 48, .inl (fun _ => 0))), (q15, .inl (g.2.2.2.1, 48, .inr (.inl (fun _ => 0)))), (q16, .inl (g.2.2.2.1, 48, .inr (.inl (fun _ => 0)))), (q17, .inr (6, [.ref q18, .ref q19, .ref q20, .ref q21, .int (nI 0), .int (nI 1)])), (q18, .inl (g.2.2.1, 16, .inl (fun _ => 0))), (q19, .inl (g.2.2.1, 16, .inl (fun _ => 0))), (q20, .inl (g.2.2.1, 16, .inl (fun _ => 0))), (q21, .inl (g.2.2.1, 16, .inl (fun _ => 0))), (q22, .inr (4, [.long (lI 0), .long (lI 1)])), (q23, .inr (6, [.ref q24, .ref q25, .ref q26, .ref q27, .int (nI 0), .int (nI 1)])), (q24, .inl (g.2.2.1, 16, .inl (fun _ => 0))), (q25, .inl (g.2.2.1, 16, .inl (fun _ => 0))), (q26, .inl (g.2.2.1, 16, .inl (fun _ => 0))), (q27, .inl (g.2.2.1, 16, .inl (fun _ => 0))), (q28, .inr (6, [.ref q29, .ref q30, .ref q31, .ref q32, .int (nI 0), .int (nI 1)])), (q29, .inl (g.2.2.1, 16, .inl (fun _ => 0))), (q30, .inl (g.2.2.1, 16, .inl (fun _ => 0))), (q31, .inl (g.2.2.1, 16, .inl (fun _ => 0))), (q32, .inl (g.2.2.1, 16, .inl (fun _ => 0))), (q33, .inr (4, [.long (lI 0), .long (lI 1)]))]) rfl ?_
  refine r_aload_n C 0 dX7_init_92 rfl rfl ?_
  refine rc_new C (ci := 4) (fs := [.long 0, .long 0]) tyX4 tyX4_ok hin_X4 hc_54 hi_4 hz_4 rfl (fun j hj => by rcases (show j = 0 ∨ j = 1 by omega) with rfl | rfl <;> rfl) (Nat.le_of_ble_eq_true rfl) (Nat.le_of_ble_eq_true rfl) dX7_init_93 (fun q34 => ?_)
  refine rc_ws (ws' := [(h0, .inr (7, [.ref q1, .ref q3, .ref q7, .ref q11, .ref q13, .ref q23, .ref q28, .ref q33, .null, .null])), (q1, .inr (0, [.ref q2, .long (lI 1), .long (lI 2)])), (q2, .inl (g.2.2.1, 9, .inl (fun _ => 0))), (q3, .inr (2, [.ref q4, .ref q5, .ref q6, .int (nI 0)])), (q4, .inl (g.2.2.1, 12, .inl (fun _ => 0))), (q5, .inl (g.2.2.1, 48, .inl (fun _ => 0))), (q6, .inl (g.2.2.1, 144, .inl (fun _ => 0))), (q7, .inr (5, [.ref q8, .ref q9, .ref q10])), (q9, .inl (g.2.2.1, 4, .inl (fun _ => 0))), (q10, .inl (g.2.2.1, 240, .inl (fun _ => 0))), (q8, .inl (g.2.2.1, 4, .inl (upd (upd (upd (upd (fun _ => 0) 0 ((-1))) 1 ((-1))) 2 ((-1))) 3 ((-1))))), (q11, .inr (1, [.ref q12])), (q12, .inl (g.2.2.1, 16, .inl (fun _ => 0))), (q13, .inr (3, [.ref q14, .ref q15, .ref q16, .ref q17, .ref q22])), (q14, .inl (g.2.2.1, 48, .inl (fun _ => 0))), (q15, .inl (g.2.2.2.1, 48, .inr (.inl (fun _ => 0)))), (q16, .inl (g.2.2.2.1, 48, .inr (.inl (fun _ => 0)))), (q17, .inr (6, [.ref q18, .ref q19, .ref q20, .ref q21, .int (nI 0), .int (nI 1)])), (q18, .inl (g.2.2.1, 16, .inl (fun _ => 0))), (q19, .inl (g.2.2.1, 16, .inl (fun _ => 0))), (q20, .inl (g.2.2.1, 16, .inl (fun _ => 0))), (q21, .inl (g.2.2.1, 16, .inl (fun _ => 0))), (q22, .inr (4, [.long (lI 0), .long (lI 1)])), (q23, .inr (6, [.ref q24, .ref q25, .ref q26, .ref q27, .int (nI 0), .int (nI 1)])), (q24, .inl (g.2.2.1, 16, .inl (fun _ => 0))), (q25, .inl (g.2.2.1, 16, .inl (fun _ => 0))), (q26, .inl (g.2.2.1, 16, .inl (fun _ => 0))), (q27, .inl (g.2.2.1, 16, .inl (fun _ => 0))), (q28, .inr (6, [.ref q29, .ref q30, .ref q31, .ref q32, .int (nI 0), .int (nI 1)])), (q29, .inl (g.2.2.1, 16, .inl (fun _ => 0))), (q30, .inl (g.2.2.1, 16, .inl (fun _ => 0))), (q31, .inl (g.2.2.1, 16, .inl (fun _ => 0))), (q32, .inl (g.2.2.1, 16, .inl (fun _ => 0))), (q33, .inr (4, [.long (lI 0), .long (lI 1)])), (q34, .inr (4, [.long 0, .long 0]))]) rfl ?_
  refine r_dup C dX7_init_96 rfl ?_
  refine rc_initN C N (host := "AgainAgain") (wr := [(h0, .inr (7, [.ref q1, .ref q3, .ref q7, .ref q11, .ref q13, .ref q23, .ref q28, .ref q33, .null, .null])), (q1, .inr (0, [.ref q2, .long (lI 1), .long (lI 2)])), (q2, .inl (g.2.2.1, 9, .inl (fun _ => 0))), (q3, .inr (2, [.ref q4, .ref q5, .ref q6, .int (nI 0)])), (q4, .inl (g.2.2.1, 12, .inl (fun _ => 0))), (q5, .inl (g.2.2.1, 48, .inl (fun _ => 0))), (q6, .inl (g.2.2.1, 144, .inl (fun _ => 0))), (q7, .inr (5, [.ref q8, .ref q9, .ref q10])), (q9, .inl (g.2.2.1, 4, .inl (fun _ => 0))), (q10, .inl (g.2.2.1, 240, .inl (fun _ => 0))), (q8, .inl (g.2.2.1, 4, .inl (upd (upd (upd (upd (fun _ => 0) 0 ((-1))) 1 ((-1))) 2 ((-1))) 3 ((-1))))), (q11, .inr (1, [.ref q12])), (q12, .inl (g.2.2.1, 16, .inl (fun _ => 0))), (q13, .inr (3, [.ref q14, .ref q15, .ref q16, .ref q17, .ref q22])), (q14, .inl (g.2.2.1, 48, .inl (fun _ => 0))), (q15, .inl (g.2.2.2.1, 48, .inr (.inl (fun _ => 0)))), (q16, .inl (g.2.2.2.1, 48, .inr (.inl (fun _ => 0)))), (q17, .inr (6, [.ref q18, .ref q19, .ref q20, .ref q21, .int (nI 0), .int (nI 1)])), (q18, .inl (g.2.2.1, 16, .inl (fun _ => 0))), (q19, .inl (g.2.2.1, 16, .inl (fun _ => 0))), (q20, .inl (g.2.2.1, 16, .inl (fun _ => 0))), (q21, .inl (g.2.2.1, 16, .inl (fun _ => 0))), (q22, .inr (4, [.long (lI 0), .long (lI 1)])), (q23, .inr (6, [.ref q24, .ref q25, .ref q26, .ref q27, .int (nI 0), .int (nI 1)])), (q24, .inl (g.2.2.1, 16, .inl (fun _ => 0))), (q25, .inl (g.2.2.1, 16, .inl (fun _ => 0))), (q26, .inl (g.2.2.1, 16, .inl (fun _ => 0))), (q27, .inl (g.2.2.1, 16, .inl (fun _ => 0))), (q28, .inr (6, [.ref q29, .ref q30, .ref q31, .ref q32, .int (nI 0), .int (nI 1)])), (q29, .inl (g.2.2.1, 16, .inl (fun _ => 0))), (q30, .inl (g.2.2.1, 16, .inl (fun _ => 0))), (q31, .inl (g.2.2.1, 16, .inl (fun _ => 0))), (q32, .inl (g.2.2.1, 16, .inl (fun _ => 0))), (q33, .inr (4, [.long (lI 0), .long (lI 1)]))]) [34] [0, 1, 2, 3, 4, 5, 6, 7, 8, 9, 10, 11, 12, 13, 14, 15, 16, 17, 18, 19, 20, 21, 22, 23, 24, 25, 26, 27, 28, 29, 30, 31, 32, 33] (c_X4_init l g q34) gX7_init_X4_init_n56 rfl rfl rfl rfl hz_4 hm_4 pk_X4_init.2 ⟨(Nat.le_of_ble_eq_true rfl), (Nat.le_of_ble_eq_true rfl)⟩ (List.mem_of_getElem? (i := 5) rfl) (fun q h => absurd h List.not_mem_nil) rfl rfl rfl rfl rfl (by decide) (Nat.le_of_ble_eq_true rfl) ⟨(Nat.le_of_ble_eq_true rfl), (Nat.le_of_ble_eq_true rfl)⟩ dX7_init_97 ?_
  rintro _ rfl
  refine rc_ws (ws' := [(h0, .inr (7, [.ref q1, .ref q3, .ref q7, .ref q11, .ref q13, .ref q23, .ref q28, .ref q33, .null, .null])), (q1, .inr (0, [.ref q2, .long (lI 1), .long (lI 2)])), (q2, .inl (g.2.2.1, 9, .inl (fun _ => 0))), (q3, .inr (2, [.ref q4, .ref q5, .ref q6, .int (nI 0)])), (q4, .inl (g.2.2.1, 12, .inl (fun _ => 0))), (q5, .inl (g.2.2.1, 48, .inl (fun _ => 0))), (q6, .inl (g.2.2.1, 144, .inl (fun _ => 0))), (q7, .inr (5, [.ref q8, .ref q9, .ref q10])), (q9, .inl (g.2.2.1, 4, .inl (fun _ => 0))), (q10, .inl (g.2.2.1, 240, .inl (fun _ => 0))), (q8, .inl (g.2.2.1, 4, .inl (upd (upd (upd (upd (fun _ => 0) 0 ((-1))) 1 ((-1))) 2 ((-1))) 3 ((-1))))), (q11, .inr (1, [.ref q12])), (q12, .inl (g.2.2.1, 16, .inl (fun _ => 0))), (q13, .inr (3, [.ref q14, .ref q15, .ref q16, .ref q17, .ref q22])), (q14, .inl (g.2.2.1, 48, .inl (fun _ => 0))), (q15, .inl (g.2.2.2.1, 48, .inr (.inl (fun _ => 0)))), (q16, .inl (g.2.2.2.1, 48, .inr (.inl (fun _ => 0)))), (q17, .inr (6, [.ref q18, .ref q19, .ref q20, .ref q21, .int (nI 0), .int (nI 1)])), (q18, .inl (g.2.2.1, 16, .inl (fun _ => 0))), (q19, .inl (g.2.2.1, 16, .inl (fun _ => 0))), (q20, .inl (g.2.2.1, 16, .inl (fun _ => 0))), (q21, .inl (g.2.2.1, 16, .inl (fun _ => 0))), (q22, .inr (4, [.long (lI 0), .long (lI 1)])), (q23, .inr (6, [.ref q24, .ref q25, .ref q26, .ref q27, .int (nI 0), .int (nI 1)])), (q24, .inl (g.2.2.1, 16, .inl (fun _ => 0))), (q25, .inl (g.2.2.1, 16, .inl (fun _ => 0))), (q26, .inl (g.2.2.1, 16, .inl (fun _ => 0))), (q27, .inl (g.2.2.1, 16, .inl (fun _ => 0))), (q28, .inr (6, [.ref q29, .ref q30, .ref q31, .ref q32, .int (nI 0), .int (nI 1)])), (q29, .inl (g.2.2.1, 16, .inl (fun _ => 0))), (q30, .inl (g.2.2.1, 16, .inl (fun _ => 0))), (q31, .inl (g.2.2.1, 16, .inl (fun _ => 0))), (q32, .inl (g.2.2.1, 16, .inl (fun _ => 0))), (q33, .inr (4, [.long (lI 0), .long (lI 1)])), (q34, .inr (4, [.long (lI 0), .long (lI 1)]))]) rfl ?_
  refine rc_putF C N 0 (ty := .object "AgainAgain$Ratio") (j := 8) rfl rfl hin_X7 tyX7 tyX7_ok nmX7 (by decide) hk_61 rfl rfl (by decide +kernel) rfl rfl (Nat.le_of_ble_eq_true rfl) dX7_init_100 ?_
  refine rc_ws (ws' := [(h0, .inr (7, [.ref q1, .ref q3, .ref q7, .ref q11, .ref q13, .ref q23, .ref q28, .ref q33, .ref q34, .null])), (q1, .inr (0, [.ref q2, .long (lI 1), .long (lI 2)])), (q2, .inl (g.2.2.1, 9, .inl (fun _ => 0))), (q3, .inr (2, [.ref q4, .ref q5, .ref q6, .int (nI 0)])), (q4, .inl (g.2.2.1, 12, .inl (fun _ => 0))), (q5, .inl (g.2.2.1, 48, .inl (fun _ => 0))), (q6, .inl (g.2.2.1, 144, .inl (fun _ => 0))), (q7, .inr (5, [.ref q8, .ref q9, .ref q10])), (q9, .inl (g.2.2.1, 4, .inl (fun _ => 0))), (q10, .inl (g.2.2.1, 240, .inl (fun _ => 0))), (q8, .inl (g.2.2.1, 4, .inl (upd (upd (upd (upd (fun _ => 0) 0 ((-1))) 1 ((-1))) 2 ((-1))) 3 ((-1))))), (q11, .inr (1, [.ref q12])), (q12, .inl (g.2.2.1, 16, .inl (fun _ => 0))), (q13, .inr (3, [.ref q14, .ref q15, .ref q16, .ref q17, .ref q22])), (q14, .inl (g.2.2.1, 48, .inl (fun _ => 0))), (q15, .inl (g.2.2.2.1, 48, .inr (.inl (fun _ => 0)))), (q16, .inl (g.2.2.2.1, 48, .inr (.inl (fun _ => 0)))), (q17, .inr (6, [.ref q18, .ref q19, .ref q20, .ref q21, .int (nI 0), .int (nI 1)])), (q18, .inl (g.2.2.1, 16, .inl (fun _ => 0))), (q19, .inl (g.2.2.1, 16, .inl (fun _ => 0))), (q20, .inl (g.2.2.1, 16, .inl (fun _ => 0))), (q21, .inl (g.2.2.1, 16, .inl (fun _ => 0))), (q22, .inr (4, [.long (lI 0), .long (lI 1)])), (q23, .inr (6, [.ref q24, .ref q25, .ref q26, .ref q27, .int (nI 0), .int (nI 1)])), (q24, .inl (g.2.2.1, 16, .inl (fun _ => 0))), (q25, .inl (g.2.2.1, 16, .inl (fun _ => 0))), (q26, .inl (g.2.2.1, 16, .inl (fun _ => 0))), (q27, .inl (g.2.2.1, 16, .inl (fun _ => 0))), (q28, .inr (6, [.ref q29, .ref q30, .ref q31, .ref q32, .int (nI 0), .int (nI 1)])), (q29, .inl (g.2.2.1, 16, .inl (fun _ => 0))), (q30, .inl (g.2.2.1, 16, .inl (fun _ => 0))), (q31, .inl (g.2.2.1, 16, .inl (fun _ => 0))), (q32, .inl (g.2.2.1, 16, .inl (fun _ => 0))), (q33, .inr (4, [.long (lI 0), .long (lI 1)])), (q34, .inr (4, [.long (lI 0), .long (lI 1)]))]) rfl ?_
  refine r_aload_n C 0 dX7_init_103 rfl rfl ?_
  refine r_bipush C dX7_init_104 (v := nI 12) (by decide) ?_
  refine rc_newI C ha_I (by decide) (Nat.le_of_ble_eq_true rfl) (Nat.le_of_ble_eq_true rfl) dX7_init_106 (fun q35 => ?_)
  refine rc_ws (ws' := [(h0, .inr (7, [.ref q1, .ref q3, .ref q7, .ref q11, .ref q13, .ref q23, .ref q28, .ref q33, .ref q34, .null])), (q1, .inr (0, [.ref q2, .long (lI 1), .long (lI 2)])), (q2, .inl (g.2.2.1, 9, .inl (fun _ => 0))), (q3, .inr (2, [.ref q4, .ref q5, .ref q6, .int (nI 0)])), (q4, .inl (g.2.2.1, 12, .inl (fun _ => 0))), (q5, .inl (g.2.2.1, 48, .inl (fun _ => 0))), (q6, .inl (g.2.2.1, 144, .inl (fun _ => 0))), (q7, .inr (5, [.ref q8, .ref q9, .ref q10])), (q9, .inl (g.2.2.1, 4, .inl (fun _ => 0))), (q10, .inl (g.2.2.1, 240, .inl (fun _ => 0))), (q8, .inl (g.2.2.1, 4, .inl (upd (upd (upd (upd (fun _ => 0) 0 ((-1))) 1 ((-1))) 2 ((-1))) 3 ((-1))))), (q11, .inr (1, [.ref q12])), (q12, .inl (g.2.2.1, 16, .inl (fun _ => 0))), (q13, .inr (3, [.ref q14, .ref q15, .ref q16, .ref q17, .ref q22])), (q14, .inl (g.2.2.1, 48, .inl (fun _ => 0))), (q15, .inl (g.2.2.2.1, 48, .inr (.inl (fun _ => 0)))), (q16, .inl (g.2.2.2.1, 48, .inr (.inl (fun _ => 0)))), (q17, .inr (6, [.ref q18, .ref q19, .ref q20, .ref q21, .int (nI 0), .int (nI 1)])), (q18, .inl (g.2.2.1, 16, .inl (fun _ => 0))), (q19, .inl (g.2.2.1, 16, .inl (fun _ => 0))), (q20, .inl (g.2.2.1, 16, .inl (fun _ => 0))), (q21, .inl (g.2.2.1, 16, .inl (fun _ => 0))), (q22, .inr (4, [.long (lI 0), .long (lI 1)])), (q23, .inr (6, [.ref q24, .ref q25, .ref q26, .ref q27, .int (nI 0), .int (nI 1)])), (q24, .inl (g.2.2.1, 16, .inl (fun _ => 0))), (q25, .inl (g.2.2.1, 16, .inl (fun _ => 0))), (q26, .inl (g.2.2.1, 16, .inl (fun _ => 0))), (q27, .inl (g.2.2.1, 16, .inl (fun _ => 0))), (q28, .inr (6, [.ref q29, .ref q30, .ref q31, .ref q32, .int (nI 0), .int (nI 1)])), (q29, .inl (g.2.2.1, 16, .inl (fun _ => 0))), (q30, .inl (g.2.2.1, 16, .inl (fun _ => 0))), (q31, .inl (g.2.2.1, 16, .inl (fun _ => 0))), (q32, .inl (g.2.2.1, 16, .inl (fun _ => 0))), (q33, .inr (4, [.long (lI 0), .long (lI 1)])), (q34, .inr (4, [.long (lI 0), .long (lI 1)])), (q35, .inl (g.2.2.1, 12, .inl (fun _ => 0)))]) rfl ?_
  refine rc_putF C N 0 (ty := .array .int) (j := 9) rfl rfl hin_X7 tyX7 tyX7_ok nmX7 (by decide) hk_64 rfl rfl (by decide +kernel) rfl rfl (Nat.le_of_ble_eq_true rfl) dX7_init_108 ?_
  refine rc_ws (ws' := [(h0, .inr (7, [.ref q1, .ref q3, .ref q7, .ref q11, .ref q13, .ref q23, .ref q28, .ref q33, .ref q34, .ref q35])), (q1, .inr (0, [.ref q2, .long (lI 1), .long (lI 2)])), (q2, .inl (g.2.2.1, 9, .inl (fun _ => 0))), (q3, .inr (2, [.ref q4, .ref q5, .ref q6, .int (nI 0)])), (q4, .inl (g.2.2.1, 12, .inl (fun _ => 0))), (q5, .inl (g.2.2.1, 48, .inl (fun _ => 0))), (q6, .inl (g.2.2.1, 144, .inl (fun _ => 0))), (q7, .inr (5, [.ref q8, .ref q9, .ref q10])), (q9, .inl (g.2.2.1, 4, .inl (fun _ => 0))), (q10, .inl (g.2.2.1, 240, .inl (fun _ => 0))), (q8, .inl (g.2.2.1, 4, .inl (upd (upd (upd (upd (fun _ => 0) 0 ((-1))) 1 ((-1))) 2 ((-1))) 3 ((-1))))), (q11, .inr (1, [.ref q12])), (q12, .inl (g.2.2.1, 16, .inl (fun _ => 0))), (q13, .inr (3, [.ref q14, .ref q15, .ref q16, .ref q17, .ref q22])), (q14, .inl (g.2.2.1, 48, .inl (fun _ => 0))), (q15, .inl (g.2.2.2.1, 48, .inr (.inl (fun _ => 0)))), (q16, .inl (g.2.2.2.1, 48, .inr (.inl (fun _ => 0)))), (q17, .inr (6, [.ref q18, .ref q19, .ref q20, .ref q21, .int (nI 0), .int (nI 1)])), (q18, .inl (g.2.2.1, 16, .inl (fun _ => 0))), (q19, .inl (g.2.2.1, 16, .inl (fun _ => 0))), (q20, .inl (g.2.2.1, 16, .inl (fun _ => 0))), (q21, .inl (g.2.2.1, 16, .inl (fun _ => 0))), (q22, .inr (4, [.long (lI 0), .long (lI 1)])), (q23, .inr (6, [.ref q24, .ref q25, .ref q26, .ref q27, .int (nI 0), .int (nI 1)])), (q24, .inl (g.2.2.1, 16, .inl (fun _ => 0))), (q25, .inl (g.2.2.1, 16, .inl (fun _ => 0))), (q26, .inl (g.2.2.1, 16, .inl (fun _ => 0))), (q27, .inl (g.2.2.1, 16, .inl (fun _ => 0))), (q28, .inr (6, [.ref q29, .ref q30, .ref q31, .ref q32, .int (nI 0), .int (nI 1)])), (q29, .inl (g.2.2.1, 16, .inl (fun _ => 0))), (q30, .inl (g.2.2.1, 16, .inl (fun _ => 0))), (q31, .inl (g.2.2.1, 16, .inl (fun _ => 0))), (q32, .inl (g.2.2.1, 16, .inl (fun _ => 0))), (q33, .inr (4, [.long (lI 0), .long (lI 1)])), (q34, .inr (4, [.long (lI 0), .long (lI 1)])), (q35, .inl (g.2.2.1, 12, .inl (fun _ => 0)))]) rfl ?_
  exact E _ _ _ dX7_init_111 ⟨q1, q2, q3, q4, q5, q6, q7, q8, q9, q10, q11, q12, q13, q14, q15, q16, q17, q18, q19, q20, q21, q22, q23, q24, q25, q26, q27, q28, q29, q30, q31, q32, q33, q34, q35, rfl⟩
def rmX8_init : Room := { frames := 1, cells := 11, slots := 522, locals := 12 }
theorem pk_X8_init : Pk yX8_init RX8 0 := by decide +kernel
def PX8_init (g : gE) (h0 : Nat) (w1 : va_W) : Prop := ∃ q1 q2 q3 q4 q5 q6 q7 q8 q9 q10 q11 : Nat, w1 = [(h0, .inr (8, [.ref q1, .int (nI 1), .int (nI 2), .int 0, .ref q2, .ref q3, .ref q4, .ref q5, .ref q6, .ref q7, .ref q8, .ref q9, .int 0, .int 0, .long 0, .long 0, .ref q10, .int 0, .long 0, .long 0, .ref q11])), (q1, .inl (g.2.2.1, 9, .inl (fun _ => 0))), (q2, .inl (g.2.2.1, 12, .inl (fun _ => 0))), (q3, .inl (g.2.2.1, 48, .inl (fun _ => 0))), (q4, .inl (g.2.2.1, 144, .inl (fun _ => 0))), (q5, .inl (g.2.2.1, 4, .inl (upd (upd (upd (upd (fun _ => 0) 0 ((-4))) 1 ((-4))) 2 ((-4))) 3 ((-4))))), (q6, .inl (g.2.2.1, 4, .inl (fun _ => 0))), (q7, .inl (g.2.2.1, 240, .inl (fun _ => 0))), (q8, .inl (g.2.2.1, 17, .inl (fun _ => 0))), (q9, .inl (g.2.2.1, 16, .inl (fun _ => 0))), (q10, .inl (g.2.2.2.2, 16, .inl (fun _ => 0))), (q11, .inl (g.2.2.1, 12, .inl (fun _ => 0)))]
set_option maxHeartbeats 4000000 in
set_option maxRecDepth 100000 in
theorem c_X8_init (l : Launch) (g : gE) (h0 : Nat) : Cc l yX8_init wsX8_init rmX8_init g [.ref h0] [(h0, .inr (8, [.null, .int 0, .int 0, .int 0, .null, .null, .null, .null, .null, .null, .null, .null, .int 0, .int 0, .long 0, .long 0, .null, .int 0, .long 0, .long 0, .null]))] [] (PX8_init g h0) 11 522 := by
  refine Cc.of (cc := cX8_init) (nL := 2) RX8 (by decide) rfl rfl (Nat.le_of_ble_eq_true rfl) (fun kx C N E => ?_)
  have hin_X8 : ∀ w ∈ u_ws RX8 TX8 21, w ∈ wsX8_init := by decide +kernel
  have ho_1 : Cond.methodLink RX8 1 objectInit ∈ wsX8_init := by decide +kernel
  have ho_2 : Cond.instanceMethod objectInit ∈ wsX8_init := by decide +kernel
  have ho_3 : Cond.code objectInit ⟨#[0xb1]⟩ 1 none ∈ wsX8_init := by decide +kernel
  have ha_I : Cond.arrayClass .int ∈ wsX8_init := by decide +kernel
  have hk_7 : Cond.fieldLink RX8 7 "AgainAgainModel" "pays" "[I" ∈ wsX8_init := by decide +kernel
  have hk_13 : Cond.fieldLink RX8 13 "AgainAgainModel" "up" "I" ∈ wsX8_init := by decide +kernel
  have hk_17 : Cond.fieldLink RX8 17 "AgainAgainModel" "by" "I" ∈ wsX8_init := by decide +kernel
  have hk_20 : Cond.fieldLink RX8 20 "AgainAgainModel" "many" "[I" ∈ wsX8_init := by decide +kernel
  have hk_23 : Cond.fieldLink RX8 23 "AgainAgainModel" "acts" "[I" ∈ wsX8_init := by decide +kernel
  have hk_26 : Cond.fieldLink RX8 26 "AgainAgainModel" "nexts" "[I" ∈ wsX8_init := by decide +kernel
  have hk_29 : Cond.fieldLink RX8 29 "AgainAgainModel" "lanes" "[I" ∈ wsX8_init := by decide +kernel
  have hk_32 : Cond.fieldLink RX8 32 "AgainAgainModel" "sizes" "[I" ∈ wsX8_init := by decide +kernel
  have hk_35 : Cond.fieldLink RX8 35 "AgainAgainModel" "cells" "[I" ∈ wsX8_init := by decide +kernel
  have hk_38 : Cond.fieldLink RX8 38 "AgainAgainModel" "row" "[I" ∈ wsX8_init := by decide +kernel
  have hk_41 : Cond.fieldLink RX8 41 "AgainAgainModel" "seenAt" "[I" ∈ wsX8_init := by decide +kernel
  have ha_Z : Cond.arrayClass .boolean ∈ wsX8_init := by decide +kernel
  have hk_44 : Cond.fieldLink RX8 44 "AgainAgainModel" "unlike" "[Z" ∈ wsX8_init := by decide +kernel
  have hk_48 : Cond.fieldLink RX8 48 "AgainAgainModel" "scores" "[I" ∈ wsX8_init := by decide +kernel
  show G kx 0 0 [(h0, .inr (8, [.null, .int 0, .int 0, .int 0, .null, .null, .null, .null, .null, .null, .null, .null, .int 0, .int 0, .long 0, .long 0, .null, .int 0, .long 0, .long 0, .null]))] 0 [(0, .ref h0)] []
  refine r_aload_n C 0 dX8_init_0 rfl rfl ?_
  refine rc_objInit C ho_1 ho_2 ho_3 dX8_init_1 (Nat.le_of_ble_eq_true rfl) (Nat.le_of_ble_eq_true rfl) ?_
  refine r_aload_n C 0 dX8_init_4 rfl rfl ?_
  refine r_bipush C dX8_init_5 (v := nI 9) (by decide) ?_
  refine rc_newI C ha_I (by decide) (Nat.le_of_ble_eq_true rfl) (Nat.le_of_ble_eq_true rfl) dX8_init_7 (fun q1 => ?_)
  refine rc_ws (ws' := [(h0, .inr (8, [.null, .int 0, .int 0, .int 0, .null, .null, .null, .null, .null, .null, .null, .null, .int 0, .int 0, .long 0, .long 0, .null, .int 0, .long 0, .long 0, .null])), (q1, .inl (g.2.2.1, 9, .inl (fun _ => 0)))]) rfl ?_
  refine rc_putF C N 0 (ty := .array .int) (j := 0) rfl rfl hin_X8 tyX8 tyX8_ok nmX8 (by decide) hk_7 rfl rfl (by decide +kernel) rfl rfl (Nat.le_of_ble_eq_true rfl) dX8_init_9 ?_
  refine rc_ws (ws' := [(h0, .inr (8, [.ref q1, .int 0, .int 0, .int 0, .null, .null, .null, .null, .null, .null, .null, .null, .int 0, .int 0, .long 0, .long 0, .null, .int 0, .long 0, .long 0, .null])), (q1, .inl (g.2.2.1, 9, .inl (fun _ => 0)))]) rfl ?_
  refine r_aload_n C 0 dX8_init_12 rfl rfl ?_
  refine r_iconst C dX8_init_13 (v := nI 1) (by decide) ?_
  refine rc_put C 0 (ty := .int) (j := 1) rfl rfl hin_X8 tyX8 tyX8_ok nmX8 (by decide) hk_13 rfl (by decide +kernel) rfl rfl (Nat.le_of_ble_eq_true rfl) dX8_init_14 ?_
  refine rc_ws (ws' := [(h0, .inr (8, [.ref q1, .int (nI 1), .int 0, .int 0, .null, .null, .null, .null, .null, .null, .null, .null, .int 0, .int 0, .long 0, .long 0, .null, .int 0, .long 0, .long 0, .null])), (q1, .inl (g.2.2.1, 9, .inl (fun _ => 0)))]) rfl ?_
  refine r_aload_n C 0 dX8_init_17 rfl rfl ?_
  refine r_iconst C dX8_init_18 (v := nI 2) (by decide) ?_
  refine rc_put C 0 (ty := .int) (j := 2) rfl rfl hin_X8 tyX8 tyX8_ok nmX8 (by decide) hk_17 rfl (by decide +kernel) rfl rfl (Nat.le_of_ble_eq_true rfl) dX8_init_19 ?_
  refine rc_ws (ws' := [(h0, .inr (8, [.ref q1, .int (nI 1), .int (nI 2), .int 0, .null, .null, .null, .null, .null, .null, .null, .null, .int 0, .int 0, .long 0, .long 0, .null, .int 0, .long 0, .long 0, .null])), (q1, .inl (g.2.2.1, 9, .inl (fun _ => 0)))]) rfl ?_
  refine r_aload_n C 0 dX8_init_22 rfl rfl ?_
  refine r_bipush C dX8_init_23 (v := nI 12) (by decide) ?_
  refine rc_newI C ha_I (by decide) (Nat.le_of_ble_eq_true rfl) (Nat.le_of_ble_eq_true rfl) dX8_init_25 (fun q2 => ?_)
  refine rc_ws (ws' := [(h0, .inr (8, [.ref q1, .int (nI 1), .int (nI 2), .int 0, .null, .null, .null, .null, .null, .null, .null, .null, .int 0, .int 0, .long 0, .long 0, .null, .int 0, .long 0, .long 0, .null])), (q1, .inl (g.2.2.1, 9, .inl (fun _ => 0))), (q2, .inl (g.2.2.1, 12, .inl (fun _ => 0)))]) rfl ?_
  refine rc_putF C N 0 (ty := .array .int) (j := 4) rfl rfl hin_X8 tyX8 tyX8_ok nmX8 (by decide) hk_20 rfl rfl (by decide +kernel) rfl rfl (Nat.le_of_ble_eq_true rfl) dX8_init_27 ?_
  refine rc_ws (ws' := [(h0, .inr (8, [.ref q1, .int (nI 1), .int (nI 2), .int 0, .ref q2, .null, .null, .null, .null, .null, .null, .null, .int 0, .int 0, .long 0, .long 0, .null, .int 0, .long 0, .long 0, .null])), (q1, .inl (g.2.2.1, 9, .inl (fun _ => 0))), (q2, .inl (g.2.2.1, 12, .inl (fun _ => 0)))]) rfl ?_
  refine r_aload_n C 0 dX8_init_30 rfl rfl ?_
  refine r_bipush C dX8_init_31 (v := nI 48) (by decide) ?_
  refine rc_newI C ha_I (by decide) (Nat.le_of_ble_eq_true rfl) (Nat.le_of_ble_eq_true rfl) dX8_init_33 (fun q3 => ?_)
  refine rc_ws (ws' := [(h0, .inr (8, [.ref q1, .int (nI 1), .int (nI 2), .int 0, .ref q2, .null, .null, .null, .null, .null, .null, .null, .int 0, .int 0, .long 0, .long 0, .null, .int 0, .long 0, .long 0, .null])), (q1, .inl (g.2.2.1, 9, .inl (fun _ => 0))), (q2, .inl (g.2.2.1, 12, .inl (fun _ => 0))), (q3, .inl (g.2.2.1, 48, .inl (fun _ => 0)))]) rfl ?_
  refine rc_putF C N 0 (ty := .array .int) (j := 5) rfl rfl hin_X8 tyX8 tyX8_ok nmX8 (by decide) hk_23 rfl rfl (by decide +kernel) rfl rfl (Nat.le_of_ble_eq_true rfl) dX8_init_35 ?_
  refine rc_ws (ws' := [(h0, .inr (8, [.ref q1, .int (nI 1), .int (nI 2), .int 0, .ref q2, .ref q3, .null, .null, .null, .null, .null, .null, .int 0, .int 0, .long 0, .long 0, .null, .int 0, .long 0, .long 0, .null])), (q1, .inl (g.2.2.1, 9, .inl (fun _ => 0))), (q2, .inl (g.2.2.1, 12, .inl (fun _ => 0))), (q3, .inl (g.2.2.1, 48, .inl (fun _ => 0)))]) rfl ?_
  refine r_aload_n C 0 dX8_init_38 rfl rfl ?_
  refine r_sipush C dX8_init_39 (v := nI 144) (by decide) ?_
  refine rc_newI C ha_I (by decide) (Nat.le_of_ble_eq_true rfl) (Nat.le_of_ble_eq_true rfl) dX8_init_42 (fun q4 => ?_)
  refine rc_ws (ws' := [(h0, .inr (8, [.ref q1, .int (nI 1), .int (nI 2), .int 0, .ref q2, .ref q3, .null, .null, .null, .null, .null, .null, .int 0, .int 0, .long 0, .long 0, .null, .int 0, .long 0, .long 0, .null])), (q1, .inl (g.2.2.1, 9, .inl (fun _ => 0))), (q2, .inl (g.2.2.1, 12, .inl (fun _ => 0))), (q3, .inl (g.2.2.1, 48, .inl (fun _ => 0))), (q4, .inl (g.2.2.1, 144, .inl (fun _ => 0)))]) rfl ?_
  refine rc_putF C N 0 (ty := .array .int) (j := 6) rfl rfl hin_X8 tyX8 tyX8_ok nmX8 (by decide) hk_26 rfl rfl (by decide +kernel) rfl rfl (Nat.le_of_ble_eq_true rfl) dX8_init_44 ?_
  refine rc_ws (ws' := [(h0, .inr (8, [.ref q1, .int (nI 1), .int (nI 2), .int 0, .ref q2, .ref q3, .ref q4, .null, .null, .null, .null, .null, .int 0, .int 0, .long 0, .long 0, .null, .int 0, .long 0, .long 0, .null])), (q1, .inl (g.2.2.1, 9, .inl (fun _ => 0))), (q2, .inl (g.2.2.1, 12, .inl (fun _ => 0))), (q3, .inl (g.2.2.1, 48, .inl (fun _ => 0))), (q4, .inl (g.2.2.1, 144, .inl (fun _ => 0)))]) rfl ?_
  refine r_aload_n C 0 dX8_init_47 rfl rfl ?_
  refine r_iconst C dX8_init_48 (v := nI 4) (by decide) ?_
  refine rc_newI C ha_I (by decide) (Nat.le_of_ble_eq_true rfl) (Nat.le_of_ble_eq_true rfl) dX8_init_49 (fun q5 => ?_)
  refine rc_ws (ws' := [(h0, .inr (8, [.ref q1, .int (nI 1), .int (nI 2), .int 0, .ref q2, .ref q3, .ref q4, .null, .null, .null, .null, .null, .int 0, .int 0, .long 0, .long 0, .null, .int 0, .long 0, .long 0, .null])), (q1, .inl (g.2.2.1, 9, .inl (fun _ => 0))), (q2, .inl (g.2.2.1, 12, .inl (fun _ => 0))), (q3, .inl (g.2.2.1, 48, .inl (fun _ => 0))), (q4, .inl (g.2.2.1, 144, .inl (fun _ => 0))), (q5, .inl (g.2.2.1, 4, .inl (fun _ => 0)))]) rfl ?_
  refine rc_putF C N 0 (ty := .array .int) (j := 7) rfl rfl hin_X8 tyX8 tyX8_ok nmX8 (by decide) hk_29 rfl rfl (by decide +kernel) rfl rfl (Nat.le_of_ble_eq_true rfl) dX8_init_51 ?_
  refine rc_ws (ws' := [(h0, .inr (8, [.ref q1, .int (nI 1), .int (nI 2), .int 0, .ref q2, .ref q3, .ref q4, .ref q5, .null, .null, .null, .null, .int 0, .int 0, .long 0, .long 0, .null, .int 0, .long 0, .long 0, .null])), (q1, .inl (g.2.2.1, 9, .inl (fun _ => 0))), (q2, .inl (g.2.2.1, 12, .inl (fun _ => 0))), (q3, .inl (g.2.2.1, 48, .inl (fun _ => 0))), (q4, .inl (g.2.2.1, 144, .inl (fun _ => 0))), (q5, .inl (g.2.2.1, 4, .inl (fun _ => 0)))]) rfl ?_
  refine r_aload_n C 0 dX8_init_54 rfl rfl ?_
  refine r_iconst C dX8_init_55 (v := nI 4) (by decide) ?_
  refine rc_newI C ha_I (by decide) (Nat.le_of_ble_eq_true rfl) (Nat.le_of_ble_eq_true rfl) dX8_init_56 (fun q6 => ?_)
  refine rc_ws (ws' := [(h0, .inr (8, [.ref q1, .int (nI 1), .int (nI 2), .int 0, .ref q2, .ref q3, .ref q4, .ref q5, .null, .null, .null, .null, .int 0, .int 0, .long 0, .long 0, .null, .int 0, .long 0, .long 0, .null])), (q1, .inl (g.2.2.1, 9, .inl (fun _ => 0))), (q2, .inl (g.2.2.1, 12, .inl (fun _ => 0))), (q3, .inl (g.2.2.1, 48, .inl (fun _ => 0))), (q4, .inl (g.2.2.1, 144, .inl (fun _ => 0))), (q5, .inl (g.2.2.1, 4, .inl (fun _ => 0))), (q6, .inl (g.2.2.1, 4, .inl (fun _ => 0)))]) rfl ?_
  refine rc_putF C N 0 (ty := .array .int) (j := 8) rfl rfl hin_X8 tyX8 tyX8_ok nmX8 (by decide) hk_32 rfl rfl (by decide +kernel) rfl rfl (Nat.le_of_ble_eq_true rfl) dX8_init_58 ?_
  refine rc_ws (ws' := [(h0, .inr (8, [.ref q1, .int (nI 1), .int (nI 2), .int 0, .ref q2, .ref q3, .ref q4, .ref q5, .ref q6, .null, .null, .null, .int 0, .int 0, .long 0, .long 0, .null, .int 0, .long 0, .long 0, .null])), (q1, .inl (g.2.2.1, 9, .inl (fun _ => 0))), (q2, .inl (g.2.2.1, 12, .inl (fun _ => 0))), (q3, .inl (g.2.2.1, 48, .inl (fun _ => 0))), (q4, .inl (g.2.2.1, 144, .inl (fun _ => 0))), (q5, .inl (g.2.2.1, 4, .inl (fun _ => 0))), (q6, .inl (g.2.2.1, 4, .inl (fun _ => 0)))]) rfl ?_
  refine r_aload_n C 0 dX8_init_61 rfl rfl ?_
  refine r_sipush C dX8_init_62 (v := nI 240) (by decide) ?_
  refine rc_newI C ha_I (by decide) (Nat.le_of_ble_eq_true rfl) (Nat.le_of_ble_eq_true rfl) dX8_init_65 (fun q7 => ?_)
  refine rc_ws (ws' := [(h0, .inr (8, [.ref q1, .int (nI 1), .int (nI 2), .int 0, .ref q2, .ref q3, .ref q4, .ref q5, .ref q6, .null, .null, .null, .int 0, .int 0, .long 0, .long 0, .null, .int 0, .long 0, .long 0, .null])), (q1, .inl (g.2.2.1, 9, .inl (fun _ => 0))), (q2, .inl (g.2.2.1, 12, .inl (fun _ => 0))), (q3, .inl (g.2.2.1, 48, .inl (fun _ => 0))), (q4, .inl (g.2.2.1, 144, .inl (fun _ => 0))), (q5, .inl (g.2.2.1, 4, .inl (fun _ => 0))), (q6, .inl (g.2.2.1, 4, .inl (fun _ => 0))), (q7, .inl (g.2.2.1, 240, .inl (fun _ => 0)))]) rfl ?_
  refine rc_putF C N 0 (ty := .array .int) (j := 9) rfl rfl hin_X8 tyX8 tyX8_ok nmX8 (by decide) hk_35 rfl rfl (by decide +kernel) rfl rfl (Nat.le_of_ble_eq_true rfl) dX8_init_67 ?_
  refine rc_ws (ws' := [(h0, .inr (8, [.ref q1, .int (nI 1), .int (nI 2), .int 0, .ref q2, .ref q3, .ref q4, .ref q5, .ref q6, .ref q7, .null, .null, .int 0, .int 0, .long 0, .long 0, .null, .int 0, .long 0, .long 0, .null])), (q1, .inl (g.2.2.1, 9, .inl (fun _ => 0))), (q2, .inl (g.2.2.1, 12, .inl (fun _ => 0))), (q3, .inl (g.2.2.1, 48, .inl (fun _ => 0))), (q4, .inl (g.2.2.1, 144, .inl (fun _ => 0))), (q5, .inl (g.2.2.1, 4, .inl (fun _ => 0))), (q6, .inl (g.2.2.1, 4, .inl (fun _ => 0))), (q7, .inl (g.2.2.1, 240, .inl (fun _ => 0)))]) rfl ?_
  refine r_aload_n C 0 dX8_init_70 rfl rfl ?_
  refine r_bipush C dX8_init_71 (v := nI 17) (by decide) ?_
  refine rc_newI C ha_I (by decide) (Nat.le_of_ble_eq_true rfl) (Nat.le_of_ble_eq_true rfl) dX8_init_73 (fun q8 => ?_)
  refine rc_ws (ws' := [(h0, .inr (8, [.ref q1, .int (nI 1), .int (nI 2), .int 0, .ref q2, .ref q3, .ref q4, .ref q5, .ref q6, .ref q7, .null, .null, .int 0, .int 0, .long 0, .long 0, .null, .int 0, .long 0, .long 0, .null])), (q1, .inl (g.2.2.1, 9, .inl (fun _ => 0))), (q2, .inl (g.2.2.1, 12, .inl (fun _ => 0))), (q3, .inl (g.2.2.1, 48, .inl (fun _ => 0))), (q4, .inl (g.2.2.1, 144, .inl (fun _ => 0))), (q5, .inl (g.2.2.1, 4, .inl (fun _ => 0))), (q6, .inl (g.2.2.1, 4, .inl (fun _ => 0))), (q7, .inl (g.2.2.1, 240, .inl (fun _ => 0))), (q8, .inl (g.2.2.1, 17, .inl (fun _ => 0)))]) rfl ?_
  refine rc_putF C N 0 (ty := .array .int) (j := 10) rfl rfl hin_X8 tyX8 tyX8_ok nmX8 (by decide) hk_38 rfl rfl (by decide +kernel) rfl rfl (Nat.le_of_ble_eq_true rfl) dX8_init_75 ?_
  refine rc_ws (ws' := [(h0, .inr (8, [.ref q1, .int (nI 1), .int (nI 2), .int 0, .ref q2, .ref q3, .ref q4, .ref q5, .ref q6, .ref q7, .ref q8, .null, .int 0, .int 0, .long 0, .long 0, .null, .int 0, .long 0, .long 0, .null])), (q1, .inl (g.2.2.1, 9, .inl (fun _ => 0))), (q2, .inl (g.2.2.1, 12, .inl (fun _ => 0))), (q3, .inl (g.2.2.1, 48, .inl (fun _ => 0))), (q4, .inl (g.2.2.1, 144, .inl (fun _ => 0))), (q5, .inl (g.2.2.1, 4, .inl (fun _ => 0))), (q6, .inl (g.2.2.1, 4, .inl (fun _ => 0))), (q7, .inl (g.2.2.1, 240, .inl (fun _ => 0))), (q8, .inl (g.2.2.1, 17, .inl (fun _ => 0)))]) rfl ?_
  refine r_aload_n C 0 dX8_init_78 rfl rfl ?_
  refine r_bipush C dX8_init_79 (v := nI 16) (by decide) ?_
  refine rc_newI C ha_I (by decide) (Nat.le_of_ble_eq_true rfl) (Nat.le_of_ble_eq_true rfl) dX8_init_81 (fun q9 => ?_)
  refine rc_ws (ws' := [(h0, .inr (8, [.ref q1, .int (nI 1), .int (nI 2), .int 0, .ref q2, .ref q3, .ref q4, .ref q5, .ref q6, .ref q7, .ref q8, .null, .int 0, .int 0, .long 0, .long 0, .null, .int 0, .long 0, .long 0, .null])), (q1, .inl (g.2.2.1, 9, .inl (fun _ => 0))), (q2, .inl (g.2.2.1, 12, .inl (fun _ => 0))), (q3, .inl (g.2.2.1, 48, .inl (fun _ => 0))), (q4, .inl (g.2.2.1, 144, .inl (fun _ => 0))), (q5, .inl (g.2.2.1, 4, .inl (fun _ => 0))), (q6, .inl (g.2.2.1, 4, .inl (fun _ => 0))), (q7, .inl (g.2.2.1, 240, .inl (fun _ => 0))), (q8, .inl (g.2.2.1, 17, .inl (fun _ => 0))), (q9, .inl (g.2.2.1, 16, .inl (fun _ => 0)))]) rfl ?_
  refine rc_putF C N 0 (ty := .array .int) (j := 11) rfl rfl hin_X8 tyX8 tyX8_ok nmX8 (by decide) hk_41 rfl rfl (by decide +kernel) rfl rfl (Nat.le_of_ble_eq_true rfl) dX8_init_83 ?_
  refine rc_ws (ws' := [(h0, .inr (8, [.ref q1, .int (nI 1), .int (nI 2), .int 0, .ref q2, .ref q3, .ref q4, .ref q5, .ref q6, .ref q7, .ref q8, .ref q9, .int 0, .int 0, .long 0, .long 0, .null, .int 0, .long 0, .long 0, .null])), (q1, .inl (g.2.2.1, 9, .inl (fun _ => 0))), (q2, .inl (g.2.2.1, 12, .inl (fun _ => 0))), (q3, .inl (g.2.2.1, 48, .inl (fun _ => 0))), (q4, .inl (g.2.2.1, 144, .inl (fun _ => 0))), (q5, .inl (g.2.2.1, 4, .inl (fun _ => 0))), (q6, .inl (g.2.2.1, 4, .inl (fun _ => 0))), (q7, .inl (g.2.2.1, 240, .inl (fun _ => 0))), (q8, .inl (g.2.2.1, 17, .inl (fun _ => 0))), (q9, .inl (g.2.2.1, 16, .inl (fun _ => 0)))]) rfl ?_
  refine r_aload_n C 0 dX8_init_86 rfl rfl ?_
  refine r_bipush C dX8_init_87 (v := nI 16) (by decide) ?_
  refine rc_newZ C ha_Z (by decide) (Nat.le_of_ble_eq_true rfl) (Nat.le_of_ble_eq_true rfl) dX8_init_89 (fun q10 => ?_)
  refine rc_ws (ws' := [(h0, .inr (8, [.ref q1, .int (nI 1), .int (nI 2), .int 0, .ref q2, .ref q3, .ref q4, .ref q5, .ref q6, .ref q7, .ref q8, .ref q9, .int 0, .int 0, .long 0, .long 0, .null, .int 0, .long 0, .long 0, .null])), (q1, .inl (g.2.2.1, 9, .inl (fun _ => 0))), (q2, .inl (g.2.2.1, 12, .inl (fun _ => 0))), (q3, .inl (g.2.2.1, 48, .inl (fun _ => 0))), (q4, .inl (g.2.2.1, 144, .inl (fun _ => 0))), (q5, .inl (g.2.2.1, 4, .inl (fun _ => 0))), (q6, .inl (g.2.2.1, 4, .inl (fun _ => 0))), (q7, .inl (g.2.2.1, 240, .inl (fun _ => 0))), (q8, .inl (g.2.2.1, 17, .inl (fun _ => 0))), (q9, .inl (g.2.2.1, 16, .inl (fun _ => 0))), (q10, .inl (g.2.2.2.2, 16, .inl (fun _ => 0)))]) rfl ?_
  refine rc_putF C N 0 (ty := .array .boolean) (j := 16) rfl rfl hin_X8 tyX8 tyX8_ok nmX8 (by decide) hk_44 rfl rfl (by decide +kernel) rfl rfl (Nat.le_of_ble_eq_true rfl) dX8_init_91 ?_
  refine rc_ws (ws' := [(h0, .inr (8, [.ref q1, .int (nI 1), .int (nI 2), .int 0, .ref q2, .ref q3, .ref q4, .ref q5, .ref q6, .ref q7, .ref q8, .ref q9, .int 0, .int 0, .long 0, .long 0, .ref q10, .int 0, .long 0, .long 0, .null])), (q1, .inl (g.2.2.1, 9, .inl (fun _ => 0))), (q2, .inl (g.2.2.1, 12, .inl (fun _ => 0))), (q3, .inl (g.2.2.1, 48, .inl (fun _ => 0))), (q4, .inl (g.2.2.1, 144, .inl (fun _ => 0))), (q5, .inl (g.2.2.1, 4, .inl (fun _ => 0))), (q6, .inl (g.2.2.1, 4, .inl (fun _ => 0))), (q7, .inl (g.2.2.1, 240, .inl (fun _ => 0))), (q8, .inl (g.2.2.1, 17, .inl (fun _ => 0))), (q9, .inl (g.2.2.1, 16, .inl (fun _ => 0))), (q10, .inl (g.2.2.2.2, 16, .inl (fun _ => 0)))]) rfl ?_
  refine r_aload_n C 0 dX8_init_94 rfl rfl ?_
  refine r_bipush C dX8_init_95 (v := nI 12) (by decide) ?_
  refine rc_newI C ha_I (by decide) (Nat.le_of_ble_eq_true rfl) (Nat.le_of_ble_eq_true rfl) dX8_init_97 (fun q11 => ?_)
  refine rc_ws (ws' := [(h0, .inr (8, [.ref q1, .int (nI 1), .int (nI 2), .int 0, .ref q2, .ref q3, .ref q4, .ref q5, .ref q6, .ref q7, .ref q8, .ref q9, .int 0, .int 0, .long 0, .long 0, .ref q10, .int 0, .long 0, .long 0, .null])), (q1, .inl (g.2.2.1, 9, .inl (fun _ => 0))), (q2, .inl (g.2.2.1, 12, .inl (fun _ => 0))), (q3, .inl (g.2.2.1, 48, .inl (fun _ => 0))), (q4, .inl (g.2.2.1, 144, .inl (fun _ => 0))), (q5, .inl (g.2.2.1, 4, .inl (fun _ => 0))), (q6, .inl (g.2.2.1, 4, .inl (fun _ => 0))), (q7, .inl (g.2.2.1, 240, .inl (fun _ => 0))), (q8, .inl (g.2.2.1, 17, .inl (fun _ => 0))), (q9, .inl (g.2.2.1, 16, .inl (fun _ => 0))), (q10, .inl (g.2.2.2.2, 16, .inl (fun _ => 0))), (q11, .inl (g.2.2.1, 12, .inl (fun _ => 0)))]) rfl ?_
  refine rc_putF C N 0 (ty := .array .int) (j := 20) rfl rfl hin_X8 tyX8 tyX8_ok nmX8 (by decide) hk_48 rfl rfl (by decide +kernel) rfl rfl (Nat.le_of_ble_eq_true rfl) dX8_init_99 ?_
  refine rc_ws (ws' := [(h0, .inr (8, [.ref q1, .int (nI 1), .int (nI 2), .int 0, .ref q2, .ref q3, .ref q4, .ref q5, .ref q6, .ref q7, .ref q8, .ref q9, .int 0, .int 0, .long 0, .long 0, .ref q10, .int 0, .long 0, .long 0, .ref q11])), (q1, .inl (g.2.2.1, 9, .inl (fun _ => 0))), (q2, .inl (g.2.2.1, 12, .inl (fun _ => 0))), (q3, .inl (g.2.2.1, 48, .inl (fun _ => 0))), (q4, .inl (g.2.2.1, 144, .inl (fun _ => 0))), (q5, .inl (g.2.2.1, 4, .inl (fun _ => 0))), (q6, .inl (g.2.2.1, 4, .inl (fun _ => 0))), (q7, .inl (g.2.2.1, 240, .inl (fun _ => 0))), (q8, .inl (g.2.2.1, 17, .inl (fun _ => 0))), (q9, .inl (g.2.2.1, 16, .inl (fun _ => 0))), (q10, .inl (g.2.2.2.2, 16, .inl (fun _ => 0))), (q11, .inl (g.2.2.1, 12, .inl (fun _ => 0)))]) rfl ?_
  refine r_iconst C dX8_init_102 (v := nI 0) (by decide) ?_
  refine r_istore_n C [(0, .ref h0), (1, .int (nI 0))] [1, 0] dX8_init_103 rfl (by decide) rfl ?_
  refine r_iload_n C 1 dX8_init_104 rfl rfl ?_
  refine r_iconst C dX8_init_105 (v := nI 4) (by decide) ?_
  refine r_icmpN_ge C dX8_init_106 (tgt := 123) (by decide) (by decide) (by decide) (fun h => absurd h (by decide)) (fun _ => ?_)
  refine r_aload_n C 0 dX8_init_109 rfl rfl ?_
  refine rc_get C 0 (j := 7) rfl rfl hin_X8 (by decide) hk_29 rfl dX8_init_110 ?_
  refine r_iload_n C 1 dX8_init_113 rfl rfl ?_
  refine r_bipush C dX8_init_114 (v := (-4)) (by decide) ?_
  refine rc_iast C 5 (j := 0) rfl (by decide) (by decide) dX8_init_116 ?_
  refine rc_ws (ws' := [(h0, .inr (8, [.ref q1, .int (nI 1), .int (nI 2), .int 0, .ref q2, .ref q3, .ref q4, .ref q5, .ref q6, .ref q7, .ref q8, .ref q9, .int 0, .int 0, .long 0, .long 0, .ref q10, .int 0, .long 0, .long 0, .ref q11])), (q1, .inl (g.2.2.1, 9, .inl (fun _ => 0))), (q2, .inl (g.2.2.1, 12, .inl (fun _ => 0))), (q3, .inl (g.2.2.1, 48, .inl (fun _ => 0))), (q4, .inl (g.2.2.1, 144, .inl (fun _ => 0))), (q5, .inl (g.2.2.1, 4, .inl (upd (fun _ => 0) 0 ((-4))))), (q6, .inl (g.2.2.1, 4, .inl (fun _ => 0))), (q7, .inl (g.2.2.1, 240, .inl (fun _ => 0))), (q8, .inl (g.2.2.1, 17, .inl (fun _ => 0))), (q9, .inl (g.2.2.1, 16, .inl (fun _ => 0))), (q10, .inl (g.2.2.2.2, 16, .inl (fun _ => 0))), (q11, .inl (g.2.2.1, 12, .inl (fun _ => 0)))]) rfl ?_
  refine r_iinc C [(0, .ref h0), (1, .int (nI 1))] [1, 0] 1 dX8_init_117 rfl (v := nI 1) (by decide) (by decide) rfl ?_
  refine r_goto C dX8_init_120 (tgt := 104) (by decide) ?_
  refine r_iload_n C 1 dX8_init_104 rfl rfl ?_
  refine r_iconst C dX8_init_105 (v := nI 4) (by decide) ?_
  refine r_icmpN_ge C dX8_init_106 (tgt := 123) (by decide) (by decide) (by decide) (fun h => absurd h (by decide)) (fun _ => ?_)
  refine r_aload_n C 0 dX8_init_109 rfl rfl ?_
  refine rc_get C 0 (j := 7) rfl rfl hin_X8 (by decide) hk_29 rfl dX8_init_110 ?_
  refine r_iload_n C 1 dX8_init_113 rfl rfl ?_
  refine r_bipush C dX8_init_114 (v := (-4)) (by decide) ?_
  refine rc_iast C 5 (j := 1) rfl (by decide) (by decide) dX8_init_116 ?_
  refine rc_ws (ws' := [(h0, .inr (8, [.ref q1, .int (nI 1), .int (nI 2), .int 0, .ref q2, .ref q3, .ref q4, .ref q5, .ref q6, .ref q7, .ref q8, .ref q9, .int 0, .int 0, .long 0, .long 0, .ref q10, .int 0, .long 0, .long 0, .ref q11])), (q1, .inl (g.2.2.1, 9, .inl (fun _ => 0))), (q2, .inl (g.2.2.1, 12, .inl (fun _ => 0))), (q3, .inl (g.2.2.1, 48, .inl (fun _ => 0))), (q4, .inl (g.2.2.1, 144, .inl (fun _ => 0))), (q5, .inl (g.2.2.1, 4, .inl (upd (upd (fun _ => 0) 0 ((-4))) 1 ((-4))))), (q6, .inl (g.2.2.1, 4, .inl (fun _ => 0))), (q7, .inl (g.2.2.1, 240, .inl (fun _ => 0))), (q8, .inl (g.2.2.1, 17, .inl (fun _ => 0))), (q9, .inl (g.2.2.1, 16, .inl (fun _ => 0))), (q10, .inl (g.2.2.2.2, 16, .inl (fun _ => 0))), (q11, .inl (g.2.2.1, 12, .inl (fun _ => 0)))]) rfl ?_
  refine r_iinc C [(0, .ref h0), (1, .int (nI 2))] [1, 0] 1 dX8_init_117 rfl (v := nI 2) (by decide) (by decide) rfl ?_
  refine r_goto C dX8_init_120 (tgt := 104) (by decide) ?_
  refine r_iload_n C 1 dX8_init_104 rfl rfl ?_
  refine r_iconst C dX8_init_105 (v := nI 4) (by decide) ?_
  refine r_icmpN_ge C dX8_init_106 (tgt := 123) (by decide) (by decide) (by decide) (fun h => absurd h (by decide)) (fun _ => ?_)
  refine r_aload_n C 0 dX8_init_109 rfl rfl ?_
  refine rc_get C 0 (j := 7) rfl rfl hin_X8 (by decide) hk_29 rfl dX8_init_110 ?_
  refine r_iload_n C 1 dX8_init_113 rfl rfl ?_
  refine r_bipush C dX8_init_114 (v := (-4)) (by decide) ?_
  refine rc_iast C 5 (j := 2) rfl (by decide) (by decide) dX8_init_116 ?_
  refine rc_ws (ws' := [(h0, .inr (8, [.ref q1, .int (nI 1), .int (nI 2), .int 0, .ref q2, .ref q3, .ref q4, .ref q5, .ref q6, .ref q7, .ref q8, .ref q9, .int 0, .int 0, .long 0, .long 0, .ref q10, .int 0, .long 0, .long 0, .ref q11])), (q1, .inl (g.2.2.1, 9, .inl (fun _ => 0))), (q2, .inl (g.2.2.1, 12, .inl (fun _ => 0))), (q3, .inl (g.2.2.1, 48, .inl (fun _ => 0))), (q4, .inl (g.2.2.1, 144, .inl (fun _ => 0))), (q5, .inl (g.2.2.1, 4, .inl (upd (upd (upd (fun _ => 0) 0 ((-4))) 1 ((-4))) 2 ((-4))))), (q6, .inl (g.2.2.1, 4, .inl (fun _ => 0))), (q7, .inl (g.2.2.1, 240, .inl (fun _ => 0))), (q8, .inl (g.2.2.1, 17, .inl (fun _ => 0))), (q9, .inl (g.2.2.1, 16, .inl (fun _ => 0))), (q10, .inl (g.2.2.2.2, 16, .inl (fun _ => 0))), (q11, .inl (g.2.2.1, 12, .inl (fun _ => 0)))]) rfl ?_
  refine r_iinc C [(0, .ref h0), (1, .int (nI 3))] [1, 0] 1 dX8_init_117 rfl (v := nI 3) (by decide) (by decide) rfl ?_
  refine r_goto C dX8_init_120 (tgt := 104) (by decide) ?_
  refine r_iload_n C 1 dX8_init_104 rfl rfl ?_
  refine r_iconst C dX8_init_105 (v := nI 4) (by decide) ?_
  refine r_icmpN_ge C dX8_init_106 (tgt := 123) (by decide) (by decide) (by decide) (fun h => absurd h (by decide)) (fun _ => ?_)
  refine r_aload_n C 0 dX8_init_109 rfl rfl ?_
  refine rc_get C 0 (j := 7) rfl rfl hin_X8 (by decide) hk_29 rfl dX8_init_110 ?_
  refine r_iload_n C 1 dX8_init_113 rfl rfl ?_
  refine r_bipush C dX8_init_114 (v := (-4)) (by decide) ?_
  refine rc_iast C 5 (j := 3) rfl (by decide) (by decide) dX8_init_116 ?_
  refine rc_ws (ws' := [(h0, .inr (8, [.ref q1, .int (nI 1), .int (nI 2), .int 0, .ref q2, .ref q3, .ref q4, .ref q5, .ref q6, .ref q7, .ref q8, .ref q9, .int 0, .int 0, .long 0, .long 0, .ref q10, .int 0, .long 0, .long 0, .ref q11])), (q1, .inl (g.2.2.1, 9, .inl (fun _ => 0))), (q2, .inl (g.2.2.1, 12, .inl (fun _ => 0))), (q3, .inl (g.2.2.1, 48, .inl (fun _ => 0))), (q4, .inl (g.2.2.1, 144, .inl (fun _ => 0))), (q5, .inl (g.2.2.1, 4, .inl (upd (upd (upd (upd (fun _ => 0) 0 ((-4))) 1 ((-4))) 2 ((-4))) 3 ((-4))))), (q6, .inl (g.2.2.1, 4, .inl (fun _ => 0))), (q7, .inl (g.2.2.1, 240, .inl (fun _ => 0))), (q8, .inl (g.2.2.1, 17, .inl (fun _ => 0))), (q9, .inl (g.2.2.1, 16, .inl (fun _ => 0))), (q10, .inl (g.2.2.2.2, 16, .inl (fun _ => 0))), (q11, .inl (g.2.2.1, 12, .inl (fun _ => 0)))]) rfl ?_
  refine r_iinc C [(0, .ref h0), (1, .int (nI 4))] [1, 0] 1 dX8_init_117 rfl (v := nI 4) (by decide) (by decide) rfl ?_
  refine r_goto C dX8_init_120 (tgt := 104) (by decide) ?_
  refine r_iload_n C 1 dX8_init_104 rfl rfl ?_
  refine r_iconst C dX8_init_105 (v := nI 4) (by decide) ?_
  refine r_icmpN_ge C dX8_init_106 (tgt := 123) (by decide) (by decide) (by decide) (fun _ => ?_) (fun h => absurd (by decide) h)
  exact E _ _ _ dX8_init_123 ⟨q1, q2, q3, q4, q5, q6, q7, q8, q9, q10, q11, rfl⟩
