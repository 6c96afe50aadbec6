
theorem cntN_mono {P Q : Nat → Prop} (h : ∀ p, P p → Q p) (n : Nat) : cntN P n ≤ cntN Q n := by
  induction n with
  | zero => exact Nat.le_refl _
  | succ n ih =>
    by_cases z : P n
    · rw [cntN_t z, cntN_t (h n z)]; omega
    · rw [cntN_f z]
      by_cases z2 : Q n
      · rw [cntN_t z2]; omega
      · rw [cntN_f z2]; exact ih
theorem cntN_add {P Q : Nat → Prop} (h : ∀ p, P p → Q p) {m : Nat} (h1 : ¬ P m) (h2 : Q m) (n : Nat) (hm : m < n) : cntN P n + 1 ≤ cntN Q n := by
  induction n with
  | zero => omega
  | succ n ih =>
    rcases Nat.lt_or_ge m n with z | z
    · have := ih z
      by_cases z1 : P n
      · rw [cntN_t z1, cntN_t (h n z1)]; omega
      · rw [cntN_f z1]
        by_cases z2 : Q n
        · rw [cntN_t z2]; omega
        · rw [cntN_f z2]; exact this
    · have e : m = n := by omega
      subst e
      rw [cntN_f h1, cntN_t h2]
      have := cntN_mono h m
      omega
theorem cntN_full {P : Nat → Prop} (n : Nat) (h : n ≤ cntN P n) : ∀ p, p < n → P p := by
  induction n with
  | zero => intro p hp; omega
  | succ n ih =>
    intro p hp
    by_cases z : P n
    · rw [cntN_t z] at h
      rcases Nat.lt_or_ge p n with y | y
      · exact ih (by omega) p y
      · have e : p = n := by omega
        subst e; exact z
    · rw [cntN_f z] at h
      have := cntN_le P n
      omega
/-! the reference marks the pairs of states that are unlike -/
def UN0 (u : Me) (S : Sg) (i j s t : Nat) (v : Me) : Prop := Sm [46] [] [] [] u v ∧ ∀ a b, a < sz S i → b < sz S j → (a < s ∨ (a = s ∧ b < t)) → mA v 46 (4 * a + b) = bI (¬ sa S i a = sa S j b)
theorem UN0.set {u v : Me} {S : Sg} {i j s t : Nat} {x : Int32} (hO : Ok S) (h : UN0 u S i j s t v) (ht : t < sz S j) (hx : bI (¬ sa S i s = sa S j t) = x) : UN0 u S i j s (t + 1) (sA v 46 (upd (mA v 46) (4 * s + t) x)) := by
  have z2 := (hO.z j).2
  refine ⟨h.1.sA (by decide) _, fun a b ha hb hab => ?_⟩
  rw [mA_sA_self]
  unfold upd
  by_cases q : a = s ∧ b = t
  · rw [if_pos (by omega), q.1, q.2]; exact hx.symm
  · rw [if_neg (by omega)]; exact h.2 a b ha hb (by omega)
theorem UN0.row {u v : Me} {S : Sg} {i j s t : Nat} (h : UN0 u S i j s t v) (ht : sz S j ≤ t) : UN0 u S i j (s + 1) 0 v := ⟨h.1, fun a b ha hb hab => h.2 a b ha hb (by omega)⟩
def UNI (u : Me) (S : Sg) (i j : Nat) (U : Nat → Nat → Prop) (v : Me) : Prop := Sm [46] [] [] [] u v ∧ (∀ a b, a < sz S i → b < sz S j → mA v 46 (4 * a + b) = bI (U a b)) ∧ (∀ a b, U a b → a < sz S i ∧ b < sz S j ∧ ¬ Lk S i a j b) ∧ (∀ a b, a < sz S i → b < sz S j → ¬ sa S i a = sa S j b → U a b)
theorem UN0.fin {u v : Me} {S : Sg} {i j s t : Nat} (h : UN0 u S i j s t v) (hs : sz S i ≤ s) : UNI u S i j (fun a b => a < sz S i ∧ b < sz S j ∧ ¬ sa S i a = sa S j b) v := by
  refine ⟨h.1, fun a b ha hb => ?_, fun a b hab => ⟨hab.1, hab.2.1, fun q => hab.2.2 q.a⟩, fun a b ha hb q => ⟨ha, hb, q⟩⟩
  rw [h.2 a b ha hb (by omega)]
  exact bI_iff ⟨fun q => ⟨ha, hb, q⟩, fun q => q.2.2⟩
def CLO (S : Sg) (i j : Nat) (U : Nat → Nat → Prop) : Prop := ∀ s t c, s < sz S i → t < sz S j → c < 3 → U (sx S i s c) (sx S j t c) → U s t
noncomputable def cnU (U : Nat → Nat → Prop) : Nat := cntN (fun p => U (p / 4) (p % 4)) 16
def TRP (S : Sg) (i j k s t c : Nat) (U : Nat → Nat → Prop) : Prop := CLO S i j U ∨ k + 1 ≤ cnU U ∨ (k ≤ cnU U ∧ ∀ s' t' c', s' < sz S i → t' < sz S j → c' < 3 → (s' < s ∨ (s' = s ∧ (t' < t ∨ (t' = t ∧ c' < c)))) → U (sx S i s' c') (sx S j t' c') → U s' t')
def mkU (U : Nat → Nat → Prop) (s t : Nat) : Nat → Nat → Prop := fun a b => U a b ∨ (a = s ∧ b = t)
theorem mkU_same {U : Nat → Nat → Prop} {s t : Nat} (h : U s t) : mkU U s t = U := by
  funext a b
  refine propext ⟨fun q => q.elim id (fun z => by rw [z.1, z.2]; exact h), Or.inl⟩
theorem UNI.mark {u v : Me} {S : Sg} {i j s t c : Nat} {U : Nat → Nat → Prop} (hO : Ok S) (h : UNI u S i j U v) (hs : s < sz S i) (ht : t < sz S j) (hc : c < 3) (hm : U s t ∨ U (sx S i s c) (sx S j t c)) : UNI u S i j (mkU U s t) (sA v 46 (upd (mA v 46) (4 * s + t) (nI 1))) := by
  have z2 := (hO.z j).2
  obtain ⟨h1, h2, h3, h4⟩ := h
  refine ⟨h1.sA (by decide) _, fun a b ha hb => ?_, fun a b hab => ?_, fun a b ha hb q => Or.inl (h4 a b ha hb q)⟩
  · rw [mA_sA_self]
    unfold upd
    by_cases q : a = s ∧ b = t
    · rw [if_pos (by omega)]; exact (bT (Or.inr q)).symm
    · rw [if_neg (by omega), h2 a b ha hb]
      exact bI_iff ⟨Or.inl, fun z => z.elim id (fun z => absurd z q)⟩
  · rcases hab with q | ⟨rfl, rfl⟩
    · exact h3 a b q
    · refine ⟨hs, ht, fun q => ?_⟩
      rcases hm with z | z
      · exact (h3 _ _ z).2.2 q
      · exact (h3 _ _ z).2.2 (q.x hc)
theorem UNI.keep {u v : Me} {S : Sg} {i j s t : Nat} {U : Nat → Nat → Prop} (hO : Ok S) (h : UNI u S i j U v) (ht : t < sz S j) (hm : ¬ U s t) : UNI u S i j U (sA v 46 (upd (mA v 46) (4 * s + t) (nI 0))) := by
  have z2 := (hO.z j).2
  obtain ⟨h1, h2, h3, h4⟩ := h
  refine ⟨h1.sA (by decide) _, fun a b ha hb => ?_, h3, h4⟩
  rw [mA_sA_self]
  unfold upd
  by_cases q : a = s ∧ b = t
  · rw [if_pos (by omega), q.1, q.2]; exact (bF hm).symm
  · rw [if_neg (by omega)]; exact h2 a b ha hb
theorem TRP.keep {S : Sg} {i j k s t c : Nat} {U : Nat → Nat → Prop} (h : TRP S i j k s t c U) (hm : U (sx S i s c) (sx S j t c) → U s t) : TRP S i j k s t (c + 1) U := by
  rcases h with q | q | ⟨q, q2⟩
  · exact Or.inl q
  · exact Or.inr (Or.inl q)
  · refine Or.inr (Or.inr ⟨q, fun s' t' c' h1 h2 h3 h4 h5 => ?_⟩)
    by_cases z : s' = s ∧ t' = t ∧ c' = c
    · obtain ⟨rfl, rfl, rfl⟩ := z; exact hm h5
    · exact q2 s' t' c' h1 h2 h3 (by omega) h5
theorem TRP.mark {S : Sg} (hO : Ok S) {i j k s t c : Nat} {U : Nat → Nat → Prop} (h : TRP S i j k s t c U) (hs : s < sz S i) (ht : t < sz S j) (hc : c < 3) (hm : U s t ∨ U (sx S i s c) (sx S j t c)) : TRP S i j k s t (c + 1) (mkU U s t) := by
  have z1 := (hO.z i).2
  have z2 := (hO.z j).2
  by_cases w : U s t
  · rw [mkU_same w]; exact h.keep (fun _ => w)
  · have hx := hm.resolve_left w
    have hcn : cnU U + 1 ≤ cnU (mkU U s t) := by
      refine cntN_add (m := 4 * s + t) (fun p q => Or.inl q) ?_ ?_ 16 (by omega)
      · rw [show (4 * s + t) / 4 = s by omega, show (4 * s + t) % 4 = t by omega]; exact w
      · rw [show (4 * s + t) / 4 = s by omega, show (4 * s + t) % 4 = t by omega]; exact Or.inr ⟨rfl, rfl⟩
    rcases h with q | q | ⟨q, -⟩
    · exact absurd (q s t c hs ht hc hx) w
    · exact Or.inr (Or.inl (by omega))
    · exact Or.inr (Or.inl (by omega))
theorem TRP.row {S : Sg} {i j k s t : Nat} {U : Nat → Nat → Prop} (h : TRP S i j k s t 3 U) : TRP S i j k s (t + 1) 0 U := by
  rcases h with q | q | ⟨q, q2⟩
  · exact Or.inl q
  · exact Or.inr (Or.inl q)
  · exact Or.inr (Or.inr ⟨q, fun s' t' c' h1 h2 h3 h4 h5 => q2 s' t' c' h1 h2 h3 (by omega) h5⟩)
theorem TRP.rows {S : Sg} {i j k s t : Nat} {U : Nat → Nat → Prop} (h : TRP S i j k s t 0 U) (ht : sz S j ≤ t) : TRP S i j k (s + 1) 0 0 U := by
  rcases h with q | q | ⟨q, q2⟩
  · exact Or.inl q
  · exact Or.inr (Or.inl q)
  · exact Or.inr (Or.inr ⟨q, fun s' t' c' h1 h2 h3 h4 h5 => q2 s' t' c' h1 h2 h3 (by omega) h5⟩)
theorem TRP.rnd {S : Sg} {i j k s : Nat} {U : Nat → Nat → Prop} (h : TRP S i j k s 0 0 U) (hs : sz S i ≤ s) : CLO S i j U ∨ k + 1 ≤ cnU U := by
  rcases h with q | q | ⟨q, q2⟩
  · exact Or.inl q
  · exact Or.inr q
  · exact Or.inl (fun s' t' c' h1 h2 h3 h5 => q2 s' t' c' h1 h2 h3 (by omega) h5)
theorem TRP.start {S : Sg} {i j k : Nat} {U : Nat → Nat → Prop} (h : CLO S i j U ∨ k ≤ cnU U) : TRP S i j k 0 0 0 U := by
  rcases h with q | q
  · exact Or.inl q
  · exact Or.inr (Or.inr ⟨q, fun s' t' c' h1 h2 h3 h4 h5 => absurd h4 (by omega)⟩)
/-- sixteen rounds are enough -/
theorem UNI.fin {u v : Me} {S : Sg} {i j : Nat} {U : Nat → Nat → Prop} (hO : Ok S) (h : UNI u S i j U v) (hc : CLO S i j U ∨ 16 ≤ cnU U) : (∀ a b, a < sz S i → b < sz S j → mA v 46 (4 * a + b) = bI (¬ Lk S i a j b)) ∧ Sm [46] [] [] [] u v := by
  have z1 := (hO.z i).2
  have z2 := (hO.z j).2
  obtain ⟨h1, h2, h3, h4⟩ := h
  have hcl : CLO S i j U := by
    rcases hc with q | q
    · exact q
    · intro s t c hs ht _ _
      have := cntN_full 16 q (4 * s + t) (by omega)
      rw [show (4 * s + t) / 4 = s by omega, show (4 * s + t) % 4 = t by omega] at this
      exact this
  refine ⟨fun a b ha hb => ?_, h1⟩
  rw [h2 a b ha hb]
  refine bI_iff ⟨fun q => (h3 a b q).2.2, fun q => Classical.byContradiction fun w => q ?_⟩
  refine ⟨fun a b => a < sz S i ∧ b < sz S j ∧ ¬ U a b, fun a b hab => ⟨Classical.byContradiction fun y => hab.2.2 (h4 a b hab.1 hab.2.1 y), fun c hc => ⟨hO.x _ _ _, hO.x _ _ _, fun y => hab.2.2 (hcl a b c hab.1 hab.2.1 hc y)⟩⟩, ha, hb, w⟩
def rmX8_findUnlike : Room := { frames := 0, cells := 0, slots := 0, locals := 0 }
theorem pk_X8_findUnlike : Pk yX8_findUnlike RX8 2 := by decide +kernel
set_option maxHeartbeats 4000000 in
set_option maxRecDepth 100000 in
theorem c_X8_findUnlike (l : Launch) (g : gE) (ad : Nat → Nat) (u : Me) (S : Sg) (hM : RepM S u) (hO : Ok S) (i j : Nat) (hi : i < sN S) (hj : j < sN S) : Ctv l yX8_findUnlike wsX8_findUnlike rmX8_findUnlike g ad [.ref (ad 36), .int (nI (i)), .int (nI (j))] u (fun u' => ((∀ a b, a < sz S i → b < sz S j → mA u' 46 (4 * a + b) = bI (¬ Lk S i a j b)) ∧ Sm [46] [] [] [] u u') ∧ RepM S u') := by
  refine Ct.of (cc := cX8_findUnlike) (nL := 7) (ret := none) RX8 (by decide) rfl rfl (Nat.le_of_ble_eq_true rfl) (fun kx C E => ?_)
  have hin_X8 : ∀ w ∈ u_ws RX8 TX8 21, w ∈ wsX8_findUnlike := by decide +kernel
  have hk_20 : Cond.fieldLink RX8 20 "AgainAgainModel" "many" "[I" ∈ wsX8_findUnlike := by decide +kernel
  have hk_23 : Cond.fieldLink RX8 23 "AgainAgainModel" "acts" "[I" ∈ wsX8_findUnlike := by decide +kernel
  have hk_26 : Cond.fieldLink RX8 26 "AgainAgainModel" "nexts" "[I" ∈ wsX8_findUnlike := by decide +kernel
  have hk_44 : Cond.fieldLink RX8 44 "AgainAgainModel" "unlike" "[Z" ∈ wsX8_findUnlike := by decide +kernel
  show G kx 0 0 (WW g ad u) 0 [(0, .ref (ad 36)), (1, .int (nI (i))), (2, .int (nI (j)))] []
  have hn := hO.n
  have hz1 := (hO.z i).2
  have hz2 := (hO.z j).2
  refine r_iconst C dX8_findUnlike_0 (v := nI 0) (by decide) ?_
  refine r_istore_n C [(0, .ref (ad 36)), (1, .int (nI (i))), (2, .int (nI (j))), (3, .int (nI (0)))] [1, 2, 3, 0] dX8_findUnlike_1 rfl (by decide) rfl ?_
  have L2 : ∀ (fu : Nat) (s : Nat) (v : Me), sz S i < s + fu → (s ≤ sz S i) → (UN0 u S i j s 0 v) → (RepM S v) → G kx 0 0 (WW g ad v) 2 [(0, .ref (ad 36)), (1, .int (nI (i))), (2, .int (nI (j))), (3, .int (nI (s)))] [] := by
    intro fu
    induction fu with
    | zero => intro s v hfu hsi hv hM; exact absurd hfu (by omega)
    | succ fu ih =>
      intro s v hfu hsi hv hM
      refine r_iload_n C 3 dX8_findUnlike_2 rfl rfl ?_
      refine r_aload_n C 0 dX8_findUnlike_3 rfl rfl ?_
      refine r_get C (CN := RX8) (T := TX8) (N := 21) k_36 rfl hin_X8 (j := 4) (by decide) hk_20 rfl rfl dX8_findUnlike_4 ?_
      refine r_iload_n C 1 dX8_findUnlike_7 rfl rfl ?_
      refine r_iald C k_38 (by omega) (by omega) dX8_findUnlike_8 ?_
      refine r_setI (y := (nI (sz S i))) (hM.z (by assumption)) ?_
      refine r_icmpN_ge C dX8_findUnlike_9 (tgt := 78) (by decide) (by omega) (by omega) (fun h9 => ?_) (fun h9 => ?_)
      · refine r_iconst C dX8_findUnlike_78 (v := nI 0) (by decide) ?_
        refine r_istore_n C [(0, .ref (ad 36)), (1, .int (nI (i))), (2, .int (nI (j))), (3, .int (nI (0)))] [1, 2, 3, 0] dX8_findUnlike_79 rfl (by decide) rfl ?_
        have L80 : ∀ (fu : Nat) (n : Nat) (U : Nat → Nat → Prop) (v : Me), 16 < n + fu → (n ≤ 16) → (UNI u S i j U v) → (RepM S v) → (CLO S i j U ∨ n ≤ cnU U) → G kx 0 0 (WW g ad v) 80 [(0, .ref (ad 36)), (1, .int (nI (i))), (2, .int (nI (j))), (3, .int (nI (n)))] [] := by
          intro fu
          induction fu with
          | zero => intro n U v hfu hn16 hv hM hT; exact absurd hfu (by omega)
          | succ fu ih =>
            intro n U v hfu hn16 hv hM hT
            refine r_iload_n C 3 dX8_findUnlike_80 rfl rfl ?_
            refine r_bipush C dX8_findUnlike_81 (v := nI 16) (by decide) ?_
            refine r_icmpN_ge C dX8_findUnlike_83 (tgt := 224) (by decide) (by omega) (by omega) (fun h83 => ?_) (fun h83 => ?_)
            · exact E.1 rfl _ _ _ dX8_findUnlike_224 ⟨rfl, ⟨hv.fin hO (by rw [show n = 16 by omega] at hT; exact hT), hM⟩⟩
            · refine r_iconst C dX8_findUnlike_86 (v := nI 0) (by decide) ?_
              refine r_istore C [(0, .ref (ad 36)), (1, .int (nI (i))), (2, .int (nI (j))), (3, .int (nI (n))), (4, .int (nI (0)))] [1, 2, 3, 4, 0] dX8_findUnlike_87 (by decide) rfl ?_
              have ih1 := ih
              have L89 : ∀ (fu : Nat) (s : Nat) (U : Nat → Nat → Prop) (v : Me), sz S i < s + fu → (s ≤ sz S i) → (UNI u S i j U v) → (RepM S v) → (TRP S i j n s 0 0 U) → G kx 0 0 (WW g ad v) 89 [(0, .ref (ad 36)), (1, .int (nI (i))), (2, .int (nI (j))), (3, .int (nI (n))), (4, .int (nI (s)))] [] := by
                intro fu
                induction fu with
                | zero => intro s U v hfu hsi hv hM hT; exact absurd hfu (by omega)
                | succ fu ih =>
                  intro s U v hfu hsi hv hM hT
                  refine r_iload C 4 dX8_findUnlike_89 rfl ?_
                  refine r_aload_n C 0 dX8_findUnlike_91 rfl rfl ?_
                  refine r_get C (CN := RX8) (T := TX8) (N := 21) k_36 rfl hin_X8 (j := 4) (by decide) hk_20 rfl rfl dX8_findUnlike_92 ?_
                  refine r_iload_n C 1 dX8_findUnlike_95 rfl rfl ?_
                  refine r_iald C k_38 (by omega) (by omega) dX8_findUnlike_96 ?_
                  refine r_setI (y := (nI (sz S i))) (hM.z (by assumption)) ?_
                  refine r_icmpN_ge C dX8_findUnlike_97 (tgt := 218) (by decide) (by omega) (by omega) (fun h97 => ?_) (fun h97 => ?_)
                  · refine r_iinc C [(0, .ref (ad 36)), (1, .int (nI (i))), (2, .int (nI (j))), (3, .int (nI (n + 1))), (4, .int (nI (s)))] [1, 2, 3, 0, 4] 3 dX8_findUnlike_218 rfl (nI_add _ 1) (by decide) rfl ?_
                    refine r_goto C dX8_findUnlike_221 (tgt := 80) (by decide) ?_
                    refine r_lvs C [0, 1, 2, 3] (lv' := [(0, .ref (ad 36)), (1, .int (nI (i))), (2, .int (nI (j))), (3, .int (nI (n + 1)))]) rfl ?_
                    exact ih1 (n + 1) U v (by omega) (by omega) hv hM (hT.rnd (by omega))
                  · have hs : s < sz S i := by omega
                    refine r_iconst C dX8_findUnlike_100 (v := nI 0) (by decide) ?_
                    refine r_istore C [(0, .ref (ad 36)), (1, .int (nI (i))), (2, .int (nI (j))), (3, .int (nI (n))), (4, .int (nI (s))), (5, .int (nI (0)))] [1, 2, 3, 4, 5, 0] dX8_findUnlike_101 (by decide) rfl ?_
                    have ih2 := ih
                    have L103 : ∀ (fu : Nat) (t : Nat) (U : Nat → Nat → Prop) (v : Me), sz S j < t + fu → (t ≤ sz S j) → (UNI u S i j U v) → (RepM S v) → (TRP S i j n s t 0 U) → G kx 0 0 (WW g ad v) 103 [(0, .ref (ad 36)), (1, .int (nI (i))), (2, .int (nI (j))), (3, .int (nI (n))), (4, .int (nI (s))), (5, .int (nI (t)))] [] := by
                      intro fu
                      induction fu with
                      | zero => intro t U v hfu htj hv hM hT; exact absurd hfu (by omega)
                      | succ fu ih =>
                        intro t U v hfu htj hv hM hT
                        refine r_iload C 5 dX8_findUnlike_103 rfl ?_
                        refine r_aload_n C 0 dX8_findUnlike_105 rfl rfl ?_
                        refine r_get C (CN := RX8) (T := TX8) (N := 21) k_36 rfl hin_X8 (j := 4) (by decide) hk_20 rfl rfl dX8_findUnlike_106 ?_
                        refine r_iload_n C 2 dX8_findUnlike_109 rfl rfl ?_
                        refine r_iald C k_38 (by omega) (by omega) dX8_findUnlike_110 ?_
                        refine r_setI (y := (nI (sz S j))) (hM.z (by assumption)) ?_
                        refine r_icmpN_ge C dX8_findUnlike_111 (tgt := 212) (by decide) (by omega) (by omega) (fun h111 => ?_) (fun h111 => ?_)
                        · refine r_iinc C [(0, .ref (ad 36)), (1, .int (nI (i))), (2, .int (nI (j))), (3, .int (nI (n))), (4, .int (nI (s + 1))), (5, .int (nI (t)))] [1, 2, 3, 4, 0, 5] 4 dX8_findUnlike_212 rfl (nI_add _ 1) (by decide) rfl ?_
                          refine r_goto C dX8_findUnlike_215 (tgt := 89) (by decide) ?_
                          refine r_lvs C [0, 1, 2, 3, 4] (lv' := [(0, .ref (ad 36)), (1, .int (nI (i))), (2, .int (nI (j))), (3, .int (nI (n))), (4, .int (nI (s + 1)))]) rfl ?_
                          exact ih2 (s + 1) U v (by omega) (by omega) hv hM (hT.rows (by omega))
                        · have ht : t < sz S j := by omega
                          refine r_iconst C dX8_findUnlike_114 (v := nI 0) (by decide) ?_
                          refine r_istore C [(0, .ref (ad 36)), (1, .int (nI (i))), (2, .int (nI (j))), (3, .int (nI (n))), (4, .int (nI (s))), (5, .int (nI (t))), (6, .int (nI (0)))] [1, 2, 3, 4, 5, 6, 0] dX8_findUnlike_115 (by decide) rfl ?_
                          have ih3 := ih
                          have L117 : ∀ (fu : Nat) (c : Nat) (U : Nat → Nat → Prop) (v : Me), 3 < c + fu → (c ≤ 3) → (UNI u S i j U v) → (RepM S v) → (TRP S i j n s t c U) → G kx 0 0 (WW g ad v) 117 [(0, .ref (ad 36)), (1, .int (nI (i))), (2, .int (nI (j))), (3, .int (nI (n))), (4, .int (nI (s))), (5, .int (nI (t))), (6, .int (nI (c)))] [] := by
                            intro fu
                            induction fu with
                            | zero => intro c U v hfu hc hv hM hT; exact absurd hfu (by omega)
                            | succ fu ih =>
                              intro c U v hfu hc hv hM hT
                              refine r_iload C 6 dX8_findUnlike_117 rfl ?_
                              refine r_iconst C dX8_findUnlike_119 (v := nI 3) (by decide) ?_
                              refine r_icmpN_ge C dX8_findUnlike_120 (tgt := 206) (by decide) (by omega) (by omega) (fun h120 => ?_) (fun h120 => ?_)
                              · refine r_iinc C [(0, .ref (ad 36)), (1, .int (nI (i))), (2, .int (nI (j))), (3, .int (nI (n))), (4, .int (nI (s))), (5, .int (nI (t + 1))), (6, .int (nI (c)))] [1, 2, 3, 4, 5, 0, 6] 5 dX8_findUnlike_206 rfl (nI_add _ 1) (by decide) rfl ?_
                                refine r_goto C dX8_findUnlike_209 (tgt := 103) (by decide) ?_
                                refine r_lvs C [0, 1, 2, 3, 4, 5] (lv' := [(0, .ref (ad 36)), (1, .int (nI (i))), (2, .int (nI (j))), (3, .int (nI (n))), (4, .int (nI (s))), (5, .int (nI (t + 1)))]) rfl ?_
                                exact ih3 (t + 1) U v (by omega) (by omega) hv hM (by rw [show c = 3 by omega] at hT; exact hT.row)
                              · have hc3 : c < 3 := by omega
                                have hx1 := hO.x i s c
                                have hx2 := hO.x j t c
                                refine r_aload_n C 0 dX8_findUnlike_123 rfl rfl ?_
                                refine r_get C (CN := RX8) (T := TX8) (N := 21) k_36 rfl hin_X8 (j := 16) (by decide) hk_44 rfl rfl dX8_findUnlike_124 ?_
                                refine r_iconst C dX8_findUnlike_127 (v := nI 4) (by decide) ?_
                                refine r_iload C 4 dX8_findUnlike_128 rfl ?_
                                refine r_imulN C dX8_findUnlike_130 ?_
                                refine r_iload C 5 dX8_findUnlike_131 rfl ?_
                                refine r_iaddN C dX8_findUnlike_133 ?_
                                refine r_aload_n C 0 dX8_findUnlike_134 rfl rfl ?_
                                refine r_get C (CN := RX8) (T := TX8) (N := 21) k_36 rfl hin_X8 (j := 16) (by decide) hk_44 rfl rfl dX8_findUnlike_135 ?_
                                refine r_iconst C dX8_findUnlike_138 (v := nI 4) (by decide) ?_
                                refine r_iload C 4 dX8_findUnlike_139 rfl ?_
                                refine r_imulN C dX8_findUnlike_141 ?_
                                refine r_iload C 5 dX8_findUnlike_142 rfl ?_
                                refine r_iaddN C dX8_findUnlike_144 ?_
                                refine r_zald C k_46 (by omega) (by omega) dX8_findUnlike_145 ?_
                                refine r_setI (y := (bI (U s t))) (hv.2.1 s t hs ht) ?_
                                refine r_ifB_ne C dX8_findUnlike_146 (tgt := 194) (by decide) (fun h146 => ?_) (fun h146 => ?_)
                                · have hmk : U s t ∨ U (sx S i s c) (sx S j t c) := Or.inl h146
                                  refine r_iconst C dX8_findUnlike_194 (v := nI 1) (by decide) ?_
                                  refine r_goto C dX8_findUnlike_195 (tgt := 199) (by decide) ?_
                                  refine r_zast C k_46 (by omega) (by omega) (by decide) dX8_findUnlike_199 ?_
                                  refine r_iinc C [(0, .ref (ad 36)), (1, .int (nI (i))), (2, .int (nI (j))), (3, .int (nI (n))), (4, .int (nI (s))), (5, .int (nI (t))), (6, .int (nI (c + 1)))] [1, 2, 3, 4, 5, 6, 0] 6 dX8_findUnlike_200 rfl (nI_add _ 1) (by decide) rfl ?_
                                  refine r_goto C dX8_findUnlike_203 (tgt := 117) (by decide) ?_
                                  exact ih (c + 1) _ _ (by omega) (by omega) (hv.mark hO hs ht hc3 hmk) (hM.sA (c := 46) (by decide) _) (hT.mark hO hs ht hc3 hmk)
                                · refine r_aload_n C 0 dX8_findUnlike_149 rfl rfl ?_
                                  refine r_get C (CN := RX8) (T := TX8) (N := 21) k_36 rfl hin_X8 (j := 16) (by decide) hk_44 rfl rfl dX8_findUnlike_150 ?_
                                  refine r_iconst C dX8_findUnlike_153 (v := nI 4) (by decide) ?_
                                  refine r_aload_n C 0 dX8_findUnlike_154 rfl rfl ?_
                                  refine r_get C (CN := RX8) (T := TX8) (N := 21) k_36 rfl hin_X8 (j := 6) (by decide) hk_26 rfl rfl dX8_findUnlike_155 ?_
                                  refine r_bipush C dX8_findUnlike_158 (v := nI 12) (by decide) ?_
                                  refine r_iload_n C 1 dX8_findUnlike_160 rfl rfl ?_
                                  refine r_imulN C dX8_findUnlike_161 ?_
                                  refine r_iconst C dX8_findUnlike_162 (v := nI 3) (by decide) ?_
                                  refine r_iload C 4 dX8_findUnlike_163 rfl ?_
                                  refine r_imulN C dX8_findUnlike_165 ?_
                                  refine r_iaddN C dX8_findUnlike_166 ?_
                                  refine r_iload C 6 dX8_findUnlike_167 rfl ?_
                                  refine r_iaddN C dX8_findUnlike_169 ?_
                                  refine r_iald C k_40 (by omega) (by omega) dX8_findUnlike_170 ?_
                                  refine r_setI (y := (nI (sx S i s c))) (hM.x hi hs hc3) ?_
                                  refine r_imulN C dX8_findUnlike_171 ?_
                                  refine r_aload_n C 0 dX8_findUnlike_172 rfl rfl ?_
                                  refine r_get C (CN := RX8) (T := TX8) (N := 21) k_36 rfl hin_X8 (j := 6) (by decide) hk_26 rfl rfl dX8_findUnlike_173 ?_
                                  refine r_bipush C dX8_findUnlike_176 (v := nI 12) (by decide) ?_
                                  refine r_iload_n C 2 dX8_findUnlike_178 rfl rfl ?_
                                  refine r_imulN C dX8_findUnlike_179 ?_
                                  refine r_iconst C dX8_findUnlike_180 (v := nI 3) (by decide) ?_
                                  refine r_iload C 5 dX8_findUnlike_181 rfl ?_
                                  refine r_imulN C dX8_findUnlike_183 ?_
                                  refine r_iaddN C dX8_findUnlike_184 ?_
                                  refine r_iload C 6 dX8_findUnlike_185 rfl ?_
                                  refine r_iaddN C dX8_findUnlike_187 ?_
                                  refine r_iald C k_40 (by omega) (by omega) dX8_findUnlike_188 ?_
                                  refine r_setI (y := (nI (sx S j t c))) (hM.x hj ht hc3) ?_
                                  refine r_iaddN C dX8_findUnlike_189 ?_
                                  refine r_zald C k_46 (by omega) (by omega) dX8_findUnlike_190 ?_
                                  refine r_setI (y := (bI (U (sx S i s c) (sx S j t c)))) (hv.2.1 _ _ (hO.x _ _ _) (hO.x _ _ _)) ?_
                                  refine r_ifB_eq C dX8_findUnlike_191 (tgt := 198) (by decide) (fun h191 => ?_) (fun h191 => ?_)
                                  · refine r_iconst C dX8_findUnlike_198 (v := nI 0) (by decide) ?_
                                    refine r_zast C k_46 (by omega) (by omega) (by decide) dX8_findUnlike_199 ?_
                                    refine r_iinc C [(0, .ref (ad 36)), (1, .int (nI (i))), (2, .int (nI (j))), (3, .int (nI (n))), (4, .int (nI (s))), (5, .int (nI (t))), (6, .int (nI (c + 1)))] [1, 2, 3, 4, 5, 6, 0] 6 dX8_findUnlike_200 rfl (nI_add _ 1) (by decide) rfl ?_
                                    refine r_goto C dX8_findUnlike_203 (tgt := 117) (by decide) ?_
                                    exact ih (c + 1) U _ (by omega) (by omega) (hv.keep hO ht h146) (hM.sA (c := 46) (by decide) _) (hT.keep (fun z => absurd z h191))
                                  · have hmk : U s t ∨ U (sx S i s c) (sx S j t c) := Or.inr h191
                                    refine r_iconst C dX8_findUnlike_194 (v := nI 1) (by decide) ?_
                                    refine r_goto C dX8_findUnlike_195 (tgt := 199) (by decide) ?_
                                    refine r_zast C k_46 (by omega) (by omega) (by decide) dX8_findUnlike_199 ?_
                                    refine r_iinc C [(0, .ref (ad 36)), (1, .int (nI (i))), (2, .int (nI (j))), (3, .int (nI (n))), (4, .int (nI (s))), (5, .int (nI (t))), (6, .int (nI (c + 1)))] [1, 2, 3, 4, 5, 6, 0] 6 dX8_findUnlike_200 rfl (nI_add _ 1) (by decide) rfl ?_
                                    refine r_goto C dX8_findUnlike_203 (tgt := 117) (by decide) ?_
                                    exact ih (c + 1) _ _ (by omega) (by omega) (hv.mark hO hs ht hc3 hmk) (hM.sA (c := 46) (by decide) _) (hT.mark hO hs ht hc3 hmk)
                          exact L117 4 0 U v (by omega) (by omega) hv hM hT
                    exact L103 (sz S j + 1) 0 U v (by omega) (by omega) hv hM hT
              exact L89 (sz S i + 1) 0 U v (by omega) (by omega) hv hM (TRP.start hT)
        exact L80 17 0 _ v (by omega) (by omega) (hv.fin (by omega)) hM (Or.inr (Nat.zero_le _))
      · have hs : s < sz S i := by omega
        refine r_iconst C dX8_findUnlike_12 (v := nI 0) (by decide) ?_
        refine r_istore C [(0, .ref (ad 36)), (1, .int (nI (i))), (2, .int (nI (j))), (3, .int (nI (s))), (4, .int (nI (0)))] [1, 2, 3, 4, 0] dX8_findUnlike_13 (by decide) rfl ?_
        have iho := ih
        have L15 : ∀ (fu : Nat) (t : Nat) (v : Me), sz S j < t + fu → (t ≤ sz S j) → (UN0 u S i j s t v) → (RepM S v) → G kx 0 0 (WW g ad v) 15 [(0, .ref (ad 36)), (1, .int (nI (i))), (2, .int (nI (j))), (3, .int (nI (s))), (4, .int (nI (t)))] [] := by
          intro fu
          induction fu with
          | zero => intro t v hfu htj hv hM; exact absurd hfu (by omega)
          | succ fu ih =>
            intro t v hfu htj hv hM
            refine r_iload C 4 dX8_findUnlike_15 rfl ?_
            refine r_aload_n C 0 dX8_findUnlike_17 rfl rfl ?_
            refine r_get C (CN := RX8) (T := TX8) (N := 21) k_36 rfl hin_X8 (j := 4) (by decide) hk_20 rfl rfl dX8_findUnlike_18 ?_
            refine r_iload_n C 2 dX8_findUnlike_21 rfl rfl ?_
            refine r_iald C k_38 (by omega) (by omega) dX8_findUnlike_22 ?_
            refine r_setI (y := (nI (sz S j))) (hM.z (by assumption)) ?_
            refine r_icmpN_ge C dX8_findUnlike_23 (tgt := 72) (by decide) (by omega) (by omega) (fun h23 => ?_) (fun h23 => ?_)
            · refine r_iinc C [(0, .ref (ad 36)), (1, .int (nI (i))), (2, .int (nI (j))), (3, .int (nI (s + 1))), (4, .int (nI (t)))] [1, 2, 3, 0, 4] 3 dX8_findUnlike_72 rfl (nI_add _ 1) (by decide) rfl ?_
              refine r_goto C dX8_findUnlike_75 (tgt := 2) (by decide) ?_
              refine r_lvs C [0, 1, 2, 3] (lv' := [(0, .ref (ad 36)), (1, .int (nI (i))), (2, .int (nI (j))), (3, .int (nI (s + 1)))]) rfl ?_
              exact iho (s + 1) v (by omega) (by omega) (hv.row (by omega)) hM
            · have ht : t < sz S j := by omega
              have ha1 := hO.a i s
              have ha2 := hO.a j t
              refine r_aload_n C 0 dX8_findUnlike_26 rfl rfl ?_
              refine r_get C (CN := RX8) (T := TX8) (N := 21) k_36 rfl hin_X8 (j := 16) (by decide) hk_44 rfl rfl dX8_findUnlike_27 ?_
              refine r_iconst C dX8_findUnlike_30 (v := nI 4) (by decide) ?_
              refine r_iload_n C 3 dX8_findUnlike_31 rfl rfl ?_
              refine r_imulN C dX8_findUnlike_32 ?_
              refine r_iload C 4 dX8_findUnlike_33 rfl ?_
              refine r_iaddN C dX8_findUnlike_35 ?_
              refine r_aload_n C 0 dX8_findUnlike_36 rfl rfl ?_
              refine r_get C (CN := RX8) (T := TX8) (N := 21) k_36 rfl hin_X8 (j := 5) (by decide) hk_23 rfl rfl dX8_findUnlike_37 ?_
              refine r_iconst C dX8_findUnlike_40 (v := nI 4) (by decide) ?_
              refine r_iload_n C 1 dX8_findUnlike_41 rfl rfl ?_
              refine r_imulN C dX8_findUnlike_42 ?_
              refine r_iload_n C 3 dX8_findUnlike_43 rfl rfl ?_
              refine r_iaddN C dX8_findUnlike_44 ?_
              refine r_iald C k_39 (by omega) (by omega) dX8_findUnlike_45 ?_
              refine r_setI (y := (nI (sa S i s))) (hM.a hi hs) ?_
              refine r_aload_n C 0 dX8_findUnlike_46 rfl rfl ?_
              refine r_get C (CN := RX8) (T := TX8) (N := 21) k_36 rfl hin_X8 (j := 5) (by decide) hk_23 rfl rfl dX8_findUnlike_47 ?_
              refine r_iconst C dX8_findUnlike_50 (v := nI 4) (by decide) ?_
              refine r_iload_n C 2 dX8_findUnlike_51 rfl rfl ?_
              refine r_imulN C dX8_findUnlike_52 ?_
              refine r_iload C 4 dX8_findUnlike_53 rfl ?_
              refine r_iaddN C dX8_findUnlike_55 ?_
              refine r_iald C k_39 (by omega) (by omega) dX8_findUnlike_56 ?_
              refine r_setI (y := (nI (sa S j t))) (hM.a hj ht) ?_
              refine r_icmpN_eq C dX8_findUnlike_57 (tgt := 64) (by decide) (by omega) (by omega) (fun h57 => ?_) (fun h57 => ?_)
              · refine r_iconst C dX8_findUnlike_64 (v := nI 0) (by decide) ?_
                refine r_zast C k_46 (by omega) (by omega) (by decide) dX8_findUnlike_65 ?_
                refine r_iinc C [(0, .ref (ad 36)), (1, .int (nI (i))), (2, .int (nI (j))), (3, .int (nI (s))), (4, .int (nI (t + 1)))] [1, 2, 3, 4, 0] 4 dX8_findUnlike_66 rfl (nI_add _ 1) (by decide) rfl ?_
                refine r_goto C dX8_findUnlike_69 (tgt := 15) (by decide) ?_
                exact ih (t + 1) _ (by omega) (by omega) (hv.set hO ht (bF (fun z => z h57))) (hM.sA (c := 46) (by decide) _)
              · refine r_iconst C dX8_findUnlike_60 (v := nI 1) (by decide) ?_
                refine r_goto C dX8_findUnlike_61 (tgt := 65) (by decide) ?_
                refine r_zast C k_46 (by omega) (by omega) (by decide) dX8_findUnlike_65 ?_
                refine r_iinc C [(0, .ref (ad 36)), (1, .int (nI (i))), (2, .int (nI (j))), (3, .int (nI (s))), (4, .int (nI (t + 1)))] [1, 2, 3, 4, 0] 4 dX8_findUnlike_66 rfl (nI_add _ 1) (by decide) rfl ?_
                refine r_goto C dX8_findUnlike_69 (tgt := 15) (by decide) ?_
                exact ih (t + 1) _ (by omega) (by omega) (hv.set hO ht (bT h57)) (hM.sA (c := 46) (by decide) _)
        exact L15 (sz S j + 1) 0 v (by omega) (by omega) hv hM
  exact L2 (sz S i + 1) 0 u (by omega) (by omega) ⟨Sm.rf, fun a b _ _ q => absurd q (by omega)⟩ hM
def rmX8_areLike : Room := { frames := 1, cells := 0, slots := 0, locals := 26 }
theorem pk_X8_areLike : Pk yX8_areLike RX8 2 := by decide +kernel
set_option maxHeartbeats 4000000 in
set_option maxRecDepth 100000 in
theorem c_X8_areLike (l : Launch) (g : gE) (ad : Nat → Nat) (u : Me) (S : Sg) (hM : RepM S u) (hO : Ok S) (i j : Nat) (hi : i < sN S) (hj : j < sN S) : Cti l yX8_areLike wsX8_areLike rmX8_areLike g ad [.ref (ad 36), .int (nI (i)), .int (nI (j))] u (fun r u' => (bI (Lk S i 0 j 0) = r ∧ Sm [46] [] [] [] u u') ∧ RepM S u') := by
  refine Ct.of (cc := cX8_areLike) (nL := 3) (ret := (some .boolean)) RX8 (by decide) rfl rfl (Nat.le_of_ble_eq_true rfl) (fun kx C E => ?_)
  have hin_X8 : ∀ w ∈ u_ws RX8 TX8 21, w ∈ wsX8_areLike := by decide +kernel
  have hk_44 : Cond.fieldLink RX8 44 "AgainAgainModel" "unlike" "[Z" ∈ wsX8_areLike := by decide +kernel
  show G kx 0 0 (WW g ad u) 0 [(0, .ref (ad 36)), (1, .int (nI (i))), (2, .int (nI (j)))] []
  refine r_aload_n C 0 dX8_areLike_0 rfl rfl ?_
  refine r_iload_n C 1 dX8_areLike_1 rfl rfl ?_
  refine r_iload_n C 2 dX8_areLike_2 rfl rfl ?_
  refine r_callVv C (rest := []) (c_X8_findUnlike l g ad u S hM hO i j (by assumption) (by assumption)) gX8_areLike_X8_findUnlike pk_X8_findUnlike k_36 dX8_areLike_3 rfl rfl rfl rfl ⟨(Nat.le_of_ble_eq_true rfl), (Nat.le_of_ble_eq_true rfl)⟩ rfl rfl (Nat.le_of_ble_eq_true rfl) ⟨(Nat.le_of_ble_eq_true rfl), (Nat.le_of_ble_eq_true rfl)⟩ ?_
  rintro k1 ⟨⟨hk1, hsk⟩, hM⟩
  refine r_aload_n C 0 dX8_areLike_6 rfl rfl ?_
  refine r_get C (CN := RX8) (T := TX8) (N := 21) k_36 rfl hin_X8 (j := 16) (by decide) hk_44 rfl rfl dX8_areLike_7 ?_
  refine r_iconst C dX8_areLike_10 (v := nI 0) (by decide) ?_
  refine r_zald C k_46 (by omega) (by omega) dX8_areLike_11 ?_
  refine r_setI (y := (bI (¬ Lk S i 0 j 0))) (hk1 0 0 (hO.z i).1 (hO.z j).1) ?_
  refine r_ifB_ne C dX8_areLike_12 (tgt := 19) (by decide) (fun h12 => ?_) (fun h12 => ?_)
  · refine r_iconst C dX8_areLike_19 (v := nI 0) (by decide) ?_
    exact E.2.2.1 rfl _ _ _ _ dX8_areLike_20 (Or.inl rfl) ⟨_, rfl, ⟨⟨bF h12, hsk⟩, hM⟩⟩
  · refine r_iconst C dX8_areLike_15 (v := nI 1) (by decide) ?_
    refine r_goto C dX8_areLike_16 (tgt := 20) (by decide) ?_
    exact E.2.2.1 rfl _ _ _ _ dX8_areLike_20 (Or.inr rfl) ⟨_, rfl, ⟨⟨bT (Classical.not_not.mp h12), hsk⟩, hM⟩⟩
