/-! reading machines off sheets; what the plans' comparisons need -/
theorem pdA_C {S : Sg} {u : Me} {k f n s : Nat} (h : RepC (PD S k f n (4 * s)) u) (hO : Ok S) (h0 : sN S < 12) (h1 : 1 ≤ n) (hn : n ≤ 4) (hs : s < n) (hv : isR 3 (sc S k (f + 4 * s))) : RepC (PD S k f n (4 * s + 1)) (sA u 5 (upd (mA u 5) (4 * sN S + s) (sc S k (f + 4 * s)))) := by
  have hO' := hO.PD (k := k) (f := f) (n := n) (q := 4 * s) h0 h1 hn
  have hS1 : sN S = S.1 := rfl
  refine ⟨h.1, h.2.1, fun i t hi ht => ?_, fun m t b hm ht hb => ?_, h.2.2.2.2⟩
  · rw [mA_sA_self]
    show upd (mA u 5) (4 * sN S + s) (sc S k (f + 4 * s)) (4 * i + t) = nI (sa (PD S k f n (4 * s + 1)) i t)
    rw [(PD_act (b := 0)).1]
    have z := (hO'.z i).2
    have ht' : t < sz (PD S k f n (4 * s)) i := ht
    unfold upd
    by_cases q : i = S.1 ∧ t = s
    · rw [if_pos q, if_pos (by omega)]; exact (rdv_nI hv (by decide)).symm
    · rw [if_neg q, if_neg (by omega)]; exact h.a hi ht
  · show mA u 6 ((4 * m + t) * 3 + b) = nI (sx (PD S k f n (4 * s + 1)) m t b)
    rw [PD_act.2]; exact h.x hm ht hb
theorem pdN_C {S : Sg} {u : Me} {k f n s b : Nat} (h : RepC (PD S k f n (4 * s + 1 + b)) u) (hO : Ok S) (h0 : sN S < 12) (h1 : 1 ≤ n) (hn : n ≤ 4) (hs : s < n) (hb : b < 3) (hv : isR n (sc S k (f + (4 * s + 1 + b)))) : RepC (PD S k f n (4 * s + 1 + b + 1)) (sA u 6 (upd (mA u 6) ((4 * sN S + s) * 3 + b) (sc S k (f + (4 * s + 1 + b))))) := by
  have hO' := hO.PD (k := k) (f := f) (n := n) (q := 4 * s + 1 + b) h0 h1 hn
  have hS1 : sN S = S.1 := rfl
  refine ⟨h.1, h.2.1, fun i t hi ht => ?_, fun i t d hi ht hd => ?_, h.2.2.2.2⟩
  · show mA u 5 (4 * i + t) = nI (sa (PD S k f n (4 * s + 1 + b + 1)) i t)
    rw [(PD_nxt (d := 0) hb).2.2]; exact h.a hi ht
  · rw [mA_sA_self]
    show upd (mA u 6) ((4 * sN S + s) * 3 + b) (sc S k (f + (4 * s + 1 + b))) ((4 * i + t) * 3 + d) = nI (sx (PD S k f n (4 * s + 1 + b + 1)) i t d)
    have z := (hO'.z i).2
    have ht' : t < sz (PD S k f n (4 * s + 1 + b)) i := ht
    unfold upd
    by_cases q : i = S.1
    · have htn : t < n := by
        have e : sz (PD S k f n (4 * s + 1 + b)) i = n := if_pos q
        omega
      rw [(PD_nxt hb).1 hd htn q]
      by_cases q2 : t = s ∧ d = b
      · rw [if_pos q2, if_pos (by omega)]; exact (rdv_nI hv (by omega)).symm
      · rw [if_neg q2, if_neg (by omega)]; exact h.x hi ht hd
    · rw [(PD_nxt hb).2.1 q, if_neg (by omega)]; exact h.x hi ht hd
theorem pdA_M {S : Sg} {u : Me} {k f n s : Nat} (h : RepM (PD S k f n (4 * s)) u) (hO : Ok S) (h0 : sN S < 12) (h1 : 1 ≤ n) (hn : n ≤ 4) (hs : s < n) (hv : isR 3 (sc S k (f + 4 * s))) : RepM (PD S k f n (4 * s + 1)) (sA u 39 (upd (mA u 39) (4 * sN S + s) (sc S k (f + 4 * s)))) := by
  have hO' := hO.PD (k := k) (f := f) (n := n) (q := 4 * s) h0 h1 hn
  have hS1 : sN S = S.1 := rfl
  refine ⟨h.1, h.2.1, fun i t hi ht => ?_, fun m t b hm ht hb => ?_, h.2.2.2.2⟩
  · rw [mA_sA_self]
    show upd (mA u 39) (4 * sN S + s) (sc S k (f + 4 * s)) (4 * i + t) = nI (sa (PD S k f n (4 * s + 1)) i t)
    rw [(PD_act (b := 0)).1]
    have z := (hO'.z i).2
    have ht' : t < sz (PD S k f n (4 * s)) i := ht
    unfold upd
    by_cases q : i = S.1 ∧ t = s
    · rw [if_pos q, if_pos (by omega)]; exact (rdv_nI hv (by decide)).symm
    · rw [if_neg q, if_neg (by omega)]; exact h.a hi ht
  · show mA u 40 (12 * m + 3 * t + b) = nI (sx (PD S k f n (4 * s + 1)) m t b)
    rw [PD_act.2]; exact h.x hm ht hb
theorem pdN_M {S : Sg} {u : Me} {k f n s b : Nat} (h : RepM (PD S k f n (4 * s + 1 + b)) u) (hO : Ok S) (h0 : sN S < 12) (h1 : 1 ≤ n) (hn : n ≤ 4) (hs : s < n) (hb : b < 3) (hv : isR n (sc S k (f + (4 * s + 1 + b)))) : RepM (PD S k f n (4 * s + 1 + b + 1)) (sA u 40 (upd (mA u 40) (12 * sN S + 3 * s + b) (sc S k (f + (4 * s + 1 + b))))) := by
  have hO' := hO.PD (k := k) (f := f) (n := n) (q := 4 * s + 1 + b) h0 h1 hn
  have hS1 : sN S = S.1 := rfl
  refine ⟨h.1, h.2.1, fun i t hi ht => ?_, fun i t d hi ht hd => ?_, h.2.2.2.2⟩
  · show mA u 39 (4 * i + t) = nI (sa (PD S k f n (4 * s + 1 + b + 1)) i t)
    rw [(PD_nxt (d := 0) hb).2.2]; exact h.a hi ht
  · rw [mA_sA_self]
    show upd (mA u 40) (12 * sN S + 3 * s + b) (sc S k (f + (4 * s + 1 + b))) (12 * i + 3 * t + d) = nI (sx (PD S k f n (4 * s + 1 + b + 1)) i t d)
    have z := (hO'.z i).2
    have ht' : t < sz (PD S k f n (4 * s + 1 + b)) i := ht
    unfold upd
    by_cases q : i = S.1
    · have htn : t < n := by
        have e : sz (PD S k f n (4 * s + 1 + b)) i = n := if_pos q
        omega
      rw [(PD_nxt hb).1 hd htn q]
      by_cases q2 : t = s ∧ d = b
      · rw [if_pos q2, if_pos (by omega)]; exact (rdv_nI hv (by omega)).symm
      · rw [if_neg q2, if_neg (by omega)]; exact h.x hi ht hd
    · rw [(PD_nxt hb).2.1 q, if_neg (by omega)]; exact h.x hi ht hd
theorem LRN.mv {u v : Me} {S : Sg} {m s p : Nat} (h : LRN u S m s p) (h1 : mA v 14 = mA u 14) (h2 : mJ v 15 = mJ u 15) (h3 : mJ v 16 = mJ u 16) : LRN v S m s p := by
  unfold LRN at *; rw [h1, h2, h3]; exact h
theorem LRN.tbl {u v : Me} {S : Sg} {m s p j : Nat} (h : LRN u S m s p) (hT : TBL j u v) (hj : ¬ m * 4 + s = j) : LRN v S m s p := by
  obtain ⟨e1, e2, e3⟩ := hT _ hj
  exact ⟨e1.trans h.1, e2.trans h.2.1, e3.trans h.2.2⟩
/-- all is laid to ask whether i and j rest from s and t -/
def RDY (u : Me) (S : Sg) (i j s t : Nat) : Prop := WOK u 1 (VP S i j) (fP S i j) (gP S i j) ∧ WOK u 2 (VP S j i) (fP S j i) (gP S j i) ∧ LRN u S j t (bsP S j t) ∧ LRN u S i s (bsP S i s)
theorem RDY.mv {u v : Me} {S : Sg} {i j s t : Nat} (h : RDY u S i j s t) (hs : Sm [25, 26, 30, 31] [] [3, 4, 5, 6] [4, 5] u v) : RDY v S i j s t :=
  ⟨h.1.mv (hs.1 _ (by decide)) (hs.1 _ (by decide)), h.2.1.mv (hs.1 _ (by decide)) (hs.1 _ (by decide)), h.2.2.1.mv (hs.1 _ (by decide)) (hs.2.1 _ (by decide)) (hs.2.1 _ (by decide)), h.2.2.2.mv (hs.1 _ (by decide)) (hs.2.1 _ (by decide)) (hs.2.1 _ (by decide))⟩
theorem P_bd {S : Sg} (hO : Ok S) {i j p : Nat} (hp : VP S i j p) : -4398046511104 < vN S (fP S i j) (gP S i j) p ∧ vN S (fP S i j) (gP S i j) p < 4398046511104 ∧ 1 ≤ vD S (fP S i j) (gP S i j) p ∧ vD S (fP S i j) (gP S i j) p ≤ 4294967296 :=
  v_bounds hO (fun r => VP_16 hO (it_V (V := VP S i j) (fun p _ => VP_f hO) hp r)) (fun r => hO.p _ _)
/-- the comparison with the best plan, as the code makes it -/
theorem gbp_iff {S : Sg} (hO : Ok S) {i j p t : Nat} (hp : VP S i j p) (ht : t < sz S j) : (0 < -lg_cmp (lI (vN S (fP S i j) (gP S i j) p * qD S j t (bsP S j t))) (lI (qN S j t (bsP S j t) * vD S (fP S i j) (gP S i j) p))) ↔ gbp S i j p t := by
  have h1 := P_bd hO hp
  have h2 := q_bounds hO (bsP S j t) ht
  have k1 := mul_bd (A := 4398046511104) (show -4398046511104 ≤ vN S (fP S i j) (gP S i j) p by omega) (by omega) (show 0 ≤ qD S j t (bsP S j t) by omega) h2.2.2.2
  have k2 := mul_bd h2.1 h2.2.1 (show 0 ≤ vD S (fP S i j) (gP S i j) p by omega) h1.2.2.2
  rw [neg_cmp_gt]
  exact lI_lt (by omega) (by omega) (by omega) (by omega)
theorem bsP_lt (S : Sg) (m s : Nat) : bsP S m s < 3 ^ sz S m := by
  have h := bs_le S m s (3 ^ sz S m - 1)
  have : 0 < 3 ^ sz S m := Nat.pow_pos (by decide)
  unfold bsP; omega
theorem m20_sub (i : Nat) : (-20 : Int32) - nI i = iI (-20 - (i : Int)) := by
  have e : (-20 : Int32) = iI (-20) := by decide
  rw [e, nI_iI, iI_sub]
theorem cfF_i2 {S : Sg} {k n f i N : Nat} (hi : i < N) (h : ¬ f + i < sk S k) : cfF S k n f i (N - i) = -12 := by
  rw [show N - i = (N - (i + 1)) + 1 by omega, cfF_i h]
theorem cfF_v2 {S : Sg} {k n f i N : Nat} (hi : i < N) (h : f + i < sk S k) (h2 : ¬ isR (mst n i) (sc S k (f + i))) : cfF S k n f i (N - i) = iI (-20 - (i : Int)) := by
  rw [show N - i = (N - (i + 1)) + 1 by omega, cfF_v h h2]
theorem cfF_s2 {S : Sg} {k n f i N : Nat} (hi : i < N) (h : f + i < sk S k) (h2 : isR (mst n i) (sc S k (f + i))) : cfF S k n f i (N - i) = cfF S k n f (i + 1) (N - (i + 1)) := by
  rw [show N - i = (N - (i + 1)) + 1 by omega, cfF_s h h2]
