/-! BITS of small numbers. The rows bt .. b_sshr are pasted out of kit/laws/BITS.to-paste.lean.txt, as its head bids -/
def bt (x : Int32) (i : Nat) : Bool := x.toBitVec.getLsbD i
theorem b_ext {x y : Int32} (h : ∀ i, i < 32 → bt x i = bt y i) : x = y := Int32.toBitVec_inj.mp (BitVec.eq_of_getLsbD_eq (fun i hi => h i hi))
theorem b_or (x y : Int32) (i : Nat) : bt (x ||| y) i = (bt x i || bt y i) := by unfold bt; rw [Int32.toBitVec_or, BitVec.getLsbD_or]
theorem b_and (x y : Int32) (i : Nat) : bt (x &&& y) i = (bt x i && bt y i) := by unfold bt; rw [Int32.toBitVec_and, BitVec.getLsbD_and]
theorem b_big {x : Int32} {i : Nat} (h : 32 ≤ i) : bt x i = false := BitVec.getLsbD_of_ge _ _ h
theorem s_l : ∀ n, n < 32 → ((nI n &&& 31).toBitVec.smod 32).toNat = n := by decide +kernel
theorem b_shl (n : Nat) (hn : n < 32) (x : Int32) {i : Nat} (hi : i < 32) : bt (x <<< (nI n &&& 31)) i = (decide (n ≤ i) && bt x (i - n)) := by
  unfold bt
  rw [Int32.toBitVec_shiftLeft]
  show (x.toBitVec <<< ((nI n &&& 31).toBitVec.smod 32).toNat).getLsbD i = _
  rw [s_l n hn, BitVec.getLsbD_shiftLeft]
  rcases Nat.lt_or_ge i n with h | h
  · simp [h, Nat.not_le.mpr h]
  · simp [hi, h, Nat.not_lt.mpr h]
theorem b_sshr (n : Nat) (hn : n < 32) (x : Int32) {i : Nat} (hi : i < 32) : bt (x >>> (nI n &&& 31)) i = if n + i < 32 then bt x (n + i) else bt x 31 := by
  unfold bt
  rw [Int32.toBitVec_shiftRight]
  show (x.toBitVec.sshiftRight ((nI n &&& 31).toBitVec.smod 32).toNat).getLsbD i = _
  rw [s_l n hn, BitVec.getLsbD_sshiftRight, BitVec.msb_eq_getLsbD_last]
  simp [hi]
theorem bt_nI (a : Nat) {i : Nat} (hi : i < 32) : bt (nI a) i = a.testBit i := by
  show (BitVec.ofNat 32 a).getLsbD i = _
  rw [BitVec.getLsbD_ofNat]; simp [hi]
theorem nI_or (a b : Nat) : nI a ||| nI b = nI (a ||| b) := b_ext (fun i hi => by rw [b_or, bt_nI _ hi, bt_nI _ hi, bt_nI _ hi, Nat.testBit_or])
theorem nI_and (a b : Nat) : nI a &&& nI b = nI (a &&& b) := b_ext (fun i hi => by rw [b_and, bt_nI _ hi, bt_nI _ hi, bt_nI _ hi, Nat.testBit_and])
theorem nI_shl {p : Nat} (hp : p < 31) : nI 1 <<< (nI p &&& 31) = nI (2 ^ p) := b_ext (fun i hi => by
  rw [b_shl p (by omega) _ hi, bt_nI _ hi, Nat.testBit_two_pow]
  by_cases q : p ≤ i
  · rw [bt_nI _ (by omega), decide_eq_true q, Bool.true_and]
    by_cases z : p = i
    · subst z; simp
    · rw [decide_eq_false z]
      have e : (1 : Nat) = 2 ^ 0 := rfl
      rw [e, Nat.testBit_two_pow, decide_eq_false (by omega)]
  · rw [decide_eq_false q, Bool.false_and, decide_eq_false (by omega)])
theorem nI_shr {a p : Nat} (ha : a < 2 ^ 31) (hp : p < 32) : nI a >>> (nI p &&& 31) = nI (a >>> p) := b_ext (fun i hi => by
  rw [b_sshr p hp _ hi, bt_nI _ hi, Nat.testBit_shiftRight]
  by_cases q : p + i < 32
  · rw [if_pos q, bt_nI _ q]
  · rw [if_neg q, bt_nI _ (by decide), Nat.testBit_lt_two_pow ha]
    exact (Nat.testBit_lt_two_pow (Nat.lt_of_lt_of_le ha (Nat.pow_le_pow_right (by decide) (by omega)))).symm)
theorem and1_lt (a : Nat) : a &&& 1 < 2 := by rw [Nat.and_one_is_mod]; exact Nat.mod_lt _ (by decide)
theorem tb_iff (a p : Nat) : (a >>> p) &&& 1 = 1 ↔ a.testBit p = true := by
  unfold Nat.testBit
  rw [Nat.and_comm 1 (a >>> p)]
  have := and1_lt (a >>> p)
  generalize (a >>> p) &&& 1 = z at *
  constructor
  · rintro rfl; rfl
  · intro h
    rcases (show z = 0 ∨ z = 1 by omega) with rfl | rfl
    · exact absurd h (by decide)
    · rfl
theorem or_lt {a b n : Nat} (ha : a < 2 ^ n) (hb : b < 2 ^ n) : a ||| b < 2 ^ n := Nat.or_lt_two_pow ha hb
theorem pow_lt16 {p : Nat} (h : p < 16) : 2 ^ p < 65536 := Nat.pow_lt_pow_right (by decide) h (n := 16)
