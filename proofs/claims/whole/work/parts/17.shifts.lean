/-! rows: shifts and bits -/
section RS
variable {l : Launch} {g : gE} {R : Room} {nL : Nat} {k : KX} {cc : ByteArray} {Ts : List Cond} {own : String} {cells slots : Nat} {ws : va_W} {pc : Nat} {lv : List (Nat × Value)} {st : List Value}
theorem r_ishl (C : Cx l g R nL k cc Ts own) {x y : Int32} (hd : decode cc pc = .ok (.ishl, 1)) (kk : G k cells slots ws (pc + 1) lv (.int (x <<< (y &&& 31)) :: st)) : G k cells slots ws pc lv (.int y :: .int x :: st) := by
  obtain ⟨p, l', e, R', s, m, args, below, meth, cod, H0, A, Q, g', nL'⟩ := k
  obtain ⟨⟨hx, hb, hml, hown, hts⟩, hK, hA, rfl, rfl, rfl, rfl, hH0⟩ := C
  intro H locs hP hD hS ls hl
  exact lv_ishl hx hb hd (kk H locs hP hD hS ls hl)
theorem r_ishr (C : Cx l g R nL k cc Ts own) {x y : Int32} (hd : decode cc pc = .ok (.ishr, 1)) (kk : G k cells slots ws (pc + 1) lv (.int (x >>> (y &&& 31)) :: st)) : G k cells slots ws pc lv (.int y :: .int x :: st) := by
  obtain ⟨p, l', e, R', s, m, args, below, meth, cod, H0, A, Q, g', nL'⟩ := k
  obtain ⟨⟨hx, hb, hml, hown, hts⟩, hK, hA, rfl, rfl, rfl, rfl, hH0⟩ := C
  intro H locs hP hD hS ls hl
  exact lv_ishr hx hb hd (kk H locs hP hD hS ls hl)
theorem r_ishlN (C : Cx l g R nL k cc Ts own) {p : Nat} (hd : decode cc pc = .ok (.ishl, 1)) (hp : p < 31) (kk : G k cells slots ws (pc + 1) lv (.int (nI (2 ^ p)) :: st)) : G k cells slots ws pc lv (.int (nI p) :: .int (nI 1) :: st) := r_ishl C hd (by rw [nI_shl hp]; exact kk)
theorem r_ishrN (C : Cx l g R nL k cc Ts own) {a p : Nat} (hd : decode cc pc = .ok (.ishr, 1)) (ha : a < 2 ^ 31) (hp : p < 32) (kk : G k cells slots ws (pc + 1) lv (.int (nI (a >>> p)) :: st)) : G k cells slots ws pc lv (.int (nI p) :: .int (nI a) :: st) := r_ishr C hd (by rw [nI_shr ha hp]; exact kk)
theorem r_iorN (C : Cx l g R nL k cc Ts own) {a b : Nat} (hd : decode cc pc = .ok (.ior, 1)) (kk : G k cells slots ws (pc + 1) lv (.int (nI (a ||| b)) :: st)) : G k cells slots ws pc lv (.int (nI b) :: .int (nI a) :: st) := r_ior C hd (by rw [nI_or]; exact kk)
theorem r_iandN (C : Cx l g R nL k cc Ts own) {a b : Nat} (hd : decode cc pc = .ok (.iand, 1)) (kk : G k cells slots ws (pc + 1) lv (.int (nI (a &&& b)) :: st)) : G k cells slots ws pc lv (.int (nI b) :: .int (nI a) :: st) := r_iand C hd (by rw [nI_and]; exact kk)
theorem r_tableOut (C : Cx l g R nL k cc Ts own) {dflt lo hi : Int} {offs : Array Int} {len : Nat} {x : Int32} {tgt : Nat} (hd : decode cc pc = .ok (.tableswitch dflt lo hi offs, len)) (h : x.toInt < lo ∨ hi < x.toInt) (ht : (pc : Int) + dflt = (tgt : Int)) (kk : G k cells slots ws tgt lv st) : G k cells slots ws pc lv (.int x :: st) := by
  obtain ⟨p, l', e, R', s, m, args, below, meth, cod, H0, A, Q, g', nL'⟩ := k
  obtain ⟨⟨hx, hb, hml, hown, hts⟩, hK, hA, rfl, rfl, rfl, rfl, hH0⟩ := C
  intro H locs hP hD hS ls hl
  exact lv_tableOut hx hb hd h ht (kk H locs hP hD hS ls hl)
theorem r_tableIn (C : Cx l g R nL k cc Ts own) {dflt lo hi : Int} {offs : Array Int} {len : Nat} {x : Int32} {off : Int} {tgt : Nat} (hd : decode cc pc = .ok (.tableswitch dflt lo hi offs, len)) (h1 : ¬ x.toInt < lo) (h2 : ¬ hi < x.toInt) (ho : offs[(x.toInt - lo).toNat]? = some off) (ht : (pc : Int) + off = (tgt : Int)) (kk : G k cells slots ws tgt lv st) : G k cells slots ws pc lv (.int x :: st) := by
  obtain ⟨p, l', e, R', s, m, args, below, meth, cod, H0, A, Q, g', nL'⟩ := k
  obtain ⟨⟨hx, hb, hml, hown, hts⟩, hK, hA, rfl, rfl, rfl, rfl, hH0⟩ := C
  intro H locs hP hD hS ls hl
  exact lv_tableIn hx hb hd h1 h2 ho ht (kk H locs hP hD hS ls hl)
end RS
theorem tab4 (w : Int32) : w = nI 0 ∨ w = nI 1 ∨ w = nI 2 ∨ w = nI 3 ∨ (w.toInt < 0 ∨ 3 < w.toInt) := by
  by_cases h : w.toInt < 0 ∨ 3 < w.toInt
  · exact Or.inr (Or.inr (Or.inr (Or.inr h)))
  · have e : w = nI w.toInt.toNat := by
      apply Int32.toInt_inj.mp
      rw [nI_toInt (by omega)]; omega
    rcases (show w.toInt.toNat = 0 ∨ w.toInt.toNat = 1 ∨ w.toInt.toNat = 2 ∨ w.toInt.toNat = 3 by omega) with q | q | q | q <;> rw [q] at e
    · exact Or.inl e
    · exact Or.inr (Or.inl e)
    · exact Or.inr (Or.inr (Or.inl e))
    · exact Or.inr (Or.inr (Or.inr (Or.inl e)))
