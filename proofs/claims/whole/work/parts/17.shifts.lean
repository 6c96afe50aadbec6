/-! rows: shifts and bits -/
section RS
variable {l : Launch} {g : gE} {R : Room} {nL : Nat} {k : KX} {cc : ByteArray} {Ts : List Cond} {own : String} {cells slots : Nat} {ws : va_W} {pc : Nat} {lv : List (Nat × Value)} {st : List Value}
theorem r_ishl (C : Cx l g R nL k cc Ts own) {x y : Int32} (hd : decode cc pc = .ok (.ishl, 1)) (kk : G k cells slots ws (pc + 1) lv (.int (x <<< (y &&& 31)) :: st)) : G k cells slots ws pc lv (.int y :: .int x :: st) := by
  obtain ⟨p, l', e, R', s, m, args, below, meth, cod, H0, A, Q, g', nL'⟩ := k
  obtain ⟨⟨hx, hb, hml, hown, hts⟩, hK, hA, rfl, rfl, rfl, rfl, hH0⟩ := C
  intro H locs hP hD hS ls hl
  exact lv_ishl hx hb hd (kk H locs hP hD hS ls hl)
theorem r_ishr (C : Cx l g R nL k cc Ts own) {x y : Int32} (hd : decode cc pc = .ok (.ishr, 1)) (kk : G k cells slots ws (pc + 1) lv (.int (x >>> (y &&& 31)) :: st)) : G k cells slots ws pc lv (.int y :: .int x :: st) := by
  obtain ⟨p, l', e, R', s, m, args, below, meth, cod, H0, A, Q, g', nL'⟩ := k
  obtain ⟨⟨hx, hb, hml, hown, hts⟩, hK, hA, rfl, rfl, rfl, rfl, hH0⟩ := C
  intro H locs hP hD hS ls hl
  exact lv_ishr hx hb hd (kk H locs hP hD hS ls hl)
theorem r_ishlN (C : Cx l g R nL k cc Ts own) {p : Nat} (hd : decode cc pc = .ok (.ishl, 1)) (hp : p < 31) (kk : G k cells slots ws (pc + 1) lv (.int (nI (2 ^ p)) :: st)) : G k cells slots ws pc lv (.int (nI p) :: .int (nI 1) :: st) := r_ishl C hd (by rw [nI_shl hp]; exact kk)
theorem r_ishrN (C : Cx l g R nL k cc Ts own) {a p : Nat} (hd : decode cc pc = .ok (.ishr, 1)) (ha : a < 2 ^ 31) (hp : p < 32) (kk : G k cells slots ws (pc + 1) lv (.int (nI (a >>> p)) :: st)) : G k cells slots ws pc lv (.int (nI p) :: .int (nI a) :: st) := r_ishr C hd (by rw [nI_shr ha hp]; exact kk)
theorem r_iorN (C : Cx l g R nL k cc Ts own) {a b : Nat} (hd : decode cc pc = .ok (.ior, 1)) (kk : G k cells slots ws (pc + 1) lv (.int (nI (a ||| b)) :: st)) : G k cells slots ws pc lv (.int (nI b) :: .int (nI a) :: st) := r_ior C hd (by rw [nI_or]; exact kk)
theorem r_iandN (C : Cx l g R nL k cc Ts own) {a b : Nat} (hd : decode cc pc = .ok (.iand, 1)) (kk : G k cells slots ws (pc + 1) lv (.int (nI (a &&& b)) :: st)) : G k cells slots ws pc lv (.int (nI b) :: .int (nI a) :: st) := r_iand C hd (by rw [nI_and]; exact kk)
end RS
