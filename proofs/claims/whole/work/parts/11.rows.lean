/-! THE WALK'S JUDGEMENT G: from (world, pc, locals, stack) the machine comes to its goal; a row an instruction, heap and frame hidden -/
theorem nI_mul (a b : Nat) : nI a * nI b = nI (a * b) := (Int32.ofNat_mul a b).symm
theorem nI_sub {a b : Nat} (h : b ≤ a) : nI a - nI b = nI (a - b) := by
  have e : nI a = nI (a - b) + nI b := by rw [nI_add]; congr 1; omega
  rw [e]; exact Int32.add_sub_cancel ..
theorem vpN {j n : Nat} (h : j < n) (hn : n ≤ 1000) : vp_in (nI j) n := nI_in h (by omega)
noncomputable def bI (P : Prop) : Int32 := @ite _ P (Classical.propDecidable P) 1 0
theorem bI_t {P : Prop} (h : P) : bI P = 1 := by unfold bI; rw [if_pos h]
theorem bI_f {P : Prop} (h : ¬ P) : bI P = 0 := by unfold bI; rw [if_neg h]
theorem bI_01 (P : Prop) : bI P = 0 ∨ bI P = 1 := by
  rcases Classical.em P with h | h
  · exact Or.inr (bI_t h)
  · exact Or.inl (bI_f h)
theorem bI_iff {P Q : Prop} (h : P ↔ Q) : bI P = bI Q := by rw [propext h]
theorem bI_eq0 {P : Prop} : bI P = 0 ↔ ¬ P := by
  rcases Classical.em P with h | h
  · rw [bI_t h]; constructor
    · intro e; exact absurd e (by decide)
    · intro e; exact absurd h e
  · rw [bI_f h]; exact ⟨fun _ => h, fun _ => rfl⟩
abbrev KX : Type := Program × Launch × Env × Room × State × MethodId × Array Value × List Frame × Method × Code × Heap × (Nat → Prop) × (State → Prop) × gE × Nat
def G (k : KX) (cells slots : Nat) (ws : va_W) (pc : Nat) (lv : List (Nat × Value)) (st : List Value) : Prop :=
  match k with
  | (p, l, e, R, s, m, args, below, meth, c, H0, A, Q, g, nL) => ∀ (H : Heap) (locs : List Loc), va_P (gD g) vwCl ws H → va_D A ws → va_S A H0 H locs → ∀ ls : Array Slot, lv_has ls nL lv → W p l e R s m args below meth c H locs cells slots Q (F0 m pc ls st)
def Cx (l : Launch) (g : gE) (R : Room) (nL : Nat) (k : KX) (cc : ByteArray) (Ts : List Cond) (own : String) : Prop :=
  match k with
  | (p, l', e, R', s, m, args, below, meth, c, H0, A, Q, g', nL') => CallFix p m c cc nL s args Ts own ∧ va_K (gD g) vwCl (gtys g) s ∧ (∀ q : Nat, H0.size ≤ q → A q) ∧ l' = l ∧ R' = R ∧ g' = g ∧ nL' = nL ∧ H0 = s.heap
section RW
variable {l : Launch} {g : gE} {R : Room} {nL : Nat} {k : KX} {cc : ByteArray} {Ts : List Cond} {own : String} {cells slots : Nat} {ws : va_W} {pc : Nat} {lv : List (Nat × Value)} {st : List Value}

theorem r_iconst (C : Cx l g R nL k cc Ts own) {n : Int} {v : Int32} (hd : decode cc pc = .ok (.iconst n, 1)) (hv : Int32.ofInt n = v) (kk : G k cells slots ws (pc + 1) lv (.int v :: st)) : G k cells slots ws pc lv st := by
  obtain ⟨p, l', e, R', s, m, args, below, meth, cod, H0, A, Q, g', nL'⟩ := k
  obtain ⟨⟨hx, hb, hml, hown, hts⟩, hK, hA, rfl, rfl, rfl, rfl, hH0⟩ := C
  intro H locs hP hD hS ls hl
  exact lv_iconst hx hb hd hv (kk H locs hP hD hS ls hl)
theorem r_bipush (C : Cx l g R nL k cc Ts own) {n : Int} {v : Int32} (hd : decode cc pc = .ok (.bipush n, 2)) (hv : (Int8.ofInt n).toInt32 = v) (kk : G k cells slots ws (pc + 2) lv (.int v :: st)) : G k cells slots ws pc lv st := by
  obtain ⟨p, l', e, R', s, m, args, below, meth, cod, H0, A, Q, g', nL'⟩ := k
  obtain ⟨⟨hx, hb, hml, hown, hts⟩, hK, hA, rfl, rfl, rfl, rfl, hH0⟩ := C
  intro H locs hP hD hS ls hl
  exact lv_bipush hx hb hd hv (kk H locs hP hD hS ls hl)
theorem r_sipush (C : Cx l g R nL k cc Ts own) {n : Int} {v : Int32} (hd : decode cc pc = .ok (.sipush n, 3)) (hv : (Int16.ofInt n).toInt32 = v) (kk : G k cells slots ws (pc + 3) lv (.int v :: st)) : G k cells slots ws pc lv st := by
  obtain ⟨p, l', e, R', s, m, args, below, meth, cod, H0, A, Q, g', nL'⟩ := k
  obtain ⟨⟨hx, hb, hml, hown, hts⟩, hK, hA, rfl, rfl, rfl, rfl, hH0⟩ := C
  intro H locs hP hD hS ls hl
  exact lv_sipush hx hb hd hv (kk H locs hP hD hS ls hl)
theorem r_lconst (C : Cx l g R nL k cc Ts own) {n : Fin 2} {v : Int64} (hd : decode cc pc = .ok (.lconst n, 1)) (hv : Int64.ofNat (n : Nat) = v) (kk : G k cells slots ws (pc + 1) lv (.long v :: st)) : G k cells slots ws pc lv st := by
  obtain ⟨p, l', e, R', s, m, args, below, meth, cod, H0, A, Q, g', nL'⟩ := k
  obtain ⟨⟨hx, hb, hml, hown, hts⟩, hK, hA, rfl, rfl, rfl, rfl, hH0⟩ := C
  intro H locs hP hD hS ls hl
  exact lv_lconst hx hb hd hv (kk H locs hP hD hS ls hl)
theorem r_ldc (C : Cx l g R nL k cc Ts own) {index : Nat} {v : Int32} (hc : Cond.constant own index v ∈ Ts) (hd : decode cc pc = .ok (.ldc index, 2)) (kk : G k cells slots ws (pc + 2) lv (.int v :: st)) : G k cells slots ws pc lv st := by
  obtain ⟨p, l', e, R', s, m, args, below, meth, cod, H0, A, Q, g', nL'⟩ := k
  obtain ⟨⟨hx, hb, hml, hown, hts⟩, hK, hA, rfl, rfl, rfl, rfl, hH0⟩ := C
  intro H locs hP hD hS ls hl
  exact lv_ldc hx hb hown (hts _ hc) hd (kk H locs hP hD hS ls hl)
theorem r_ldc2 (C : Cx l g R nL k cc Ts own) {index : Nat} {v : Int64} (hc : Cond.constantLong own index v ∈ Ts) (hd : decode cc pc = .ok (.ldc2_w index, 3)) (kk : G k cells slots ws (pc + 3) lv (.long v :: st)) : G k cells slots ws pc lv st := by
  obtain ⟨p, l', e, R', s, m, args, below, meth, cod, H0, A, Q, g', nL'⟩ := k
  obtain ⟨⟨hx, hb, hml, hown, hts⟩, hK, hA, rfl, rfl, rfl, rfl, hH0⟩ := C
  intro H locs hP hD hS ls hl
  exact lv_ldc2 hx hb hown (hts _ hc) hd (kk H locs hP hD hS ls hl)
theorem r_iload (C : Cx l g R nL k cc Ts own) (n : Nat) {i : Nat} {x : Int32} (hd : decode cc pc = .ok (.iload i, 2)) (hn : lv[n]? = some (i, .int x)) (kk : G k cells slots ws (pc + 2) lv (.int x :: st)) : G k cells slots ws pc lv st := by
  obtain ⟨p, l', e, R', s, m, args, below, meth, cod, H0, A, Q, g', nL'⟩ := k
  obtain ⟨⟨hx, hb, hml, hown, hts⟩, hK, hA, rfl, rfl, rfl, rfl, hH0⟩ := C
  intro H locs hP hD hS ls hl
  exact lv_iload hx hb hd (lv_at hl n hn) (kk H locs hP hD hS ls hl)
theorem r_iload_n (C : Cx l g R nL k cc Ts own) (n : Nat) {j : Fin 4} {i : Nat} {x : Int32} (hd : decode cc pc = .ok (.iload_n j, 1)) (hi : (j : Nat) = i) (hn : lv[n]? = some (i, .int x)) (kk : G k cells slots ws (pc + 1) lv (.int x :: st)) : G k cells slots ws pc lv st := by
  obtain ⟨p, l', e, R', s, m, args, below, meth, cod, H0, A, Q, g', nL'⟩ := k
  obtain ⟨⟨hx, hb, hml, hown, hts⟩, hK, hA, rfl, rfl, rfl, rfl, hH0⟩ := C
  intro H locs hP hD hS ls hl
  exact lv_iload_n hx hb hd hi (lv_at hl n hn) (kk H locs hP hD hS ls hl)
theorem r_lload (C : Cx l g R nL k cc Ts own) (n : Nat) {i : Nat} {x : Int64} (hd : decode cc pc = .ok (.lload i, 2)) (hn : lv[n]? = some (i, .long x)) (kk : G k cells slots ws (pc + 2) lv (.long x :: st)) : G k cells slots ws pc lv st := by
  obtain ⟨p, l', e, R', s, m, args, below, meth, cod, H0, A, Q, g', nL'⟩ := k
  obtain ⟨⟨hx, hb, hml, hown, hts⟩, hK, hA, rfl, rfl, rfl, rfl, hH0⟩ := C
  intro H locs hP hD hS ls hl
  exact lv_lload hx hb hd (lv_at hl n hn) (kk H locs hP hD hS ls hl)
theorem r_lload_n (C : Cx l g R nL k cc Ts own) (n : Nat) {j : Fin 4} {i : Nat} {x : Int64} (hd : decode cc pc = .ok (.lload_n j, 1)) (hi : (j : Nat) = i) (hn : lv[n]? = some (i, .long x)) (kk : G k cells slots ws (pc + 1) lv (.long x :: st)) : G k cells slots ws pc lv st := by
  obtain ⟨p, l', e, R', s, m, args, below, meth, cod, H0, A, Q, g', nL'⟩ := k
  obtain ⟨⟨hx, hb, hml, hown, hts⟩, hK, hA, rfl, rfl, rfl, rfl, hH0⟩ := C
  intro H locs hP hD hS ls hl
  exact lv_lload_n hx hb hd hi (lv_at hl n hn) (kk H locs hP hD hS ls hl)
theorem r_aload (C : Cx l g R nL k cc Ts own) (n : Nat) {i : Nat} {x : Nat} (hd : decode cc pc = .ok (.aload i, 2)) (hn : lv[n]? = some (i, .ref x)) (kk : G k cells slots ws (pc + 2) lv (.ref x :: st)) : G k cells slots ws pc lv st := by
  obtain ⟨p, l', e, R', s, m, args, below, meth, cod, H0, A, Q, g', nL'⟩ := k
  obtain ⟨⟨hx, hb, hml, hown, hts⟩, hK, hA, rfl, rfl, rfl, rfl, hH0⟩ := C
  intro H locs hP hD hS ls hl
  exact lv_aload hx hb hd (lv_at hl n hn) (kk H locs hP hD hS ls hl)
theorem r_aload_n (C : Cx l g R nL k cc Ts own) (n : Nat) {j : Fin 4} {i : Nat} {x : Nat} (hd : decode cc pc = .ok (.aload_n j, 1)) (hi : (j : Nat) = i) (hn : lv[n]? = some (i, .ref x)) (kk : G k cells slots ws (pc + 1) lv (.ref x :: st)) : G k cells slots ws pc lv st := by
  obtain ⟨p, l', e, R', s, m, args, below, meth, cod, H0, A, Q, g', nL'⟩ := k
  obtain ⟨⟨hx, hb, hml, hown, hts⟩, hK, hA, rfl, rfl, rfl, rfl, hH0⟩ := C
  intro H locs hP hD hS ls hl
  exact lv_aload_n hx hb hd hi (lv_at hl n hn) (kk H locs hP hD hS ls hl)
theorem r_istore (C : Cx l g R nL k cc Ts own) (lv' : List (Nat × Value)) (is : List Nat) {i : Nat} {x : Int32} (hd : decode cc pc = .ok (.istore i, 2)) (hn : i < nL) (hl' : lv_pick ((i, Value.int x) :: lv.filter (fun q => !(q.1 == i) && !(q.1 + 1 == i && q.2.category == 2))) is = lv') (kk : G k cells slots ws (pc + 2) lv' st) : G k cells slots ws pc lv (.int x :: st) := by
  obtain ⟨p, l', e, R', s, m, args, below, meth, cod, H0, A, Q, g', nL'⟩ := k
  obtain ⟨⟨hx, hb, hml, hown, hts⟩, hK, hA, rfl, rfl, rfl, rfl, hH0⟩ := C
  intro H locs hP hD hS ls hl
  exact lv_istore hx hb hd hl hn rfl (fun ls hl => kk H locs hP hD hS ls (lv_sub hl is hl'))
theorem r_istore_n (C : Cx l g R nL k cc Ts own) {j : Fin 4} (lv' : List (Nat × Value)) (is : List Nat) {i : Nat} {x : Int32} (hd : decode cc pc = .ok (.istore_n j, 1)) (hi : (j : Nat) = i) (hn : i < nL) (hl' : lv_pick ((i, Value.int x) :: lv.filter (fun q => !(q.1 == i) && !(q.1 + 1 == i && q.2.category == 2))) is = lv') (kk : G k cells slots ws (pc + 1) lv' st) : G k cells slots ws pc lv (.int x :: st) := by
  obtain ⟨p, l', e, R', s, m, args, below, meth, cod, H0, A, Q, g', nL'⟩ := k
  obtain ⟨⟨hx, hb, hml, hown, hts⟩, hK, hA, rfl, rfl, rfl, rfl, hH0⟩ := C
  intro H locs hP hD hS ls hl
  exact lv_istore_n hx hb hd hi hl hn rfl (fun ls hl => kk H locs hP hD hS ls (lv_sub hl is hl'))
theorem r_lstore (C : Cx l g R nL k cc Ts own) (lv' : List (Nat × Value)) (is : List Nat) {i : Nat} {x : Int64} (hd : decode cc pc = .ok (.lstore i, 2)) (hn : i + 1 < nL) (hl' : lv_pick ((i, Value.long x) :: lv.filter (fun q => !(q.1 == i) && (!(q.1 == i + 1) && !(q.1 + 1 == i && q.2.category == 2)))) is = lv') (kk : G k cells slots ws (pc + 2) lv' st) : G k cells slots ws pc lv (.long x :: st) := by
  obtain ⟨p, l', e, R', s, m, args, below, meth, cod, H0, A, Q, g', nL'⟩ := k
  obtain ⟨⟨hx, hb, hml, hown, hts⟩, hK, hA, rfl, rfl, rfl, rfl, hH0⟩ := C
  intro H locs hP hD hS ls hl
  exact lv_lstore hx hb hd hl hn rfl (fun ls hl => kk H locs hP hD hS ls (lv_sub hl is hl'))
theorem r_lstore_n (C : Cx l g R nL k cc Ts own) {j : Fin 4} (lv' : List (Nat × Value)) (is : List Nat) {i : Nat} {x : Int64} (hd : decode cc pc = .ok (.lstore_n j, 1)) (hi : (j : Nat) = i) (hn : i + 1 < nL) (hl' : lv_pick ((i, Value.long x) :: lv.filter (fun q => !(q.1 == i) && (!(q.1 == i + 1) && !(q.1 + 1 == i && q.2.category == 2)))) is = lv') (kk : G k cells slots ws (pc + 1) lv' st) : G k cells slots ws pc lv (.long x :: st) := by
  obtain ⟨p, l', e, R', s, m, args, below, meth, cod, H0, A, Q, g', nL'⟩ := k
  obtain ⟨⟨hx, hb, hml, hown, hts⟩, hK, hA, rfl, rfl, rfl, rfl, hH0⟩ := C
  intro H locs hP hD hS ls hl
  exact lv_lstore_n hx hb hd hi hl hn rfl (fun ls hl => kk H locs hP hD hS ls (lv_sub hl is hl'))
theorem r_astore (C : Cx l g R nL k cc Ts own) (lv' : List (Nat × Value)) (is : List Nat) {i : Nat} {x : Nat} (hd : decode cc pc = .ok (.astore i, 2)) (hn : i < nL) (hl' : lv_pick ((i, Value.ref x) :: lv.filter (fun q => !(q.1 == i) && !(q.1 + 1 == i && q.2.category == 2))) is = lv') (kk : G k cells slots ws (pc + 2) lv' st) : G k cells slots ws pc lv (.ref x :: st) := by
  obtain ⟨p, l', e, R', s, m, args, below, meth, cod, H0, A, Q, g', nL'⟩ := k
  obtain ⟨⟨hx, hb, hml, hown, hts⟩, hK, hA, rfl, rfl, rfl, rfl, hH0⟩ := C
  intro H locs hP hD hS ls hl
  exact lv_astore hx hb hd hl hn rfl (fun ls hl => kk H locs hP hD hS ls (lv_sub hl is hl'))
theorem r_astore_n (C : Cx l g R nL k cc Ts own) {j : Fin 4} (lv' : List (Nat × Value)) (is : List Nat) {i : Nat} {x : Nat} (hd : decode cc pc = .ok (.astore_n j, 1)) (hi : (j : Nat) = i) (hn : i < nL) (hl' : lv_pick ((i, Value.ref x) :: lv.filter (fun q => !(q.1 == i) && !(q.1 + 1 == i && q.2.category == 2))) is = lv') (kk : G k cells slots ws (pc + 1) lv' st) : G k cells slots ws pc lv (.ref x :: st) := by
  obtain ⟨p, l', e, R', s, m, args, below, meth, cod, H0, A, Q, g', nL'⟩ := k
  obtain ⟨⟨hx, hb, hml, hown, hts⟩, hK, hA, rfl, rfl, rfl, rfl, hH0⟩ := C
  intro H locs hP hD hS ls hl
  exact lv_astore_n hx hb hd hi hl hn rfl (fun ls hl => kk H locs hP hD hS ls (lv_sub hl is hl'))
theorem r_iinc (C : Cx l g R nL k cc Ts own) (lv' : List (Nat × Value)) (is : List Nat) (n : Nat) {i : Nat} {d : Int} {x v : Int32} (hd : decode cc pc = .ok (.iinc i d, 3)) (hk : lv[n]? = some (i, .int x)) (hv : x + Int32.ofInt d = v) (hn : i < nL) (hl' : lv_pick ((i, Value.int v) :: lv.filter (fun q => !(q.1 == i) && !(q.1 + 1 == i && q.2.category == 2))) is = lv') (kk : G k cells slots ws (pc + 3) lv' st) : G k cells slots ws pc lv st := by
  obtain ⟨p, l', e, R', s, m, args, below, meth, cod, H0, A, Q, g', nL'⟩ := k
  obtain ⟨⟨hx, hb, hml, hown, hts⟩, hK, hA, rfl, rfl, rfl, rfl, hH0⟩ := C
  intro H locs hP hD hS ls hl
  exact lv_iinc hx hb hd hl hk hv hn rfl (fun ls hl => kk H locs hP hD hS ls (lv_sub hl is hl'))
theorem r_iadd (C : Cx l g R nL k cc Ts own) {x y : Int32} (hd : decode cc pc = .ok (.iadd, 1)) (kk : G k cells slots ws (pc + 1) lv (.int (x + y) :: st)) : G k cells slots ws pc lv (.int y :: .int x :: st) := by
  obtain ⟨p, l', e, R', s, m, args, below, meth, cod, H0, A, Q, g', nL'⟩ := k
  obtain ⟨⟨hx, hb, hml, hown, hts⟩, hK, hA, rfl, rfl, rfl, rfl, hH0⟩ := C
  intro H locs hP hD hS ls hl
  exact lv_iadd hx hb hd (kk H locs hP hD hS ls hl)
theorem r_isub (C : Cx l g R nL k cc Ts own) {x y : Int32} (hd : decode cc pc = .ok (.isub, 1)) (kk : G k cells slots ws (pc + 1) lv (.int (x - y) :: st)) : G k cells slots ws pc lv (.int y :: .int x :: st) := by
  obtain ⟨p, l', e, R', s, m, args, below, meth, cod, H0, A, Q, g', nL'⟩ := k
  obtain ⟨⟨hx, hb, hml, hown, hts⟩, hK, hA, rfl, rfl, rfl, rfl, hH0⟩ := C
  intro H locs hP hD hS ls hl
  exact lv_isub hx hb hd (kk H locs hP hD hS ls hl)
theorem r_imul (C : Cx l g R nL k cc Ts own) {x y : Int32} (hd : decode cc pc = .ok (.imul, 1)) (kk : G k cells slots ws (pc + 1) lv (.int (x * y) :: st)) : G k cells slots ws pc lv (.int y :: .int x :: st) := by
  obtain ⟨p, l', e, R', s, m, args, below, meth, cod, H0, A, Q, g', nL'⟩ := k
  obtain ⟨⟨hx, hb, hml, hown, hts⟩, hK, hA, rfl, rfl, rfl, rfl, hH0⟩ := C
  intro H locs hP hD hS ls hl
  exact lv_imul hx hb hd (kk H locs hP hD hS ls hl)
theorem r_iand (C : Cx l g R nL k cc Ts own) {x y : Int32} (hd : decode cc pc = .ok (.iand, 1)) (kk : G k cells slots ws (pc + 1) lv (.int (x &&& y) :: st)) : G k cells slots ws pc lv (.int y :: .int x :: st) := by
  obtain ⟨p, l', e, R', s, m, args, below, meth, cod, H0, A, Q, g', nL'⟩ := k
  obtain ⟨⟨hx, hb, hml, hown, hts⟩, hK, hA, rfl, rfl, rfl, rfl, hH0⟩ := C
  intro H locs hP hD hS ls hl
  exact lv_iand hx hb hd (kk H locs hP hD hS ls hl)
theorem r_ior (C : Cx l g R nL k cc Ts own) {x y : Int32} (hd : decode cc pc = .ok (.ior, 1)) (kk : G k cells slots ws (pc + 1) lv (.int (x ||| y) :: st)) : G k cells slots ws pc lv (.int y :: .int x :: st) := by
  obtain ⟨p, l', e, R', s, m, args, below, meth, cod, H0, A, Q, g', nL'⟩ := k
  obtain ⟨⟨hx, hb, hml, hown, hts⟩, hK, hA, rfl, rfl, rfl, rfl, hH0⟩ := C
  intro H locs hP hD hS ls hl
  exact lv_ior hx hb hd (kk H locs hP hD hS ls hl)
theorem r_idiv (C : Cx l g R nL k cc Ts own) {x y : Int32} (hd : decode cc pc = .ok (.idiv, 1)) (hne : ¬ y = 0) (kk : G k cells slots ws (pc + 1) lv (.int (x / y) :: st)) : G k cells slots ws pc lv (.int y :: .int x :: st) := by
  obtain ⟨p, l', e, R', s, m, args, below, meth, cod, H0, A, Q, g', nL'⟩ := k
  obtain ⟨⟨hx, hb, hml, hown, hts⟩, hK, hA, rfl, rfl, rfl, rfl, hH0⟩ := C
  intro H locs hP hD hS ls hl
  exact lv_idiv hx hb hd hne (kk H locs hP hD hS ls hl)
theorem r_irem (C : Cx l g R nL k cc Ts own) {x y : Int32} (hd : decode cc pc = .ok (.irem, 1)) (hne : ¬ y = 0) (kk : G k cells slots ws (pc + 1) lv (.int (x - x / y * y) :: st)) : G k cells slots ws pc lv (.int y :: .int x :: st) := by
  obtain ⟨p, l', e, R', s, m, args, below, meth, cod, H0, A, Q, g', nL'⟩ := k
  obtain ⟨⟨hx, hb, hml, hown, hts⟩, hK, hA, rfl, rfl, rfl, rfl, hH0⟩ := C
  intro H locs hP hD hS ls hl
  exact lv_irem hx hb hd hne (kk H locs hP hD hS ls hl)
theorem r_ineg (C : Cx l g R nL k cc Ts own) {x : Int32} (hd : decode cc pc = .ok (.ineg, 1)) (kk : G k cells slots ws (pc + 1) lv (.int (-x) :: st)) : G k cells slots ws pc lv (.int x :: st) := by
  obtain ⟨p, l', e, R', s, m, args, below, meth, cod, H0, A, Q, g', nL'⟩ := k
  obtain ⟨⟨hx, hb, hml, hown, hts⟩, hK, hA, rfl, rfl, rfl, rfl, hH0⟩ := C
  intro H locs hP hD hS ls hl
  exact lv_ineg hx hb hd (kk H locs hP hD hS ls hl)
theorem r_ladd (C : Cx l g R nL k cc Ts own) {x y : Int64} (hd : decode cc pc = .ok (.ladd, 1)) (kk : G k cells slots ws (pc + 1) lv (.long (x + y) :: st)) : G k cells slots ws pc lv (.long y :: .long x :: st) := by
  obtain ⟨p, l', e, R', s, m, args, below, meth, cod, H0, A, Q, g', nL'⟩ := k
  obtain ⟨⟨hx, hb, hml, hown, hts⟩, hK, hA, rfl, rfl, rfl, rfl, hH0⟩ := C
  intro H locs hP hD hS ls hl
  exact lv_ladd hx hb hd (kk H locs hP hD hS ls hl)
theorem r_lsub (C : Cx l g R nL k cc Ts own) {x y : Int64} (hd : decode cc pc = .ok (.lsub, 1)) (kk : G k cells slots ws (pc + 1) lv (.long (x - y) :: st)) : G k cells slots ws pc lv (.long y :: .long x :: st) := by
  obtain ⟨p, l', e, R', s, m, args, below, meth, cod, H0, A, Q, g', nL'⟩ := k
  obtain ⟨⟨hx, hb, hml, hown, hts⟩, hK, hA, rfl, rfl, rfl, rfl, hH0⟩ := C
  intro H locs hP hD hS ls hl
  exact lv_lsub hx hb hd (kk H locs hP hD hS ls hl)
theorem r_lmul (C : Cx l g R nL k cc Ts own) {x y : Int64} (hd : decode cc pc = .ok (.lmul, 1)) (kk : G k cells slots ws (pc + 1) lv (.long (x * y) :: st)) : G k cells slots ws pc lv (.long y :: .long x :: st) := by
  obtain ⟨p, l', e, R', s, m, args, below, meth, cod, H0, A, Q, g', nL'⟩ := k
  obtain ⟨⟨hx, hb, hml, hown, hts⟩, hK, hA, rfl, rfl, rfl, rfl, hH0⟩ := C
  intro H locs hP hD hS ls hl
  exact lv_lmul hx hb hd (kk H locs hP hD hS ls hl)
theorem r_ldiv (C : Cx l g R nL k cc Ts own) {x y : Int64} (hd : decode cc pc = .ok (.ldiv, 1)) (hne : ¬ y = 0) (kk : G k cells slots ws (pc + 1) lv (.long (x / y) :: st)) : G k cells slots ws pc lv (.long y :: .long x :: st) := by
  obtain ⟨p, l', e, R', s, m, args, below, meth, cod, H0, A, Q, g', nL'⟩ := k
  obtain ⟨⟨hx, hb, hml, hown, hts⟩, hK, hA, rfl, rfl, rfl, rfl, hH0⟩ := C
  intro H locs hP hD hS ls hl
  exact lv_ldiv hx hb hd hne (kk H locs hP hD hS ls hl)
theorem r_lrem (C : Cx l g R nL k cc Ts own) {x y : Int64} (hd : decode cc pc = .ok (.lrem, 1)) (hne : ¬ y = 0) (kk : G k cells slots ws (pc + 1) lv (.long (x - x / y * y) :: st)) : G k cells slots ws pc lv (.long y :: .long x :: st) := by
  obtain ⟨p, l', e, R', s, m, args, below, meth, cod, H0, A, Q, g', nL'⟩ := k
  obtain ⟨⟨hx, hb, hml, hown, hts⟩, hK, hA, rfl, rfl, rfl, rfl, hH0⟩ := C
  intro H locs hP hD hS ls hl
  exact lv_lrem hx hb hd hne (kk H locs hP hD hS ls hl)
theorem r_lneg (C : Cx l g R nL k cc Ts own) {x : Int64} (hd : decode cc pc = .ok (.lneg, 1)) (kk : G k cells slots ws (pc + 1) lv (.long (-x) :: st)) : G k cells slots ws pc lv (.long x :: st) := by
  obtain ⟨p, l', e, R', s, m, args, below, meth, cod, H0, A, Q, g', nL'⟩ := k
  obtain ⟨⟨hx, hb, hml, hown, hts⟩, hK, hA, rfl, rfl, rfl, rfl, hH0⟩ := C
  intro H locs hP hD hS ls hl
  exact lv_lneg hx hb hd (kk H locs hP hD hS ls hl)
theorem r_lcmp (C : Cx l g R nL k cc Ts own) {x y : Int64} (hd : decode cc pc = .ok (.lcmp, 1)) (kk : G k cells slots ws (pc + 1) lv (.int (lg_cmp x y) :: st)) : G k cells slots ws pc lv (.long y :: .long x :: st) := by
  obtain ⟨p, l', e, R', s, m, args, below, meth, cod, H0, A, Q, g', nL'⟩ := k
  obtain ⟨⟨hx, hb, hml, hown, hts⟩, hK, hA, rfl, rfl, rfl, rfl, hH0⟩ := C
  intro H locs hP hD hS ls hl
  exact W.lcmp hx hb hd (kk H locs hP hD hS ls hl)
theorem r_i2l (C : Cx l g R nL k cc Ts own) {x : Int32} {v : Int64} (hd : decode cc pc = .ok (.i2l, 1)) (hv : x.toInt64 = v) (kk : G k cells slots ws (pc + 1) lv (.long v :: st)) : G k cells slots ws pc lv (.int x :: st) := by
  obtain ⟨p, l', e, R', s, m, args, below, meth, cod, H0, A, Q, g', nL'⟩ := k
  obtain ⟨⟨hx, hb, hml, hown, hts⟩, hK, hA, rfl, rfl, rfl, rfl, hH0⟩ := C
  intro H locs hP hD hS ls hl
  exact lv_i2l hx hb hd hv (kk H locs hP hD hS ls hl)
theorem r_l2i (C : Cx l g R nL k cc Ts own) {x : Int64} {v : Int32} (hd : decode cc pc = .ok (.l2i, 1)) (hv : x.toInt32 = v) (kk : G k cells slots ws (pc + 1) lv (.int v :: st)) : G k cells slots ws pc lv (.long x :: st) := by
  obtain ⟨p, l', e, R', s, m, args, below, meth, cod, H0, A, Q, g', nL'⟩ := k
  obtain ⟨⟨hx, hb, hml, hown, hts⟩, hK, hA, rfl, rfl, rfl, rfl, hH0⟩ := C
  intro H locs hP hD hS ls hl
  exact lv_l2i hx hb hd hv (kk H locs hP hD hS ls hl)
theorem r_i2b (C : Cx l g R nL k cc Ts own) {x v : Int32} (hd : decode cc pc = .ok (.i2b, 1)) (hv : x.toInt8.toInt32 = v) (kk : G k cells slots ws (pc + 1) lv (.int v :: st)) : G k cells slots ws pc lv (.int x :: st) := by
  obtain ⟨p, l', e, R', s, m, args, below, meth, cod, H0, A, Q, g', nL'⟩ := k
  obtain ⟨⟨hx, hb, hml, hown, hts⟩, hK, hA, rfl, rfl, rfl, rfl, hH0⟩ := C
  intro H locs hP hD hS ls hl
  exact lv_i2b hx hb hd hv (kk H locs hP hD hS ls hl)
theorem r_i2s (C : Cx l g R nL k cc Ts own) {x v : Int32} (hd : decode cc pc = .ok (.i2s, 1)) (hv : x.toInt16.toInt32 = v) (kk : G k cells slots ws (pc + 1) lv (.int v :: st)) : G k cells slots ws pc lv (.int x :: st) := by
  obtain ⟨p, l', e, R', s, m, args, below, meth, cod, H0, A, Q, g', nL'⟩ := k
  obtain ⟨⟨hx, hb, hml, hown, hts⟩, hK, hA, rfl, rfl, rfl, rfl, hH0⟩ := C
  intro H locs hP hD hS ls hl
  exact lv_i2s hx hb hd hv (kk H locs hP hD hS ls hl)
theorem r_dup (C : Cx l g R nL k cc Ts own) {v : Value} (hd : decode cc pc = .ok (.dup, 1)) (hv : v.category = 1) (kk : G k cells slots ws (pc + 1) lv (v :: v :: st)) : G k cells slots ws pc lv (v :: st) := by
  obtain ⟨p, l', e, R', s, m, args, below, meth, cod, H0, A, Q, g', nL'⟩ := k
  obtain ⟨⟨hx, hb, hml, hown, hts⟩, hK, hA, rfl, rfl, rfl, rfl, hH0⟩ := C
  intro H locs hP hD hS ls hl
  exact lv_dup hx hb hd hv (kk H locs hP hD hS ls hl)
theorem r_topi {x : Int32} (kk : ∀ y : Int32, y = x → G k cells slots ws pc lv (.int y :: st)) : G k cells slots ws pc lv (.int x :: st) := kk x rfl
theorem r_topl {x : Int64} (kk : ∀ y : Int64, y = x → G k cells slots ws pc lv (.long y :: st)) : G k cells slots ws pc lv (.long x :: st) := kk x rfl
theorem r_setI {x y : Int32} (h : x = y) (kk : G k cells slots ws pc lv (.int y :: st)) : G k cells slots ws pc lv (.int x :: st) := h ▸ kk
theorem r_setL {x y : Int64} (h : x = y) (kk : G k cells slots ws pc lv (.long y :: st)) : G k cells slots ws pc lv (.long x :: st) := h ▸ kk
theorem r_ws {ws' : va_W} (h : ws = ws') (kk : G k cells slots ws' pc lv st) : G k cells slots ws pc lv st := h ▸ kk
theorem r_lvs {lv' : List (Nat × Value)} (C : Cx l g R nL k cc Ts own) (is : List Nat) (h : lv_pick lv is = lv') (kk : G k cells slots ws pc lv' st) : G k cells slots ws pc lv st := by
  obtain ⟨p, l', e, R', s, m, args, below, meth, cod, H0, A, Q, g', nL'⟩ := k
  obtain ⟨⟨hx, hb, hml, hown, hts⟩, hK, hA, rfl, rfl, rfl, rfl, hH0⟩ := C
  intro H locs hP hD hS ls hl
  exact kk H locs hP hD hS ls (lv_sub hl is h)
theorem r_icmp_eq (C : Cx l g R nL k cc Ts own) {x y : Int32} {off : Int} {tgt : Nat} (hd : decode cc pc = .ok (.if_icmp .eq off, 3)) (ht : (pc : Int) + off = (tgt : Int)) (kt : x = y → G k cells slots ws tgt lv st) (kf : ¬ (x = y) → G k cells slots ws (pc + 3) lv st) : G k cells slots ws pc lv (.int y :: .int x :: st) := by
  obtain ⟨p, l', e, R', s, m, args, below, meth, cod, H0, A, Q, g', nL'⟩ := k
  obtain ⟨⟨hx, hb, hml, hown, hts⟩, hK, hA, rfl, rfl, rfl, rfl, hH0⟩ := C
  intro H locs hP hD hS ls hl
  exact lv_icmp_eq hx hb hd ht (fun h => kt h H locs hP hD hS ls hl) (fun h => kf h H locs hP hD hS ls hl)
theorem r_if_eq (C : Cx l g R nL k cc Ts own) {x : Int32} {off : Int} {tgt : Nat} (hd : decode cc pc = .ok (.ifCond .eq off, 3)) (ht : (pc : Int) + off = (tgt : Int)) (kt : x = 0 → G k cells slots ws tgt lv st) (kf : ¬ (x = 0) → G k cells slots ws (pc + 3) lv st) : G k cells slots ws pc lv (.int x :: st) := by
  obtain ⟨p, l', e, R', s, m, args, below, meth, cod, H0, A, Q, g', nL'⟩ := k
  obtain ⟨⟨hx, hb, hml, hown, hts⟩, hK, hA, rfl, rfl, rfl, rfl, hH0⟩ := C
  intro H locs hP hD hS ls hl
  exact lv_if_eq hx hb hd ht (fun h => kt h H locs hP hD hS ls hl) (fun h => kf h H locs hP hD hS ls hl)
theorem r_icmp_ne (C : Cx l g R nL k cc Ts own) {x y : Int32} {off : Int} {tgt : Nat} (hd : decode cc pc = .ok (.if_icmp .ne off, 3)) (ht : (pc : Int) + off = (tgt : Int)) (kt : ¬ x = y → G k cells slots ws tgt lv st) (kf : x = y → G k cells slots ws (pc + 3) lv st) : G k cells slots ws pc lv (.int y :: .int x :: st) := by
  obtain ⟨p, l', e, R', s, m, args, below, meth, cod, H0, A, Q, g', nL'⟩ := k
  obtain ⟨⟨hx, hb, hml, hown, hts⟩, hK, hA, rfl, rfl, rfl, rfl, hH0⟩ := C
  intro H locs hP hD hS ls hl
  exact lv_icmp_ne hx hb hd ht (fun h => kt h H locs hP hD hS ls hl) (fun h => kf h H locs hP hD hS ls hl)
theorem r_if_ne (C : Cx l g R nL k cc Ts own) {x : Int32} {off : Int} {tgt : Nat} (hd : decode cc pc = .ok (.ifCond .ne off, 3)) (ht : (pc : Int) + off = (tgt : Int)) (kt : ¬ x = 0 → G k cells slots ws tgt lv st) (kf : x = 0 → G k cells slots ws (pc + 3) lv st) : G k cells slots ws pc lv (.int x :: st) := by
  obtain ⟨p, l', e, R', s, m, args, below, meth, cod, H0, A, Q, g', nL'⟩ := k
  obtain ⟨⟨hx, hb, hml, hown, hts⟩, hK, hA, rfl, rfl, rfl, rfl, hH0⟩ := C
  intro H locs hP hD hS ls hl
  exact lv_if_ne hx hb hd ht (fun h => kt h H locs hP hD hS ls hl) (fun h => kf h H locs hP hD hS ls hl)
theorem r_icmp_lt (C : Cx l g R nL k cc Ts own) {x y : Int32} {off : Int} {tgt : Nat} (hd : decode cc pc = .ok (.if_icmp .lt off, 3)) (ht : (pc : Int) + off = (tgt : Int)) (kt : x < y → G k cells slots ws tgt lv st) (kf : ¬ (x < y) → G k cells slots ws (pc + 3) lv st) : G k cells slots ws pc lv (.int y :: .int x :: st) := by
  obtain ⟨p, l', e, R', s, m, args, below, meth, cod, H0, A, Q, g', nL'⟩ := k
  obtain ⟨⟨hx, hb, hml, hown, hts⟩, hK, hA, rfl, rfl, rfl, rfl, hH0⟩ := C
  intro H locs hP hD hS ls hl
  exact lv_icmp_lt hx hb hd ht (fun h => kt h H locs hP hD hS ls hl) (fun h => kf h H locs hP hD hS ls hl)
theorem r_if_lt (C : Cx l g R nL k cc Ts own) {x : Int32} {off : Int} {tgt : Nat} (hd : decode cc pc = .ok (.ifCond .lt off, 3)) (ht : (pc : Int) + off = (tgt : Int)) (kt : x < 0 → G k cells slots ws tgt lv st) (kf : ¬ (x < 0) → G k cells slots ws (pc + 3) lv st) : G k cells slots ws pc lv (.int x :: st) := by
  obtain ⟨p, l', e, R', s, m, args, below, meth, cod, H0, A, Q, g', nL'⟩ := k
  obtain ⟨⟨hx, hb, hml, hown, hts⟩, hK, hA, rfl, rfl, rfl, rfl, hH0⟩ := C
  intro H locs hP hD hS ls hl
  exact lv_if_lt hx hb hd ht (fun h => kt h H locs hP hD hS ls hl) (fun h => kf h H locs hP hD hS ls hl)
theorem r_icmp_ge (C : Cx l g R nL k cc Ts own) {x y : Int32} {off : Int} {tgt : Nat} (hd : decode cc pc = .ok (.if_icmp .ge off, 3)) (ht : (pc : Int) + off = (tgt : Int)) (kt : y ≤ x → G k cells slots ws tgt lv st) (kf : ¬ (y ≤ x) → G k cells slots ws (pc + 3) lv st) : G k cells slots ws pc lv (.int y :: .int x :: st) := by
  obtain ⟨p, l', e, R', s, m, args, below, meth, cod, H0, A, Q, g', nL'⟩ := k
  obtain ⟨⟨hx, hb, hml, hown, hts⟩, hK, hA, rfl, rfl, rfl, rfl, hH0⟩ := C
  intro H locs hP hD hS ls hl
  exact lv_icmp_ge hx hb hd ht (fun h => kt h H locs hP hD hS ls hl) (fun h => kf h H locs hP hD hS ls hl)
theorem r_if_ge (C : Cx l g R nL k cc Ts own) {x : Int32} {off : Int} {tgt : Nat} (hd : decode cc pc = .ok (.ifCond .ge off, 3)) (ht : (pc : Int) + off = (tgt : Int)) (kt : 0 ≤ x → G k cells slots ws tgt lv st) (kf : ¬ (0 ≤ x) → G k cells slots ws (pc + 3) lv st) : G k cells slots ws pc lv (.int x :: st) := by
  obtain ⟨p, l', e, R', s, m, args, below, meth, cod, H0, A, Q, g', nL'⟩ := k
  obtain ⟨⟨hx, hb, hml, hown, hts⟩, hK, hA, rfl, rfl, rfl, rfl, hH0⟩ := C
  intro H locs hP hD hS ls hl
  exact lv_if_ge hx hb hd ht (fun h => kt h H locs hP hD hS ls hl) (fun h => kf h H locs hP hD hS ls hl)
theorem r_icmp_gt (C : Cx l g R nL k cc Ts own) {x y : Int32} {off : Int} {tgt : Nat} (hd : decode cc pc = .ok (.if_icmp .gt off, 3)) (ht : (pc : Int) + off = (tgt : Int)) (kt : y < x → G k cells slots ws tgt lv st) (kf : ¬ (y < x) → G k cells slots ws (pc + 3) lv st) : G k cells slots ws pc lv (.int y :: .int x :: st) := by
  obtain ⟨p, l', e, R', s, m, args, below, meth, cod, H0, A, Q, g', nL'⟩ := k
  obtain ⟨⟨hx, hb, hml, hown, hts⟩, hK, hA, rfl, rfl, rfl, rfl, hH0⟩ := C
  intro H locs hP hD hS ls hl
  exact lv_icmp_gt hx hb hd ht (fun h => kt h H locs hP hD hS ls hl) (fun h => kf h H locs hP hD hS ls hl)
theorem r_if_gt (C : Cx l g R nL k cc Ts own) {x : Int32} {off : Int} {tgt : Nat} (hd : decode cc pc = .ok (.ifCond .gt off, 3)) (ht : (pc : Int) + off = (tgt : Int)) (kt : 0 < x → G k cells slots ws tgt lv st) (kf : ¬ (0 < x) → G k cells slots ws (pc + 3) lv st) : G k cells slots ws pc lv (.int x :: st) := by
  obtain ⟨p, l', e, R', s, m, args, below, meth, cod, H0, A, Q, g', nL'⟩ := k
  obtain ⟨⟨hx, hb, hml, hown, hts⟩, hK, hA, rfl, rfl, rfl, rfl, hH0⟩ := C
  intro H locs hP hD hS ls hl
  exact lv_if_gt hx hb hd ht (fun h => kt h H locs hP hD hS ls hl) (fun h => kf h H locs hP hD hS ls hl)
theorem r_icmp_le (C : Cx l g R nL k cc Ts own) {x y : Int32} {off : Int} {tgt : Nat} (hd : decode cc pc = .ok (.if_icmp .le off, 3)) (ht : (pc : Int) + off = (tgt : Int)) (kt : x ≤ y → G k cells slots ws tgt lv st) (kf : ¬ (x ≤ y) → G k cells slots ws (pc + 3) lv st) : G k cells slots ws pc lv (.int y :: .int x :: st) := by
  obtain ⟨p, l', e, R', s, m, args, below, meth, cod, H0, A, Q, g', nL'⟩ := k
  obtain ⟨⟨hx, hb, hml, hown, hts⟩, hK, hA, rfl, rfl, rfl, rfl, hH0⟩ := C
  intro H locs hP hD hS ls hl
  exact lv_icmp_le hx hb hd ht (fun h => kt h H locs hP hD hS ls hl) (fun h => kf h H locs hP hD hS ls hl)
theorem r_if_le (C : Cx l g R nL k cc Ts own) {x : Int32} {off : Int} {tgt : Nat} (hd : decode cc pc = .ok (.ifCond .le off, 3)) (ht : (pc : Int) + off = (tgt : Int)) (kt : x ≤ 0 → G k cells slots ws tgt lv st) (kf : ¬ (x ≤ 0) → G k cells slots ws (pc + 3) lv st) : G k cells slots ws pc lv (.int x :: st) := by
  obtain ⟨p, l', e, R', s, m, args, below, meth, cod, H0, A, Q, g', nL'⟩ := k
  obtain ⟨⟨hx, hb, hml, hown, hts⟩, hK, hA, rfl, rfl, rfl, rfl, hH0⟩ := C
  intro H locs hP hD hS ls hl
  exact lv_if_le hx hb hd ht (fun h => kt h H locs hP hD hS ls hl) (fun h => kf h H locs hP hD hS ls hl)
theorem r_goto (C : Cx l g R nL k cc Ts own) {off : Int} {tgt : Nat} (hd : decode cc pc = .ok (.goto off, 3)) (ht : (pc : Int) + off = (tgt : Int)) (kk : G k cells slots ws tgt lv st) : G k cells slots ws pc lv st := by
  obtain ⟨p, l', e, R', s, m, args, below, meth, cod, H0, A, Q, g', nL'⟩ := k
  obtain ⟨⟨hx, hb, hml, hown, hts⟩, hK, hA, rfl, rfl, rfl, rfl, hH0⟩ := C
  intro H locs hP hD hS ls hl
  exact lv_goto hx hb hd ht (kk H locs hP hD hS ls hl)
theorem r_iaddN (C : Cx l g R nL k cc Ts own) {a b : Nat} (hd : decode cc pc = .ok (.iadd, 1)) (kk : G k cells slots ws (pc + 1) lv (.int (nI (a + b)) :: st)) : G k cells slots ws pc lv (.int (nI b) :: .int (nI a) :: st) := r_iadd C hd (by rw [nI_add]; exact kk)
theorem r_imulN (C : Cx l g R nL k cc Ts own) {a b : Nat} (hd : decode cc pc = .ok (.imul, 1)) (kk : G k cells slots ws (pc + 1) lv (.int (nI (a * b)) :: st)) : G k cells slots ws pc lv (.int (nI b) :: .int (nI a) :: st) := r_imul C hd (by rw [nI_mul]; exact kk)
theorem r_isubN (C : Cx l g R nL k cc Ts own) {a b : Nat} (hd : decode cc pc = .ok (.isub, 1)) (h : b ≤ a) (kk : G k cells slots ws (pc + 1) lv (.int (nI (a - b)) :: st)) : G k cells slots ws pc lv (.int (nI b) :: .int (nI a) :: st) := r_isub C hd (by rw [nI_sub h]; exact kk)
theorem nI_tN {n : Nat} (h : n < 2 ^ 31) : (nI n).toInt = (n : Int) := nI_toInt h
theorem nI_ofInt (n : Nat) : nI n = Int32.ofInt (n : Int) := rfl
theorem nI_div {a b : Nat} (ha : a < 2 ^ 31) (hb : b < 2 ^ 31) (h0 : 0 < b) : nI a / nI b = nI (a / b) := by
  apply Int32.toInt_inj.mp
  have hq : a / b < 2 ^ 31 := Nat.lt_of_le_of_lt (Nat.div_le_self a b) ha
  rw [Int32.toInt_div, nI_toInt ha, nI_toInt hb, nI_toInt hq, Int.tdiv_eq_ediv_of_nonneg (by omega)]
  rw [← Int.natCast_ediv]
  generalize a / b = q at hq ⊢
  exact Int.bmod_eq_of_le (by omega) (by omega)
theorem nI_mod {a b : Nat} (ha : a < 2 ^ 31) (hb : b < 2 ^ 31) (h0 : 0 < b) : nI a - nI a / nI b * nI b = nI (a % b) := by
  rw [nI_div ha hb h0, nI_mul, nI_sub (Nat.div_mul_le_self a b)]
  congr 1
  have h := Nat.div_add_mod a b
  rw [Nat.mul_comm] at h
  omega
theorem r_idivN (C : Cx l g R nL k cc Ts own) {a b : Nat} (hd : decode cc pc = .ok (.idiv, 1)) (ha : a < 2 ^ 31) (hb : b < 2 ^ 31) (h0 : 0 < b) (kk : G k cells slots ws (pc + 1) lv (.int (nI (a / b)) :: st)) : G k cells slots ws pc lv (.int (nI b) :: .int (nI a) :: st) := r_idiv C hd (nI_ne0 h0 hb) (by rw [nI_div ha hb h0]; exact kk)
theorem r_iremN (C : Cx l g R nL k cc Ts own) {a b : Nat} (hd : decode cc pc = .ok (.irem, 1)) (ha : a < 2 ^ 31) (hb : b < 2 ^ 31) (h0 : 0 < b) (kk : G k cells slots ws (pc + 1) lv (.int (nI (a % b)) :: st)) : G k cells slots ws pc lv (.int (nI b) :: .int (nI a) :: st) := r_irem C hd (nI_ne0 h0 hb) (by rw [nI_mod ha hb h0]; exact kk)
theorem r_icmpN_eq (C : Cx l g R nL k cc Ts own) {a b : Nat} {off : Int} {tgt : Nat} (hd : decode cc pc = .ok (.if_icmp .eq off, 3)) (ht : (pc : Int) + off = (tgt : Int)) (ha : a < 2 ^ 31) (hb : b < 2 ^ 31) (kt : a = b → G k cells slots ws tgt lv st) (kf : ¬ (a = b) → G k cells slots ws (pc + 3) lv st) : G k cells slots ws pc lv (.int (nI b) :: .int (nI a) :: st) := r_icmp_eq C hd ht (fun h => kt ((nI_eq ha hb).mp h)) (fun h => kf (fun q => h ((nI_eq ha hb).mpr q)))
theorem r_icmpN_lt (C : Cx l g R nL k cc Ts own) {a b : Nat} {off : Int} {tgt : Nat} (hd : decode cc pc = .ok (.if_icmp .lt off, 3)) (ht : (pc : Int) + off = (tgt : Int)) (ha : a < 2 ^ 31) (hb : b < 2 ^ 31) (kt : a < b → G k cells slots ws tgt lv st) (kf : ¬ (a < b) → G k cells slots ws (pc + 3) lv st) : G k cells slots ws pc lv (.int (nI b) :: .int (nI a) :: st) := r_icmp_lt C hd ht (fun h => kt ((nI_ltI ha hb).mp h)) (fun h => kf (fun q => h ((nI_ltI ha hb).mpr q)))
theorem r_icmpN_ge (C : Cx l g R nL k cc Ts own) {a b : Nat} {off : Int} {tgt : Nat} (hd : decode cc pc = .ok (.if_icmp .ge off, 3)) (ht : (pc : Int) + off = (tgt : Int)) (ha : a < 2 ^ 31) (hb : b < 2 ^ 31) (kt : b ≤ a → G k cells slots ws tgt lv st) (kf : ¬ (b ≤ a) → G k cells slots ws (pc + 3) lv st) : G k cells slots ws pc lv (.int (nI b) :: .int (nI a) :: st) := r_icmp_ge C hd ht (fun h => kt ((nI_leI hb ha).mp h)) (fun h => kf (fun q => h ((nI_leI hb ha).mpr q)))
theorem r_icmpN_gt (C : Cx l g R nL k cc Ts own) {a b : Nat} {off : Int} {tgt : Nat} (hd : decode cc pc = .ok (.if_icmp .gt off, 3)) (ht : (pc : Int) + off = (tgt : Int)) (ha : a < 2 ^ 31) (hb : b < 2 ^ 31) (kt : b < a → G k cells slots ws tgt lv st) (kf : ¬ (b < a) → G k cells slots ws (pc + 3) lv st) : G k cells slots ws pc lv (.int (nI b) :: .int (nI a) :: st) := r_icmp_gt C hd ht (fun h => kt ((nI_ltI hb ha).mp h)) (fun h => kf (fun q => h ((nI_ltI hb ha).mpr q)))
theorem r_icmpN_le (C : Cx l g R nL k cc Ts own) {a b : Nat} {off : Int} {tgt : Nat} (hd : decode cc pc = .ok (.if_icmp .le off, 3)) (ht : (pc : Int) + off = (tgt : Int)) (ha : a < 2 ^ 31) (hb : b < 2 ^ 31) (kt : a ≤ b → G k cells slots ws tgt lv st) (kf : ¬ (a ≤ b) → G k cells slots ws (pc + 3) lv st) : G k cells slots ws pc lv (.int (nI b) :: .int (nI a) :: st) := r_icmp_le C hd ht (fun h => kt ((nI_leI ha hb).mp h)) (fun h => kf (fun q => h ((nI_leI ha hb).mpr q)))
theorem r_icmpN_ne (C : Cx l g R nL k cc Ts own) {a b : Nat} {off : Int} {tgt : Nat} (hd : decode cc pc = .ok (.if_icmp .ne off, 3)) (ht : (pc : Int) + off = (tgt : Int)) (ha : a < 2 ^ 31) (hb : b < 2 ^ 31) (kt : ¬ a = b → G k cells slots ws tgt lv st) (kf : a = b → G k cells slots ws (pc + 3) lv st) : G k cells slots ws pc lv (.int (nI b) :: .int (nI a) :: st) := r_icmp_ne C hd ht (fun h => kt (fun q => h ((nI_eq ha hb).mpr q))) (fun h => kf ((nI_eq ha hb).mp h))
theorem r_ifN_eq (C : Cx l g R nL k cc Ts own) {a : Nat} {off : Int} {tgt : Nat} (hd : decode cc pc = .ok (.ifCond .eq off, 3)) (ht : (pc : Int) + off = (tgt : Int)) (ha : a < 2 ^ 31) (kt : a = 0 → G k cells slots ws tgt lv st) (kf : ¬ (a = 0) → G k cells slots ws (pc + 3) lv st) : G k cells slots ws pc lv (.int (nI a) :: st) := r_if_eq C hd ht (fun h => kt ((nI_eq ha (by decide)).mp (nI_0.symm ▸ h))) (fun h => kf (fun q => h (nI_0 ▸ (nI_eq ha (by decide)).mpr q)))
theorem r_ifN_lt (C : Cx l g R nL k cc Ts own) {a : Nat} {off : Int} {tgt : Nat} (hd : decode cc pc = .ok (.ifCond .lt off, 3)) (ht : (pc : Int) + off = (tgt : Int)) (ha : a < 2 ^ 31) (kt : a < 0 → G k cells slots ws tgt lv st) (kf : ¬ (a < 0) → G k cells slots ws (pc + 3) lv st) : G k cells slots ws pc lv (.int (nI a) :: st) := r_if_lt C hd ht (fun h => kt ((nI_ltI ha (by decide)).mp (nI_0.symm ▸ h))) (fun h => kf (fun q => h (nI_0 ▸ (nI_ltI ha (by decide)).mpr q)))
theorem r_ifN_ge (C : Cx l g R nL k cc Ts own) {a : Nat} {off : Int} {tgt : Nat} (hd : decode cc pc = .ok (.ifCond .ge off, 3)) (ht : (pc : Int) + off = (tgt : Int)) (ha : a < 2 ^ 31) (kt : 0 ≤ a → G k cells slots ws tgt lv st) (kf : ¬ (0 ≤ a) → G k cells slots ws (pc + 3) lv st) : G k cells slots ws pc lv (.int (nI a) :: st) := r_if_ge C hd ht (fun h => kt ((nI_leI (by decide) ha).mp (nI_0.symm ▸ h))) (fun h => kf (fun q => h (nI_0 ▸ (nI_leI (by decide) ha).mpr q)))
theorem r_ifN_gt (C : Cx l g R nL k cc Ts own) {a : Nat} {off : Int} {tgt : Nat} (hd : decode cc pc = .ok (.ifCond .gt off, 3)) (ht : (pc : Int) + off = (tgt : Int)) (ha : a < 2 ^ 31) (kt : 0 < a → G k cells slots ws tgt lv st) (kf : ¬ (0 < a) → G k cells slots ws (pc + 3) lv st) : G k cells slots ws pc lv (.int (nI a) :: st) := r_if_gt C hd ht (fun h => kt ((nI_ltI (by decide) ha).mp (nI_0.symm ▸ h))) (fun h => kf (fun q => h (nI_0 ▸ (nI_ltI (by decide) ha).mpr q)))
theorem r_ifN_le (C : Cx l g R nL k cc Ts own) {a : Nat} {off : Int} {tgt : Nat} (hd : decode cc pc = .ok (.ifCond .le off, 3)) (ht : (pc : Int) + off = (tgt : Int)) (ha : a < 2 ^ 31) (kt : a ≤ 0 → G k cells slots ws tgt lv st) (kf : ¬ (a ≤ 0) → G k cells slots ws (pc + 3) lv st) : G k cells slots ws pc lv (.int (nI a) :: st) := r_if_le C hd ht (fun h => kt ((nI_leI ha (by decide)).mp (nI_0.symm ▸ h))) (fun h => kf (fun q => h (nI_0 ▸ (nI_leI ha (by decide)).mpr q)))
theorem r_ifN_ne (C : Cx l g R nL k cc Ts own) {a : Nat} {off : Int} {tgt : Nat} (hd : decode cc pc = .ok (.ifCond .ne off, 3)) (ht : (pc : Int) + off = (tgt : Int)) (ha : a < 2 ^ 31) (kt : ¬ a = 0 → G k cells slots ws tgt lv st) (kf : a = 0 → G k cells slots ws (pc + 3) lv st) : G k cells slots ws pc lv (.int (nI a) :: st) := r_if_ne C hd ht (fun h => kt (fun q => h (by rw [q]; exact nI_0))) (fun h => kf ((nI_eq ha (by decide)).mp (h.trans nI_0.symm)))
theorem r_ifB_eq (C : Cx l g R nL k cc Ts own) {P : Prop} {off : Int} {tgt : Nat} (hd : decode cc pc = .ok (.ifCond .eq off, 3)) (ht : (pc : Int) + off = (tgt : Int)) (kt : ¬ P → G k cells slots ws tgt lv st) (kf : P → G k cells slots ws (pc + 3) lv st) : G k cells slots ws pc lv (.int (bI P) :: st) := r_if_eq C hd ht (fun h => kt (bI_eq0.mp h)) (fun h => kf (Classical.not_not.mp (fun q => h (bI_eq0.mpr q))))
theorem r_ifB_ne (C : Cx l g R nL k cc Ts own) {P : Prop} {off : Int} {tgt : Nat} (hd : decode cc pc = .ok (.ifCond .ne off, 3)) (ht : (pc : Int) + off = (tgt : Int)) (kt : P → G k cells slots ws tgt lv st) (kf : ¬ P → G k cells slots ws (pc + 3) lv st) : G k cells slots ws pc lv (.int (bI P) :: st) := r_if_ne C hd ht (fun h => kt (Classical.not_not.mp (fun q => h (bI_eq0.mpr q)))) (fun h => kf (bI_eq0.mp h))
end RW
section RM
variable {l : Launch} {g : gE} {R : Room} {nL : Nat} {k : KX} {cc : ByteArray} {Ts : List Cond} {own : String} {cells slots : Nat} {ad : Nat → Nat} {u : Me} {pc : Nat} {lv : List (Nat × Value)} {st : List Value}
theorem isI.at {c n : Nat} (h : isI c n) (g : gE) (ad : Nat → Nat) (u : Me) : (WW g ad u)[c]? = some (ad c, .inl (g.2.2.1, n, .inl (mA u c))) := by rw [WW_get h.1, h.2]
theorem isJ.at {c n : Nat} (h : isJ c n) (g : gE) (ad : Nat → Nat) (u : Me) : (WW g ad u)[c]? = some (ad c, .inl (g.2.2.2.1, n, .inr (.inl (mJ u c)))) := by rw [WW_get h.1, h.2]
theorem isZ.at {c n : Nat} (h : isZ c n) (g : gE) (ad : Nat → Nat) (u : Me) : (WW g ad u)[c]? = some (ad c, .inl (g.2.2.2.2, n, .inl (mA u c))) := by rw [WW_get h.1, h.2]
theorem isO.at {c ci : Nat} {fs : (Nat → Nat) → Me → List Value} (h : isO c ci fs) (g : gE) (ad : Nat → Nat) (u : Me) : (WW g ad u)[c]? = some (ad c, .inr (ci, fs ad u)) := by rw [WW_get h.1, h.2]
theorem updN {f : Nat → Int32} {j : Nat} (h : j < 2 ^ 31) (x : Int32) : upd f (nI j).toNatClampNeg x = upd f j x := by rw [nI_clamp h]
theorem updLN {f : Nat → Int64} {j : Nat} (h : j < 2 ^ 31) (x : Int64) : vp_updL f (nI j).toNatClampNeg x = vp_updL f j x := by rw [nI_clamp h]

theorem r_iald (C : Cx l g R nL k cc Ts own) {c n j : Nat} (hI : isI c n) (hj : j < n) (hn : n ≤ 1000) (hd : decode cc pc = .ok (.iaload, 1)) (kk : G k cells slots (WW g ad u) (pc + 1) lv (.int (mA u c j) :: st)) : G k cells slots (WW g ad u) pc lv (.int (nI j) :: .ref (ad c) :: st) := by
  obtain ⟨p, l', e, R', s, m, args, below, meth, cod, H0, A, Q, g', nL'⟩ := k
  obtain ⟨⟨hx, hb, hml, hown, hts⟩, hK, hA, rfl, rfl, rfl, rfl, hH0⟩ := C
  intro H locs hP hD hS ls hl
  refine va_iald hx hb hK hP c 0 (hI.at _ ad u) rfl (vpN hj hn) hd ?_
  rw [nI_clamp (by omega)]; exact (kk H locs hP hD hS ls hl)
theorem r_zald (C : Cx l g R nL k cc Ts own) {c n j : Nat} (hI : isZ c n) (hj : j < n) (hn : n ≤ 1000) (hd : decode cc pc = .ok (.baload, 1)) (kk : G k cells slots (WW g ad u) (pc + 1) lv (.int (mA u c j) :: st)) : G k cells slots (WW g ad u) pc lv (.int (nI j) :: .ref (ad c) :: st) := by
  obtain ⟨p, l', e, R', s, m, args, below, meth, cod, H0, A, Q, g', nL'⟩ := k
  obtain ⟨⟨hx, hb, hml, hown, hts⟩, hK, hA, rfl, rfl, rfl, rfl, hH0⟩ := C
  intro H locs hP hD hS ls hl
  refine va_zald hx hb hK hP c 2 (hI.at _ ad u) rfl (vpN hj hn) hd ?_
  rw [nI_clamp (by omega)]; exact (kk H locs hP hD hS ls hl)
theorem r_lald (C : Cx l g R nL k cc Ts own) {c n j : Nat} (hI : isJ c n) (hj : j < n) (hn : n ≤ 1000) (hd : decode cc pc = .ok (.laload, 1)) (kk : G k cells slots (WW g ad u) (pc + 1) lv (.long (mJ u c j) :: st)) : G k cells slots (WW g ad u) pc lv (.int (nI j) :: .ref (ad c) :: st) := by
  obtain ⟨p, l', e, R', s, m, args, below, meth, cod, H0, A, Q, g', nL'⟩ := k
  obtain ⟨⟨hx, hb, hml, hown, hts⟩, hK, hA, rfl, rfl, rfl, rfl, hH0⟩ := C
  intro H locs hP hD hS ls hl
  refine va_lald hx hb hK hP c 1 (hI.at _ ad u) rfl (vpN hj hn) hd ?_
  rw [nI_clamp (by omega)]; exact (kk H locs hP hD hS ls hl)
theorem r_iast (C : Cx l g R nL k cc Ts own) {c n j : Nat} {x : Int32} (hI : isI c n) (hj : j < n) (hn : n ≤ 1000) (hd : decode cc pc = .ok (.iastore, 1)) (kk : G k cells slots (WW g ad (sA u c (upd (mA u c) j x))) (pc + 1) lv st) : G k cells slots (WW g ad u) pc lv (.int x :: .int (nI j) :: .ref (ad c) :: st) := by
  obtain ⟨p, l', e, R', s, m, args, below, meth, cod, H0, A, Q, g', nL'⟩ := k
  obtain ⟨⟨hx, hb, hml, hown, hts⟩, hK, hA, rfl, rfl, rfl, rfl, hH0⟩ := C
  intro H locs hP hD hS ls hl
  refine va_iast hx hb hK hP hD hS c 0 (hI.at _ ad u) rfl (vpN hj hn) hd (fun H1 locs1 hP hD hS => ?_)
  rw [updN (by omega), set_A hI] at hP hD
  exact kk H1 locs1 hP hD hS ls hl
theorem r_zast (C : Cx l g R nL k cc Ts own) {c n j : Nat} {x : Int32} (hI : isZ c n) (hj : j < n) (hn : n ≤ 1000) (hx01 : vp_nar .boolean x = x) (hd : decode cc pc = .ok (.bastore, 1)) (kk : G k cells slots (WW g ad (sA u c (upd (mA u c) j x))) (pc + 1) lv st) : G k cells slots (WW g ad u) pc lv (.int x :: .int (nI j) :: .ref (ad c) :: st) := by
  obtain ⟨p, l', e, R', s, m, args, below, meth, cod, H0, A, Q, g', nL'⟩ := k
  obtain ⟨⟨hx, hb, hml, hown, hts⟩, hK, hA, rfl, rfl, rfl, rfl, hH0⟩ := C
  intro H locs hP hD hS ls hl
  refine va_zast hx hb hK hP hD hS c 2 (hI.at _ ad u) rfl (vpN hj hn) hd (fun H1 locs1 hP hD hS => ?_)
  rw [updN (by omega), hx01, set_Z hI] at hP hD
  exact kk H1 locs1 hP hD hS ls hl
theorem r_last (C : Cx l g R nL k cc Ts own) {c n j : Nat} {x : Int64} (hI : isJ c n) (hj : j < n) (hn : n ≤ 1000) (hd : decode cc pc = .ok (.lastore, 1)) (kk : G k cells slots (WW g ad (sJ u c (vp_updL (mJ u c) j x))) (pc + 1) lv st) : G k cells slots (WW g ad u) pc lv (.long x :: .int (nI j) :: .ref (ad c) :: st) := by
  obtain ⟨p, l', e, R', s, m, args, below, meth, cod, H0, A, Q, g', nL'⟩ := k
  obtain ⟨⟨hx, hb, hml, hown, hts⟩, hK, hA, rfl, rfl, rfl, rfl, hH0⟩ := C
  intro H locs hP hD hS ls hl
  refine va_last hx hb hK hP hD hS c 1 (hI.at _ ad u) rfl (vpN hj hn) hd (fun H1 locs1 hP hD hS => ?_)
  rw [updLN (by omega), set_J hI] at hP hD
  exact kk H1 locs1 hP hD hS ls hl
theorem r_get (C : Cx l g R nL k cc Ts own) {c ci j N index : Nat} {fs : (Nat → Nat) → Me → List Value} {CN ref : String} {T : u_T} {v : Value} (hO : isO c ci fs) (hc : vwCl[ci]? = some (CN, T, N)) (hin : ∀ w ∈ u_ws CN T N, w ∈ Ts) (hj : j < N) (hlink : Cond.fieldLink own index ref (T j).2.1 (T j).2.2.1 ∈ Ts) (href : ref = (T j).1) (hv : (fs ad u)[j]? = some v) (hd : decode cc pc = .ok (.getfield index, 3)) (kk : G k cells slots (WW g ad u) (pc + 3) lv (v :: st)) : G k cells slots (WW g ad u) pc lv (.ref (ad c) :: st) := by
  obtain ⟨p, l', e, R', s, m, args, below, meth, cod, H0, A, Q, g', nL'⟩ := k
  obtain ⟨⟨hx, hb, hml, hown, hts⟩, hK, hA, rfl, rfl, rfl, rfl, hH0⟩ := C
  intro H locs hP hD hS ls hl
  exact va_get (ref := ref) hx hb hts hin hown hK hP c (hO.at _ ad u) hc j hj (hts _ hlink) (fun _ h => by rw [href]; exact h) hv hd (kk H locs hP hD hS ls hl)
theorem r_putI (C : Cx l g R nL k cc Ts own) {c ci j N index kf : Nat} {fs : (Nat → Nat) → Me → List Value} {CN ref : String} {T : u_T} {x : Int32} (hF : fdI c ci fs j kf) (hc : vwCl[ci]? = some (CN, T, N)) (hin : ∀ w ∈ u_ws CN T N, w ∈ Ts) (ty0 : Nat → FieldType) (hty : ∀ k, k < N → parseFieldDescriptor (T k).2.2.1 = some (ty0 k)) (hnm : ∀ a, a < N → ∀ b, b < N → a ≠ b → (T a).2.1 ≠ (T b).2.1) (hj : j < N) (hlink : Cond.fieldLink own index ref (T j).2.1 (T j).2.2.1 ∈ Ts) (href : ref = (T j).1) (hfin : (T j).2.2.2 = false) (hpd : parseFieldDescriptor (T j).2.2.1 = some .int) (hd : decode cc pc = .ok (.putfield index, 3)) (kk : G k cells slots (WW g ad (sI u kf x)) (pc + 3) lv st) : G k cells slots (WW g ad u) pc lv (.int x :: .ref (ad c) :: st) := by
  obtain ⟨p, l', e, R', s, m, args, below, meth, cod, H0, A, Q, g', nL'⟩ := k
  obtain ⟨⟨hx, hb, hml, hown, hts⟩, hK, hA, rfl, rfl, rfl, rfl, hH0⟩ := C
  intro H locs hP hD hS ls hl
  have hlt : j < (fs ad u).length := (List.getElem?_eq_some_iff.mp (hF.2.1 ad u)).1
  refine va_put (ref := ref) (ty := .int) hx hb hts hin ty0 hty hnm hown hK hP hD hS c (hF.1.at _ ad u) hc j hj (hts _ hlink) (fun _ h => by rw [href]; exact h) hfin hpd rfl rfl hlt hd (fun H1 locs1 hP hD hS => ?_)
  rw [hF.2.2] at hP hD
  exact kk H1 locs1 hP hD hS ls hl
theorem r_putL (C : Cx l g R nL k cc Ts own) {c ci j N index kf : Nat} {fs : (Nat → Nat) → Me → List Value} {CN ref : String} {T : u_T} {x : Int64} (hF : fdL c ci fs j kf) (hc : vwCl[ci]? = some (CN, T, N)) (hin : ∀ w ∈ u_ws CN T N, w ∈ Ts) (ty0 : Nat → FieldType) (hty : ∀ k, k < N → parseFieldDescriptor (T k).2.2.1 = some (ty0 k)) (hnm : ∀ a, a < N → ∀ b, b < N → a ≠ b → (T a).2.1 ≠ (T b).2.1) (hj : j < N) (hlink : Cond.fieldLink own index ref (T j).2.1 (T j).2.2.1 ∈ Ts) (href : ref = (T j).1) (hfin : (T j).2.2.2 = false) (hpd : parseFieldDescriptor (T j).2.2.1 = some .long) (hd : decode cc pc = .ok (.putfield index, 3)) (kk : G k cells slots (WW g ad (sL u kf x)) (pc + 3) lv st) : G k cells slots (WW g ad u) pc lv (.long x :: .ref (ad c) :: st) := by
  obtain ⟨p, l', e, R', s, m, args, below, meth, cod, H0, A, Q, g', nL'⟩ := k
  obtain ⟨⟨hx, hb, hml, hown, hts⟩, hK, hA, rfl, rfl, rfl, rfl, hH0⟩ := C
  intro H locs hP hD hS ls hl
  have hlt : j < (fs ad u).length := (List.getElem?_eq_some_iff.mp (hF.2.1 ad u)).1
  refine va_put (ref := ref) (ty := .long) hx hb hts hin ty0 hty hnm hown hK hP hD hS c (hF.1.at _ ad u) hc j hj (hts _ hlink) (fun _ h => by rw [href]; exact h) hfin hpd rfl rfl hlt hd (fun H1 locs1 hP hD hS => ?_)
  rw [hF.2.2] at hP hD
  exact kk H1 locs1 hP hD hS ls hl

/-- A CONTRACT over the whole world: from memory u with the arguments av, y ends with a value and a memory as P says -/
def Ct (l : Launch) (y : MethodName) (ws : List Cond) (rm : Room) (g : gE) (ad : Nat → Nat) (av : List Value) (u : Me) (P : Option Value → Me → Prop) : Prop :=
  ∀ sz : Nat, Met l y ws rm (va_Pc av (fun U => U.heap.size = sz ∧ va_P (gD g) vwCl (WW g ad u) U.heap ∧ va_K (gD g) vwCl (gtys g) U ∧ va_D (fun _ => True) (WW g ad u)))
    (fun _ st oc t => (∃ (v : Option Value) (u' : Me), oc = .returned v ∧ P v u' ∧ va_P (gD g) vwCl (WW g ad u') t.heap ∧ va_K (gD g) vwCl (gtys g) t ∧ va_D (va_A (WW g ad u) sz) (WW g ad u')) ∧ va_F (va_A (WW g ad u) sz) st t) 0 0 (va_A (WW g ad u) sz)
abbrev Cti (l : Launch) (y : MethodName) (ws : List Cond) (rm : Room) (g : gE) (ad : Nat → Nat) (av : List Value) (u : Me) (P : Int32 → Me → Prop) : Prop := Ct l y ws rm g ad av u (fun v u' => ∃ r : Int32, v = some (.int r) ∧ P r u')
abbrev Ctl (l : Launch) (y : MethodName) (ws : List Cond) (rm : Room) (g : gE) (ad : Nat → Nat) (av : List Value) (u : Me) (P : Int64 → Me → Prop) : Prop := Ct l y ws rm g ad av u (fun v u' => ∃ r : Int64, v = some (.long r) ∧ P r u')
abbrev Ctv (l : Launch) (y : MethodName) (ws : List Cond) (rm : Room) (g : gE) (ad : Nat → Nat) (av : List Value) (u : Me) (P : Me → Prop) : Prop := Ct l y ws rm g ad av u (fun v u' => v = none ∧ P u')
/-- the ends of a walk -/
def Ex (k : KX) (cc : ByteArray) (ret : Option FieldType) (g : gE) (ad : Nat → Nat) (P : Option Value → Me → Prop) : Prop :=
  (ret = none → ∀ (pc : Nat) (lv : List (Nat × Value)) (u : Me), decode cc pc = .ok (.return_, 1) → P none u → G k 0 0 (WW g ad u) pc lv []) ∧
  (ret = some .int → ∀ (pc : Nat) (lv : List (Nat × Value)) (u : Me) (r : Int32), decode cc pc = .ok (.ireturn, 1) → P (some (.int r)) u → G k 0 0 (WW g ad u) pc lv [.int r]) ∧
  (ret = some .boolean → ∀ (pc : Nat) (lv : List (Nat × Value)) (u : Me) (r : Int32), decode cc pc = .ok (.ireturn, 1) → (r = 0 ∨ r = 1) → P (some (.int r)) u → G k 0 0 (WW g ad u) pc lv [.int r]) ∧
  (ret = some .long → ∀ (pc : Nat) (lv : List (Nat × Value)) (u : Me) (r : Int64), decode cc pc = .ok (.lreturn, 1) → P (some (.long r)) u → G k 0 0 (WW g ad u) pc lv [.long r])
theorem Ct.of {y : MethodName} {ws ws' : List Cond} {rm : Room} {av : List Value} {P : Option Value → Me → Prop} {ret : Option FieldType} (own : String) (hy : plainName y.cls = true) (hcls : y.cls = own) (hw : ws = Cond.code y cc nL ret :: ws') (hlen : (lg_sl av).length ≤ nL)
    (hk : ∀ k : KX, Cx l g rm nL k cc ws own → Ex k cc ret g ad P → G k 0 0 (WW g ad u) 0 (lv_args 0 av) []) : Ct l y ws rm g ad av u P := by
  intro sz
  refine Met.ofW (cc := cc) (maxL := nL) (ret := ret) hy hw ?_
  intro p e s m args below meth c s₁ B hml hv
  obtain ⟨rfl, hsz, hP, hK, hD0⟩ := hv
  have hx := B.exec
  have hb := B.bytes
  have hr := B.returns
  have hts := atoms_spec (ws := ws) B.pre
  have hown : s.vm.findClass own = some m.cls := by rw [← hcls]; exact findClass_of_methodNamed B.named
  have hlocks := B.notSynchronized
  subst hsz
  have hD := hD0.self (sz := s.heap.size)
  have hS : va_S (va_A (WW g ad u) s.heap.size) s.heap s.heap [] := va_S.rf
  have hl := lv_entry av (n := nL) hlen
  rw [lg_entry_eq]
  refine hk (p, l, e, rm, s, m, av.toArray, below, meth, c, s.heap, va_A (WW g ad u) s.heap.size, _, g, nL) ⟨⟨hx, hb, hml, hown, hts⟩, hK, fun q h => Or.inr h, rfl, rfl, rfl, rfl, rfl⟩ ⟨?_, ?_, ?_, ?_⟩ s.heap [] hP hD hS _ hl
  · intro h0 pc lv u' hd hp H locs hP hD hS ls hl
    exact W.vret hx hb (hr.trans h0) (fun t ht hW => ⟨⟨none, u', rfl, hp, by rw [ht]; exact hP, va_K.moved hW.alike hK, hD⟩, hS.F ht⟩) hS.2.2 hd
  · intro h0 pc lv u' r hd hp H locs hP hD hS ls hl
    exact W.iret hx hb (hr.trans h0) (fun t ht hW => ⟨⟨_, u', rfl, hp, by rw [ht]; exact hP, va_K.moved hW.alike hK, hD⟩, hS.F ht⟩) hS.2.2 hd
  · intro h0 pc lv u' r hd h01 hp H locs hP hD hS ls hl
    exact W.zret (ty := .boolean) hx hb (hr.trans h0) (by rcases h01 with rfl | rfl <;> rfl) (fun t ht hW => ⟨⟨_, u', rfl, hp, by rw [ht]; exact hP, va_K.moved hW.alike hK, hD⟩, hS.F ht⟩) hS.2.2 hd
  · intro h0 pc lv u' r hd hp H locs hP hD hS ls hl
    exact W.lret hx hb (hr.trans h0) (fun t ht hW => ⟨⟨_, u', rfl, hp, by rw [ht]; exact hP, va_K.moved hW.alike hK, hD⟩, hS.F ht⟩) hS.2.2 hd
theorem Ct.mono {y : MethodName} {ws : List Cond} {rm : Room} {av : List Value} {P P' : Option Value → Me → Prop} (h : Ct l y ws rm g ad av u P) (hp : ∀ v u', P v u' → P' v u') : Ct l y ws rm g ad av u P' := by
  intro sz p e ha hc hk s m args below hf happ hP hT
  obtain ⟨n, o, h1, h2, h3, h4⟩ := h sz p e ha hc hk s m args below hf happ hP hT
  refine ⟨n, o, h1, h2, h3, ?_⟩
  obtain ⟨⟨⟨v, u', q1, q2, q3⟩, q4⟩, q5⟩ := h4
  exact ⟨⟨⟨v, u', q1, hp v u' q2, q3⟩, q4⟩, q5⟩
/-- what a call of y needs to know of y, once -/
abbrev Pk (y : MethodName) (C : String) (n : Nat) : Prop := y.cls = C ∧ y.cls ≠ "java/lang/invoke/MethodHandle" ∧ y.cls ≠ "java/lang/invoke/VarHandle" ∧ (parseMethodDescriptor y.desc).map (fun d => d.parameters.length) = some n
theorem r_any {free : Addr → Prop} {p : Program} {e : Env} {s : State} {m : MethodId} {args : Array Value} {below : List Frame} {meth : Method} {c : Code} {H0 H : Heap} {A0 A1 : Nat → Prop} {locs : List Loc} {ls : Array Slot} {st0 rest : List Value} {Q : State → Prop} {P : Option Value → Me → Prop} {mk : Option Value → Me → va_W}
    (hr : va_Run p l e R s m args below meth c H locs cells slots 0 0 (F0 m pc ls st0) rest (fun st oc t => (∃ (v : Option Value) (u' : Me), oc = .returned v ∧ P v u' ∧ va_P (gD g) vwCl (mk v u') t.heap ∧ va_K (gD g) vwCl (gtys g) t ∧ va_D A1 (mk v u')) ∧ va_F A1 st t) free)
    (hS : va_S A0 H0 H locs) (hA : ∀ q, q < H.size → A1 q → A0 q) (hf : ∀ q, free q → A0 q)
    (kk : ∀ (v : Option Value) (u' : Me) (t : State) (H1 : Heap) (locs1 : List Loc), t.heap = H1 → s.vm.Alike t.vm → P v u' → va_P (gD g) vwCl (mk v u') H1 → va_D A1 (mk v u') → H.size ≤ H1.size → (∀ q : Nat, q < H.size → ¬ A1 q → H1[q]? = H[q]?) → va_S A0 H0 H1 locs1 → W p l e R s m args below meth c H1 locs1 cells slots Q (F0 m (pc + 3) ls (v.toList ++ rest))) : W p l e R s m args below meth c H locs cells slots Q (F0 m pc ls st0) := by
  intro T hT X
  obtain ⟨v, st₀, t, T', L, h0, X', hL, e1, e2, ⟨⟨v', u', hv, hp, hPt, hKt, hDt⟩, hz, hk⟩, st⟩ := hr T hT X
  cases hv
  rw [h0] at hz hk
  obtain ⟨t2, a1, b1⟩ := kk v u' t T'.heap (locs ++ L) e1.symm (by rw [← e2]; exact X'.warmed.alike) hp (by rw [e1]; exact hPt) hDt (by rw [e1]; exact hz) (fun q h1 h2 => by rw [e1]; exact hk q h1 h2)
    ⟨Nat.le_trans hS.1 (by rw [e1]; exact hz), fun q h1 h2 => by rw [e1, hk q (Nat.lt_of_lt_of_le h1 hS.1) (fun z => h2 (hA q (Nat.lt_of_lt_of_le h1 hS.1) z))]; exact hS.2.1 q h1 h2, fun q hq => by
      rcases List.mem_append.mp hq with h | h
      · exact hS.2.2 q h
      · exact hf _ (hL q h)⟩ T' rfl X'
  exact ⟨t2, st t2 a1, b1⟩
theorem va_freeAll {A0 : Nat → Prop} {ws : va_W} {H0 H : Heap} {locs : List Loc} (hD : va_D A0 ws) (hS : va_S A0 H0 H locs) (hA : ∀ q, H0.size ≤ q → A0 q) : ∀ q, va_A ws H.size q → A0 q := by
  intro q h
  rcases h with ⟨k, e, h⟩ | h
  · exact hD.2 k (q, e) h
  · exact hA q (Nat.le_trans hS.1 h)
theorem va_D.tr {A A0 : Nat → Prop} {ws : va_W} (h : va_D A ws) (hF : ∀ q, A q → A0 q) : va_D A0 ws := ⟨h.1, fun k q hk => hF _ (h.2 k q hk)⟩

theorem r_callV (C : Cx l g R nL k cc Ts own) {y : MethodName} {bytes : ByteArray} {maxL index n : Nat} {ret : Option FieldType} {wsy ws' : List Cond} {rm : Room} {As rest : List Value} {P : Option Value → Me → Prop} {CN : String} {c ci N : Nat} {fs : (Nat → Nat) → Me → List Value} {T : u_T} (hc : Ct l y wsy rm g ad (.ref (ad c) :: As) u P)
    (hT : GoodIn Ts (wsV own index CN y wsy)) (hpk : Pk y CN n) (hO : isO c ci fs) (hd : decode cc pc = .ok (.invokevirtual index, 3)) (hn : As.length = n)
    (hw : wsy = Cond.code y bytes maxL ret :: ws') (hrc : rm.cells = 0) (hrs : rm.slots = 0) (hR : rm.frames + 1 ≤ R.frames ∧ 8 + (maxL + 11) + rm.locals ≤ R.locals)
    (hcl : vwCl[ci]? = some (CN, T, N)) (hst : st = As.reverse ++ .ref (ad c) :: rest) (hcat : (rest.map fun v => v.category).sum ≤ 8)
    (kk : ∀ (v : Option Value) (u' : Me), P v u' → G k cells slots (WW g ad u') (pc + 3) lv (v.toList ++ rest)) (hroom : cells + 0 ≤ R.cells ∧ slots + 0 ≤ R.slots) : G k cells slots (WW g ad u) pc lv st := by
  obtain ⟨p, l', e, R', s, m, args, below, meth, cod, H0, A, Q, g', nL'⟩ := k
  obtain ⟨⟨hx, hb, hml, hown, hts⟩, hK, hA, rfl, rfl, rfl, rfl, hH0⟩ := C
  intro H locs hP hD hS ls hl
  have hF := va_freeAll hD hS hA
  refine r_any (mk := fun _ u' => WW g' ad u') (va_runV (As := As) (rest := rest) ⟨hx, hb, hml, hown, hts⟩ (hc H.size) (cwV n hts hT hw hrc hrs hpk hR) ⟨fun a U gg mk q => by obtain ⟨q0, q1, qP, qK, qD⟩ := q; exact ⟨q0, q1, qP, va_K.moved (u := U) (U := U.calling gg mk a) (Vm.Alike.refl U.vm) qK, qD⟩, va_recv hK hP (ci := ci) (q0 := c) hcl (hO.at _ ad u), fun U hU hW => ⟨rfl, by rw [hU], by rw [hU]; exact hP, va_K.moved hW.alike hK, hD.weaken (fun _ _ _ _ => trivial)⟩⟩ rfl hn hl.1 hst (lv_room hcat) hd hroom) hS (fun q _ h => hF q h) hF ?_
  intro v u' t H1 locs1 _ _ hp hP1 hD1 _ _ hS1
  exact kk v u' hp H1 locs1 hP1 (hD1.tr hF) hS1 ls hl
theorem r_callS (C : Cx l g R nL k cc Ts own) {y : MethodName} {bytes : ByteArray} {maxL index n : Nat} {ret : Option FieldType} {wsy ws' : List Cond} {rm : Room} {As rest : List Value} {P : Option Value → Me → Prop} {CN : String} (hc : Ct l y wsy rm g ad As u P)
    (hT : GoodIn Ts (va_wsS own index y wsy)) (hpk : Pk y CN n) (hd : decode cc pc = .ok (.invokestatic index, 3)) (hn : As.length = n)
    (hw : wsy = Cond.code y bytes maxL ret :: ws') (hrc : rm.cells = 0) (hrs : rm.slots = 0) (hR : rm.frames + 1 ≤ R.frames ∧ 8 + (maxL + 11) + rm.locals ≤ R.locals)
    (hst : st = As.reverse ++ rest) (hcat : (rest.map fun v => v.category).sum ≤ 8)
    (kk : ∀ (v : Option Value) (u' : Me), P v u' → G k cells slots (WW g ad u') (pc + 3) lv (v.toList ++ rest)) (hroom : cells + 0 ≤ R.cells ∧ slots + 0 ≤ R.slots) : G k cells slots (WW g ad u) pc lv st := by
  obtain ⟨p, l', e, R', s, m, args, below, meth, cod, H0, A, Q, g', nL'⟩ := k
  obtain ⟨⟨hx, hb, hml, hown, hts⟩, hK, hA, rfl, rfl, rfl, rfl, hH0⟩ := C
  intro H locs hP hD hS ls hl
  have hF := va_freeAll hD hS hA
  refine r_any (mk := fun _ u' => WW g' ad u') (va_runS (As := As) (rest := rest) ⟨hx, hb, hml, hown, hts⟩ (hc H.size) (va_cwS n hts hT hw hrc hrs hpk.2 hR) ⟨fun a U gg mk q => by obtain ⟨q0, q1, qP, qK, qD⟩ := q; exact ⟨q0, q1, qP, va_K.moved (u := U) (U := U.calling gg mk a) (Vm.Alike.refl U.vm) qK, qD⟩, fun U hU hW => ⟨rfl, by rw [hU], by rw [hU]; exact hP, va_K.moved hW.alike hK, hD.weaken (fun _ _ _ _ => trivial)⟩⟩ rfl hn hl.1 hst (lv_room hcat) hd hroom) hS (fun q _ h => hF q h) hF ?_
  intro v u' t H1 locs1 _ _ hp hP1 hD1 _ _ hS1
  exact kk v u' hp H1 locs1 hP1 (hD1.tr hF) hS1 ls hl
end RM
