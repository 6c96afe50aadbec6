/-! MAKING OBJECTS: worlds that grow; a contract of a constructor; rows over any world -/
def NW (L : List (String × Nat × MethodName × String)) (U : State) : Prop := ∀ q ∈ L, va_Nw (.methodLinkNest q.1 q.2.1 q.2.2.1 q.2.2.2) U
theorem NW.same {L : List (String × Nat × MethodName × String)} {u U : State} (h : u.vm = U.vm) (hZ : NW L u) : NW L U := fun q hq => va_Nw.same rfl h (hZ q hq)
theorem NW.warm {L : List (String × Nat × MethodName × String)} {s U : State} (hW : s.WarmedH U.vm) (hZ : NW L s) : NW L U := fun q hq => va_Nw.warmM hW (hZ q hq)
theorem NW.sub {L L' : List (String × Nat × MethodName × String)} {U : State} (h : ∀ q ∈ L', q ∈ L) (hZ : NW L U) : NW L' U := fun q hq => hZ q (h q hq)
/-- what a walk in a constructor knows beside Cx: the method's name, the nest's words -/
def Nx (nm : String) (L : List (String × Nat × MethodName × String)) (k : KX) : Prop :=
  match k with
  | (_, _, _, _, s, _, _, _, meth, _, _, _, _, _, _) => meth.name = nm ∧ NW L s
/-- A CONTRACT OF A CONSTRUCTOR (or of a method on few cells): from its own cells w0 it comes to cells w1 as P says; mc cells, ms slots are new -/
def Cc (l : Launch) (y : MethodName) (ws : List Cond) (rm : Room) (g : gE) (av : List Value) (w0 : va_W) (L : List (String × Nat × MethodName × String)) (P : va_W → Prop) (mc ms : Nat) : Prop :=
  ∀ sz : Nat, Met l y ws rm (va_Pc av (fun U => U.heap.size = sz ∧ va_P (gD g) vwCl w0 U.heap ∧ va_K (gD g) vwCl (gtys g) U ∧ va_D (fun _ => True) w0 ∧ NW L U))
    (fun _ st oc t => (∃ (v : Option Value) (w1 : va_W), oc = .returned v ∧ (v = none ∧ P w1) ∧ va_P (gD g) vwCl w1 t.heap ∧ va_K (gD g) vwCl (gtys g) t ∧ va_D (va_A w0 sz) w1) ∧ va_F (va_A w0 sz) st t) mc ms (va_A w0 sz)
section CW
variable {l : Launch} {g : gE} {R : Room} {nL : Nat} {k : KX} {cc : ByteArray} {Ts : List Cond} {own : String} {cells slots : Nat} {ws : va_W} {pc : Nat} {lv : List (Nat × Value)} {st : List Value} {L : List (String × Nat × MethodName × String)}
theorem Cc.of {y : MethodName} {wsy ws' : List Cond} {rm : Room} {av : List Value} {w0 : va_W} {P : va_W → Prop} {mc ms : Nat} (own : String) (hy : plainName y.cls = true) (hcls : y.cls = own) (hw : wsy = Cond.code y cc nL none :: ws') (hlen : (lg_sl av).length ≤ nL)
    (hk : ∀ k : KX, Cx l g rm nL k cc wsy own → Nx y.name L k → (∀ (pc : Nat) (lv : List (Nat × Value)) (w1 : va_W), decode cc pc = .ok (.return_, 1) → P w1 → G k mc ms w1 pc lv []) → G k 0 0 w0 0 (lv_args 0 av) []) : Cc l y wsy rm g av w0 L P mc ms := by
  intro sz
  refine Met.ofW (cc := cc) (maxL := nL) (ret := none) hy hw ?_
  intro p e s m args below meth c s₁ B hml hv
  obtain ⟨rfl, hsz, hP, hK, hD0, hN⟩ := hv
  have hx := B.exec
  have hb := B.bytes
  have hr := B.returns
  have hts := atoms_spec (ws := wsy) B.pre
  have hown : s.vm.findClass own = some m.cls := by rw [← hcls]; exact findClass_of_methodNamed B.named
  have hlocks := B.notSynchronized
  have hin : meth.name = y.name := (name_of_methodNamed B.named B.method).1
  subst hsz
  have hD := hD0.self (sz := s.heap.size)
  have hS : va_S (va_A w0 s.heap.size) s.heap s.heap [] := va_S.rf
  have hl := lv_entry av (n := nL) hlen
  rw [lg_entry_eq]
  refine hk (p, l, e, rm, s, m, av.toArray, below, meth, c, s.heap, va_A w0 s.heap.size, _, g, nL) ⟨⟨hx, hb, hml, hown, hts⟩, hK, fun q h => Or.inr h, rfl, rfl, rfl, rfl, rfl⟩ ⟨hin, hN⟩ ?_ s.heap [] hP hD hS _ hl
  intro pc lv w1 hd hp H locs hP hD hS ls hl
  exact W.vret hx hb hr (fun t ht hW => ⟨⟨none, w1, rfl, ⟨rfl, hp⟩, by rw [ht]; exact hP, va_K.moved hW.alike hK, hD⟩, hS.F ht⟩) hS.2.2 hd
theorem rc_ws {ws' : va_W} (h : ws = ws') (kk : G k cells slots ws' pc lv st) : G k cells slots ws pc lv st := by subst h; exact kk
theorem rc_perm {ws' : va_W} (is : List Nat) (h1 : is.filterMap (fun i => ws[i]?) = ws') (hn : va_nd is = true) (h2 : is.map (fun i => ws[i]?) = ws'.map some) (kk : G k cells slots ws' pc lv st) : G k cells slots ws pc lv st := by
  obtain ⟨p, l', e, R', s, m, args, below, meth, cod, H0, A, Q, g', nL'⟩ := k
  intro H locs hP hD hS ls hl
  exact kk H locs (hP.sub is h1) (hD.sub is hn h2) hS ls hl
theorem rc_objInit (C : Cx l g R nL k cc Ts own) {idx a : Nat} (hlink : Cond.methodLink own idx objectInit ∈ Ts) (hinst : Cond.instanceMethod objectInit ∈ Ts) (hcode : Cond.code objectInit ⟨#[0xb1]⟩ 1 none ∈ Ts) (hd : decode cc pc = .ok (.invokespecial idx, 3)) (hf : 1 ≤ R.frames) (hlo : 12 ≤ R.locals) (kk : G k cells slots ws (pc + 3) lv []) : G k cells slots ws pc lv [.ref a] := by
  obtain ⟨p, l', e, R', s, m, args, below, meth, cod, H0, A, Q, g', nL'⟩ := k
  obtain ⟨⟨hx, hb, hml, hown, hts⟩, hK, hA, rfl, rfl, rfl, rfl, hH0⟩ := C
  intro H locs hP hD hS ls hl
  refine W.objInit hx hb hown (hts _ hlink) (hts _ hinst) (hts _ hcode) rfl (by rw [hml]; exact hl.1) rfl hd hf ?_ ?_
  · show 2 * 0 + 0 + 12 ≤ _
    omega
  · exact kk H locs hP hD hS ls hl
theorem rc_new (C : Cx l g R nL k cc Ts own) {index : Nat} {CN : String} {T : u_T} {N ci : Nat} (ty : Nat → FieldType) (hty : ∀ k, k < N → parseFieldDescriptor (T k).2.2.1 = some (ty k)) (hin : ∀ w ∈ u_ws CN T N, w ∈ Ts) (hcl : Cond.classLink own index CN ∈ Ts) (hinst : Cond.instantiable CN N ∈ Ts) (hini : Cond.initialized CN ∈ Ts) (hc : vwCl[ci]? = some (CN, T, N)) {fs : List Value} (hfs : ∀ j, j < N → defaultValue (ty j) = vp_V fs j) (hcells : cells + 1 ≤ R.cells) (hslots : slots + N ≤ R.slots) (hd : decode cc pc = .ok (.new index, 3))
    (kk : ∀ q : Nat, G k (cells + 1) (slots + N) (ws ++ [(q, .inr (ci, fs))]) (pc + 3) lv (.ref q :: st)) : G k cells slots ws pc lv st := by
  obtain ⟨p, l', e, R', s, m, args, below, meth, cod, H0, A, Q, g', nL'⟩ := k
  obtain ⟨⟨hx, hb, hml, hown, hts⟩, hK, hA, rfl, rfl, rfl, rfl, hH0⟩ := C
  intro H locs hP hD hS ls hl
  exact va_new hx hb hts hin ty hty hown (hts _ hcl) (hts _ hinst) (hts _ hini) hK hP hD hS hA hc hfs hcells hslots hd (fun q H1 hP hD hS => kk q H1 _ hP hD hS ls hl)
theorem rc_newI (C : Cx l g R nL k cc Ts own) {N : Nat} (harr : Cond.arrayClass .int ∈ Ts) (hN : N < 1000) (hcells : cells + 1 ≤ R.cells) (hslots : slots + N ≤ R.slots) (hd : decode cc pc = .ok (.newarray .int, 2))
    (kk : ∀ q : Nat, G k (cells + 1) (slots + N) (ws ++ [(q, .inl (g.2.2.1, N, .inl (fun _ => 0)))]) (pc + 2) lv (.ref q :: st)) : G k cells slots ws pc lv (.int (nI N) :: st) := by
  obtain ⟨p, l', e, R', s, m, args, below, meth, cod, H0, A, Q, g', nL'⟩ := k
  obtain ⟨⟨hx, hb, hml, hown, hts⟩, hK, hA, rfl, rfl, rfl, rfl, hH0⟩ := C
  intro H locs hP hD hS ls hl
  refine va_newa (atype := .int) (ty := .int) hx hb (hts _ harr) rfl hK hP hD hS hA (N' := N) (a0 := (N, .inl (fun _ => 0))) (fun cA => rfl) (nI_pos (by omega)) (nI_clamp (by omega)) ?_ hcells hslots hd (fun q cA H1 hK1 hP hD hS => ?_)
  · show N * 4 ≤ 536870912
    omega
  · have h1 : s.vm.findClass ("[" ++ FieldType.int.toString) = some cA := (hK1.2 3 (cA, .int) rfl).2
    have h2 : s.vm.findClass ("[" ++ FieldType.int.toString) = some g'.2.2.1 := (hK.2 0 (g'.2.2.1, .int) rfl).2
    have e1 : cA = g'.2.2.1 := Option.some.inj (h1.symm.trans h2)
    rw [e1] at hP hD
    exact kk q H1 _ hP hD hS ls hl
theorem rc_newJ (C : Cx l g R nL k cc Ts own) {N : Nat} (harr : Cond.arrayClass .long ∈ Ts) (hN : N < 1000) (hcells : cells + 1 ≤ R.cells) (hslots : slots + N ≤ R.slots) (hd : decode cc pc = .ok (.newarray .long, 2))
    (kk : ∀ q : Nat, G k (cells + 1) (slots + N) (ws ++ [(q, .inl (g.2.2.2.1, N, .inr (.inl (fun _ => 0))))]) (pc + 2) lv (.ref q :: st)) : G k cells slots ws pc lv (.int (nI N) :: st) := by
  obtain ⟨p, l', e, R', s, m, args, below, meth, cod, H0, A, Q, g', nL'⟩ := k
  obtain ⟨⟨hx, hb, hml, hown, hts⟩, hK, hA, rfl, rfl, rfl, rfl, hH0⟩ := C
  intro H locs hP hD hS ls hl
  refine va_newa (atype := .long) (ty := .long) hx hb (hts _ harr) rfl hK hP hD hS hA (N' := N) (a0 := (N, .inr (.inl (fun _ => 0)))) (fun cA => rfl) (nI_pos (by omega)) (nI_clamp (by omega)) ?_ hcells hslots hd (fun q cA H1 hK1 hP hD hS => ?_)
  · show N * 8 ≤ 536870912
    omega
  · have h1 : s.vm.findClass ("[" ++ FieldType.long.toString) = some cA := (hK1.2 3 (cA, .long) rfl).2
    have h2 : s.vm.findClass ("[" ++ FieldType.long.toString) = some g'.2.2.2.1 := (hK.2 1 (g'.2.2.2.1, .long) rfl).2
    have e1 : cA = g'.2.2.2.1 := Option.some.inj (h1.symm.trans h2)
    rw [e1] at hP hD
    exact kk q H1 _ hP hD hS ls hl
theorem rc_newZ (C : Cx l g R nL k cc Ts own) {N : Nat} (harr : Cond.arrayClass .boolean ∈ Ts) (hN : N < 1000) (hcells : cells + 1 ≤ R.cells) (hslots : slots + N ≤ R.slots) (hd : decode cc pc = .ok (.newarray .boolean, 2))
    (kk : ∀ q : Nat, G k (cells + 1) (slots + N) (ws ++ [(q, .inl (g.2.2.2.2, N, .inl (fun _ => 0)))]) (pc + 2) lv (.ref q :: st)) : G k cells slots ws pc lv (.int (nI N) :: st) := by
  obtain ⟨p, l', e, R', s, m, args, below, meth, cod, H0, A, Q, g', nL'⟩ := k
  obtain ⟨⟨hx, hb, hml, hown, hts⟩, hK, hA, rfl, rfl, rfl, rfl, hH0⟩ := C
  intro H locs hP hD hS ls hl
  refine va_newa (atype := .boolean) (ty := .boolean) hx hb (hts _ harr) rfl hK hP hD hS hA (N' := N) (a0 := (N, .inl (fun _ => 0))) (fun cA => rfl) (nI_pos (by omega)) (nI_clamp (by omega)) ?_ hcells hslots hd (fun q cA H1 hK1 hP hD hS => ?_)
  · show N * 1 ≤ 536870912
    omega
  · have h1 : s.vm.findClass ("[" ++ FieldType.boolean.toString) = some cA := (hK1.2 3 (cA, .boolean) rfl).2
    have h2 : s.vm.findClass ("[" ++ FieldType.boolean.toString) = some g'.2.2.2.2 := (hK.2 2 (g'.2.2.2.2, .boolean) rfl).2
    have e1 : cA = g'.2.2.2.2 := Option.some.inj (h1.symm.trans h2)
    rw [e1] at hP hD
    exact kk q H1 _ hP hD hS ls hl
theorem rc_get (C : Cx l g R nL k cc Ts own) (q0 : Nat) {a ci N index : Nat} {CN : String} {T : u_T} {fs : List Value} {v : Value} (he : ws[q0]? = some (a, .inr (ci, fs))) (hc : vwCl[ci]? = some (CN, T, N)) (hin : ∀ w ∈ u_ws CN T N, w ∈ Ts) {j : Nat} (hj : j < N) (hlink : Cond.fieldLink own index (T j).1 (T j).2.1 (T j).2.2.1 ∈ Ts) (hv : fs[j]? = some v) (hd : decode cc pc = .ok (.getfield index, 3)) (kk : G k cells slots ws (pc + 3) lv (v :: st)) : G k cells slots ws pc lv (.ref a :: st) := by
  obtain ⟨p, l', e, R', s, m, args, below, meth, cod, H0, A, Q, g', nL'⟩ := k
  obtain ⟨⟨hx, hb, hml, hown, hts⟩, hK, hA, rfl, rfl, rfl, rfl, hH0⟩ := C
  intro H locs hP hD hS ls hl
  exact va_get hx hb hts hin hown hK hP q0 he hc j hj (hts _ hlink) (fun _ h => h) hv hd (kk H locs hP hD hS ls hl)
theorem rc_put (C : Cx l g R nL k cc Ts own) (q0 : Nat) {a ci N index : Nat} {CN : String} {T : u_T} {fs : List Value} {v : Value} {ty : FieldType} (he : ws[q0]? = some (a, .inr (ci, fs))) (hc : vwCl[ci]? = some (CN, T, N)) (hin : ∀ w ∈ u_ws CN T N, w ∈ Ts) (ty0 : Nat → FieldType) (hty : ∀ k, k < N → parseFieldDescriptor (T k).2.2.1 = some (ty0 k)) (hnm : ∀ a, a < N → ∀ b, b < N → a ≠ b → (T a).2.1 ≠ (T b).2.1) {j : Nat} (hj : j < N) (hlink : Cond.fieldLink own index (T j).1 (T j).2.1 (T j).2.2.1 ∈ Ts) (hfin : (T j).2.2.2 = false) (hpd : parseFieldDescriptor (T j).2.2.1 = some ty) (hn : narrow ty v = v) (hfit : fits ty v = true) (hl0 : j < fs.length) (hd : decode cc pc = .ok (.putfield index, 3)) (kk : G k cells slots (ws.set q0 (a, .inr (ci, fs.set j v))) (pc + 3) lv st) : G k cells slots ws pc lv (v :: .ref a :: st) := by
  obtain ⟨p, l', e, R', s, m, args, below, meth, cod, H0, A, Q, g', nL'⟩ := k
  obtain ⟨⟨hx, hb, hml, hown, hts⟩, hK, hA, rfl, rfl, rfl, rfl, hH0⟩ := C
  intro H locs hP hD hS ls hl
  exact va_put hx hb hts hin ty0 hty hnm hown hK hP hD hS q0 he hc j hj (hts _ hlink) (fun _ h => h) hfin hpd hn hfit hl0 hd (fun H1 locs1 hP hD hS => kk H1 locs1 hP hD hS ls hl)
theorem rc_putF (C : Cx l g R nL k cc Ts own) (hN : Nx "<init>" L k) (q0 : Nat) {a ci N index : Nat} {CN : String} {T : u_T} {fs : List Value} {v : Value} {ty : FieldType} (he : ws[q0]? = some (a, .inr (ci, fs))) (hc : vwCl[ci]? = some (CN, T, N)) (hin : ∀ w ∈ u_ws CN T N, w ∈ Ts) (ty0 : Nat → FieldType) (hty : ∀ k, k < N → parseFieldDescriptor (T k).2.2.1 = some (ty0 k)) (hnm : ∀ a, a < N → ∀ b, b < N → a ≠ b → (T a).2.1 ≠ (T b).2.1) {j : Nat} (hj : j < N) (hlink : Cond.fieldLink own index (T j).1 (T j).2.1 (T j).2.2.1 ∈ Ts) (hfin : (T j).2.2.2 = true) (hdecl : (T j).1 = own) (hpd : parseFieldDescriptor (T j).2.2.1 = some ty) (hn : narrow ty v = v) (hfit : fits ty v = true) (hl0 : j < fs.length) (hd : decode cc pc = .ok (.putfield index, 3)) (kk : G k cells slots (ws.set q0 (a, .inr (ci, fs.set j v))) (pc + 3) lv st) : G k cells slots ws pc lv (v :: .ref a :: st) := by
  obtain ⟨p, l', e, R', s, m, args, below, meth, cod, H0, A, Q, g', nL'⟩ := k
  obtain ⟨⟨hx, hb, hml, hown, hts⟩, hK, hA, rfl, rfl, rfl, rfl, hH0⟩ := C
  intro H locs hP hD hS ls hl
  exact va_putF hx hb hts hin ty0 hty hnm hown hK hP hD hS q0 he hc j hj (hts _ hlink) (fun _ h => h) hfin hN.1 hdecl hpd hn hfit hl0 hd (fun H1 locs1 hP hD hS => kk H1 locs1 hP hD hS ls hl)
theorem rc_alen (C : Cx l g R nL k cc Ts own) (q0 : Nat) {a n : Nat} {f : Nat → Int32} (he : ws[q0]? = some (a, .inl (g.2.2.1, n, .inl f))) (hd : decode cc pc = .ok (.arraylength, 1)) (kk : G k cells slots ws (pc + 1) lv (.int (nI n) :: st)) : G k cells slots ws pc lv (.ref a :: st) := by
  obtain ⟨p, l', e, R', s, m, args, below, meth, cod, H0, A, Q, g', nL'⟩ := k
  obtain ⟨⟨hx, hb, hml, hown, hts⟩, hK, hA, rfl, rfl, rfl, rfl, hH0⟩ := C
  intro H locs hP hD hS ls hl
  exact va_alen hx hb hK hP q0 0 he rfl rfl hd (kk H locs hP hD hS ls hl)
theorem rc_iast (C : Cx l g R nL k cc Ts own) (q0 : Nat) {a n j : Nat} {x : Int32} {f : Nat → Int32} (he : ws[q0]? = some (a, .inl (g.2.2.1, n, .inl f))) (hj : j < n) (hn : n ≤ 1000) (hd : decode cc pc = .ok (.iastore, 1)) (kk : G k cells slots (ws.set q0 (a, .inl (g.2.2.1, n, .inl (upd f j x)))) (pc + 1) lv st) : G k cells slots ws pc lv (.int x :: .int (nI j) :: .ref a :: st) := by
  obtain ⟨p, l', e, R', s, m, args, below, meth, cod, H0, A, Q, g', nL'⟩ := k
  obtain ⟨⟨hx, hb, hml, hown, hts⟩, hK, hA, rfl, rfl, rfl, rfl, hH0⟩ := C
  intro H locs hP hD hS ls hl
  refine va_iast hx hb hK hP hD hS q0 0 he rfl (vpN hj hn) hd (fun H1 locs1 hP hD hS => ?_)
  rw [updN (by omega)] at hP hD
  exact kk H1 locs1 hP hD hS ls hl
theorem rc_any {free : Addr → Prop} {p : Program} {e : Env} {s : State} {m : MethodId} {args : Array Value} {below : List Frame} {meth : Method} {c : Code} {H0 H : Heap} {A0 A1 : Nat → Prop} {locs : List Loc} {ls : Array Slot} {st0 rest : List Value} {Q : State → Prop} {P : va_W → Prop} {mc ms : Nat}
    (hr : va_Run p l e R s m args below meth c H locs cells slots mc ms (F0 m pc ls st0) rest (fun st oc t => (∃ (v : Option Value) (w1 : va_W), oc = .returned v ∧ (v = none ∧ P w1) ∧ va_P (gD g) vwCl w1 t.heap ∧ va_K (gD g) vwCl (gtys g) t ∧ va_D A1 w1) ∧ va_F A1 st t) free)
    (hS : va_S A0 H0 H locs) (hA : ∀ q, q < H.size → A1 q → A0 q) (hf : ∀ q, free q → A0 q)
    (kk : ∀ (w1 : va_W) (H1 : Heap) (locs1 : List Loc), P w1 → va_P (gD g) vwCl w1 H1 → va_D A1 w1 → H.size ≤ H1.size → (∀ q : Nat, q < H.size → ¬ A1 q → H1[q]? = H[q]?) → va_S A0 H0 H1 locs1 → W p l e R s m args below meth c H1 locs1 (cells + mc) (slots + ms) Q (F0 m (pc + 3) ls rest)) : W p l e R s m args below meth c H locs cells slots Q (F0 m pc ls st0) := by
  intro T hT X
  obtain ⟨v, st₀, t, T', L, h0, X', hL, e1, e2, ⟨⟨v', w1, hv, ⟨hv0, hp⟩, hPt, hKt, hDt⟩, hz, hk⟩, st⟩ := hr T hT X
  cases hv
  subst hv0
  rw [h0] at hz hk
  obtain ⟨t2, a1, b1⟩ := kk w1 T'.heap (locs ++ L) hp (by rw [e1]; exact hPt) hDt (by rw [e1]; exact hz) (fun q h1 h2 => by rw [e1]; exact hk q h1 h2)
    ⟨Nat.le_trans hS.1 (by rw [e1]; exact hz), fun q h1 h2 => by rw [e1, hk q (Nat.lt_of_lt_of_le h1 hS.1) (fun z => h2 (hA q (Nat.lt_of_lt_of_le h1 hS.1) z))]; exact hS.2.1 q h1 h2, fun q hq => by
      rcases List.mem_append.mp hq with h | h
      · exact hS.2.2 q h
      · exact hf _ (hL q h)⟩ T' rfl X'
  exact ⟨t2, st t2 a1, b1⟩
/-- a constructor of a class of one's own nest is called -/
theorem rc_initN (C : Cx l g R nL k cc Ts own) {nm : String} (hN : Nx nm L k) {y : MethodName} {host : String} {bytes : ByteArray} {maxL index a mc ms : Nat} {wsy ws' : List Cond} {rm : Room} {Ly : List (String × Nat × MethodName × String)} {P : va_W → Prop} {w0 wr : va_W} (isC isR : List Nat) (hc : Cc l y wsy rm g [.ref a] w0 Ly P mc ms) (hT : GoodIn Ts wsy) (hw : wsy = Cond.code y bytes maxL none :: ws') (hrc : rm.cells = mc) (hrs : rm.slots = ms) (hy1 : y.name = "<init>") (hini : Cond.initialized y.cls ∈ Ts) (hinst : Cond.instanceMethod y ∈ Ts) (hpk : y.cls ≠ "java/lang/invoke/MethodHandle" ∧ y.cls ≠ "java/lang/invoke/VarHandle" ∧ (parseMethodDescriptor y.desc).map (fun d => d.parameters.length) = some 0) (hR : rm.frames + 1 ≤ R.frames ∧ 8 + (maxL + 11) + rm.locals ≤ R.locals) (hnest : (own, index, y, host) ∈ L) (hLy : ∀ q ∈ Ly, q ∈ L)
    (hC1 : isC.filterMap (fun i => ws[i]?) = w0) (hC : isC.map (fun i => ws[i]?) = w0.map some) (hCn : va_nd isC = true) (hRr : isR.map (fun i => ws[i]?) = wr.map some) (hnd : va_nd isR = true) (hdis : ∀ i ∈ isR, i ∉ isC) (hcat : (st.map fun v => v.category).sum ≤ 8) (hroom : cells + mc ≤ R.cells ∧ slots + ms ≤ R.slots) (hd : decode cc pc = .ok (.invokespecial index, 3)) (kk : ∀ w1, P w1 → G k (cells + mc) (slots + ms) (wr ++ w1) (pc + 3) lv st) : G k cells slots ws pc lv (.ref a :: st) := by
  obtain ⟨p, l', e, R', s, m, args, below, meth, cod, H0, A, Q, g', nL'⟩ := k
  obtain ⟨⟨hx, hb, hml, hown, hts⟩, hK, hA, rfl, rfl, rfl, rfl, hH0⟩ := C
  intro H locs hP hD hS ls hl
  have hPc := hP.sub isC hC1
  have hDc := hD.sub isC hCn hC
  have hFc := va_free (wc := w0) hD hS hA isC hC
  refine rc_any (va_runIN (host := host) (As := []) (rest := st) ⟨hx, hb, hml, hown, hts⟩ (hc H.size) ⟨va_cnB 0 hts hT hw hrc hrs (hN.2 _ hnest) (hts _ hini) hpk hR, hy1, hts _ hinst⟩ ⟨fun a U gg mk q => by obtain ⟨q0, q1, qP, qK, qD, qN⟩ := q; exact ⟨q0, q1, qP, va_K.moved (u := U) (U := U.calling gg mk a) (Vm.Alike.refl U.vm) qK, qD, NW.same (u := U) (U := U.calling gg mk a) rfl qN⟩, fun U hU hW => ⟨rfl, by rw [hU], by rw [hU]; exact hPc, va_K.moved hW.alike hK, hDc.weaken (fun _ _ _ _ => trivial), NW.warm hW (NW.sub hLy hN.2)⟩⟩ rfl rfl hl.1 rfl (lv_room hcat) hd hroom) hS (fun q _ h => hFc q h) hFc ?_
  intro w1 H1 locs1 hp hP1 hD1 hz hk1 hS1
  obtain ⟨hP2, hD2⟩ := va_join (wr := wr) (w1 := w1) hP hD isC isR hC hRr hnd hdis hk1 hFc hP1 hD1
  exact kk w1 hp H1 locs1 hP2 hD2 hS1 ls hl
/-- a constructor is called (not a private one) -/
theorem rc_init (C : Cx l g R nL k cc Ts own) {nm : String} (hN : Nx nm L k) {y : MethodName} {bytes : ByteArray} {maxL index a mc ms : Nat} {wsy ws' : List Cond} {rm : Room} {Ly : List (String × Nat × MethodName × String)} {P : va_W → Prop} {w0 wr : va_W} (isC isR : List Nat) (hc : Cc l y wsy rm g [.ref a] w0 Ly P mc ms) (hT : GoodIn Ts wsy) (hw : wsy = Cond.code y bytes maxL none :: ws') (hrc : rm.cells = mc) (hrs : rm.slots = ms) (hy1 : y.name = "<init>") (hini : Cond.initialized y.cls ∈ Ts) (hinst : Cond.instanceMethod y ∈ Ts) (hpk : y.cls ≠ "java/lang/invoke/MethodHandle" ∧ y.cls ≠ "java/lang/invoke/VarHandle" ∧ (parseMethodDescriptor y.desc).map (fun d => d.parameters.length) = some 0) (hR : rm.frames + 1 ≤ R.frames ∧ 8 + (maxL + 11) + rm.locals ≤ R.locals) (hlink : Cond.methodLink own index y ∈ Ts) (hLy : ∀ q ∈ Ly, q ∈ L)
    (hC1 : isC.filterMap (fun i => ws[i]?) = w0) (hC : isC.map (fun i => ws[i]?) = w0.map some) (hCn : va_nd isC = true) (hRr : isR.map (fun i => ws[i]?) = wr.map some) (hnd : va_nd isR = true) (hdis : ∀ i ∈ isR, i ∉ isC) (hcat : (st.map fun v => v.category).sum ≤ 8) (hroom : cells + mc ≤ R.cells ∧ slots + ms ≤ R.slots) (hd : decode cc pc = .ok (.invokespecial index, 3)) (kk : ∀ w1, P w1 → G k (cells + mc) (slots + ms) (wr ++ w1) (pc + 3) lv st) : G k cells slots ws pc lv (.ref a :: st) := by
  obtain ⟨p, l', e, R', s, m, args, below, meth, cod, H0, A, Q, g', nL'⟩ := k
  obtain ⟨⟨hx, hb, hml, hown, hts⟩, hK, hA, rfl, rfl, rfl, rfl, hH0⟩ := C
  intro H locs hP hD hS ls hl
  have hPc := hP.sub isC hC1
  have hDc := hD.sub isC hCn hC
  have hFc := va_free (wc := w0) hD hS hA isC hC
  refine rc_any (va_runI (As := []) (rest := st) ⟨hx, hb, hml, hown, hts⟩ (hc H.size) (cwI 0 hts hT hw hrc hrs (hts _ hini) (hts _ hlink) (hts _ hinst) hy1 hpk hR) ⟨fun a U gg mk q => by obtain ⟨q0, q1, qP, qK, qD, qN⟩ := q; exact ⟨q0, q1, qP, va_K.moved (u := U) (U := U.calling gg mk a) (Vm.Alike.refl U.vm) qK, qD, NW.same (u := U) (U := U.calling gg mk a) rfl qN⟩, fun U hU hW => ⟨rfl, by rw [hU], by rw [hU]; exact hPc, va_K.moved hW.alike hK, hDc.weaken (fun _ _ _ _ => trivial), NW.warm hW (NW.sub hLy hN.2)⟩⟩ rfl rfl hl.1 rfl (lv_room hcat) hd hroom) hS (fun q _ h => hFc q h) hFc ?_
  intro w1 H1 locs1 hp hP1 hD1 hz hk1 hS1
  obtain ⟨hP2, hD2⟩ := va_join (wr := wr) (w1 := w1) hP hD isC isR hC hRr hnd hdis hk1 hFc hP1 hD1
  exact kk w1 hp H1 locs1 hP2 hD2 hS1 ls hl
/-- a static method on few cells is called -/
theorem rc_stat (C : Cx l g R nL k cc Ts own) {nm : String} (hN : Nx nm L k) {y : MethodName} {bytes : ByteArray} {maxL index n mc ms : Nat} {wsy ws' : List Cond} {rm : Room} {Ly : List (String × Nat × MethodName × String)} {P : va_W → Prop} {w0 wr : va_W} {As st0 : List Value} (isC isR : List Nat) (hc : Cc l y wsy rm g As w0 Ly P mc ms) (hT : GoodIn Ts (va_wsS own index y wsy)) (hw : wsy = Cond.code y bytes maxL none :: ws') (hrc : rm.cells = mc) (hrs : rm.slots = ms) (hpk : y.cls ≠ "java/lang/invoke/MethodHandle" ∧ y.cls ≠ "java/lang/invoke/VarHandle" ∧ (parseMethodDescriptor y.desc).map (fun d => d.parameters.length) = some n) (hn : As.length = n) (hR : rm.frames + 1 ≤ R.frames ∧ 8 + (maxL + 11) + rm.locals ≤ R.locals) (hLy : ∀ q ∈ Ly, q ∈ L)
    (hC1 : isC.filterMap (fun i => ws[i]?) = w0) (hC : isC.map (fun i => ws[i]?) = w0.map some) (hCn : va_nd isC = true) (hRr : isR.map (fun i => ws[i]?) = wr.map some) (hnd : va_nd isR = true) (hdis : ∀ i ∈ isR, i ∉ isC) (hcat : (st.map fun v => v.category).sum ≤ 8) (hst : st0 = As.reverse ++ st) (hroom : cells + mc ≤ R.cells ∧ slots + ms ≤ R.slots) (hd : decode cc pc = .ok (.invokestatic index, 3)) (kk : ∀ w1, P w1 → G k (cells + mc) (slots + ms) (wr ++ w1) (pc + 3) lv st) : G k cells slots ws pc lv st0 := by
  obtain ⟨p, l', e, R', s, m, args, below, meth, cod, H0, A, Q, g', nL'⟩ := k
  obtain ⟨⟨hx, hb, hml, hown, hts⟩, hK, hA, rfl, rfl, rfl, rfl, hH0⟩ := C
  intro H locs hP hD hS ls hl
  have hPc := hP.sub isC hC1
  have hDc := hD.sub isC hCn hC
  have hFc := va_free (wc := w0) hD hS hA isC hC
  refine rc_any (va_runS (As := As) (rest := st) ⟨hx, hb, hml, hown, hts⟩ (hc H.size) (va_cwS n hts hT hw hrc hrs hpk hR) ⟨fun a U gg mk q => by obtain ⟨q0, q1, qP, qK, qD, qN⟩ := q; exact ⟨q0, q1, qP, va_K.moved (u := U) (U := U.calling gg mk a) (Vm.Alike.refl U.vm) qK, qD, NW.same (u := U) (U := U.calling gg mk a) rfl qN⟩, fun U hU hW => ⟨rfl, by rw [hU], by rw [hU]; exact hPc, va_K.moved hW.alike hK, hDc.weaken (fun _ _ _ _ => trivial), NW.warm hW (NW.sub hLy hN.2)⟩⟩ rfl hn hl.1 hst (lv_room hcat) hd hroom) hS (fun q _ h => hFc q h) hFc ?_
  intro w1 H1 locs1 hp hP1 hD1 hz hk1 hS1
  obtain ⟨hP2, hD2⟩ := va_join (wr := wr) (w1 := w1) hP hD isC isR hC hRr hnd hdis hk1 hFc hP1 hD1
  exact kk w1 hp H1 locs1 hP2 hD2 hS1 ls hl
end CW
