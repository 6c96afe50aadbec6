/-! typed calls, ends -/
section RT
variable {l : Launch} {g : gE} {R : Room} {nL : Nat} {k : KX} {cc : ByteArray} {Ts : List Cond} {own : String} {cells slots : Nat} {ad : Nat → Nat} {u : Me} {pc : Nat} {lv : List (Nat × Value)} {st : List Value}
theorem r_callVi (C : Cx l g R nL k cc Ts own) {y : MethodName} {bytes : ByteArray} {maxL index n : Nat} {ret : Option FieldType} {wsy ws' : List Cond} {rm : Room} {As rest : List Value} {P : Int32 → Me → Prop} {CN : String} {c ci N : Nat} {fs : (Nat → Nat) → Me → List Value} {T : u_T} (hc : Cti l y wsy rm g ad (.ref (ad c) :: As) u P)
    (hT : GoodIn Ts (wsV own index CN y wsy)) (hpk : Pk y CN n) (hO : isO c ci fs) (hd : decode cc pc = .ok (.invokevirtual index, 3)) (hn : As.length = n)
    (hw : wsy = Cond.code y bytes maxL ret :: ws') (hrc : rm.cells = 0) (hrs : rm.slots = 0) (hR : rm.frames + 1 ≤ R.frames ∧ 8 + (maxL + 11) + rm.locals ≤ R.locals)
    (hcl : vwCl[ci]? = some (CN, T, N)) (hst : st = As.reverse ++ .ref (ad c) :: rest) (hcat : (rest.map fun v => v.category).sum ≤ 8) (hroom : cells + 0 ≤ R.cells ∧ slots + 0 ≤ R.slots)
    (kk : ∀ (r : Int32) (u' : Me), P r u' → G k cells slots (WW g ad u') (pc + 3) lv (.int r :: rest)) : G k cells slots (WW g ad u) pc lv st := r_callV C hc hT hpk hO hd hn hw hrc hrs hR hcl hst hcat (fun v u' h => by obtain ⟨r, rfl, h⟩ := h; exact kk r u' h) hroom
theorem r_callSi (C : Cx l g R nL k cc Ts own) {y : MethodName} {bytes : ByteArray} {maxL index n : Nat} {ret : Option FieldType} {wsy ws' : List Cond} {rm : Room} {As rest : List Value} {P : Int32 → Me → Prop} {CN : String} (hc : Cti l y wsy rm g ad As u P)
    (hT : GoodIn Ts (va_wsS own index y wsy)) (hpk : Pk y CN n) (hd : decode cc pc = .ok (.invokestatic index, 3)) (hn : As.length = n)
    (hw : wsy = Cond.code y bytes maxL ret :: ws') (hrc : rm.cells = 0) (hrs : rm.slots = 0) (hR : rm.frames + 1 ≤ R.frames ∧ 8 + (maxL + 11) + rm.locals ≤ R.locals)
    (hst : st = As.reverse ++ rest) (hcat : (rest.map fun v => v.category).sum ≤ 8) (hroom : cells + 0 ≤ R.cells ∧ slots + 0 ≤ R.slots)
    (kk : ∀ (r : Int32) (u' : Me), P r u' → G k cells slots (WW g ad u') (pc + 3) lv (.int r :: rest)) : G k cells slots (WW g ad u) pc lv st := r_callS C hc hT hpk hd hn hw hrc hrs hR hst hcat (fun v u' h => by obtain ⟨r, rfl, h⟩ := h; exact kk r u' h) hroom
theorem r_callVl (C : Cx l g R nL k cc Ts own) {y : MethodName} {bytes : ByteArray} {maxL index n : Nat} {ret : Option FieldType} {wsy ws' : List Cond} {rm : Room} {As rest : List Value} {P : Int64 → Me → Prop} {CN : String} {c ci N : Nat} {fs : (Nat → Nat) → Me → List Value} {T : u_T} (hc : Ctl l y wsy rm g ad (.ref (ad c) :: As) u P)
    (hT : GoodIn Ts (wsV own index CN y wsy)) (hpk : Pk y CN n) (hO : isO c ci fs) (hd : decode cc pc = .ok (.invokevirtual index, 3)) (hn : As.length = n)
    (hw : wsy = Cond.code y bytes maxL ret :: ws') (hrc : rm.cells = 0) (hrs : rm.slots = 0) (hR : rm.frames + 1 ≤ R.frames ∧ 8 + (maxL + 11) + rm.locals ≤ R.locals)
    (hcl : vwCl[ci]? = some (CN, T, N)) (hst : st = As.reverse ++ .ref (ad c) :: rest) (hcat : (rest.map fun v => v.category).sum ≤ 8) (hroom : cells + 0 ≤ R.cells ∧ slots + 0 ≤ R.slots)
    (kk : ∀ (r : Int64) (u' : Me), P r u' → G k cells slots (WW g ad u') (pc + 3) lv (.long r :: rest)) : G k cells slots (WW g ad u) pc lv st := r_callV C hc hT hpk hO hd hn hw hrc hrs hR hcl hst hcat (fun v u' h => by obtain ⟨r, rfl, h⟩ := h; exact kk r u' h) hroom
theorem r_callSl (C : Cx l g R nL k cc Ts own) {y : MethodName} {bytes : ByteArray} {maxL index n : Nat} {ret : Option FieldType} {wsy ws' : List Cond} {rm : Room} {As rest : List Value} {P : Int64 → Me → Prop} {CN : String} (hc : Ctl l y wsy rm g ad As u P)
    (hT : GoodIn Ts (va_wsS own index y wsy)) (hpk : Pk y CN n) (hd : decode cc pc = .ok (.invokestatic index, 3)) (hn : As.length = n)
    (hw : wsy = Cond.code y bytes maxL ret :: ws') (hrc : rm.cells = 0) (hrs : rm.slots = 0) (hR : rm.frames + 1 ≤ R.frames ∧ 8 + (maxL + 11) + rm.locals ≤ R.locals)
    (hst : st = As.reverse ++ rest) (hcat : (rest.map fun v => v.category).sum ≤ 8) (hroom : cells + 0 ≤ R.cells ∧ slots + 0 ≤ R.slots)
    (kk : ∀ (r : Int64) (u' : Me), P r u' → G k cells slots (WW g ad u') (pc + 3) lv (.long r :: rest)) : G k cells slots (WW g ad u) pc lv st := r_callS C hc hT hpk hd hn hw hrc hrs hR hst hcat (fun v u' h => by obtain ⟨r, rfl, h⟩ := h; exact kk r u' h) hroom
theorem r_callVv (C : Cx l g R nL k cc Ts own) {y : MethodName} {bytes : ByteArray} {maxL index n : Nat} {ret : Option FieldType} {wsy ws' : List Cond} {rm : Room} {As rest : List Value} {P : Me → Prop} {CN : String} {c ci N : Nat} {fs : (Nat → Nat) → Me → List Value} {T : u_T} (hc : Ctv l y wsy rm g ad (.ref (ad c) :: As) u P)
    (hT : GoodIn Ts (wsV own index CN y wsy)) (hpk : Pk y CN n) (hO : isO c ci fs) (hd : decode cc pc = .ok (.invokevirtual index, 3)) (hn : As.length = n)
    (hw : wsy = Cond.code y bytes maxL ret :: ws') (hrc : rm.cells = 0) (hrs : rm.slots = 0) (hR : rm.frames + 1 ≤ R.frames ∧ 8 + (maxL + 11) + rm.locals ≤ R.locals)
    (hcl : vwCl[ci]? = some (CN, T, N)) (hst : st = As.reverse ++ .ref (ad c) :: rest) (hcat : (rest.map fun v => v.category).sum ≤ 8) (hroom : cells + 0 ≤ R.cells ∧ slots + 0 ≤ R.slots)
    (kk : ∀ (u' : Me), P u' → G k cells slots (WW g ad u') (pc + 3) lv rest) : G k cells slots (WW g ad u) pc lv st := r_callV C hc hT hpk hO hd hn hw hrc hrs hR hcl hst hcat (fun v u' h => by obtain ⟨rfl, h⟩ := h; exact kk u' h) hroom
theorem r_callSv (C : Cx l g R nL k cc Ts own) {y : MethodName} {bytes : ByteArray} {maxL index n : Nat} {ret : Option FieldType} {wsy ws' : List Cond} {rm : Room} {As rest : List Value} {P : Me → Prop} {CN : String} (hc : Ctv l y wsy rm g ad As u P)
    (hT : GoodIn Ts (va_wsS own index y wsy)) (hpk : Pk y CN n) (hd : decode cc pc = .ok (.invokestatic index, 3)) (hn : As.length = n)
    (hw : wsy = Cond.code y bytes maxL ret :: ws') (hrc : rm.cells = 0) (hrs : rm.slots = 0) (hR : rm.frames + 1 ≤ R.frames ∧ 8 + (maxL + 11) + rm.locals ≤ R.locals)
    (hst : st = As.reverse ++ rest) (hcat : (rest.map fun v => v.category).sum ≤ 8) (hroom : cells + 0 ≤ R.cells ∧ slots + 0 ≤ R.slots)
    (kk : ∀ (u' : Me), P u' → G k cells slots (WW g ad u') (pc + 3) lv rest) : G k cells slots (WW g ad u) pc lv st := r_callS C hc hT hpk hd hn hw hrc hrs hR hst hcat (fun v u' h => by obtain ⟨rfl, h⟩ := h; exact kk u' h) hroom
end RT
theorem bT {P : Prop} (h : P) : bI P = nI 1 := bI_t h
theorem bF {P : Prop} (h : ¬ P) : bI P = nI 0 := bI_f h
theorem updA_eq (f : Nat → Int32) (k : Nat) (x : Int32) : upd f k x k = x := if_pos rfl
theorem updA_ne (f : Nat → Int32) {k j : Nat} (x : Int32) (h : ¬ j = k) : upd f k x j = f j := if_neg h
theorem updA (f : Nat → Int32) (k : Nat) (x : Int32) (j : Nat) : upd f k x j = if j = k then x else f j := rfl
theorem updLA (f : Nat → Int64) (k : Nat) (x : Int64) (j : Nat) : vp_updL f k x j = if j = k then x else f j := rfl
section RA
variable {l : Launch} {g : gE} {R : Room} {nL : Nat} {k : KX} {cc : ByteArray} {Ts : List Cond} {own : String} {cells slots : Nat} {ad : Nat → Nat} {u : Me} {ws0 : va_W} {pc : Nat} {lv : List (Nat × Value)} {st : List Value}
theorem r_alen (C : Cx l g R nL k cc Ts own) {c n : Nat} (hI : isI c n) (hd : decode cc pc = .ok (.arraylength, 1)) (kk : G k cells slots (WW g ad u) (pc + 1) lv (.int (nI n) :: st)) : G k cells slots (WW g ad u) pc lv (.ref (ad c) :: st) := by
  obtain ⟨p, l', e, R', s, m, args, below, meth, cod, H0, A, Q, g', nL'⟩ := k
  obtain ⟨⟨hx, hb, hml, hown, hts⟩, hK, hA, rfl, rfl, rfl, rfl, hH0⟩ := C
  intro H locs hP hD hS ls hl
  exact va_alen hx hb hK hP c 0 (hI.at _ ad u) rfl rfl hd (kk H locs hP hD hS ls hl)
theorem r_absL (C : Cx l g R nL k cc Ts own) {index : Nat} {x : Int64} (hlink : Cond.methodLink own index Lib.MathLoose.abs_long.x ∈ Ts) (hstat : Cond.static Lib.MathLoose.abs_long.x ∈ Ts) (hini : Cond.initialized "java/lang/Math" ∈ Ts) (hcode : Cond.code Lib.MathLoose.abs_long.x Lib.MathLoose.abs_long.code 2 (some .long) ∈ Ts) (hf : 1 ≤ R.frames) (hlo : (st.map fun v => v.category).sum + 13 ≤ R.locals) (hcc : cells ≤ R.cells) (hss : slots ≤ R.slots) (hd : decode cc pc = .ok (.invokestatic index, 3)) (kk : G k cells slots ws0 (pc + 3) lv (.long (if 0 < x then x else -x) :: st)) : G k cells slots ws0 pc lv (.long x :: st) := by
  obtain ⟨p, l', e, R', s, m, args, below, meth, cod, H0, A, Q, g', nL'⟩ := k
  obtain ⟨⟨hx, hb, hml, hown, hts⟩, hK, hA, rfl, rfl, rfl, rfl, hH0⟩ := C
  intro H locs hP hD hS ls hl
  exact va_mabs_long hx hb (hml.trans hl.1.symm) hown (hts _ hlink) (hts _ hstat) (hts _ hini) (hts _ hcode) hf hlo hcc hss hd (kk H locs hP hD hS ls hl)
end RA
theorem sA_sA (u : Me) (c : Nat) (f f2 : Nat → Int32) : sA (sA u c f) c f2 = sA u c f2 := by
  unfold sA
  have e : va_up (va_up u.1 c f) c f2 = va_up u.1 c f2 := by
    funext d; unfold va_up; by_cases h : d = c <;> simp [h]
  show (va_up (va_up u.1 c f) c f2, _, _, _) = _
  rw [e]
theorem sA_same (u : Me) (c : Nat) : sA u c (mA u c) = u := by
  have e : va_up u.1 c (mA u c) = u.1 := by
    funext d; unfold va_up mA; by_cases h : d = c <;> simp [h]
  unfold sA; rw [e]
theorem bI_nar (P : Prop) : vp_nar .boolean (bI P) = bI P := by
  rcases bI_01 P with h | h <;> rw [h] <;> rfl
