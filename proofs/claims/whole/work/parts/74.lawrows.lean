/-! THE CLAIM OUT OF ONE WALK OF THE LAW'S BODY. Your part is whole_start (and what it stands on); all else here is the same for every law, but numbers. -/
def R_law : String := "AgainAgainLaw"
def lw_P (b : Addr) (xs : List Int32) (args : Array Value) (s : State) : Prop := args = #[.ref b] ∧ s.IntsAt b xs ∧ xs.length ≤ 2560 ∧ (Jvm.Cond.and given_1 narrow_1).before args s = true
def lw_Q (_ : Array Value) (s : State) (o : Outcome) (t : State) : Prop := o = .returned (some (.int 1)) ∧ Framed s o t [] 48 1418
def lw_Z (below : List Frame) (a : Array Value) (s : State) : State → Prop := fun t => ∃ o, t.status = .running ∧ Ended t below o ∧ lw_Q a s o t
/-- the law's own end, with 1 on the stack, nothing written that was there before, its room as the claim has it -/
theorem lw_ret {p : Program} {l : Launch} {e : Env} {s : State} {m : MethodId} {below : List Frame} {meth : Method} {c : Code} {b : Nat} (hx : p.tables.exec = Jvm.exec) (hb : c.code = code) (hr : meth.sig.returnType = ret) (hlocks : meth.locks = false) {pc : Nat} {H : Heap} {ls : Array Slot} (hdg : decode code pc = .ok (.ireturn, 1)) : W p l e room_1 s m #[Value.ref b] below meth c H [] 48 1418 (lw_Z below #[Value.ref b] s) (F0 m pc ls [.int 1]) := by
  intro T hT X
  obtain ⟨fs, hret, hrun, hended, hW, hframe⟩ := X.leave (v := some (.int 1)) (hlocks := hlocks) (fun h => by rw [hr] at h; cases h)
  have hmeth' : T.vm.method? m = some meth := X.method'
  refine ⟨T.setFrames fs, ?_, .returned (some (.int 1)), hrun, hended, rfl, ⟨_, rfl⟩, hW, hframe⟩
  jvm_step X.here [X.here.top, hx, hb, hdg, hmeth', hr, ret, narrow_b1]
  (try refine ⟨rfl, ?_⟩); (try refine ⟨rfl, ?_⟩)
  first | (intro acts; rw [hret _ acts rfl rfl rfl]) | rw [hret _ _ rfl rfl rfl]
  exact Steps.refl _
/-- what holds at the law's entry: the machine, the code, the tables' words (any of lw_tbl by 'hts w (by decide +kernel)'), the script of L ints xs at the cell b, what the Statement gives of the start (any of its parts by flat_of_before) -/
def lw_At (p : Program) (s : State) (m : MethodId) (meth : Method) (c : Code) (b L : Nat) (xs : Nat → Int32) : Prop :=
  p.tables.exec = Jvm.exec ∧ c.code = code ∧ meth.sig.returnType = ret ∧ c.maxLocals = 4 ∧ s.vm.findClass R_law = some m.cls ∧ (∀ w ∈ lw_tbl, w.before #[Value.ref b] s = true) ∧ va_X b L xs s s.heap ∧ b < s.heap.size ∧ meth.locks = false ∧ (Jvm.Cond.and given_1 narrow_1).before #[Value.ref b] s = true

theorem lg_cmp_rf (x : Int64) : lg_cmp x x = 0 := by
  rcases cmp_v x x with e | e | e
  · exact absurd ((lg_cmp_gt x x).mp (by rw [e]; decide)) Int64.lt_irrefl
  · exact e
  · exact absurd ((lg_cmp_lt x x).mp (by rw [e]; decide)) Int64.lt_irrefl
theorem and31 (x : Int32) : ∃ c : Nat, c < 32 ∧ x &&& nI 31 = nI c := by
  refine ⟨(x.toBitVec &&& 31#32).toNat, ?_, ?_⟩
  · rw [BitVec.toNat_and]
    exact Nat.lt_of_le_of_lt Nat.and_le_right (by decide)
  · apply Int32.toBitVec_inj.mp
    rw [Int32.toBitVec_and]
    show x.toBitVec &&& 31#32 = BitVec.ofNat 32 (x.toBitVec &&& 31#32).toNat
    rw [BitVec.ofNat_toNat, BitVec.setWidth_eq]
theorem lt32 {c : Nat} (h : c < 32) : c = 0 ∨ c = 1 ∨ c = 2 ∨ c = 3 ∨ c = 4 ∨ c = 5 ∨ c = 6 ∨ c = 7 ∨ c = 8 ∨ c = 9 ∨ c = 10 ∨ c = 11 ∨ c = 12 ∨ c = 13 ∨ c = 14 ∨ c = 15 ∨ c = 16 ∨ c = 17 ∨ c = 18 ∨ c = 19 ∨ c = 20 ∨ c = 21 ∨ c = 22 ∨ c = 23 ∨ c = 24 ∨ c = 25 ∨ c = 26 ∨ c = 27 ∨ c = 28 ∨ c = 29 ∨ c = 30 ∨ c = 31 := by omega
theorem lw_le {L i : Nat} (hL : L ≤ 2560) (hi : i ≤ 2600) (h : ¬ (iI ((L : Nat) - 5) < nI i)) : i + 5 ≤ L := by
  rcases Nat.lt_or_ge L (i + 5) with z | z
  · exact absurd (Int32.lt_iff_toInt_lt.mpr (by rw [iI_toInt (by omega) (by omega), nI_toInt (by omega)]; omega)) h
  · exact z
/-! what the states become stays in its bounds -/
theorem okA_pay {S S' : Sg} {a b v r : Int32} (h : payA S a b v = (r, S')) (hO : Ok S) : Ok S' := by
  unfold payA at h
  by_cases q : isR 3 a ∧ isR 3 b ∧ isZ2 (-50) 50 v
  · rw [ifp_t q] at h
    rw [← (Prod.mk.inj h).2]
    obtain ⟨-, -, z, hz1, hz2, rfl⟩ := q
    rw [iI_toInt (by omega) (by omega)]
    exact hO.pay hz1 hz2
  · rw [ifp_f q] at h; rw [← (Prod.mk.inj h).2]; exact hO
theorem okA_disc {S S' : Sg} {p q r : Int32} (h : discA S p q = (r, S')) (hO : Ok S) : Ok S' := by
  unfold discA at h
  by_cases z : isAB 2 4 q ∧ isAB 1 (cl q - 1) p
  · rw [ifp_t z] at h
    rw [← (Prod.mk.inj h).2]
    obtain ⟨⟨q0, h1, h2, rfl⟩, ⟨p0, h3, h4, rfl⟩⟩ := z
    rw [cl_nI (show q0 < 2 ^ 31 by omega)] at h4
    rw [cl_nI (show p0 < 2 ^ 31 by omega), cl_nI (show q0 < 2 ^ 31 by omega)]
    exact hO.rate h3 (by omega) h2
  · rw [ifp_f z] at h; rw [← (Prod.mk.inj h).2]; exact hO
theorem okA_mach {S S' : Sg} {n r : Int32} (h : machA S n = (r, S')) (hO : Ok S) : Ok S' := by
  unfold machA at h
  by_cases z : isAB 1 4 n
  · rw [ifp_t z] at h
    by_cases z2 : sN S = 12
    · rw [ifp_t z2] at h; rw [← (Prod.mk.inj h).2]; exact hO
    · rw [ifp_f z2] at h
      rw [← (Prod.mk.inj h).2]
      obtain ⟨n0, h1, h2, rfl⟩ := z
      rw [cl_nI (show n0 < 2 ^ 31 by omega)]
      have := hO.n
      exact hO.add (by omega) h1 h2
  · rw [ifp_f z] at h; rw [← (Prod.mk.inj h).2]; exact hO
theorem okA_does {S S' : Sg} {m s a r : Int32} (h : doesA S m s a = (r, S')) (hO : Ok S) : Ok S' := by
  unfold doesA at h
  by_cases z : isS S m s ∧ isR 3 a
  · rw [ifp_t z] at h
    rw [← (Prod.mk.inj h).2]
    obtain ⟨-, a0, ha, rfl⟩ := z
    rw [cl_nI (show a0 < 2 ^ 31 by omega)]
    exact hO.does ha
  · rw [ifp_f z] at h; rw [← (Prod.mk.inj h).2]; exact hO
theorem okA_goes {S S' : Sg} {m s a x r : Int32} (h : goesA S m s a x = (r, S')) (hO : Ok S) : Ok S' := by
  unfold goesA at h
  by_cases z : isS S m s ∧ isR 3 a ∧ isS S m x
  · rw [ifp_t z] at h
    rw [← (Prod.mk.inj h).2]
    obtain ⟨-, -, i, hi, rfl, t, ht, rfl⟩ := z
    have h1 := hO.n
    have h2 := (hO.z i).2
    rw [cl_nI (show i < 2 ^ 31 by omega), cl_nI (show t < 2 ^ 31 by omega)]
    exact hO.goes ht
  · rw [ifp_f z] at h; rw [← (Prod.mk.inj h).2]; exact hO
theorem okA_drop {S S' : Sg} {r : Int32} (h : dropA S = (r, S')) (hO : Ok S) : Ok S' := by
  unfold dropA at h
  by_cases z : sN S = 0
  · rw [ifp_t z] at h; rw [← (Prod.mk.inj h).2]; exact hO
  · rw [ifp_f z] at h; rw [← (Prod.mk.inj h).2]; exact hO.drop
theorem okA_shet {S S' : Sg} {k v n r : Int32} (h : shetA S k v n = (r, S')) (hO : Ok S) : Ok S' := by
  unfold shetA at h
  by_cases z : isR 4 k ∧ isR 3 v ∧ n ≤ nI 60
  · rw [ifp_t z] at h
    by_cases z2 : n < 0
    · rw [ifp_t z2] at h; rw [← (Prod.mk.inj h).2]; exact hO
    · rw [ifp_f z2] at h
      rw [← (Prod.mk.inj h).2]
      obtain ⟨-, ⟨v0, hv, rfl⟩, hn⟩ := z
      obtain ⟨n0, hn0, rfl⟩ := nI_of z2
      rw [cl_nI (show v0 < 2 ^ 31 by omega), cl_nI (show n0 < 2 ^ 31 by omega)]
      exact hO.sheet hv ((nI_leI hn0 (by decide)).mp hn)
  · rw [ifp_f z] at h; rw [← (Prod.mk.inj h).2]; exact hO
theorem okA_lay {S S' : Sg} {k i v r : Int32} (h : layA S k i v = (r, S')) (hO : Ok S) : Ok S' := by
  unfold layA at h
  by_cases z : isR 4 k
  · rw [ifp_t z] at h
    by_cases z2 : sl S (cl k) = 0
    · rw [ifp_t z2] at h; rw [← (Prod.mk.inj h).2]; exact hO
    · rw [ifp_f z2] at h
      by_cases z3 : isR (sk S (cl k)) i
      · rw [ifp_t z3] at h; rw [← (Prod.mk.inj h).2]; exact hO.lay _ _ _
      · rw [ifp_f z3] at h; rw [← (Prod.mk.inj h).2]; exact hO
  · rw [ifp_f z] at h; rw [← (Prod.mk.inj h).2]; exact hO
theorem okA_draw {S S' : Sg} {k v f n r : Int32} (h : drawA S k v f n = (r, S')) (hO : Ok S) : Ok S' := by
  unfold drawA at h
  by_cases z : isR 4 k ∧ isR 3 v ∧ isAB 1 4 n
  · rw [ifp_t z] at h
    by_cases z2 : sl S (cl k) = 0
    · rw [ifp_t z2] at h; rw [← (Prod.mk.inj h).2]; exact hO
    · rw [ifp_f z2] at h
      by_cases z3 : sl S (cl k) = cl v + 1
      · rw [ifp_t z3] at h
        by_cases z4 : cfA S (cl k) (cl n) f = 0
        · rw [ifp_t z4] at h
          by_cases z5 : sN S = 12
          · rw [ifp_t z5] at h; rw [← (Prod.mk.inj h).2]; exact hO
          · rw [ifp_f z5] at h
            rw [← (Prod.mk.inj h).2]
            obtain ⟨-, -, n0, h1, h2, rfl⟩ := z
            rw [cl_nI (show n0 < 2 ^ 31 by omega)]
            have := hO.n
            exact hO.PD (by omega) h1 h2
        · rw [ifp_f z4] at h; rw [← (Prod.mk.inj h).2]; exact hO
      · rw [ifp_f z3] at h; rw [← (Prod.mk.inj h).2]; exact hO
  · rw [ifp_f z] at h; rw [← (Prod.mk.inj h).2]; exact hO
/-- what a walk in the law knows beside Cx: the script, and where it ends -/
def Lx (b L : Nat) (xs : Nat → Int32) (k : KX) : Prop :=
  match k with
  | (_, _, _, R, s, _, args, below, meth, _, H0, A, Q, _, _) => va_X b L xs s H0 ∧ b < H0.size ∧ ¬ A b ∧ meth.sig.returnType = ret ∧ meth.locks = false ∧ R = room_1 ∧ args = #[Value.ref b] ∧ H0 = s.heap ∧ Q = lw_Z below #[Value.ref b] s ∧ A = (fun q : Nat => s.heap.size ≤ q)
section LR
variable {l : Launch} {g : gE} {R : Room} {nL : Nat} {k : KX} {cc : ByteArray} {Ts : List Cond} {own : String} {cells slots : Nat} {ws : va_W} {pc : Nat} {lv : List (Nat × Value)} {st : List Value} {b L : Nat} {xs : Nat → Int32}
theorem r_sld (C : Cx l g R nL k cc Ts own) (X : Lx b L xs k) {i : Nat} (hi : i < L) (hL : L ≤ 2560) (hd : decode cc pc = .ok (.iaload, 1)) (kk : G k cells slots ws (pc + 1) lv (.int (xs i) :: st)) : G k cells slots ws pc lv (.int (nI i) :: .ref b :: st) := by
  obtain ⟨p, l', e, R', s, m, args, below, meth, cod, H0, A, Q, g', nL'⟩ := k
  obtain ⟨⟨hx, hb, hml, hown, hts⟩, hK, hA, rfl, rfl, rfl, rfl, hH0⟩ := C
  obtain ⟨hX, hbl, hbA, -⟩ := X
  intro H locs hP hD hS ls hl
  refine va_sld hx hb hX hbl hbA hS (nI_in hi (by omega)) hd ?_
  rw [nI_clamp (show i < 2 ^ 31 by omega)]
  exact kk H locs hP hD hS ls hl
theorem r_slen (C : Cx l g R nL k cc Ts own) (X : Lx b L xs k) (hd : decode cc pc = .ok (.arraylength, 1)) (kk : G k cells slots ws (pc + 1) lv (.int (nI L) :: st)) : G k cells slots ws pc lv (.ref b :: st) := by
  obtain ⟨p, l', e, R', s, m, args, below, meth, cod, H0, A, Q, g', nL'⟩ := k
  obtain ⟨⟨hx, hb, hml, hown, hts⟩, hK, hA, rfl, rfl, rfl, rfl, hH0⟩ := C
  obtain ⟨hX, hbl, hbA, -⟩ := X
  intro H locs hP hD hS ls hl
  exact va_slen hx hb hX hbl hbA hS hd (kk H locs hP hD hS ls hl)
theorem r_lwret (C : Cx l g R nL k code Ts own) (X : Lx b L xs k) (hd : decode code pc = .ok (.ireturn, 1)) : G k 48 1418 ws pc lv [.int 1] := by
  obtain ⟨p, l', e, R', s, m, args, below, meth, cod, H0, A, Q, g', nL'⟩ := k
  obtain ⟨⟨hx, hb, hml, hown, hts⟩, hK, hA, rfl, rfl, rfl, rfl, hH0⟩ := C
  obtain ⟨hX, hbl, hbA, hr, hlocks, rfl, rfl, rfl, rfl, rfl⟩ := X
  intro H locs hP hD hS ls hl
  refine va_forget (fun q hq => hS.2.2 q hq) ?_
  exact lw_ret hx hb hr hlocks hd
end LR
/-- the loop goes on -/
def LK (k : KX) (g : gE) (ad : Nat → Nat) (b i : Nat) : Prop := ∀ (S' : Sg) (u' : Me), RepC S' u' → RepM S' u' → Ok S' → G k 48 1418 (WW g ad u') 1255 [(0, .ref b), (1, .ref (ad 0)), (2, .ref (ad 36)), (3, .int (nI (i)))] []
