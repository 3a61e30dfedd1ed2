/-! THE CLAIM OUT OF ONE WALK OF THE LAW'S BODY. Your part is whole_start (and what it stands on); all else here is the same for every law, but numbers. -/
def R_law : String := "DisplayMapLaw"
def lw_P (b : Addr) (xs : List Int32) (args : Array Value) (s : State) : Prop := args = #[.ref b] ∧ s.IntsAt b xs ∧ xs.length ≤ 2048 ∧ (Jvm.Cond.and given_1 narrow_1).before args s = true
def lw_Q (_ : Array Value) (s : State) (o : Outcome) (t : State) : Prop := o = .returned (some (.int 1)) ∧ Framed s o t [] 600000 7302250
def lw_Z (below : List Frame) (a : Array Value) (s : State) : State → Prop := fun t => ∃ o, t.status = .running ∧ Ended t below o ∧ lw_Q a s o t
/-- the law's own end, with 1 on the stack, nothing written that was there before, its room as the claim has it -/
theorem lw_ret {p : Program} {l : Launch} {e : Env} {s : State} {m : MethodId} {below : List Frame} {meth : Method} {c : Code} {b : Nat} (hx : p.tables.exec = Jvm.exec) (hb : c.code = code) (hr : meth.sig.returnType = ret) (hlocks : meth.locks = false) {pc : Nat} {H : Heap} {ls : Array Slot} (hdg : decode code pc = .ok (.ireturn, 1)) : W p l e room_1 s m #[Value.ref b] below meth c H [] 600000 7302250 (lw_Z below #[Value.ref b] s) (F0 m pc ls [.int 1]) := by
  intro T hT X
  obtain ⟨fs, hret, hrun, hended, hW, hframe⟩ := X.leave (v := some (.int 1)) (hlocks := hlocks) (fun h => by rw [hr] at h; cases h)
  have hmeth' : T.vm.method? m = some meth := X.method'
  refine ⟨T.setFrames fs, ?_, .returned (some (.int 1)), hrun, hended, rfl, ⟨_, rfl⟩, hW, hframe⟩
  jvm_step X.here [X.here.top, hx, hb, hdg, hmeth', hr, ret, narrow_b1]
  (try refine ⟨rfl, ?_⟩); (try refine ⟨rfl, ?_⟩)
  first | (intro acts; rw [hret _ acts rfl rfl rfl]) | rw [hret _ _ rfl rfl rfl]
  exact Steps.refl _
/-- what holds at the law's entry: the machine, the code, the tables' words (any of lw_tbl by 'hts w (by decide +kernel)'), the script of L ints xs at the cell b, what the Statement gives of the start (any of its parts by flat_of_before) -/
def lw_At (p : Program) (s : State) (m : MethodId) (meth : Method) (c : Code) (b L : Nat) (xs : Nat → Int32) : Prop :=
  p.tables.exec = Jvm.exec ∧ c.code = code ∧ meth.sig.returnType = ret ∧ c.maxLocals = 4 ∧ s.vm.findClass R_law = some m.cls ∧ (∀ w ∈ lw_tbl, w.before #[Value.ref b] s = true) ∧ va_X b L xs s s.heap ∧ b < s.heap.size ∧ meth.locks = false ∧ (Jvm.Cond.and given_1 narrow_1).before #[Value.ref b] s = true
/-! ===== the law: its rows ===== -/
def tL (b L : Nat) (xs : Nat → Int32) (t : TX) : Prop := match t with
  | (p, l, e, R, s, m, args, below, meth, c, Q, D, tI, tZ, tQ, A) => R = room_1 ∧ args = #[Value.ref b] ∧ Q = lw_Z below args s ∧ A = (fun q : Nat => s.heap.size ≤ q) ∧ va_X b L xs s s.heap ∧ b < s.heap.size
section JL
variable {t : TX} {l : Launch} {cc : ByteArray} {own : String} {nL : Nat} {ret' : Option FieldType} {fr mc ms kc ks pc n : Nat} {ml : List (Option mV)} {st : List mV} {w : mW} {b L : Nat} {xs : Nat → Int32}
theorem x_sld (C : Cb t l cc own nL ret' fr mc ms) (hT : tL b L xs t) {i : Int} (hd : decode cc pc = .ok (.iaload, 1)) (h0 : 0 ≤ i ∧ i < L) (k : J t kc ks (pc + 1) ml (vi (xs i.toNat).toInt :: st) n w) : J t kc ks pc ml (vi i :: vr b :: st) n w := by
  obtain ⟨p, l1, e, R, s, m, args, below, meth, c, Q, D, tI, tZ, tQ, A⟩ := t
  obtain ⟨-, hx, hb, -, -, hown, hts, -⟩ := C
  obtain ⟨-, -, -, hA, hX, hbl⟩ := hT
  intro H locs ls hR hS hl ho hs
  obtain ⟨oi, hs1⟩ := stOk_c.mp hs
  have hs2 := (stOk_c.mp hs1).2
  have ov : iR (xs i.toNat).toInt := ⟨by have := Int32.le_toInt (xs i.toNat); omega, by have := Int32.toInt_lt (xs i.toNat); omega⟩
  have kk2 := k H locs ls hR hS hl ho (stOk_c.mpr ⟨ov, hs2⟩)
  refine va_sld (A := A) hx hb hX hbl (by rw [hA]; exact Nat.not_le.mpr hbl) hS (iR_in oi h0.1 h0.2) hd ?_
  rw [iR_clamp oi]
  have e1 : mT (vi (xs i.toNat).toInt) = .int (xs i.toNat) := by show Value.int (Int32.ofInt _) = _; rw [Int32.ofInt_toInt]
  rw [← e1]
  exact kk2
theorem x_slen (C : Cb t l cc own nL ret' fr mc ms) (hT : tL b L xs t) (hd : decode cc pc = .ok (.arraylength, 1)) (hL : L ≤ 2048) (k : J t kc ks (pc + 1) ml (vi (L : Int) :: st) n w) : J t kc ks pc ml (vr b :: st) n w := by
  obtain ⟨p, l1, e, R, s, m, args, below, meth, c, Q, D, tI, tZ, tQ, A⟩ := t
  obtain ⟨-, hx, hb, -, -, hown, hts, -⟩ := C
  obtain ⟨-, -, -, hA, hX, hbl⟩ := hT
  intro H locs ls hR hS hl ho hs
  have hs2 := (stOk_c.mp hs).2
  have kk2 := k H locs ls hR hS hl ho (stOk_c.mpr ⟨⟨by omega, by omega⟩, hs2⟩)
  refine va_slen (A := A) hx hb hX hbl (by rw [hA]; exact Nat.not_le.mpr hbl) hS hd ?_
  rw [← Int32.ofInt_eq_ofNat]
  exact kk2
theorem x_and31 (C : Cb t l cc own nL ret' fr mc ms) {x : Int} (hd : decode cc pc = .ok (.iand, 1)) (k : ∀ z : Int, 0 ≤ z → z ≤ 31 → J t kc ks (pc + 1) ml (vi z :: st) n w) : J t kc ks pc ml (vi 31 :: vi x :: st) n w := by
  obtain ⟨p, l1, e, R, s, m, args, below, meth, c, Q, D, tI, tZ, tQ, A⟩ := t
  obtain ⟨-, hx, hb, -⟩ := C
  intro H locs ls hR hS hl ho hs
  have hs2 := (stOk_c.mp (stOk_c.mp hs).2).2
  obtain ⟨j, hj, e⟩ := pk_andE (Int32.ofInt x) (m := Int32.ofInt 31) 5 (by decide)
  have hj2 : j < 32 := hj
  refine lv_iand hx hb hd ?_
  have h1 : nI j = Int32.ofInt (j : Int) := Int32.ofInt_eq_ofNat.symm
  rw [e, h1]
  exact k (j : Int) (by omega) (by omega) H locs ls hR hS hl ho (stOk_c.mpr ⟨⟨by omega, by omega⟩, hs2⟩)
theorem x_lret (C : Cb t l code own nL ret fr mc ms) (hT : tL b L xs t) (hd : decode code pc = .ok (.ireturn, 1)) (hk : kc ≤ 600000) (hk2 : ks ≤ 7302250) : J t kc ks pc ml [vi 1] n w := by
  obtain ⟨p, l1, e, R, s, m, args, below, meth, c, Q, D, tI, tZ, tQ, A⟩ := t
  obtain ⟨-, hx, hb, hr, -, -, -, hlocks, -⟩ := C
  obtain ⟨rfl, rfl, rfl, rfl, -, -⟩ := hT
  intro H locs ls hR hS hl ho hs
  refine va_forget (fun q hq => hS.2.2 q hq) ?_
  refine W.widen (k := 600000) (n := 7302250) hk hk2 ?_
  exact lw_ret hx hb hr hlocks hd
end JL
theorem isX.o4 {w : mW} {h : Nat} {D : mD} (hX : isX w h D) : ∃ fs, w h = some (co 4 fs) := by
  obtain ⟨-, a, b, ac, hab, x0, -⟩ := hX
  exact ⟨_, x0⟩
theorem isM.o5 {w : mW} {h : Nat} {D : mD} (hM : isM w h D) : ∃ fs, w h = some (co 5 fs) := by
  obtain ⟨_, _, _, _, _, _, _, _, _, _, _, _, _, _, _, hN, -⟩ := hM
  obtain ⟨_, _, _, _, _, _, _, _, _, _, _, _, _, _, _, _, hr⟩ := hN
  exact ⟨_, hr.o⟩
