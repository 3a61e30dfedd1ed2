/-! ===== the judgement J: from this state of the small machine the method comes to its end as promised ===== -/
abbrev TX : Type := Program × Launch × Env × Room × State × MethodId × Array Value × List Frame × Method × Code × (State → Prop) × va_G × ClassId × ClassId × ClassId × (Nat → Prop)
/-- what every method finds: the classes, the nest's links, the cells from the heap's end on are free -/
def Gs (D : va_G) (tI tZ tQ : ClassId) (A : Nat → Prop) (U : State) : Prop :=
  va_K D vwCl (mm_tys tI tZ tQ) U ∧ (∀ q ∈ kNf, va_Nw (.fieldLinkNest q.1 q.2.1 q.2.2.1 q.2.2.2.1 q.2.2.2.2 "DisplayMap") U) ∧ (∀ q ∈ kNm, va_Nw (.methodLinkNest q.1 q.2.1 q.2.2 "DisplayMap") U) ∧ va_AO RX2 U ∧ ∀ q : Nat, U.heap.size ≤ q → A q
def mL (i : Nat) (ml : List (Option mV)) : List (Nat × Value) := match ml with
  | [] => []
  | none :: r => mL (i + 1) r
  | some v :: r => (i, mT v) :: mL (i + 1) r
def mlOk (ml : List (Option mV)) : Prop := ∀ v : mV, some v ∈ ml → vOk v
def stOk (st : List mV) : Prop := ∀ v ∈ st, vOk v
def J (t : TX) (kc ks : Nat) (pc : Nat) (ml : List (Option mV)) (st : List mV) (n : Nat) (w : mW) : Prop := match t with
  | (p, l, e, R, s, m, args, below, meth, c, Q, D, tI, tZ, tQ, A) => ∀ (H : Heap) (locs : List Loc) (ls : Array Slot), mR D tI tZ tQ A n w H → va_S A s.heap H locs → lv_has ls c.maxLocals (mL 0 ml) → mlOk ml → stOk st → W p l e R s m args below meth c H locs kc ks Q (F0 m pc ls (st.map mT))
/-- the frame's facts: its code, its class, its answer's type, its room -/
def Cb (t : TX) (l0 : Launch) (cc : ByteArray) (own : String) (nL : Nat) (ret : Option FieldType) (fr mc ms : Nat) : Prop := match t with
  | (p, l, e, R, s, m, args, below, meth, c, Q, D, tI, tZ, tQ, A) => l = l0 ∧ p.tables.exec = Jvm.exec ∧ c.code = cc ∧ meth.sig.returnType = ret ∧ c.maxLocals = nL ∧ s.vm.findClass own = some m.cls ∧ (∀ w ∈ Gw, w.before args s = true) ∧ meth.locks = false ∧ Gs D tI tZ tQ A s ∧ fr ≤ R.frames ∧ 40 * fr ≤ R.locals ∧ mc ≤ R.cells ∧ ms ≤ R.slots
def mQ (D : va_G) (tI tZ tQ : ClassId) (A : Nat → Prop) (QQ : Option mV → Nat → mW → Prop) : Array Value → State → Outcome → State → Prop := fun _ st oc t => ∃ (r : Option mV) (n' : Nat) (w' : mW), oc = .returned (r.map mT) ∧ (∀ v, r = some v → vOk v) ∧ QQ r n' w' ∧ mR D tI tZ tQ A n' w' t.heap ∧ va_F A st t
/-- what is promised at the end -/
def RQ (t : TX) (mc ms : Nat) (QQ : Option mV → Nat → mW → Prop) : Prop := match t with
  | (p, l, e, R, s, m, args, below, meth, c, Q, D, tI, tZ, tQ, A) => Q = MQ below (mQ D tI tZ tQ A QQ) args s mc ms A
/-- a method's contract at these arguments and this world -/
def Ct (l : Launch) (y : MethodName) (bytes : ByteArray) (maxL : Nat) (ret : Option FieldType) (fr mc ms : Nat) (av : List mV) (n : Nat) (w : mW) (QQ : Option mV → Nat → mW → Prop) : Prop :=
  ∀ (D : va_G) (tI tZ tQ : ClassId) (A : Nat → Prop), Met l y (.code y bytes maxL ret :: Gw) ({ frames := fr, cells := mc, slots := ms, locals := 40 * fr }) (va_Pc (av.map mT) (fun U => Gs D tI tZ tQ A U ∧ mR D tI tZ tQ A n w U.heap ∧ stOk av)) (mQ D tI tZ tQ A QQ) mc ms A
theorem mL_mem {q : Nat × Value} : ∀ {ml : List (Option mV)} {k : Nat}, q ∈ mL k ml ↔ ∃ (j : Nat) (v : mV), ml[j]? = some (some v) ∧ q = (k + j, mT v)
  | [], k => by simp [mL]
  | none :: r, k => by
    rw [mL, mL_mem (ml := r) (k := k + 1)]
    constructor
    · rintro ⟨j, v, h1, h2⟩
      exact ⟨j + 1, v, by simpa using h1, by rw [h2]; congr 1; omega⟩
    · rintro ⟨j, v, h1, h2⟩
      cases j with
      | zero => simp at h1
      | succ j => exact ⟨j, v, by simpa using h1, by rw [h2]; congr 1; omega⟩
  | some u :: r, k => by
    rw [mL, List.mem_cons, mL_mem (ml := r) (k := k + 1)]
    constructor
    · rintro (h | ⟨j, v, h1, h2⟩)
      · exact ⟨0, u, by simp, by rw [h]; rfl⟩
      · exact ⟨j + 1, v, by simpa using h1, by rw [h2]; congr 1; omega⟩
    · rintro ⟨j, v, h1, h2⟩
      cases j with
      | zero =>
        simp at h1
        subst h1
        exact Or.inl h2
      | succ j => exact Or.inr ⟨j, v, by simpa using h1, by rw [h2]; congr 1; omega⟩
theorem mL_at {ls : Array Slot} {nL : Nat} {ml : List (Option mV)} (h : lv_has ls nL (mL 0 ml)) {i : Nat} {v : mV} (hi : ml[i]? = some (some v)) : ls[i]? = some (.val (mT v)) := by
  have := h.2.2 (i, mT v) (mL_mem.mpr ⟨i, v, hi, by simp⟩)
  exact this
/-- no long ends just ahead of place i -/
def nl (ml : List (Option mV)) (i : Nat) : Bool := match i with
  | 0 => true
  | j + 1 => match ml[j]? with
    | some (some (.inr (.inl _))) => false
    | _ => true
theorem mT_cat {v : mV} (h : ∀ z, v ≠ vl z) : (mT v).category = 1 := by
  rcases v with z | z | r
  · rfl
  · exact absurd rfl (h z)
  · cases r <;> rfl
theorem mL_sub {ls : Array Slot} {nL : Nat} {ml : List (Option mV)} {i : Nat} {v : mV} (hn : nl ml i = true) (h : lv_has ls nL ((i, mT v) :: (mL 0 ml).filter (fun q => !(q.1 == i) && !(q.1 + 1 == i && q.2.category == 2)))) : lv_has ls nL (mL 0 (ml.set i (some v))) := by
  refine ⟨h.1, h.2.1, fun q hq => ?_⟩
  obtain ⟨j, u, h1, rfl⟩ := mL_mem.mp hq
  by_cases hj : j = i
  · subst hj
    have hu : u = v := by
      have h2 : j < ml.length := by
        rcases Nat.lt_or_ge j ml.length with h3 | h3
        · exact h3
        · rw [List.set_eq_of_length_le h3, List.getElem?_eq_none h3] at h1
          cases h1
      rw [List.getElem?_set_self h2] at h1
      cases h1
      rfl
    subst hu
    exact h.2.2 _ (by simp)
  · rw [List.getElem?_set_ne (Ne.symm hj)] at h1
    refine h.2.2 (0 + j, mT u) (List.mem_cons_of_mem _ (List.mem_filter.mpr ⟨mL_mem.mpr ⟨j, u, h1, rfl⟩, ?_⟩))
    have e0 : 0 + j = j := Nat.zero_add j
    rw [e0]
    by_cases hji : j + 1 = i
    · subst hji
      have hu : ∀ z, u ≠ vl z := by
        intro z hz
        subst hz
        simp [nl, h1] at hn
      simp [mT_cat hu]
    · simp [hj, hji]
theorem mlOk_set {ml : List (Option mV)} {i : Nat} {v : mV} (h : mlOk ml) (hv : vOk v) : mlOk (ml.set i (some v)) := by
  intro u hu
  rcases List.mem_or_eq_of_mem_set hu with h1 | h1
  · exact h u h1
  · cases h1
    exact hv
theorem mlOk_at {ml : List (Option mV)} (h : mlOk ml) {i : Nat} {v : mV} (hi : ml[i]? = some (some v)) : vOk v := h v (List.mem_of_getElem? hi)
theorem stOk_c {v : mV} {st : List mV} : stOk (v :: st) ↔ vOk v ∧ stOk st := by
  unfold stOk
  rw [List.forall_mem_cons]
section JR
variable {t : TX} {l : Launch} {cc : ByteArray} {own : String} {nL : Nat} {ret : Option FieldType} {fr mc ms kc ks pc n : Nat} {ml : List (Option mV)} {st : List mV} {w : mW}
theorem x_iconst (C : Cb t l cc own nL ret fr mc ms) {z : Int} (hd : decode cc pc = .ok (.iconst z, 1)) (hz : iR z) (k : J t kc ks (pc + 1) ml (vi z :: st) n w) : J t kc ks pc ml st n w := by
  obtain ⟨p, l1, e, R, s, m, args, below, meth, c, Q, D, tI, tZ, tQ, A⟩ := t
  obtain ⟨-, hx, hb, -⟩ := C
  intro H locs ls hR hS hl ho hs
  exact lv_iconst hx hb hd rfl (k H locs ls hR hS hl ho (stOk_c.mpr ⟨hz, hs⟩))
theorem x_bipush (C : Cb t l cc own nL ret fr mc ms) {z : Int} (hd : decode cc pc = .ok (.bipush z, 2)) (hz : -128 ≤ z ∧ z < 128) (k : J t kc ks (pc + 2) ml (vi z :: st) n w) : J t kc ks pc ml st n w := by
  obtain ⟨p, l1, e, R, s, m, args, below, meth, c, Q, D, tI, tZ, tQ, A⟩ := t
  obtain ⟨-, hx, hb, -⟩ := C
  intro H locs ls hR hS hl ho hs
  have hz2 : iR z := ⟨by omega, by omega⟩
  refine lv_bipush (v := Int32.ofInt z) hx hb hd ?_ (k H locs ls hR hS hl ho (stOk_c.mpr ⟨hz2, hs⟩))
  rw [← Int32.ofInt_int8ToInt, Int8.toInt_ofInt_of_le (by omega) (by omega)]
theorem x_sipush (C : Cb t l cc own nL ret fr mc ms) {z : Int} (hd : decode cc pc = .ok (.sipush z, 3)) (hz : -32768 ≤ z ∧ z < 32768) (k : J t kc ks (pc + 3) ml (vi z :: st) n w) : J t kc ks pc ml st n w := by
  obtain ⟨p, l1, e, R, s, m, args, below, meth, c, Q, D, tI, tZ, tQ, A⟩ := t
  obtain ⟨-, hx, hb, -⟩ := C
  intro H locs ls hR hS hl ho hs
  have hz2 : iR z := ⟨by omega, by omega⟩
  refine lv_sipush (v := Int32.ofInt z) hx hb hd ?_ (k H locs ls hR hS hl ho (stOk_c.mpr ⟨hz2, hs⟩))
  rw [← Int32.ofInt_int16ToInt, Int16.toInt_ofInt_of_le (by omega) (by omega)]
theorem x_iadd (C : Cb t l cc own nL ret fr mc ms) {a b : Int} (hd : decode cc pc = .ok (.iadd, 1)) (hr : iR (a + b)) (k : J t kc ks (pc + 1) ml (vi (a + b) :: st) n w) : J t kc ks pc ml (vi b :: vi a :: st) n w := by
  obtain ⟨p, l1, e, R, s, m, args, below, meth, c, Q, D, tI, tZ, tQ, A⟩ := t
  obtain ⟨-, hx, hb, -⟩ := C
  intro H locs ls hR hS hl ho hs
  have hs2 := (stOk_c.mp (stOk_c.mp hs).2).2
  have := k H locs ls hR hS hl ho (stOk_c.mpr ⟨hr, hs2⟩)
  refine lv_iadd hx hb hd ?_
  rw [← Int32.ofInt_add]
  exact this
theorem x_isub (C : Cb t l cc own nL ret fr mc ms) {a b : Int} (hd : decode cc pc = .ok (.isub, 1)) (hr : iR (a - b)) (k : J t kc ks (pc + 1) ml (vi (a - b) :: st) n w) : J t kc ks pc ml (vi b :: vi a :: st) n w := by
  obtain ⟨p, l1, e, R, s, m, args, below, meth, c, Q, D, tI, tZ, tQ, A⟩ := t
  obtain ⟨-, hx, hb, -⟩ := C
  intro H locs ls hR hS hl ho hs
  have hs2 := (stOk_c.mp (stOk_c.mp hs).2).2
  have := k H locs ls hR hS hl ho (stOk_c.mpr ⟨hr, hs2⟩)
  refine lv_isub hx hb hd ?_
  rw [← Int32.ofInt_sub]
  exact this
theorem x_imul (C : Cb t l cc own nL ret fr mc ms) {a b : Int} (hd : decode cc pc = .ok (.imul, 1)) (hr : iR (a * b)) (k : J t kc ks (pc + 1) ml (vi (a * b) :: st) n w) : J t kc ks pc ml (vi b :: vi a :: st) n w := by
  obtain ⟨p, l1, e, R, s, m, args, below, meth, c, Q, D, tI, tZ, tQ, A⟩ := t
  obtain ⟨-, hx, hb, -⟩ := C
  intro H locs ls hR hS hl ho hs
  have hs2 := (stOk_c.mp (stOk_c.mp hs).2).2
  have := k H locs ls hR hS hl ho (stOk_c.mpr ⟨hr, hs2⟩)
  refine lv_imul hx hb hd ?_
  rw [← Int32.ofInt_mul]
  exact this
theorem x_idiv (C : Cb t l cc own nL ret fr mc ms) {a b : Int} (hd : decode cc pc = .ok (.idiv, 1)) (h0 : 0 ≤ a) (h1 : 0 < b) (k : J t kc ks (pc + 1) ml (vi (a / b) :: st) n w) : J t kc ks pc ml (vi b :: vi a :: st) n w := by
  obtain ⟨p, l1, e, R, s, m, args, below, meth, c, Q, D, tI, tZ, tQ, A⟩ := t
  obtain ⟨-, hx, hb, -⟩ := C
  intro H locs ls hR hS hl ho hs
  obtain ⟨ob, hs1⟩ := stOk_c.mp hs
  obtain ⟨oa, hs2⟩ := stOk_c.mp hs1
  obtain ⟨e1, e2⟩ := iR_div oa ob h0 h1
  have := k H locs ls hR hS hl ho (stOk_c.mpr ⟨e2, hs2⟩)
  refine lv_idiv hx hb hd (fun q => ?_) ?_
  · have := (iR_eq ob iR_0).mp (q.trans iR_z.symm)
    omega
  · rw [e1]
    exact this
theorem x_irem (C : Cb t l cc own nL ret fr mc ms) {a b : Int} (hd : decode cc pc = .ok (.irem, 1)) (h0 : 0 ≤ a) (h1 : 0 < b) (k : J t kc ks (pc + 1) ml (vi (a % b) :: st) n w) : J t kc ks pc ml (vi b :: vi a :: st) n w := by
  obtain ⟨p, l1, e, R, s, m, args, below, meth, c, Q, D, tI, tZ, tQ, A⟩ := t
  obtain ⟨-, hx, hb, -⟩ := C
  intro H locs ls hR hS hl ho hs
  obtain ⟨ob, hs1⟩ := stOk_c.mp hs
  obtain ⟨oa, hs2⟩ := stOk_c.mp hs1
  obtain ⟨e1, e2⟩ := iR_rem oa ob h0 h1
  have := k H locs ls hR hS hl ho (stOk_c.mpr ⟨e2, hs2⟩)
  refine lv_irem hx hb hd (fun q => ?_) ?_
  · have := (iR_eq ob iR_0).mp (q.trans iR_z.symm)
    omega
  · rw [e1]
    exact this
theorem x_goto (C : Cb t l cc own nL ret fr mc ms) {off : Int} {tgt : Nat} (hd : decode cc pc = .ok (.goto off, 3)) (ht : (pc : Int) + off = (tgt : Int)) (k : J t kc ks tgt ml st n w) : J t kc ks pc ml st n w := by
  obtain ⟨p, l1, e, R, s, m, args, below, meth, c, Q, D, tI, tZ, tQ, A⟩ := t
  obtain ⟨-, hx, hb, -⟩ := C
  intro H locs ls hR hS hl ho hs
  exact lv_goto hx hb hd ht (k H locs ls hR hS hl ho hs)
theorem x_dup (C : Cb t l cc own nL ret fr mc ms) {v : mV} (hd : decode cc pc = .ok (.dup, 1)) (hc : (mT v).category = 1) (k : J t kc ks (pc + 1) ml (v :: v :: st) n w) : J t kc ks pc ml (v :: st) n w := by
  obtain ⟨p, l1, e, R, s, m, args, below, meth, c, Q, D, tI, tZ, tQ, A⟩ := t
  obtain ⟨-, hx, hb, -⟩ := C
  intro H locs ls hR hS hl ho hs
  exact lv_dup hx hb hd hc (k H locs ls hR hS hl ho (stOk_c.mpr ⟨(stOk_c.mp hs).1, hs⟩))
theorem x_dup2 (C : Cb t l cc own nL ret fr mc ms) {v u : mV} (hd : decode cc pc = .ok (.dup2, 1)) (hc : (mT v).category = 1) (hu : (mT u).category = 1) (k : J t kc ks (pc + 1) ml (v :: u :: v :: u :: st) n w) : J t kc ks pc ml (v :: u :: st) n w := by
  obtain ⟨p, l1, e, R, s, m, args, below, meth, c, Q, D, tI, tZ, tQ, A⟩ := t
  obtain ⟨-, hx, hb, -⟩ := C
  intro H locs ls hR hS hl ho hs
  obtain ⟨o1, o2⟩ := stOk_c.mp hs
  exact lv_dup2_11 hx hb hd hc hu (k H locs ls hR hS hl ho (stOk_c.mpr ⟨o1, stOk_c.mpr ⟨(stOk_c.mp o2).1, hs⟩⟩))
theorem x_pop (C : Cb t l cc own nL ret fr mc ms) {v : mV} (hd : decode cc pc = .ok (.pop, 1)) (hc : (mT v).category = 1) (k : J t kc ks (pc + 1) ml st n w) : J t kc ks pc ml (v :: st) n w := by
  obtain ⟨p, l1, e, R, s, m, args, below, meth, c, Q, D, tI, tZ, tQ, A⟩ := t
  obtain ⟨-, hx, hb, -⟩ := C
  intro H locs ls hR hS hl ho hs
  exact lv_pop hx hb hd hc (k H locs ls hR hS hl ho (stOk_c.mp hs).2)
/-- a local is read -/
theorem x_iload_n (C : Cb t l cc own nL ret fr mc ms) {i : Fin 4} {z : Int} (hd : decode cc pc = .ok (.iload_n i, 1)) (hi : ml[(i : Nat)]? = some (some (vi z))) (k : J t kc ks (pc + 1) ml (vi z :: st) n w) : J t kc ks pc ml st n w := by
  obtain ⟨p, l1, e, R, s, m, args, below, meth, c, Q, D, tI, tZ, tQ, A⟩ := t
  obtain ⟨-, hx, hb, -⟩ := C
  intro H locs ls hR hS hl ho hs
  exact lv_iload_n hx hb hd rfl (mL_at hl hi) (k H locs ls hR hS hl ho (stOk_c.mpr ⟨mlOk_at ho hi, hs⟩))
theorem x_iload (C : Cb t l cc own nL ret fr mc ms) {i : Nat} {z : Int} (hd : decode cc pc = .ok (.iload i, 2)) (hi : ml[i]? = some (some (vi z))) (k : J t kc ks (pc + 2) ml (vi z :: st) n w) : J t kc ks pc ml st n w := by
  obtain ⟨p, l1, e, R, s, m, args, below, meth, c, Q, D, tI, tZ, tQ, A⟩ := t
  obtain ⟨-, hx, hb, -⟩ := C
  intro H locs ls hR hS hl ho hs
  exact lv_iload hx hb hd (mL_at hl hi) (k H locs ls hR hS hl ho (stOk_c.mpr ⟨mlOk_at ho hi, hs⟩))
theorem x_aload_n (C : Cb t l cc own nL ret fr mc ms) {i : Fin 4} {a : Nat} (hd : decode cc pc = .ok (.aload_n i, 1)) (hi : ml[(i : Nat)]? = some (some (vr a))) (k : J t kc ks (pc + 1) ml (vr a :: st) n w) : J t kc ks pc ml st n w := by
  obtain ⟨p, l1, e, R, s, m, args, below, meth, c, Q, D, tI, tZ, tQ, A⟩ := t
  obtain ⟨-, hx, hb, -⟩ := C
  intro H locs ls hR hS hl ho hs
  exact lv_aload_n hx hb hd rfl (mL_at hl hi) (k H locs ls hR hS hl ho (stOk_c.mpr ⟨trivial, hs⟩))
theorem x_lload_n (C : Cb t l cc own nL ret fr mc ms) {i : Fin 4} {z : Int} (hd : decode cc pc = .ok (.lload_n i, 1)) (hi : ml[(i : Nat)]? = some (some (vl z))) (k : J t kc ks (pc + 1) ml (vl z :: st) n w) : J t kc ks pc ml st n w := by
  obtain ⟨p, l1, e, R, s, m, args, below, meth, c, Q, D, tI, tZ, tQ, A⟩ := t
  obtain ⟨-, hx, hb, -⟩ := C
  intro H locs ls hR hS hl ho hs
  exact lv_lload_n hx hb hd rfl (mL_at hl hi) (k H locs ls hR hS hl ho (stOk_c.mpr ⟨mlOk_at ho hi, hs⟩))
theorem x_lload (C : Cb t l cc own nL ret fr mc ms) {i : Nat} {z : Int} (hd : decode cc pc = .ok (.lload i, 2)) (hi : ml[i]? = some (some (vl z))) (k : J t kc ks (pc + 2) ml (vl z :: st) n w) : J t kc ks pc ml st n w := by
  obtain ⟨p, l1, e, R, s, m, args, below, meth, c, Q, D, tI, tZ, tQ, A⟩ := t
  obtain ⟨-, hx, hb, -⟩ := C
  intro H locs ls hR hS hl ho hs
  exact lv_lload hx hb hd (mL_at hl hi) (k H locs ls hR hS hl ho (stOk_c.mpr ⟨mlOk_at ho hi, hs⟩))
/-- a local is written -/
theorem x_istore_n (C : Cb t l cc own nL ret fr mc ms) {i : Fin 4} {z : Int} (hd : decode cc pc = .ok (.istore_n i, 1)) (hi : (i : Nat) < nL) (hn : nl ml i = true) (k : J t kc ks (pc + 1) (ml.set i (some (vi z))) st n w) : J t kc ks pc ml (vi z :: st) n w := by
  obtain ⟨p, l1, e, R, s, m, args, below, meth, c, Q, D, tI, tZ, tQ, A⟩ := t
  obtain ⟨-, hx, hb, -, hml, -⟩ := C
  intro H locs ls hR hS hl ho hs
  obtain ⟨o1, o2⟩ := stOk_c.mp hs
  exact lv_istore_n hx hb hd rfl hl (by rw [hml]; exact hi) rfl (fun ls' hl' => k H locs ls' hR hS (mL_sub hn hl') (mlOk_set ho o1) o2)
theorem x_istore (C : Cb t l cc own nL ret fr mc ms) {i : Nat} {z : Int} (hd : decode cc pc = .ok (.istore i, 2)) (hi : i < nL) (hn : nl ml i = true) (k : J t kc ks (pc + 2) (ml.set i (some (vi z))) st n w) : J t kc ks pc ml (vi z :: st) n w := by
  obtain ⟨p, l1, e, R, s, m, args, below, meth, c, Q, D, tI, tZ, tQ, A⟩ := t
  obtain ⟨-, hx, hb, -, hml, -⟩ := C
  intro H locs ls hR hS hl ho hs
  obtain ⟨o1, o2⟩ := stOk_c.mp hs
  exact lv_istore hx hb hd hl (by rw [hml]; exact hi) rfl (fun ls' hl' => k H locs ls' hR hS (mL_sub hn hl') (mlOk_set ho o1) o2)
theorem x_astore_n (C : Cb t l cc own nL ret fr mc ms) {i : Fin 4} {a : Nat} (hd : decode cc pc = .ok (.astore_n i, 1)) (hi : (i : Nat) < nL) (hn : nl ml i = true) (k : J t kc ks (pc + 1) (ml.set i (some (vr a))) st n w) : J t kc ks pc ml (vr a :: st) n w := by
  obtain ⟨p, l1, e, R, s, m, args, below, meth, c, Q, D, tI, tZ, tQ, A⟩ := t
  obtain ⟨-, hx, hb, -, hml, -⟩ := C
  intro H locs ls hR hS hl ho hs
  obtain ⟨o1, o2⟩ := stOk_c.mp hs
  exact lv_astore_n hx hb hd rfl hl (by rw [hml]; exact hi) rfl (fun ls' hl' => k H locs ls' hR hS (mL_sub (v := vr a) hn hl') (mlOk_set ho trivial) o2)
theorem x_iinc (C : Cb t l cc own nL ret fr mc ms) {i : Nat} {d z : Int} (hd : decode cc pc = .ok (.iinc i d, 3)) (hg : ml[i]? = some (some (vi z))) (hi : i < nL) (hn : nl ml i = true) (hr : iR (z + d)) (k : J t kc ks (pc + 3) (ml.set i (some (vi (z + d)))) st n w) : J t kc ks pc ml st n w := by
  obtain ⟨p, l1, e, R, s, m, args, below, meth, c, Q, D, tI, tZ, tQ, A⟩ := t
  obtain ⟨-, hx, hb, -, hml, -⟩ := C
  intro H locs ls hR hS hl ho hs
  obtain ⟨k0, hk0⟩ := List.getElem?_of_mem (mL_mem.mpr ⟨i, vi z, hg, rfl⟩ : (0 + i, mT (vi z)) ∈ mL 0 ml)
  rw [Nat.zero_add] at hk0
  refine lv_iinc (v := Int32.ofInt (z + d)) hx hb hd hl hk0 (Int32.ofInt_add z d).symm (by rw [hml]; exact hi) rfl (fun ls' hl' => ?_)
  exact k H locs ls' hR hS (mL_sub (v := vi (z + d)) hn hl') (mlOk_set ho hr) hs
end JR
