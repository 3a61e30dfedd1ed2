/-! ===== switches, longs, constants, max, arraycopy, making ===== -/
section JM
variable {t : TX} {l : Launch} {cc : ByteArray} {own : String} {nL : Nat} {ret : Option FieldType} {fr mc ms kc ks pc n : Nat} {ml : List (Option mV)} {st : List mV} {w : mW}
theorem x_tabIn (C : Cb t l cc own nL ret fr mc ms) {dflt lo hi x v off : Int} {offs : Array Int} {len tgt : Nat} (hd : decode cc pc = .ok (.tableswitch dflt lo hi offs, len)) (hv : x = v) (h1 : lo ≤ v) (h2 : v ≤ hi) (ho : offs[(v - lo).toNat]? = some off) (ht : (pc : Int) + off = (tgt : Int)) (k : J t kc ks tgt ml st n w) : J t kc ks pc ml (vi x :: st) n w := by
  subst hv
  obtain ⟨p, l1, e, R, s, m, args, below, meth, c, Q, D, tI, tZ, tQ, A⟩ := t
  obtain ⟨-, hx, hb, -⟩ := C
  intro H locs ls hR hS hl ho2 hs
  obtain ⟨ox, hs2⟩ := stOk_c.mp hs
  have e1 : (Int32.ofInt x).toInt = x := iR_toInt ox
  exact lv_tableIn hx hb hd (by rw [e1]; omega) (by rw [e1]; omega) (by rw [e1]; exact ho) ht (k H locs ls hR hS hl ho2 hs2)
theorem x_tabOut (C : Cb t l cc own nL ret fr mc ms) {dflt lo hi x : Int} {offs : Array Int} {len tgt : Nat} (hd : decode cc pc = .ok (.tableswitch dflt lo hi offs, len)) (h : x < lo ∨ hi < x) (ht : (pc : Int) + dflt = (tgt : Int)) (k : J t kc ks tgt ml st n w) : J t kc ks pc ml (vi x :: st) n w := by
  obtain ⟨p, l1, e, R, s, m, args, below, meth, c, Q, D, tI, tZ, tQ, A⟩ := t
  obtain ⟨-, hx, hb, -⟩ := C
  intro H locs ls hR hS hl ho2 hs
  obtain ⟨ox, hs2⟩ := stOk_c.mp hs
  have e1 : (Int32.ofInt x).toInt = x := iR_toInt ox
  exact lv_tableOut hx hb hd (by rw [e1]; exact h) ht (k H locs ls hR hS hl ho2 hs2)
theorem x_look (C : Cb t l cc own nL ret fr mc ms) {dflt x off : Int} {ps : Array (Int × Int)} {len tgt : Nat} (hd : decode cc pc = .ok (.lookupswitch dflt ps, len)) (hp : (ps.toList.zip (ps.toList.drop 1)).all (fun (a, next) => a.1 < next.1) = true) (ho : Op.lookupswitch.offset ps.toList dflt x = off) (ht : (pc : Int) + off = (tgt : Int)) (k : J t kc ks tgt ml st n w) : J t kc ks pc ml (vi x :: st) n w := by
  obtain ⟨p, l1, e, R, s, m, args, below, meth, c, Q, D, tI, tZ, tQ, A⟩ := t
  obtain ⟨-, hx, hb, -⟩ := C
  intro H locs ls hR hS hl ho2 hs
  obtain ⟨ox, hs2⟩ := stOk_c.mp hs
  have e1 : (Int32.ofInt x).toInt = x := iR_toInt ox
  exact lv_lookup hx hb hd hp (by rw [e1]; exact ho) ht (k H locs ls hR hS hl ho2 hs2)
theorem x_i2l (C : Cb t l cc own nL ret fr mc ms) {a : Int} (hd : decode cc pc = .ok (.i2l, 1)) (k : J t kc ks (pc + 1) ml (vl a :: st) n w) : J t kc ks pc ml (vi a :: st) n w := by
  obtain ⟨p, l1, e, R, s, m, args, below, meth, c, Q, D, tI, tZ, tQ, A⟩ := t
  obtain ⟨-, hx, hb, -⟩ := C
  intro H locs ls hR hS hl ho2 hs
  obtain ⟨oa, hs2⟩ := stOk_c.mp hs
  have oa2 : iR a := oa
  have hlr : lR a := ⟨by have := oa2.1; omega, by have := oa2.2; omega⟩
  refine lv_i2l (v := Int64.ofInt a) hx hb hd ?_ (k H locs ls hR hS hl ho2 (stOk_c.mpr ⟨hlr, hs2⟩))
  rw [← Int64.toInt_inj, Int32.toInt_toInt64, iR_toInt oa2, lR_toInt hlr]
theorem x_l2i (C : Cb t l cc own nL ret fr mc ms) {a : Int} (hd : decode cc pc = .ok (.l2i, 1)) (hr : iR a) (k : J t kc ks (pc + 1) ml (vi a :: st) n w) : J t kc ks pc ml (vl a :: st) n w := by
  obtain ⟨p, l1, e, R, s, m, args, below, meth, c, Q, D, tI, tZ, tQ, A⟩ := t
  obtain ⟨-, hx, hb, -⟩ := C
  intro H locs ls hR hS hl ho2 hs
  obtain ⟨oa, hs2⟩ := stOk_c.mp hs
  exact lv_l2i (v := Int32.ofInt a) hx hb hd Int64.toInt32_ofInt (k H locs ls hR hS hl ho2 (stOk_c.mpr ⟨hr, hs2⟩))
theorem x_ladd (C : Cb t l cc own nL ret fr mc ms) {a b : Int} (hd : decode cc pc = .ok (.ladd, 1)) (hr : lR (a + b)) (k : J t kc ks (pc + 1) ml (vl (a + b) :: st) n w) : J t kc ks pc ml (vl b :: vl a :: st) n w := by
  obtain ⟨p, l1, e, R, s, m, args, below, meth, c, Q, D, tI, tZ, tQ, A⟩ := t
  obtain ⟨-, hx, hb, -⟩ := C
  intro H locs ls hR hS hl ho hs
  have hs2 := (stOk_c.mp (stOk_c.mp hs).2).2
  have := k H locs ls hR hS hl ho (stOk_c.mpr ⟨hr, hs2⟩)
  refine lv_ladd hx hb hd ?_
  rw [← Int64.ofInt_add]
  exact this
theorem x_lmul (C : Cb t l cc own nL ret fr mc ms) {a b : Int} (hd : decode cc pc = .ok (.lmul, 1)) (hr : lR (a * b)) (k : J t kc ks (pc + 1) ml (vl (a * b) :: st) n w) : J t kc ks pc ml (vl b :: vl a :: st) n w := by
  obtain ⟨p, l1, e, R, s, m, args, below, meth, c, Q, D, tI, tZ, tQ, A⟩ := t
  obtain ⟨-, hx, hb, -⟩ := C
  intro H locs ls hR hS hl ho hs
  have hs2 := (stOk_c.mp (stOk_c.mp hs).2).2
  have := k H locs ls hR hS hl ho (stOk_c.mpr ⟨hr, hs2⟩)
  refine lv_lmul hx hb hd ?_
  rw [← Int64.ofInt_mul]
  exact this
theorem x_lrem (C : Cb t l cc own nL ret fr mc ms) {a b : Int} (hd : decode cc pc = .ok (.lrem, 1)) (h0 : 0 ≤ a) (h1 : 0 < b) (k : J t kc ks (pc + 1) ml (vl (a % b) :: st) n w) : J t kc ks pc ml (vl b :: vl a :: st) n w := by
  obtain ⟨p, l1, e, R, s, m, args, below, meth, c, Q, D, tI, tZ, tQ, A⟩ := t
  obtain ⟨-, hx, hb, -⟩ := C
  intro H locs ls hR hS hl ho hs
  obtain ⟨ob, hs1⟩ := stOk_c.mp hs
  obtain ⟨oa, hs2⟩ := stOk_c.mp hs1
  have oa : lR a := oa
  have ob : lR b := ob
  have hm0 := Int.emod_nonneg a (Int.ne_of_gt h1)
  have hm1 := Int.emod_lt_of_pos a h1
  have hrr : lR (a % b) := ⟨by omega, by have := ob.2; omega⟩
  have hdd : lR (a / b) := ⟨by have := Int.ediv_nonneg h0 (Int.le_of_lt h1); omega, by have := Int.ediv_le_self b h0; have := oa.2; omega⟩
  have this := k H locs ls hR hS hl ho (stOk_c.mpr ⟨hrr, hs2⟩)
  refine lv_lrem hx hb hd (fun q => ?_) ?_
  · have h2 := congrArg Int64.toInt q
    rw [lR_toInt ob] at h2
    have h3 : (0 : Int64).toInt = 0 := by decide
    omega
  · have e0 : Int64.ofInt a / Int64.ofInt b = Int64.ofInt (a / b) := by
      rw [← Int64.toInt_inj, lR_toInt hdd, Int64.toInt_div_of_ne_right _ _ (fun h => ?_), lR_toInt oa, lR_toInt ob]
      · exact Int.tdiv_eq_ediv_of_nonneg h0
      · have h2 := congrArg Int64.toInt h
        rw [lR_toInt ob] at h2
        have h3 : (-1 : Int64).toInt = -1 := by decide
        omega
    have e2 : Int64.ofInt a - Int64.ofInt a / Int64.ofInt b * Int64.ofInt b = Int64.ofInt (a % b) := by
      rw [e0, Int.emod_def, Int64.ofInt_sub, Int64.ofInt_mul, Int64.mul_comm]
    rw [e2]
    exact this
theorem x_ldc2 (C : Cb t l cc own nL ret fr mc ms) {idx : Nat} {v : Int64} {z : Int} (hd : decode cc pc = .ok (.ldc2_w idx, 3)) (hc : Cond.constantLong own idx v ∈ Gw) (hv : v = Int64.ofInt z) (hr : lR z) (k : J t kc ks (pc + 3) ml (vl z :: st) n w) : J t kc ks pc ml st n w := by
  subst hv
  obtain ⟨p, l1, e, R, s, m, args, below, meth, c, Q, D, tI, tZ, tQ, A⟩ := t
  obtain ⟨-, hx, hb, -, -, hown, hts, -⟩ := C
  intro H locs ls hR hS hl ho hs
  exact lv_ldc2 hx hb hown (hts _ hc) hd (k H locs ls hR hS hl ho (stOk_c.mpr ⟨hr, hs⟩))
theorem x_ldc (C : Cb t l cc own nL ret fr mc ms) {idx : Nat} {v : Int32} {z : Int} (hd : decode cc pc = .ok (.ldc idx, 2)) (hc : Cond.constant own idx v ∈ Gw) (hv : v = Int32.ofInt z) (hr : iR z) (k : J t kc ks (pc + 2) ml (vi z :: st) n w) : J t kc ks pc ml st n w := by
  subst hv
  obtain ⟨p, l1, e, R, s, m, args, below, meth, c, Q, D, tI, tZ, tQ, A⟩ := t
  obtain ⟨-, hx, hb, -, -, hown, hts, -⟩ := C
  intro H locs ls hR hS hl ho hs
  exact lv_ldc hx hb hown (hts _ hc) hd (k H locs ls hR hS hl ho (stOk_c.mpr ⟨hr, hs⟩))
theorem x_lconst1 (C : Cb t l cc own nL ret fr mc ms) (hd : decode cc pc = .ok (.lconst 1, 1)) (k : J t kc ks (pc + 1) ml (vl 1 :: st) n w) : J t kc ks pc ml st n w := by
  obtain ⟨p, l1, e, R, s, m, args, below, meth, c, Q, D, tI, tZ, tQ, A⟩ := t
  obtain ⟨-, hx, hb, -⟩ := C
  intro H locs ls hR hS hl ho hs
  exact lv_lconst (v := Int64.ofInt 1) hx hb hd rfl (k H locs ls hR hS hl ho (stOk_c.mpr ⟨⟨by decide, by decide⟩, hs⟩))
theorem mL_sub2 {ls : Array Slot} {nL : Nat} {ml : List (Option mV)} {i : Nat} {v : mV} (hn : nl ml i = true) (h : lv_has ls nL ((i, mT v) :: (mL 0 ml).filter (fun q => !(q.1 == i) && (!(q.1 == i + 1) && !(q.1 + 1 == i && q.2.category == 2))))) : lv_has ls nL (mL 0 ((ml.set i (some v)).set (i + 1) none)) := by
  refine ⟨h.1, h.2.1, fun q hq => ?_⟩
  obtain ⟨j, u, h1, rfl⟩ := mL_mem.mp hq
  have hj1 : j ≠ i + 1 := by
    intro hj
    subst hj
    by_cases hlt : i + 1 < (ml.set i (some v)).length
    · rw [List.getElem?_set_self hlt] at h1
      cases h1
    · rw [List.set_eq_of_length_le (by omega), List.getElem?_eq_none (by omega)] at h1
      cases h1
  rw [List.getElem?_set_ne (Ne.symm hj1)] at h1
  by_cases hj : j = i
  · subst hj
    have hu : u = v := by
      have h2 : j < ml.length := by
        rcases Nat.lt_or_ge j ml.length with h3 | h3
        · exact h3
        · rw [List.set_eq_of_length_le h3, List.getElem?_eq_none h3] at h1
          cases h1
      rw [List.getElem?_set_self h2] at h1
      cases h1
      rfl
    subst hu
    exact h.2.2 _ (by simp)
  · rw [List.getElem?_set_ne (Ne.symm hj)] at h1
    refine h.2.2 (0 + j, mT u) (List.mem_cons_of_mem _ (List.mem_filter.mpr ⟨mL_mem.mpr ⟨j, u, h1, rfl⟩, ?_⟩))
    have e0 : 0 + j = j := Nat.zero_add j
    rw [e0]
    by_cases hji : j + 1 = i
    · subst hji
      have hu : ∀ z, u ≠ vl z := by
        intro z hz
        subst hz
        simp [nl, h1] at hn
      simp [mT_cat hu]
      omega
    · simp [hj, hji, hj1]
theorem mlOk_setN {ml : List (Option mV)} {i : Nat} (h : mlOk ml) : mlOk (ml.set i none) := by
  intro u hu
  rcases List.mem_or_eq_of_mem_set hu with h1 | h1
  · exact h u h1
  · cases h1
theorem x_lstore_n (C : Cb t l cc own nL ret fr mc ms) {i : Fin 4} {z : Int} (hd : decode cc pc = .ok (.lstore_n i, 1)) (hi : (i : Nat) + 1 < nL) (hn : nl ml i = true) (k : J t kc ks (pc + 1) ((ml.set i (some (vl z))).set (i + 1) none) st n w) : J t kc ks pc ml (vl z :: st) n w := by
  obtain ⟨p, l1, e, R, s, m, args, below, meth, c, Q, D, tI, tZ, tQ, A⟩ := t
  obtain ⟨-, hx, hb, -, hml, -⟩ := C
  intro H locs ls hR hS hl ho hs
  obtain ⟨o1, o2⟩ := stOk_c.mp hs
  exact lv_lstore_n hx hb hd rfl hl (by rw [hml]; exact hi) rfl (fun ls' hl' => k H locs ls' hR hS (mL_sub2 hn hl') (mlOk_setN (mlOk_set ho o1)) o2)
theorem x_lstore (C : Cb t l cc own nL ret fr mc ms) {i : Nat} {z : Int} (hd : decode cc pc = .ok (.lstore i, 2)) (hi : i + 1 < nL) (hn : nl ml i = true) (k : J t kc ks (pc + 2) ((ml.set i (some (vl z))).set (i + 1) none) st n w) : J t kc ks pc ml (vl z :: st) n w := by
  obtain ⟨p, l1, e, R, s, m, args, below, meth, c, Q, D, tI, tZ, tQ, A⟩ := t
  obtain ⟨-, hx, hb, -, hml, -⟩ := C
  intro H locs ls hR hS hl ho hs
  obtain ⟨o1, o2⟩ := stOk_c.mp hs
  exact lv_lstore hx hb hd hl (by rw [hml]; exact hi) rfl (fun ls' hl' => k H locs ls' hR hS (mL_sub2 hn hl') (mlOk_setN (mlOk_set ho o1)) o2)
/-- Math.max -/
theorem x_max (C : Cb t l cc own nL ret fr mc ms) {idx : Nat} {a b : Int} (hd : decode cc pc = .ok (.invokestatic idx, 3)) (hk : Cond.methodLink own idx Lib.Math.max.name ∈ Gw) (h1 : Cond.static Lib.Math.max.name ∈ Gw) (h2 : Cond.initialized "java/lang/Math" ∈ Gw) (h3 : Cond.code Lib.Math.max.name Lib.Math.max.code 2 (some .int) ∈ Gw) (hfr : 1 ≤ fr) (hkc : kc ≤ mc) (hks : ks ≤ ms) (hcat : (st.map (fun v => (mT v).category)).sum ≤ 8) (k : J t kc ks (pc + 3) ml (vi (if a < b then b else a) :: st) n w) : J t kc ks pc ml (vi b :: vi a :: st) n w := by
  obtain ⟨p, l1, e, R, s, m, args, below, meth, c, Q, D, tI, tZ, tQ, A⟩ := t
  obtain ⟨-, hx, hb, -, hml, hown, hts, -, -, hR1, hR2, hR3, hR4⟩ := C
  intro H locs ls hR hS hl ho hs
  obtain ⟨ob, hs1⟩ := stOk_c.mp hs
  obtain ⟨oa, hs2⟩ := stOk_c.mp hs1
  have om : iR (if a < b then b else a) := by split <;> assumption
  have this := k H locs ls hR hS hl ho (stOk_c.mpr ⟨om, hs2⟩)
  refine va_mmax hx hb hl.1.symm hown (hts _ hk) (hts _ h1) (hts _ h2) (hts _ h3) (Nat.le_trans hfr hR1) (by rw [cat_map]; omega) (Nat.le_trans hkc hR3) (Nat.le_trans hks hR4) hd ?_
  have e1 : (if Int32.ofInt a < Int32.ofInt b then Int32.ofInt b else Int32.ofInt a) = Int32.ofInt (if a < b then b else a) := by
    by_cases h : a < b
    · rw [if_pos h, if_pos ((iR_lt oa ob).mpr h)]
    · rw [if_neg h, if_neg (fun q => h ((iR_lt oa ob).mp q))]
  rw [e1]
  exact this
/-- System.arraycopy of a whole array of ints -/
theorem x_acopy (C : Cb t l cc own nL ret fr mc ms) {idx a0 a : Nat} {xs ys : List Int} {z : Int} (hd : decode cc pc = .ok (.invokestatic idx, 3)) (hk : Cond.methodLink own idx arraycopyName ∈ Gw) (h1 : Cond.native arraycopyName ∈ Gw) (h2 : Cond.static arraycopyName ∈ Gw) (h3 : Cond.initialized "java/lang/System" ∈ Gw) (hw0 : w a0 = some (ca xs)) (hw1 : w a = some (ca ys)) (hlx : (xs.length : Int) = z) (hly : (ys.length : Int) = z) (hfr : 1 ≤ fr) (hcat : (st.map (fun v => (mT v).category)).sum ≤ 8) (k : J t kc ks (pc + 3) ml st n (mu w a (ca xs))) : J t kc ks pc ml (vi z :: vi 0 :: vr a :: vi 0 :: vr a0 :: st) n w := by
  obtain ⟨p, l1, e, R, s, m, args, below, meth, c, Q, D, tI, tZ, tQ, A⟩ := t
  obtain ⟨-, hx, hb, -, hml, hown, hts, -, ⟨hK, -⟩, hR1, hR2, hR3, hR4⟩ := C
  intro H locs ls hR hS hl ho hs T hT X
  have oz : iR z := (stOk_c.mp hs).1
  have hs2 : stOk st := fun v hv => hs v (by simp [hv])
  obtain ⟨ok0, hA0, at0⟩ := hR.2 a0 _ hw0
  obtain ⟨ok1, hA1, at1⟩ := hR.2 a _ hw1
  have hc0 : H[a0]? = some (arrV tI xs.length (fun j => .int (Int32.ofInt (xs.getD j 0)))) := at0
  have hc1 : H[a]? = some (arrV tI ys.length (fun j => .int (Int32.ofInt (ys.getD j 0)))) := at1
  obtain ⟨-, k0, hk0, cm0, hkk0⟩ := (hK.2 0 _ rfl).1 xs.length (fun j => .int (Int32.ofInt (xs.getD j 0)))
  obtain ⟨-, k1, hk1, cm1, hkk1⟩ := (hK.2 0 _ rfl).1 ys.length (fun j => .int (Int32.ofInt (ys.getD j 0)))
  have hz0 : (0 : Int32).toInt = 0 := by decide
  have hzz : (Int32.ofInt z).toInt = z := iR_toInt oz
  have hzn : ¬ Int32.ofInt z < 0 := by rw [Int32.lt_iff_toInt_lt, hzz, hz0]; omega
  have hzc : (Int32.ofInt z).toNatClampNeg = xs.length := by rw [iR_clamp oz]; omega
  obtain ⟨vm', X', step⟩ := X.arraycopy hx hown (hts _ hk) (hts _ h1) (hts _ h2) (hts _ h3) (src := a0) (dst := a) (cs := vp_cell tI (xs.length, .inl (fun j => Int32.ofInt (xs.getD j 0)))) (cd := vp_cell tI (ys.length, .inl (fun j => Int32.ofInt (ys.getD j 0)))) (srcPos := 0) (destPos := 0) (n := Int32.ofInt z) (by rw [hT]; exact hc0) (by rw [hT]; exact hc1)
    (fun _ h => by cases h) (fun _ h => by cases h) (fun h => by cases h) (fun h => by cases h) hk0 hk1 hkk0 hkk1 (by simp [refKind]) (by decide) (by decide) hzn
    (by rw [hz0, hzz]; show ¬ _ > ((arrV tI xs.length (fun j => .int (Int32.ofInt (xs.getD j 0)))).slots.size : Int); rw [arrV_size]; omega)
    (by rw [hz0, hzz]; show ¬ _ > ((arrV tI ys.length (fun j => .int (Int32.ofInt (ys.getD j 0)))).slots.size : Int); rw [arrV_size]; omega)
    (fun vm₁ _ i hi => by
      have e : (vp_cell tI (xs.length, .inl (fun j => Int32.ofInt (xs.getD j 0)))).slots.getD ((0 : Int32).toNatClampNeg + i) .null = .int (Int32.ofInt (xs.getD ((0 : Int32).toNatClampNeg + i) 0)) := by
        show (arrV tI xs.length (fun j => .int (Int32.ofInt (xs.getD j 0)))).slots.getD _ _ = _
        have h0c : (0 : Int32).toNatClampNeg = 0 := by decide
        rw [h0c, Nat.zero_add]
        rw [hzc] at hi
        rw [Array.getD_eq_getD_getElem?, arrV_read _ _ hi]
        rfl
      refine ⟨?_, ?_⟩
      · rw [e]; rfl
      · rw [e]; exact trivial)
    (g := F0 m pc ls ((vi z :: vi 0 :: vr a :: vi 0 :: vr a0 :: st).map mT)) rfl hl.1 (rest := st.map mT) rfl (by rw [hb]; exact hd) (Nat.le_trans hfr hR1) (by show 2 * 0 + ((st.map mT).map fun v => v.category).sum + (nativeFrameWords "java/lang/System" "arraycopy" 5 + 11) ≤ _; rw [cat_map]; have h77 : nativeFrameWords "java/lang/System" "arraycopy" 5 = 7 := (by decide +kernel); rw [h77]; omega)
  have e1 : copied (vp_cell tI (xs.length, .inl (fun j => Int32.ofInt (xs.getD j 0)))) (vp_cell tI (ys.length, .inl (fun j => Int32.ofInt (ys.getD j 0)))) 0 0 (Int32.ofInt z) = arrV tI xs.length (fun j => .int (Int32.ofInt (xs.getD j 0))) := by
    have h4 : (0 : Int32).toNatClampNeg + (Int32.ofInt z).toNatClampNeg ≤ xs.length := by
      have h0c : (0 : Int32).toNatClampNeg = 0 := by decide
      rw [h0c, hzc]; omega
    have e2 := va_copied (n1 := ys.length) (dp := (0 : Int32).toNatClampNeg) (fun z => Value.int z) tI tI (fun j => Int32.ofInt (xs.getD j 0)) (fun j => Int32.ofInt (ys.getD j 0)) h4
    refine e2.trans ?_
    have hxy : ys.length = xs.length := by omega
    rw [hxy]
    congr 1
    funext j
    have h0c : (0 : Int32).toNatClampNeg = 0 := by decide
    rw [h0c, hzc]
    by_cases hj : j < xs.length
    · simp [va_cpy, hj]
    · have hx1 : xs.getD j 0 = 0 := by simp [List.getD, List.getElem?_eq_none (Nat.le_of_not_lt hj)]
      have hy1 : ys.getD j 0 = 0 := by simp [List.getD, List.getElem?_eq_none (show ys.length ≤ j by omega)]
      simp only [va_cpy]
      rw [if_neg (by omega), hx1, hy1]
  rw [e1] at X' step
  have hla : a < H.size := (Array.getElem?_eq_some_iff.mp hc1).1
  have hheap : ((T.setVm vm').setCell a (arrV tI xs.length (fun j => .int (Int32.ofInt (xs.getD j 0))))).heap = H.setIfInBounds a (arrV tI xs.length (fun j => .int (Int32.ofInt (xs.getD j 0)))) := by rw [← hT]; rfl
  have oq : ∀ q : Nat, q ≠ a → (H.setIfInBounds a (arrV tI xs.length (fun j => .int (Int32.ofInt (xs.getD j 0)))))[q]? = H[q]? := fun q hq => by simp [Array.getElem?_setIfInBounds, Ne.symm hq]
  obtain ⟨t2, a2, b2⟩ := k _ _ ls (hR.set (a := a) (c1 := ca xs) (H1 := H.setIfInBounds a (arrV tI xs.length (fun j => .int (Int32.ofInt (xs.getD j 0))))) (by simp) oq hA1 ok0 (show (H.setIfInBounds a _)[a]? = some _ by simp [Array.getElem?_setIfInBounds, hla]; rfl)) ⟨by simp; exact hS.1, fun q g1 g2 => by
      rw [oq q (fun e => g2 (by rw [e]; exact hA1))]
      exact hS.2.1 q g1 g2, fun q hq => by
      rcases List.mem_append.mp hq with h | h
      · exact hS.2.2 q h
      · obtain ⟨z, -, hz⟩ := List.mem_map.mp h
        rw [← hz]
        exact hA1⟩ hl ho hs2 _ hheap X'
  exact ⟨t2, step t2 a2, b2⟩
/-- Object's constructor -/
theorem x_objInit (C : Cb t l cc own nL ret fr mc ms) {idx a : Nat} (hd : decode cc pc = .ok (.invokespecial idx, 3)) (hk : Cond.methodLink own idx Lib.objectInit ∈ Gw) (h1 : Cond.instanceMethod Lib.objectInit ∈ Gw) (h2 : Cond.code Lib.objectInit ⟨#[0xb1]⟩ 1 none ∈ Gw) (hfr : 1 ≤ fr) (hcat : (st.map (fun v => (mT v).category)).sum ≤ 8) (k : J t kc ks (pc + 3) ml st n w) : J t kc ks pc ml (vr a :: st) n w := by
  obtain ⟨p, l1, e, R, s, m, args, below, meth, c, Q, D, tI, tZ, tQ, A⟩ := t
  obtain ⟨-, hx, hb, -, hml, hown, hts, -, -, hR1, hR2, hR3, hR4⟩ := C
  intro H locs ls hR hS hl ho hs
  exact W.objInit hx hb hown (hts _ hk) (hts _ h1) (hts _ h2) rfl hl.1 (rest := st.map mT) rfl hd (Nat.le_trans hfr hR1) (by show 2 * 0 + ((st.map mT).map fun v => v.category).sum + 12 ≤ _; rw [cat_map]; omega) (k H locs ls hR hS hl ho (stOk_c.mp hs).2)
/-- an object is made -/
theorem x_new (C : Cb t l cc own nL ret fr mc ms) {idx ci N : Nat} {Cn : String} {T : u_T} {ty : Nat → FieldType} {fs : List mV} (hd : decode cc pc = .ok (.new idx, 3)) (hc : vwCl[ci]? = some (Cn, T, N)) (hin : ∀ w ∈ u_ws Cn T N, w ∈ Gw) (hty : ∀ k, k < N → parseFieldDescriptor (T k).2.2.1 = some (ty k)) (h1 : Cond.classLink own idx Cn ∈ Gw) (h2 : Cond.instantiable Cn N ∈ Gw) (h3 : Cond.initialized Cn ∈ Gw) (hfs : ∀ j, j < N → defaultValue (ty j) = vp_V (fs.map mT) j) (hok : ∀ v ∈ fs, vOk v) (hkc : kc + 1 ≤ mc) (hks : ks + N ≤ ms) (k : J t (kc + 1) (ks + N) (pc + 3) ml (vr n :: st) (n + 1) (mu w n (co ci fs))) : J t kc ks pc ml st n w := by
  obtain ⟨p, l1, e, R, s, m, args, below, meth, c, Q, D, tI, tZ, tQ, A⟩ := t
  obtain ⟨-, hx, hb, -, hml, hown, hts, -, ⟨hK, -, -, -, hAA⟩, hR1, hR2, hR3, hR4⟩ := C
  intro H locs ls hR hS hl ho hs
  have hKn := hK.1 ci _ hc
  refine W.newcK hx hb hown (hts _ h1) (hts _ h2) (hts _ h3) rfl hd (Nat.le_trans hkc hR3) (Nat.le_trans hks hR4) hKn.2.1 hR.1 fun H1 kC hkC e1 z1 o1 => ?_
  refine k H1 locs ls (hR.push z1 o1 (hAA n (by rw [← hR.1]; exact hS.1)) hok ?_) ⟨Nat.le_trans hS.1 (by rw [z1, hR.1]; omega), fun x g1 g2 => (o1 x (by rw [← hR.1]; exact Nat.lt_of_lt_of_le g1 hS.1)).trans (hS.2.1 x g1 g2), hS.2.2⟩ hl ho (stOk_c.mpr ⟨trivial, hs⟩)
  exact ⟨_, hc, (u_born ty hts hin hKn hkC e1 hty).to hfs⟩
/-- an array of ints is made -/
theorem x_newI (C : Cb t l cc own nL ret fr mc ms) {z : Int} {N : Nat} (hd : decode cc pc = .ok (.newarray .int, 2)) (h1 : Cond.arrayClass .int ∈ Gw) (hz : z = (N : Int)) (hN : N ≤ 100000) (hkc : kc + 1 ≤ mc) (hks : ks + N ≤ ms) (k : J t (kc + 1) (ks + N) (pc + 2) ml (vr n :: st) (n + 1) (mu w n (ca (List.replicate N 0)))) : J t kc ks pc ml (vi z :: st) n w := by
  subst hz
  obtain ⟨p, l1, e, R, s, m, args, below, meth, c, Q, D, tI, tZ, tQ, A⟩ := t
  obtain ⟨-, hx, hb, -, hml, hown, hts, -, ⟨hK, -, -, -, hAA⟩, hR1, hR2, hR3, hR4⟩ := C
  intro H locs ls hR hS hl ho hs
  obtain ⟨oz, hs2⟩ := stOk_c.mp hs
  have oz : iR N := oz
  refine va_newaK (atype := .int) hx hb (hts _ h1) (g := F0 m pc ls ((vi (N : Int) :: st).map mT)) rfl hd (n := Int32.ofInt N) (N := N) (rest := st.map mT) rfl ?_ ?_ ?_ (Nat.le_trans hkc hR3) (Nat.le_trans hks hR4) hR.1 fun H1 cA e1 z1 o1 hAr hNm => ?_
  · rw [← iR_z, iR_lt oz iR_0]; omega
  · rw [iR_clamp oz]; omega
  · show N * 4 ≤ _; omega
  have hcA : cA = tI := by
    have h5 : s.vm.findClass ("[" ++ (FieldType.int).toString) = some tI := (hK.2 0 _ rfl).2
    exact Option.some.inj (hNm.symm.trans h5)
  subst hcA
  refine k H1 locs ls (hR.push z1 o1 (hAA n (by rw [← hR.1]; exact hS.1)) ⟨fun _ x hx => by rw [List.eq_of_mem_replicate hx]; exact iR_0, fun h => absurd rfl h⟩ ?_) ⟨Nat.le_trans hS.1 (by rw [z1, hR.1]; omega), fun x g1 g2 => (o1 x (by rw [← hR.1]; exact Nat.lt_of_lt_of_le g1 hS.1)).trans (hS.2.1 x g1 g2), hS.2.2⟩ hl ho (stOk_c.mpr ⟨trivial, hs2⟩)
  show H1[n]? = some (arrV cA (List.replicate N (0 : Int)).length (fun j => .int (Int32.ofInt ((List.replicate N (0 : Int)).getD j 0))))
  rw [e1, List.length_replicate]
  congr 2
  funext j
  have h9 : (List.replicate N (0 : Int)).getD j 0 = 0 := by
    simp only [List.getD, List.getElem?_replicate]
    split <;> rfl
  rw [h9]
  rfl
theorem x_newZ (C : Cb t l cc own nL ret fr mc ms) {z : Int} {N : Nat} (hd : decode cc pc = .ok (.newarray .boolean, 2)) (h1 : Cond.arrayClass .boolean ∈ Gw) (hz : z = (N : Int)) (hN : N ≤ 100000) (hkc : kc + 1 ≤ mc) (hks : ks + N ≤ ms) (k : J t (kc + 1) (ks + N) (pc + 2) ml (vr n :: st) (n + 1) (mu w n (cz (List.replicate N 0)))) : J t kc ks pc ml (vi z :: st) n w := by
  subst hz
  obtain ⟨p, l1, e, R, s, m, args, below, meth, c, Q, D, tI, tZ, tQ, A⟩ := t
  obtain ⟨-, hx, hb, -, hml, hown, hts, -, ⟨hK, -, -, -, hAA⟩, hR1, hR2, hR3, hR4⟩ := C
  intro H locs ls hR hS hl ho hs
  obtain ⟨oz, hs2⟩ := stOk_c.mp hs
  have oz : iR N := oz
  refine va_newaK (atype := .boolean) hx hb (hts _ h1) (g := F0 m pc ls ((vi (N : Int) :: st).map mT)) rfl hd (n := Int32.ofInt N) (N := N) (rest := st.map mT) rfl ?_ ?_ ?_ (Nat.le_trans hkc hR3) (Nat.le_trans hks hR4) hR.1 fun H1 cA e1 z1 o1 hAr hNm => ?_
  · rw [← iR_z, iR_lt oz iR_0]; omega
  · rw [iR_clamp oz]; omega
  · show N * 1 ≤ _; omega
  have hcA : cA = tZ := by
    have h5 : s.vm.findClass ("[" ++ (FieldType.boolean).toString) = some tZ := (hK.2 1 _ rfl).2
    exact Option.some.inj (hNm.symm.trans h5)
  subst hcA
  refine k H1 locs ls (hR.push z1 o1 (hAA n (by rw [← hR.1]; exact hS.1)) ⟨fun h => absurd h (by decide), fun _ x hx => by rw [List.eq_of_mem_replicate hx]; exact Or.inl rfl⟩ ?_) ⟨Nat.le_trans hS.1 (by rw [z1, hR.1]; omega), fun x g1 g2 => (o1 x (by rw [← hR.1]; exact Nat.lt_of_lt_of_le g1 hS.1)).trans (hS.2.1 x g1 g2), hS.2.2⟩ hl ho (stOk_c.mpr ⟨trivial, hs2⟩)
  show H1[n]? = some (arrV cA (List.replicate N (0 : Int)).length (fun j => .int (Int32.ofInt ((List.replicate N (0 : Int)).getD j 0))))
  rw [e1, List.length_replicate]
  congr 2
  funext j
  have h9 : (List.replicate N (0 : Int)).getD j 0 = 0 := by
    simp only [List.getD, List.getElem?_replicate]
    split <;> rfl
  rw [h9]
  rfl
theorem x_newQ (C : Cb t l cc own nL ret fr mc ms) {z : Int} {N idx : Nat} (hd : decode cc pc = .ok (.anewarray idx, 3)) (h1 : Cond.classLink own idx RX2 ∈ Gw) (hz : z = (N : Int)) (hN : N ≤ 100000) (hkc : kc + 1 ≤ mc) (hks : ks + N ≤ ms) (k : J t (kc + 1) (ks + N) (pc + 3) ml (vr n :: st) (n + 1) (mu w n (cq (List.replicate N none)))) : J t kc ks pc ml (vi z :: st) n w := by
  subst hz
  obtain ⟨p, l1, e, R, s, m, args, below, meth, c, Q, D, tI, tZ, tQ, A⟩ := t
  obtain ⟨-, hx, hb, -, hml, hown, hts, -, ⟨hK, -, -, hov, hAA⟩, hR1, hR2, hR3, hR4⟩ := C
  intro H locs ls hR hS hl ho hs
  obtain ⟨oz, hs2⟩ := stOk_c.mp hs
  have oz : iR N := oz
  have hcl : (Int32.ofInt N).toNatClampNeg = N := by rw [iR_clamp oz]; omega
  refine W.anew hx hb hown (hts _ h1) (va_AO.use hov) (g := F0 m pc ls ((vi (N : Int) :: st).map mT)) rfl hd (n := Int32.ofInt N) (rest := st.map mT) rfl ?_ ?_ (Nat.le_trans hkc hR3) ?_ fun cA kA comp f1 f2 f3 f4 => ?_
  · rw [← iR_z, iR_lt oz iR_0]; omega
  · rw [hcl]; omega
  · rw [hcl]; exact Nat.le_trans hks hR4
  have hcA : cA = tQ := by
    obtain ⟨_, _, -, -, -, h5⟩ := (hK.2 2 _ rfl).2
    exact Option.some.inj (f1.symm.trans h5)
  subst hcA
  rw [hcl]
  generalize hH1 : H.push ({ cls := cA, slots := Array.replicate N .null, vm := .none } : Cell) = H1
  have z1 : H1.size = n + 1 := by rw [← hH1, Array.size_push, hR.1]
  have e1 : H1[n]? = some (arrV cA N (fun _ => .null)) := by rw [← hH1, ← hR.1, Array.getElem?_push_size, ← arrV_new]
  have o1 : ∀ q : Nat, q < n → H1[q]? = H[q]? := fun q hq => by rw [← hH1, Array.getElem?_push, if_neg (by rw [hR.1]; exact Nat.ne_of_lt hq)]
  have hR1n := hR.1
  subst hR1n
  refine k H1 locs ls (hR.push z1 o1 (hAA _ hS.1) trivial ?_) ⟨Nat.le_trans hS.1 (by rw [z1]; omega), fun x g1 g2 => (o1 x (Nat.lt_of_lt_of_le g1 hS.1)).trans (hS.2.1 x g1 g2), hS.2.2⟩ hl ho (stOk_c.mpr ⟨trivial, hs2⟩)
  show H1[H.size]? = some (arrV cA (List.replicate N (none : Option Nat)).length (fun j => va_rf ((List.replicate N (none : Option Nat)).getD j none)))
  rw [e1, List.length_replicate]
  congr 2
  funext j
  have h9 : (List.replicate N (none : Option Nat)).getD j none = none := by
    simp only [List.getD, List.getElem?_replicate]
    split <;> rfl
  rw [h9]
  rfl
end JM
