/-! ===== entry, ends, calls ===== -/
def eml (av : List mV) (maxL : Nat) : List (Option mV) := av.map some ++ List.replicate (maxL - av.length) none
def noL (v : mV) : Bool := match v with
  | .inr (.inl _) => false
  | _ => true
theorem noL_cat {v : mV} (h : noL v = true) : (mT v).category = 1 := mT_cat (fun z hz => by subst hz; cases h)
theorem eml_sub : ∀ (av : List mV) (r k : Nat), av.all noL = true → ∀ q, q ∈ mL k (av.map some ++ List.replicate r none) → q ∈ lv_args k (av.map mT)
  | [], r, k, _, q, hq => by
    exfalso
    obtain ⟨j, v, h1, -⟩ := mL_mem.mp hq
    simp [List.getElem?_replicate] at h1
  | v :: av, r, k, h, q, hq => by
    rw [List.all_cons, Bool.and_eq_true] at h
    simp only [List.map_cons, List.cons_append, mL, List.mem_cons] at hq
    simp only [List.map_cons, lv_args, List.mem_cons]
    rw [if_neg (by rw [noL_cat h.1]; decide)]
    rcases hq with hq | hq
    · exact Or.inl hq
    · exact Or.inr (eml_sub av r (k + 1) h.2 q hq)
theorem lg_sl_len : ∀ (av : List mV), av.all noL = true → (lg_sl (av.map mT)).length = av.length
  | [], _ => rfl
  | v :: av, h => by
    rw [List.all_cons, Bool.and_eq_true] at h
    have := lg_sl_len av h.2
    simp only [lg_sl, List.map_cons, List.flatMap_cons, List.length_append] at this ⊢
    rw [this, if_neg (by rw [noL_cat h.1]; decide)]
    simp; omega
theorem Ct.ofN {l : Launch} {y : MethodName} {bytes : ByteArray} {maxL : Nat} {ret : Option FieldType} {fr mc ms np : Nat} {av : List mV} {n : Nat} {w : mW} {QQ : Option mV → Nat → mW → Prop} (ky : kY y bytes maxL ret np) (hav : av.all noL = true) (hlen : av.length ≤ maxL)
    (body : ∀ t : TX, Cb t l bytes y.cls maxL ret fr mc ms → RQ t mc ms QQ → tN t = y.name → J t 0 0 0 (eml av maxL) [] n w) : Ct l y bytes maxL ret fr mc ms av n w QQ := by
  intro D tI tZ tQ A
  refine Met.ofW (cc := bytes) (maxL := maxL) (ret := ret) ky.2.2.2.2.2.2 rfl ?_
  intro p e s m args below meth c s₁ B hml hv
  obtain ⟨rfl, hG, hR, hok⟩ := hv
  have hts := atoms_spec (ws := Cond.code y bytes maxL ret :: Gw) B.pre
  have hown : s.vm.findClass y.cls = some m.cls := findClass_of_methodNamed B.named
  have hnm : meth.name = y.name := (name_of_methodNamed B.named B.method).1
  have hJ := body (p, l, e, { frames := fr, cells := mc, slots := ms, locals := 40 * fr }, s, m, (av.map mT).toArray, below, meth, c, _, D, tI, tZ, tQ, A) ⟨rfl, B.exec, B.bytes, B.returns, hml, hown, fun w h => hts w (List.mem_cons_of_mem _ h), B.notSynchronized, hG, Nat.le_refl fr, Nat.le_refl (40 * fr), Nat.le_refl mc, Nat.le_refl ms⟩ rfl hnm
  rw [lg_entry_eq]
  have hent := lv_entry (av.map mT) (n := maxL) (by rw [lg_sl_len av hav]; exact hlen)
  refine hJ s.heap [] _ hR va_S.rf ⟨hent.1.trans hml.symm, hent.2.1, fun q hq => hent.2.2 q (eml_sub av _ 0 hav q hq)⟩ ?_ (fun v hv => by cases hv)
  intro v hv
  unfold eml at hv
  rcases List.mem_append.mp hv with h | h
  · obtain ⟨u, hu, e1⟩ := List.mem_map.mp h
    cases e1
    exact hok _ hu
  · have := List.eq_of_mem_replicate h
    cases this
theorem Ct.of {l : Launch} {y : MethodName} {bytes : ByteArray} {maxL : Nat} {ret : Option FieldType} {fr mc ms np : Nat} {av : List mV} {n : Nat} {w : mW} {QQ : Option mV → Nat → mW → Prop} (ky : kY y bytes maxL ret np) (hav : av.all noL = true) (hlen : av.length ≤ maxL)
    (body : ∀ t : TX, Cb t l bytes y.cls maxL ret fr mc ms → RQ t mc ms QQ → J t 0 0 0 (eml av maxL) [] n w) : Ct l y bytes maxL ret fr mc ms av n w QQ := Ct.ofN ky hav hlen (fun t C Q _ => body t C Q)
section JE
variable {t : TX} {l : Launch} {cc : ByteArray} {own : String} {nL : Nat} {ret : Option FieldType} {fr mc ms kc ks pc n : Nat} {ml : List (Option mV)} {st : List mV} {w : mW} {QQ : Option mV → Nat → mW → Prop}
theorem x_iret (C : Cb t l cc own nL (some .int) fr mc ms) (hQ : RQ t mc ms QQ) {z : Int} (hd : decode cc pc = .ok (.ireturn, 1)) (hk : kc ≤ mc) (hk2 : ks ≤ ms) (q : QQ (some (vi z)) n w) : J t kc ks pc ml [vi z] n w := by
  obtain ⟨p, l1, e, R, s, m, args, below, meth, c, Q, D, tI, tZ, tQ, A⟩ := t
  obtain ⟨-, hx, hb, hr, -, -, -, hlocks, -⟩ := C
  have hQ : Q = MQ below (mQ D tI tZ tQ A QQ) args s mc ms A := hQ
  subst hQ
  intro H locs ls hR hS hl ho hs
  refine W.widen (k := mc) (n := ms) hk hk2 ?_
  exact W.iret (v := Int32.ofInt z) hx hb hr (fun t ht hW => ⟨some (vi z), n, w, rfl, fun v hv => by cases hv; exact (stOk_c.mp hs).1, q, by rw [ht]; exact hR, hS.F ht⟩) hS.2.2 hd
theorem x_zret (C : Cb t l cc own nL (some .boolean) fr mc ms) (hQ : RQ t mc ms QQ) {z : Int} (hd : decode cc pc = .ok (.ireturn, 1)) (hz : z = 0 ∨ z = 1) (hk : kc ≤ mc) (hk2 : ks ≤ ms) (q : QQ (some (vi z)) n w) : J t kc ks pc ml [vi z] n w := by
  obtain ⟨p, l1, e, R, s, m, args, below, meth, c, Q, D, tI, tZ, tQ, A⟩ := t
  obtain ⟨-, hx, hb, hr, -, -, -, hlocks, -⟩ := C
  have hQ : Q = MQ below (mQ D tI tZ tQ A QQ) args s mc ms A := hQ
  subst hQ
  intro H locs ls hR hS hl ho hs
  refine W.widen (k := mc) (n := ms) hk hk2 ?_
  exact W.zret (v := Int32.ofInt z) hx hb hr (nar_z hz).1 (fun t ht hW => ⟨some (vi z), n, w, rfl, fun v hv => by cases hv; exact (stOk_c.mp hs).1, q, by rw [ht]; exact hR, hS.F ht⟩) hS.2.2 hd
theorem x_vret (C : Cb t l cc own nL none fr mc ms) (hQ : RQ t mc ms QQ) (hd : decode cc pc = .ok (.return_, 1)) (hk : kc ≤ mc) (hk2 : ks ≤ ms) (q : QQ none n w) : J t kc ks pc ml [] n w := by
  obtain ⟨p, l1, e, R, s, m, args, below, meth, c, Q, D, tI, tZ, tQ, A⟩ := t
  obtain ⟨-, hx, hb, hr, -, -, -, hlocks, -⟩ := C
  have hQ : Q = MQ below (mQ D tI tZ tQ A QQ) args s mc ms A := hQ
  subst hQ
  intro H locs ls hR hS hl ho hs
  refine W.widen (k := mc) (n := ms) hk hk2 ?_
  exact W.vret hx hb hr (fun t ht hW => ⟨none, n, w, rfl, fun v hv => absurd hv (by simp), q, by rw [ht]; exact hR, hS.F ht⟩) hS.2.2 hd
theorem Gs.warm {D : va_G} {tI tZ tQ : ClassId} {A : Nat → Prop} {s U : State} (h : Gs D tI tZ tQ A s) (hW : s.WarmedH U.vm) (hz : s.heap.size ≤ U.heap.size) : Gs D tI tZ tQ A U :=
  ⟨va_K.moved hW.alike h.1, fun q hq => va_Nw.warmF hW (h.2.1 q hq), fun q hq => va_Nw.warmM hW (h.2.2.1 q hq), va_AO.moved hW.alike h.2.2.2.1, fun q hq => h.2.2.2.2 q (Nat.le_trans hz hq)⟩
theorem Gs.blind {D : va_G} {tI tZ tQ : ClassId} {A : Nat → Prop} {U V : State} (hv : V.vm = U.vm) (hh : V.heap = U.heap) (h : Gs D tI tZ tQ A U) : Gs D tI tZ tQ A V :=
  ⟨va_K.moved (u := U) (by rw [hv]; exact Vm.Alike.refl U.vm) h.1, fun q hq => va_Nw.same rfl hv.symm (h.2.1 q hq), fun q hq => va_Nw.same rfl hv.symm (h.2.2.1 q hq), va_AO.moved (u := U) (by rw [hv]; exact Vm.Alike.refl U.vm) h.2.2.2.1, fun q hq => h.2.2.2.2 q (by rw [← hh]; exact hq)⟩
theorem mPc_blind {D : va_G} {tI tZ tQ : ClassId} {A : Nat → Prop} {av : List mV} {n : Nat} {w : mW} : FrameBlind (va_Pc (av.map mT) (fun U => Gs D tI tZ tQ A U ∧ mR D tI tZ tQ A n w U.heap ∧ stOk av)) := fun a U g mk q => ⟨q.1, q.2.1.blind (U := U) (V := U.calling g mk a) rfl rfl, q.2.2.1, q.2.2.2⟩
/-- behind a call -/
theorem x_back {p : Program} {l : Launch} {e : Env} {R : Room} {s : State} {m : MethodId} {args : Array Value} {below : List Frame} {meth : Method} {c : Code} {Q : State → Prop} {D : va_G} {tI tZ tQ : ClassId} {A : Nat → Prop} {H : Heap} {locs : List Loc} {ls : Array Slot} {mc' ms' : Nat} {rest : List mV} {g : JFrame} {a : Array Value}
    (hg : g = F0 m pc ls g.stack) (run : va_Run p l e R s m args below meth c H locs kc ks mc' ms' g (rest.map mT) (mQ D tI tZ tQ A QQ a) A) (hS : va_S A s.heap H locs) (hl : lv_has ls c.maxLocals (mL 0 ml)) (ho : mlOk ml) (hs : stOk rest)
    (kk : ∀ r n' w', QQ r n' w' → J (p, l, e, R, s, m, args, below, meth, c, Q, D, tI, tZ, tQ, A) (kc + mc') (ks + ms') (pc + 3) ml (r.toList ++ rest) n' w') : W p l e R s m args below meth c H locs kc ks Q g := by
  intro T hT X
  obtain ⟨v, st₀, t, T', L, h0, X', hL, e1, e2, ⟨r, n', w', hv, hok, hq, hR', hz, hk⟩, st⟩ := run T hT X
  cases hv
  rw [h0] at hz hk
  have hS2 : va_S A s.heap T'.heap (locs ++ L) := ⟨Nat.le_trans hS.1 (by rw [e1]; exact hz), fun q h1 h2 => by rw [e1, hk q (Nat.lt_of_lt_of_le h1 hS.1) h2]; exact hS.2.1 q h1 h2, fun q hq => by
      rcases List.mem_append.mp hq with h | h
      · exact hS.2.2 q h
      · exact hL q h⟩
  have hs2 : stOk (r.toList ++ rest) := by
    intro u hu
    rcases List.mem_append.mp hu with h | h
    · cases r with
      | none => simp at h
      | some x => simp at h; subst h; exact hok _ rfl
    · exact hs u h
  obtain ⟨t2, a1, b1⟩ := kk r n' w' hq T'.heap (locs ++ L) ls (by rw [e1]; exact hR') hS2 hl ho hs2 T' rfl X'
  refine ⟨t2, st t2 ?_, b1⟩
  rw [hg]
  have e5 : (r.map mT).toList ++ rest.map mT = (r.toList ++ rest).map mT := by cases r <;> simp
  show Steps _ _ _ (T'.setTop (F0 m (pc + 3) ls ((r.map mT).toList ++ rest.map mT))) t2
  rw [e5]
  exact a1
theorem cat_map (rest : List mV) : ((rest.map mT).map fun v => v.category) = rest.map (fun v => (mT v).category) := by simp
theorem x_callV (C : Cb t l cc own nL ret fr mc ms) {idx maxL np ci fr' mc' ms' a : Nat} {y : MethodName} {bytes : ByteArray} {ret' : Option FieldType} {As rest fs : List mV} (hd : decode cc pc = .ok (.invokevirtual idx, 3)) (ky : kY y bytes maxL ret' np) (kn : kN y ci) (km : kM kNm own idx y) (hM : Ct l y bytes maxL ret' fr' mc' ms' (vr a :: As) n w QQ) (hw : w a = some (co ci fs)) (hn : As.length = np) (hfr : fr' + 1 ≤ fr) (hc : kc + mc' ≤ mc) (hcs : ks + ms' ≤ ms) (hcat : (rest.map (fun v => (mT v).category)).sum ≤ 8) (hst : st = As.reverse ++ vr a :: rest)
    (kk : ∀ r n' w', QQ r n' w' → J t (kc + mc') (ks + ms') (pc + 3) ml (r.toList ++ rest) n' w') : J t kc ks pc ml st n w := by
  subst hst
  obtain ⟨p, l1, e, R, s, m, args, below, meth, c, Q, D, tI, tZ, tQ, A⟩ := t
  obtain ⟨rfl, hx, hb, -, hml, hown, hts, -, hG, hR1, hR2, hR3, hR4⟩ := C
  intro H locs ls hR hS hl ho hs
  obtain ⟨y1, y2, y3, y4, y5, y6, y7⟩ := ky
  obtain ⟨n1, n2, T, N, n3⟩ := kn
  obtain ⟨hok, hA, hat⟩ := hR.2 a _ hw
  have hs3 : stOk (vr a :: As) := fun v hv => hs v (by rcases List.mem_cons.mp hv with h | h <;> simp [h])
  have hs4 : stOk rest := fun v hv => hs v (by simp [hv])
  have hGG : GoodIn Gw (Cond.code y bytes maxL ret' :: Gw) := fun w h => by
    rcases List.mem_cons.mp h with h | h
    · rw [h]; exact gw_good _ y1
    · exact gw_good w h
  have hlen : ∀ sig, parseMethodDescriptor y.desc = some sig → np = sig.parameters.length := fun sig h => by
    rw [h] at y5
    exact (Option.some.inj y5).symm
  have hpre : PreV s H y.cls a (va_Pc ((vr a :: As).map mT) (fun U => Gs D tI tZ tQ A U ∧ mR D tI tZ tQ A n w U.heap ∧ stOk (vr a :: As))) (As.map mT) :=
    ⟨mPc_blind, va_recv hG.1 (va_one hat) n3 (q0 := 0) rfl, fun U hU hW => ⟨rfl, hG.warm hW (by rw [hU]; exact hS.1), by rw [hU]; exact hR, hs3⟩⟩
  have hstack : (F0 m pc ls ((As.reverse ++ vr a :: rest).map mT)).stack = (As.map mT).reverse ++ .ref a :: rest.map mT := by simp [mT, va_rf]
  have hroom : 2 * (F0 m pc ls ((As.reverse ++ vr a :: rest).map mT)).monitorRoom + ((rest.map mT).map fun v => v.category).sum ≤ 8 := lv_room (by rw [cat_map]; exact hcat)
  have hF1 : fr' + 1 ≤ R.frames := Nat.le_trans hfr hR1
  have hF2 : 8 + (maxL + 11) + 40 * fr' ≤ R.locals := by omega
  rcases km with h1 | h1
  · refine x_back rfl (va_runV (As := As.map mT) (rest := rest.map mT) (C := y.cls) ⟨hx, hb, hml, hown, hts⟩ (hM D tI tZ tQ A) ⟨⟨rfl, rfl, hF1, hF2, pay_in hts hGG, List.mem_cons_self, hts _ y1, hts _ y2, ⟨y3, y4⟩, hlen, hts _ h1⟩, hts _ n1, hts _ n2⟩ hpre rfl (by simpa using hn) (by rw [← hml]; exact hl.1) hstack hroom hd ⟨Nat.le_trans hc hR3, Nat.le_trans hcs hR4⟩) hS hl ho hs4 kk
  · refine x_back rfl (va_runVN (As := As.map mT) (rest := rest.map mT) (C := y.cls) (host := "DisplayMap") ⟨hx, hb, hml, hown, hts⟩ (hM D tI tZ tQ A) ⟨⟨⟨rfl, rfl, hF1, hF2, pay_in hts hGG, List.mem_cons_self⟩, hts _ y1, hts _ y2, ⟨y3, y4⟩, hlen, va_Nw.use rfl (hG.2.2.1 _ h1)⟩, hts _ n1, hts _ n2⟩ hpre rfl (by simpa using hn) (by rw [← hml]; exact hl.1) hstack hroom hd ⟨Nat.le_trans hc hR3, Nat.le_trans hcs hR4⟩) hS hl ho hs4 kk
theorem x_callS (C : Cb t l cc own nL ret fr mc ms) {idx maxL np fr' mc' ms' : Nat} {y : MethodName} {bytes : ByteArray} {ret' : Option FieldType} {As rest : List mV} (hd : decode cc pc = .ok (.invokestatic idx, 3)) (ky : kY y bytes maxL ret' np) (ks0 : Cond.static y ∈ Gw) (km : kM kNm own idx y) (hM : Ct l y bytes maxL ret' fr' mc' ms' As n w QQ) (hn : As.length = np) (hfr : fr' + 1 ≤ fr) (hc : kc + mc' ≤ mc) (hcs : ks + ms' ≤ ms) (hcat : (rest.map (fun v => (mT v).category)).sum ≤ 8) (hst : st = As.reverse ++ rest)
    (kk : ∀ r n' w', QQ r n' w' → J t (kc + mc') (ks + ms') (pc + 3) ml (r.toList ++ rest) n' w') : J t kc ks pc ml st n w := by
  subst hst
  obtain ⟨p, l1, e, R, s, m, args, below, meth, c, Q, D, tI, tZ, tQ, A⟩ := t
  obtain ⟨rfl, hx, hb, -, hml, hown, hts, -, hG, hR1, hR2, hR3, hR4⟩ := C
  intro H locs ls hR hS hl ho hs
  obtain ⟨y1, y2, y3, y4, y5, y6, y7⟩ := ky
  have hs3 : stOk As := fun v hv => hs v (by simp [hv])
  have hs4 : stOk rest := fun v hv => hs v (by simp [hv])
  have hGG : GoodIn Gw (Cond.code y bytes maxL ret' :: Gw) := fun w h => by
    rcases List.mem_cons.mp h with h | h
    · rw [h]; exact gw_good _ y1
    · exact gw_good w h
  have hlen : ∀ sig, parseMethodDescriptor y.desc = some sig → np = sig.parameters.length := fun sig h => by
    rw [h] at y5
    exact (Option.some.inj y5).symm
  have hpre : PreS s H (va_Pc (As.map mT) (fun U => Gs D tI tZ tQ A U ∧ mR D tI tZ tQ A n w U.heap ∧ stOk As)) (As.map mT) :=
    ⟨mPc_blind, fun U hU hW => ⟨rfl, hG.warm hW (by rw [hU]; exact hS.1), by rw [hU]; exact hR, hs3⟩⟩
  have hstack : (F0 m pc ls ((As.reverse ++ rest).map mT)).stack = (As.map mT).reverse ++ rest.map mT := by simp
  have hroom : 2 * (F0 m pc ls ((As.reverse ++ rest).map mT)).monitorRoom + ((rest.map mT).map fun v => v.category).sum ≤ 8 := lv_room (by rw [cat_map]; exact hcat)
  have hF1 : fr' + 1 ≤ R.frames := Nat.le_trans hfr hR1
  have hF2 : 8 + (maxL + 11) + 40 * fr' ≤ R.locals := by omega
  rcases km with h1 | h1
  · refine x_back rfl (va_runS (As := As.map mT) (rest := rest.map mT) ⟨hx, hb, hml, hown, hts⟩ (hM D tI tZ tQ A) ⟨⟨rfl, rfl, hF1, hF2, pay_in hts hGG, List.mem_cons_self, hts _ y1, hts _ y2, ⟨y3, y4⟩, hlen, hts _ h1⟩, hts _ ks0⟩ hpre rfl (by simpa using hn) (by rw [← hml]; exact hl.1) hstack hroom hd ⟨Nat.le_trans hc hR3, Nat.le_trans hcs hR4⟩) hS hl ho hs4 kk
  · refine x_back rfl (va_runSN (As := As.map mT) (rest := rest.map mT) (host := "DisplayMap") ⟨hx, hb, hml, hown, hts⟩ (hM D tI tZ tQ A) ⟨⟨⟨rfl, rfl, hF1, hF2, pay_in hts hGG, List.mem_cons_self⟩, hts _ y1, hts _ y2, ⟨y3, y4⟩, hlen, va_Nw.use rfl (hG.2.2.1 _ h1)⟩, hts _ ks0, trivial⟩ hpre rfl (by simpa using hn) (by rw [← hml]; exact hl.1) hstack hroom hd ⟨Nat.le_trans hc hR3, Nat.le_trans hcs hR4⟩) hS hl ho hs4 kk
theorem x_callI (C : Cb t l cc own nL ret fr mc ms) {idx maxL np fr' mc' ms' a : Nat} {y : MethodName} {bytes : ByteArray} {As rest : List mV} (hd : decode cc pc = .ok (.invokespecial idx, 3)) (ky : kY y bytes maxL none np) (hy1 : y.name = "<init>") (ki : Cond.instanceMethod y ∈ Gw) (km : kM kNm own idx y) (hM : Ct l y bytes maxL none fr' mc' ms' (vr a :: As) n w QQ) (hn : As.length = np) (hfr : fr' + 1 ≤ fr) (hc : kc + mc' ≤ mc) (hcs : ks + ms' ≤ ms) (hcat : (rest.map (fun v => (mT v).category)).sum ≤ 8) (hst : st = As.reverse ++ vr a :: rest)
    (kk : ∀ r n' w', QQ r n' w' → J t (kc + mc') (ks + ms') (pc + 3) ml (r.toList ++ rest) n' w') : J t kc ks pc ml st n w := by
  subst hst
  obtain ⟨p, l1, e, R, s, m, args, below, meth, c, Q, D, tI, tZ, tQ, A⟩ := t
  obtain ⟨rfl, hx, hb, -, hml, hown, hts, -, hG, hR1, hR2, hR3, hR4⟩ := C
  intro H locs ls hR hS hl ho hs
  obtain ⟨y1, y2, y3, y4, y5, y6, y7⟩ := ky
  have hs3 : stOk (vr a :: As) := fun v hv => hs v (by rcases List.mem_cons.mp hv with h | h <;> simp [h])
  have hs4 : stOk rest := fun v hv => hs v (by simp [hv])
  have hGG : GoodIn Gw (Cond.code y bytes maxL none :: Gw) := fun w h => by
    rcases List.mem_cons.mp h with h | h
    · rw [h]; exact gw_good _ y1
    · exact gw_good w h
  have hlen : ∀ sig, parseMethodDescriptor y.desc = some sig → np = sig.parameters.length := fun sig h => by
    rw [h] at y5
    exact (Option.some.inj y5).symm
  have hpre : PreS s H (va_Pc ((vr a :: As).map mT) (fun U => Gs D tI tZ tQ A U ∧ mR D tI tZ tQ A n w U.heap ∧ stOk (vr a :: As))) (.ref a :: As.map mT) :=
    ⟨mPc_blind, fun U hU hW => ⟨rfl, hG.warm hW (by rw [hU]; exact hS.1), by rw [hU]; exact hR, hs3⟩⟩
  have hstack : (F0 m pc ls ((As.reverse ++ vr a :: rest).map mT)).stack = (As.map mT).reverse ++ .ref a :: rest.map mT := by simp [mT, va_rf]
  have hroom : 2 * (F0 m pc ls ((As.reverse ++ vr a :: rest).map mT)).monitorRoom + ((rest.map mT).map fun v => v.category).sum ≤ 8 := lv_room (by rw [cat_map]; exact hcat)
  have hF1 : fr' + 1 ≤ R.frames := Nat.le_trans hfr hR1
  have hF2 : 8 + (maxL + 11) + 40 * fr' ≤ R.locals := by omega
  rcases km with h1 | h1
  · refine x_back rfl (va_runI (As := As.map mT) (rest := rest.map mT) ⟨hx, hb, hml, hown, hts⟩ (hM D tI tZ tQ A) ⟨⟨rfl, rfl, hF1, hF2, pay_in hts hGG, List.mem_cons_self, hts _ y1, hts _ y2, ⟨y3, y4⟩, hlen, hts _ h1⟩, hy1, hts _ ki⟩ hpre rfl (by simpa using hn) (by rw [← hml]; exact hl.1) hstack hroom hd ⟨Nat.le_trans hc hR3, Nat.le_trans hcs hR4⟩) hS hl ho hs4 kk
  · refine x_back rfl (va_runIN (As := As.map mT) (rest := rest.map mT) (host := "DisplayMap") ⟨hx, hb, hml, hown, hts⟩ (hM D tI tZ tQ A) ⟨⟨⟨rfl, rfl, hF1, hF2, pay_in hts hGG, List.mem_cons_self⟩, hts _ y1, hts _ y2, ⟨y3, y4⟩, hlen, va_Nw.use rfl (hG.2.2.1 _ h1)⟩, hy1, hts _ ki⟩ hpre rfl (by simpa using hn) (by rw [← hml]; exact hl.1) hstack hroom hd ⟨Nat.le_trans hc hR3, Nat.le_trans hcs hR4⟩) hS hl ho hs4 kk
end JE
