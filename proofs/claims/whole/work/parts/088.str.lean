/-! ===== the first text: a String constant, and the methods that read it ===== -/
def txt0 : List Int := [116, 97, 98, 62, 99, 100, 101, 102, 103, 104, 105, 106, 47, 107, 108, 109, 62, 110, 111, 47, 112, 113, 114, 115, 116, 117, 118, 119, 120, 121, 122, 59, 102, 54, 44, 57, 59, 102, 49, 56, 44, 50, 49, 59, 104, 51, 44, 50, 59, 104, 49, 49, 44, 52, 59, 119, 50, 44, 55, 44, 49, 59, 98, 51, 59]
def TXT0 : String := "tab>cdefghij/klm>no/pqrstuvwxyz;f6,9;f18,21;h3,2;h11,4;w2,7,1;b3;"
theorem kyJ0_length_8abf5 : kY yJ0_length_8abf5 cJ0_length_8abf5 1 (some .int) 0 := ⟨gw_mem (i := 289) (by decide +kernel) (by decide +kernel), gw_mem (i := 123) (by decide +kernel) (by decide +kernel), by decide +kernel, by decide +kernel, by decide +kernel, by decide, by decide +kernel⟩
theorem kyJ0_charAt_5068e : kY yJ0_charAt_5068e cJ0_charAt_5068e 2 (some .char) 1 := ⟨gw_mem (i := 299) (by decide +kernel) (by decide +kernel), gw_mem (i := 123) (by decide +kernel) (by decide +kernel), by decide +kernel, by decide +kernel, by decide +kernel, by decide, by decide +kernel⟩
theorem kyJ0_coder_7d493 : kY yJ0_coder_7d493 cJ0_coder_7d493 1 (some .byte) 0 := ⟨gw_mem (i := 293) (by decide +kernel) (by decide +kernel), gw_mem (i := 123) (by decide +kernel) (by decide +kernel), by decide +kernel, by decide +kernel, by decide +kernel, by decide, by decide +kernel⟩
theorem kyJ0_isLatin1_aae02 : kY yJ0_isLatin1_aae02 cJ0_isLatin1_aae02 1 (some .boolean) 0 := ⟨gw_mem (i := 303) (by decide +kernel) (by decide +kernel), gw_mem (i := 123) (by decide +kernel) (by decide +kernel), by decide +kernel, by decide +kernel, by decide +kernel, by decide, by decide +kernel⟩
theorem kyJ0_checkIndex_df160 : kY yJ0_checkIndex_df160 cJ0_checkIndex_df160 2 none 2 := ⟨gw_mem (i := 309) (by decide +kernel) (by decide +kernel), gw_mem (i := 123) (by decide +kernel) (by decide +kernel), by decide +kernel, by decide +kernel, by decide +kernel, by decide, by decide +kernel⟩
theorem kyJ1_charAt_3b067 : kY yJ1_charAt_3b067 cJ1_charAt_3b067 2 (some .char) 2 := ⟨gw_mem (i := 306) (by decide +kernel) (by decide +kernel), gw_mem (i := 124) (by decide +kernel) (by decide +kernel), by decide +kernel, by decide +kernel, by decide +kernel, by decide, by decide +kernel⟩
theorem kyJ3_checkIndex_8e157 : kY yJ3_checkIndex_8e157 cJ3_checkIndex_8e157 3 (some .int) 3 := ⟨gw_mem (i := 314) (by decide +kernel) (by decide +kernel), gw_mem (i := 125) (by decide +kernel) (by decide +kernel), by decide +kernel, by decide +kernel, by decide +kernel, by decide, by decide +kernel⟩
theorem kn1J0_length_8abf5 : Cond.instanceMethod yJ0_length_8abf5 ∈ Gw := gw_mem (i := 287) (by decide +kernel) (by decide +kernel)
theorem kn2J0_length_8abf5 : Cond.selects yJ0_length_8abf5.cls yJ0_length_8abf5 yJ0_length_8abf5 ∈ Gw := gw_mem (i := 288) (by decide +kernel) (by decide +kernel)
theorem kn1J0_charAt_5068e : Cond.instanceMethod yJ0_charAt_5068e ∈ Gw := gw_mem (i := 297) (by decide +kernel) (by decide +kernel)
theorem kn2J0_charAt_5068e : Cond.selects yJ0_charAt_5068e.cls yJ0_charAt_5068e yJ0_charAt_5068e ∈ Gw := gw_mem (i := 298) (by decide +kernel) (by decide +kernel)
theorem kn1J0_coder_7d493 : Cond.instanceMethod yJ0_coder_7d493 ∈ Gw := gw_mem (i := 291) (by decide +kernel) (by decide +kernel)
theorem kn2J0_coder_7d493 : Cond.selects yJ0_coder_7d493.cls yJ0_coder_7d493 yJ0_coder_7d493 ∈ Gw := gw_mem (i := 292) (by decide +kernel) (by decide +kernel)
theorem kn1J0_isLatin1_aae02 : Cond.instanceMethod yJ0_isLatin1_aae02 ∈ Gw := gw_mem (i := 301) (by decide +kernel) (by decide +kernel)
theorem kn2J0_isLatin1_aae02 : Cond.selects yJ0_isLatin1_aae02.cls yJ0_isLatin1_aae02 yJ0_isLatin1_aae02 ∈ Gw := gw_mem (i := 302) (by decide +kernel) (by decide +kernel)
theorem ksJ0_checkIndex_df160 : Cond.static yJ0_checkIndex_df160 ∈ Gw := gw_mem (i := 308) (by decide +kernel) (by decide +kernel)
theorem ksJ1_charAt_3b067 : Cond.static yJ1_charAt_3b067 ∈ Gw := gw_mem (i := 305) (by decide +kernel) (by decide +kernel)
theorem ksJ3_checkIndex_8e157 : Cond.static yJ3_checkIndex_8e157 ∈ Gw := gw_mem (i := 313) (by decide +kernel) (by decide +kernel)
theorem kmS_RX4_53 : Cond.methodLink RX4 53 yJ0_length_8abf5 ∈ Gw := gw_mem (i := 286) (by decide +kernel) (by decide +kernel)
theorem kmS_RX4_59 : Cond.methodLink RX4 59 yJ0_charAt_5068e ∈ Gw := gw_mem (i := 296) (by decide +kernel) (by decide +kernel)
theorem kmS_RJ0_335 : Cond.methodLink RJ0 335 yJ0_coder_7d493 ∈ Gw := gw_mem (i := 290) (by decide +kernel) (by decide +kernel)
theorem kmS_RJ0_492 : Cond.methodLink RJ0 492 yJ0_isLatin1_aae02 ∈ Gw := gw_mem (i := 300) (by decide +kernel) (by decide +kernel)
theorem kmS_RJ0_495 : Cond.methodLink RJ0 495 yJ1_charAt_3b067 ∈ Gw := gw_mem (i := 304) (by decide +kernel) (by decide +kernel)
theorem kmS_RJ1_9 : Cond.methodLink RJ1 9 yJ0_checkIndex_df160 ∈ Gw := gw_mem (i := 307) (by decide +kernel) (by decide +kernel)
theorem kmS_RJ0_1059 : Cond.methodLink RJ0 1059 yJ3_checkIndex_8e157 ∈ Gw := gw_mem (i := 312) (by decide +kernel) (by decide +kernel)
theorem kfS_9 : Cond.fieldLink RJ0 9 "java/lang/String" "value" "[B" ∈ Gw := gw_mem (i := 1262) (by decide +kernel) (by decide +kernel)
theorem kfS_15 : Cond.fieldLink RJ0 15 "java/lang/String" "coder" "B" ∈ Gw := gw_mem (i := 1263) (by decide +kernel) (by decide +kernel)
theorem kfS_38 : Cond.fieldLink RJ0 38 "java/lang/String" "COMPACT_STRINGS" "Z" ∈ Gw := gw_mem (i := 294) (by decide +kernel) (by decide +kernel)
theorem kfS_1053 : Cond.fieldLink RJ0 1053 "jdk/internal/util/Preconditions" "SIOOBE_FORMATTER" "Ljava/util/function/BiFunction;" ∈ Gw := gw_mem (i := 310) (by decide +kernel) (by decide +kernel)

def STR (q v : Nat) (fm : Option Nat) (A : Nat → Prop) (U : State) : Prop :=
  vk_R RX4 51 TXT0 q U ∧ va_O "java/lang/String" q A U U.heap ∧ va_OF "java/lang/String" "coder" "B" (.int 0) q A U U.heap ∧ va_OF "java/lang/String" "value" "[B" (.ref v) q A U U.heap ∧ va_T .byte v 65 (fun j => .int (Int32.ofInt (txt0.getD j 0))) A U U.heap ∧ va_Z "java/lang/String" "COMPACT_STRINGS" "Z" (.int 1) A U U.heap ∧ va_Z "jdk/internal/util/Preconditions" "SIOOBE_FORMATTER" "Ljava/util/function/BiFunction;" (va_rf fm) A U U.heap
theorem STR.warm {q v : Nat} {fm : Option Nat} {A : Nat → Prop} {s U : State} {H : Heap} {locs : List Loc} (h : STR q v fm A s) (hW : s.WarmedH U.vm) (hU : U.heap = H) (hS : va_S A s.heap H locs) : STR q v fm A U := by
  obtain ⟨h1, h2, h3, h4, h5, h6, h7⟩ := h
  subst hU
  have al := hW.alike
  exact ⟨h1.warm hW, (va_O.moved al h2).kept hS.2.1, (va_OF.moved al h3).kept hS.2.1, (va_OF.moved al h4).kept hS.2.1, (va_T.moved al h5).kept hS.2.1, (va_Z.moved al h6).kept hS.2.1, (va_Z.moved al h7).kept hS.2.1⟩
theorem STR.same {q v : Nat} {fm : Option Nat} {A : Nat → Prop} {U V : State} (hv : V.vm = U.vm) (hh : V.heap = U.heap) (h : STR q v fm A U) : STR q v fm A V := by
  obtain ⟨h1, h2, h3, h4, h5, h6, h7⟩ := h
  have al : U.vm.Alike V.vm := by rw [hv]; exact Vm.Alike.refl U.vm
  refine ⟨vk_R.same hv h1, ?_, ?_, ?_, ?_, ?_, ?_⟩ <;> rw [hh]
  · exact va_O.moved al h2
  · exact va_OF.moved al h3
  · exact va_OF.moved al h4
  · exact va_T.moved al h5
  · exact va_Z.moved al h6
  · exact va_Z.moved al h7
def tS (q v : Nat) (fm : Option Nat) (t : TX) : Prop := match t with
  | (p, l, e, R, s, m, args, below, meth, c, Q, D, tI, tZ, tQ, A) => STR q v fm A s
/-- a contract of a method that reads the text -/
def CtE (q v : Nat) (fm : Option Nat) (l : Launch) (y : MethodName) (bytes : ByteArray) (maxL : Nat) (ret : Option FieldType) (fr mc ms : Nat) (av : List mV) (n : Nat) (w : mW) (QQ : Option mV → Nat → mW → Prop) : Prop :=
  ∀ (D : va_G) (tI tZ tQ : ClassId) (A : Nat → Prop), Met l y (.code y bytes maxL ret :: Gw) ({ frames := fr, cells := mc, slots := ms, locals := 40 * fr }) (va_Pc (av.map mT) (fun U => (Gs D tI tZ tQ A U ∧ STR q v fm A U) ∧ mR D tI tZ tQ A n w U.heap ∧ stOk av)) (mQ D tI tZ tQ A QQ) mc ms A
theorem mPcE_blind {q v : Nat} {fm : Option Nat} {D : va_G} {tI tZ tQ : ClassId} {A : Nat → Prop} {av : List mV} {n : Nat} {w : mW} : FrameBlind (va_Pc (av.map mT) (fun U => (Gs D tI tZ tQ A U ∧ STR q v fm A U) ∧ mR D tI tZ tQ A n w U.heap ∧ stOk av)) := fun a U g mk q => ⟨q.1, ⟨q.2.1.1.blind (U := U) (V := U.calling g mk a) rfl rfl, q.2.1.2.same (U := U) (V := U.calling g mk a) rfl rfl⟩, q.2.2.1, q.2.2.2⟩
theorem CtE.ofN {q v : Nat} {fm : Option Nat} {l : Launch} {y : MethodName} {bytes : ByteArray} {maxL : Nat} {ret : Option FieldType} {fr mc ms np : Nat} {av : List mV} {n : Nat} {w : mW} {QQ : Option mV → Nat → mW → Prop} (ky : kY y bytes maxL ret np) (hav : av.all noL = true) (hlen : av.length ≤ maxL)
    (body : ∀ t : TX, Cb t l bytes y.cls maxL ret fr mc ms → RQ t mc ms QQ → tN t = y.name → tS q v fm t → J t 0 0 0 (eml av maxL) [] n w) : CtE q v fm l y bytes maxL ret fr mc ms av n w QQ := by
  intro D tI tZ tQ A
  refine Met.ofW (cc := bytes) (maxL := maxL) (ret := ret) ky.2.2.2.2.2.2 rfl ?_
  intro p e s m args below meth c s₁ B hml hv
  obtain ⟨rfl, ⟨hG, hE⟩, hR, hok⟩ := hv
  have hts := atoms_spec (ws := Cond.code y bytes maxL ret :: Gw) B.pre
  have hown : s.vm.findClass y.cls = some m.cls := findClass_of_methodNamed B.named
  have hnm : meth.name = y.name := (name_of_methodNamed B.named B.method).1
  have hJ := body (p, l, e, { frames := fr, cells := mc, slots := ms, locals := 40 * fr }, s, m, (av.map mT).toArray, below, meth, c, _, D, tI, tZ, tQ, A) ⟨rfl, B.exec, B.bytes, B.returns, hml, hown, fun w h => hts w (List.mem_cons_of_mem _ h), B.notSynchronized, hG, Nat.le_refl fr, Nat.le_refl (40 * fr), Nat.le_refl mc, Nat.le_refl ms⟩ rfl hnm hE
  rw [lg_entry_eq]
  have hent := lv_entry (av.map mT) (n := maxL) (by rw [lg_sl_len av hav]; exact hlen)
  refine hJ s.heap [] _ hR va_S.rf ⟨hent.1.trans hml.symm, hent.2.1, fun q hq => hent.2.2 q (eml_sub av _ 0 hav q hq)⟩ ?_ (fun v hv => by cases hv)
  intro v hv
  unfold eml at hv
  rcases List.mem_append.mp hv with h | h
  · obtain ⟨u, hu, e1⟩ := List.mem_map.mp h
    cases e1
    exact hok _ hu
  · have := List.eq_of_mem_replicate h
    cases this
section JS
variable {t : TX} {l : Launch} {cc : ByteArray} {own : String} {nL : Nat} {ret : Option FieldType} {fr mc ms kc ks pc n : Nat} {ml : List (Option mV)} {st : List mV} {w : mW} {QQ : Option mV → Nat → mW → Prop} {q v : Nat} {fm : Option Nat}
/-- a call on the text -/
theorem x_callVE (C : Cb t l cc own nL ret fr mc ms) (hE : tS q v fm t) {idx maxL np fr' mc' ms' : Nat} {y : MethodName} {bytes : ByteArray} {ret' : Option FieldType} {As rest : List mV} (hd : decode cc pc = .ok (.invokevirtual idx, 3)) (ky : kY y bytes maxL ret' np) (hcl : y.cls = "java/lang/String") (n1 : Cond.instanceMethod y ∈ Gw) (n2 : Cond.selects y.cls y y ∈ Gw) (h1 : Cond.methodLink own idx y ∈ Gw) (hM : CtE q v fm l y bytes maxL ret' fr' mc' ms' (vr q :: As) n w QQ) (hn : As.length = np) (hfr : fr' + 1 ≤ fr) (hc : kc + mc' ≤ mc) (hcs : ks + ms' ≤ ms) (hcat : (rest.map (fun v => (mT v).category)).sum ≤ 8) (hst : st = As.reverse ++ vr q :: rest)
    (kk : ∀ r n' w', QQ r n' w' → J t (kc + mc') (ks + ms') (pc + 3) ml (r.toList ++ rest) n' w') : J t kc ks pc ml st n w := by
  subst hst
  obtain ⟨p, l1, e, R, s, m, args, below, meth, c, Q, D, tI, tZ, tQ, A⟩ := t
  obtain ⟨rfl, hx, hb, -, hml, hown, hts, -, hG, hR1, hR2, hR3, hR4⟩ := C
  have hE : STR q v fm A s := hE
  intro H locs ls hR hS hl ho hs
  obtain ⟨y1, y2, y3, y4, y5, y6, y7⟩ := ky
  have hs3 : stOk (vr q :: As) := fun v hv => hs v (by rcases List.mem_cons.mp hv with h | h <;> simp [h])
  have hs4 : stOk rest := fun v hv => hs v (by simp [hv])
  have hGG : GoodIn Gw (Cond.code y bytes maxL ret' :: Gw) := fun w h => by
    rcases List.mem_cons.mp h with h | h
    · rw [h]; exact gw_good _ y1
    · exact gw_good w h
  have hlen : ∀ sig, parseMethodDescriptor y.desc = some sig → np = sig.parameters.length := fun sig h => by
    rw [h] at y5
    exact (Option.some.inj y5).symm
  have hrec : ∃ cell : Cell, H[q]? = some cell ∧ cell.vm.isStatics = false ∧ s.vm.findClass y.cls = some cell.cls := by
    obtain ⟨cell, g1, g2, g3, -⟩ := hE.2.1.kept hS.2.1
    exact ⟨cell, g1, g2, by rw [hcl]; exact g3⟩
  have hpre : PreV s H y.cls q (va_Pc ((vr q :: As).map mT) (fun U => (Gs D tI tZ tQ A U ∧ STR q v fm A U) ∧ mR D tI tZ tQ A n w U.heap ∧ stOk (vr q :: As))) (As.map mT) :=
    ⟨mPcE_blind, hrec, fun U hU hW => ⟨rfl, ⟨hG.warm hW (by rw [hU]; exact hS.1), hE.warm hW hU hS⟩, by rw [hU]; exact hR, hs3⟩⟩
  have hstack : (F0 m pc ls ((As.reverse ++ vr q :: rest).map mT)).stack = (As.map mT).reverse ++ .ref q :: rest.map mT := by simp [mT, va_rf]
  have hroom : 2 * (F0 m pc ls ((As.reverse ++ vr q :: rest).map mT)).monitorRoom + ((rest.map mT).map fun v => v.category).sum ≤ 8 := lv_room (by rw [cat_map]; exact hcat)
  have hF1 : fr' + 1 ≤ R.frames := Nat.le_trans hfr hR1
  have hF2 : 8 + (maxL + 11) + 40 * fr' ≤ R.locals := by omega
  exact x_back rfl (va_runV (As := As.map mT) (rest := rest.map mT) (C := y.cls) ⟨hx, hb, hml, hown, hts⟩ (hM D tI tZ tQ A) ⟨⟨rfl, rfl, hF1, hF2, pay_in hts hGG, List.mem_cons_self, hts _ y1, hts _ y2, ⟨y3, y4⟩, hlen, hts _ h1⟩, hts _ n1, hts _ n2⟩ hpre rfl (by simpa using hn) (by rw [← hml]; exact hl.1) hstack hroom hd ⟨Nat.le_trans hc hR3, Nat.le_trans hcs hR4⟩) hS hl ho hs4 kk
theorem x_callSE (C : Cb t l cc own nL ret fr mc ms) (hE : tS q v fm t) {idx maxL np fr' mc' ms' : Nat} {y : MethodName} {bytes : ByteArray} {ret' : Option FieldType} {As rest : List mV} (hd : decode cc pc = .ok (.invokestatic idx, 3)) (ky : kY y bytes maxL ret' np) (ks0 : Cond.static y ∈ Gw) (h1 : Cond.methodLink own idx y ∈ Gw) (hM : CtE q v fm l y bytes maxL ret' fr' mc' ms' As n w QQ) (hn : As.length = np) (hfr : fr' + 1 ≤ fr) (hc : kc + mc' ≤ mc) (hcs : ks + ms' ≤ ms) (hcat : (rest.map (fun v => (mT v).category)).sum ≤ 8) (hst : st = As.reverse ++ rest)
    (kk : ∀ r n' w', QQ r n' w' → J t (kc + mc') (ks + ms') (pc + 3) ml (r.toList ++ rest) n' w') : J t kc ks pc ml st n w := by
  subst hst
  obtain ⟨p, l1, e, R, s, m, args, below, meth, c, Q, D, tI, tZ, tQ, A⟩ := t
  obtain ⟨rfl, hx, hb, -, hml, hown, hts, -, hG, hR1, hR2, hR3, hR4⟩ := C
  have hE : STR q v fm A s := hE
  intro H locs ls hR hS hl ho hs
  obtain ⟨y1, y2, y3, y4, y5, y6, y7⟩ := ky
  have hs3 : stOk As := fun v hv => hs v (by simp [hv])
  have hs4 : stOk rest := fun v hv => hs v (by simp [hv])
  have hGG : GoodIn Gw (Cond.code y bytes maxL ret' :: Gw) := fun w h => by
    rcases List.mem_cons.mp h with h | h
    · rw [h]; exact gw_good _ y1
    · exact gw_good w h
  have hlen : ∀ sig, parseMethodDescriptor y.desc = some sig → np = sig.parameters.length := fun sig h => by
    rw [h] at y5
    exact (Option.some.inj y5).symm
  have hpre : PreS s H (va_Pc (As.map mT) (fun U => (Gs D tI tZ tQ A U ∧ STR q v fm A U) ∧ mR D tI tZ tQ A n w U.heap ∧ stOk As)) (As.map mT) :=
    ⟨mPcE_blind, fun U hU hW => ⟨rfl, ⟨hG.warm hW (by rw [hU]; exact hS.1), hE.warm hW hU hS⟩, by rw [hU]; exact hR, hs3⟩⟩
  have hstack : (F0 m pc ls ((As.reverse ++ rest).map mT)).stack = (As.map mT).reverse ++ rest.map mT := by simp
  have hroom : 2 * (F0 m pc ls ((As.reverse ++ rest).map mT)).monitorRoom + ((rest.map mT).map fun v => v.category).sum ≤ 8 := lv_room (by rw [cat_map]; exact hcat)
  have hF1 : fr' + 1 ≤ R.frames := Nat.le_trans hfr hR1
  have hF2 : 8 + (maxL + 11) + 40 * fr' ≤ R.locals := by omega
  exact x_back rfl (va_runS (As := As.map mT) (rest := rest.map mT) ⟨hx, hb, hml, hown, hts⟩ (hM D tI tZ tQ A) ⟨⟨rfl, rfl, hF1, hF2, pay_in hts hGG, List.mem_cons_self, hts _ y1, hts _ y2, ⟨y3, y4⟩, hlen, hts _ h1⟩, hts _ ks0⟩ hpre rfl (by simpa using hn) (by rw [← hml]; exact hl.1) hstack hroom hd ⟨Nat.le_trans hc hR3, Nat.le_trans hcs hR4⟩) hS hl ho hs4 kk
theorem x_callIE (C : Cb t l cc own nL ret fr mc ms) (hE : tS q v fm t) {idx maxL np fr' mc' ms' a : Nat} {y : MethodName} {bytes : ByteArray} {As rest : List mV} (hd : decode cc pc = .ok (.invokespecial idx, 3)) (ky : kY y bytes maxL none np) (hy1 : y.name = "<init>") (ki : Cond.instanceMethod y ∈ Gw) (h1 : Cond.methodLink own idx y ∈ Gw) (hM : CtE q v fm l y bytes maxL none fr' mc' ms' (vr a :: As) n w QQ) (hn : As.length = np) (hfr : fr' + 1 ≤ fr) (hc : kc + mc' ≤ mc) (hcs : ks + ms' ≤ ms) (hcat : (rest.map (fun v => (mT v).category)).sum ≤ 8) (hst : st = As.reverse ++ vr a :: rest)
    (kk : ∀ r n' w', QQ r n' w' → J t (kc + mc') (ks + ms') (pc + 3) ml (r.toList ++ rest) n' w') : J t kc ks pc ml st n w := by
  subst hst
  obtain ⟨p, l1, e, R, s, m, args, below, meth, c, Q, D, tI, tZ, tQ, A⟩ := t
  obtain ⟨rfl, hx, hb, -, hml, hown, hts, -, hG, hR1, hR2, hR3, hR4⟩ := C
  have hE : STR q v fm A s := hE
  intro H locs ls hR hS hl ho hs
  obtain ⟨y1, y2, y3, y4, y5, y6, y7⟩ := ky
  have hs3 : stOk (vr a :: As) := fun v hv => hs v (by rcases List.mem_cons.mp hv with h | h <;> simp [h])
  have hs4 : stOk rest := fun v hv => hs v (by simp [hv])
  have hGG : GoodIn Gw (Cond.code y bytes maxL none :: Gw) := fun w h => by
    rcases List.mem_cons.mp h with h | h
    · rw [h]; exact gw_good _ y1
    · exact gw_good w h
  have hlen : ∀ sig, parseMethodDescriptor y.desc = some sig → np = sig.parameters.length := fun sig h => by
    rw [h] at y5
    exact (Option.some.inj y5).symm
  have hpre : PreS s H (va_Pc ((vr a :: As).map mT) (fun U => (Gs D tI tZ tQ A U ∧ STR q v fm A U) ∧ mR D tI tZ tQ A n w U.heap ∧ stOk (vr a :: As))) (.ref a :: As.map mT) :=
    ⟨mPcE_blind, fun U hU hW => ⟨rfl, ⟨hG.warm hW (by rw [hU]; exact hS.1), hE.warm hW hU hS⟩, by rw [hU]; exact hR, hs3⟩⟩
  have hstack : (F0 m pc ls ((As.reverse ++ vr a :: rest).map mT)).stack = (As.map mT).reverse ++ .ref a :: rest.map mT := by simp [mT, va_rf]
  have hroom : 2 * (F0 m pc ls ((As.reverse ++ vr a :: rest).map mT)).monitorRoom + ((rest.map mT).map fun v => v.category).sum ≤ 8 := lv_room (by rw [cat_map]; exact hcat)
  have hF1 : fr' + 1 ≤ R.frames := Nat.le_trans hfr hR1
  have hF2 : 8 + (maxL + 11) + 40 * fr' ≤ R.locals := by omega
  exact x_back rfl (va_runI (As := As.map mT) (rest := rest.map mT) ⟨hx, hb, hml, hown, hts⟩ (hM D tI tZ tQ A) ⟨⟨rfl, rfl, hF1, hF2, pay_in hts hGG, List.mem_cons_self, hts _ y1, hts _ y2, ⟨y3, y4⟩, hlen, hts _ h1⟩, hy1, hts _ ki⟩ hpre rfl (by simpa using hn) (by rw [← hml]; exact hl.1) hstack hroom hd ⟨Nat.le_trans hc hR3, Nat.le_trans hcs hR4⟩) hS hl ho hs4 kk
/-- the instructions that touch the text -/
theorem x_ldcS (C : Cb t l cc RX4 nL ret fr mc ms) (hE : tS q v fm t) (hd : decode cc pc = .ok (.ldc 51, 2)) (k : J t kc ks (pc + 2) ml (vr q :: st) n w) : J t kc ks pc ml st n w := by
  obtain ⟨p, l1, e, R, s, m, args, below, meth, c, Q, D, tI, tZ, tQ, A⟩ := t
  obtain ⟨-, hx, hb, -, -, hown, hts, -⟩ := C
  have hE : STR q v fm A s := hE
  intro H locs ls hR hS hl ho hs
  exact va_ldcS hx hb hown hE.1 hd (k H locs ls hR hS hl ho (stOk_c.mpr ⟨trivial, hs⟩))
theorem x_sgV (C : Cb t l cc RJ0 nL ret fr mc ms) (hE : tS q v fm t) (hd : decode cc pc = .ok (.getfield 9, 3)) (k : J t kc ks (pc + 3) ml (vr v :: st) n w) : J t kc ks pc ml (vr q :: st) n w := by
  obtain ⟨p, l1, e, R, s, m, args, below, meth, c, Q, D, tI, tZ, tQ, A⟩ := t
  obtain ⟨-, hx, hb, -, -, hown, hts, -⟩ := C
  have hE : STR q v fm A s := hE
  intro H locs ls hR hS hl ho hs
  exact vk_getf hx hb hE.2.2.2.1 hS hown (hts _ kfS_9) (fun x hx => hx) hd (k H locs ls hR hS hl ho (stOk_c.mpr ⟨trivial, (stOk_c.mp hs).2⟩))
theorem x_sgC (C : Cb t l cc RJ0 nL ret fr mc ms) (hE : tS q v fm t) (hd : decode cc pc = .ok (.getfield 15, 3)) (k : J t kc ks (pc + 3) ml (vi 0 :: st) n w) : J t kc ks pc ml (vr q :: st) n w := by
  obtain ⟨p, l1, e, R, s, m, args, below, meth, c, Q, D, tI, tZ, tQ, A⟩ := t
  obtain ⟨-, hx, hb, -, -, hown, hts, -⟩ := C
  have hE : STR q v fm A s := hE
  intro H locs ls hR hS hl ho hs
  exact vk_getf hx hb hE.2.2.1 hS hown (hts _ kfS_15) (fun x hx => hx) hd (k H locs ls hR hS hl ho (stOk_c.mpr ⟨⟨by decide, by decide⟩, (stOk_c.mp hs).2⟩))
theorem x_gsC (C : Cb t l cc RJ0 nL ret fr mc ms) (hE : tS q v fm t) (hd : decode cc pc = .ok (.getstatic 38, 3)) (k : J t kc ks (pc + 3) ml (vi 1 :: st) n w) : J t kc ks pc ml st n w := by
  obtain ⟨p, l1, e, R, s, m, args, below, meth, c, Q, D, tI, tZ, tQ, A⟩ := t
  obtain ⟨-, hx, hb, -, -, hown, hts, -⟩ := C
  have hE : STR q v fm A s := hE
  intro H locs ls hR hS hl ho hs
  exact va_gets hx hb hE.2.2.2.2.2.1 hS hown (hts _ kfS_38) (fun x hx => hx) hd (k H locs ls hR hS hl ho (stOk_c.mpr ⟨⟨by decide, by decide⟩, hs⟩))
theorem x_gsF (C : Cb t l cc RJ0 nL ret fr mc ms) (hE : tS q v fm t) (hd : decode cc pc = .ok (.getstatic 1053, 3)) (k : J t kc ks (pc + 3) ml ((Sum.inr (Sum.inr fm) : mV) :: st) n w) : J t kc ks pc ml st n w := by
  obtain ⟨p, l1, e, R, s, m, args, below, meth, c, Q, D, tI, tZ, tQ, A⟩ := t
  obtain ⟨-, hx, hb, -, -, hown, hts, -⟩ := C
  have hE : STR q v fm A s := hE
  intro H locs ls hR hS hl ho hs
  exact va_gets hx hb hE.2.2.2.2.2.2 hS hown (hts _ kfS_1053) (fun x hx => hx) hd (k H locs ls hR hS hl ho (stOk_c.mpr ⟨trivial, hs⟩))
theorem x_tlen (C : Cb t l cc own nL ret fr mc ms) (hE : tS q v fm t) (hd : decode cc pc = .ok (.arraylength, 1)) (k : J t kc ks (pc + 1) ml (vi 65 :: st) n w) : J t kc ks pc ml (vr v :: st) n w := by
  obtain ⟨p, l1, e, R, s, m, args, below, meth, c, Q, D, tI, tZ, tQ, A⟩ := t
  obtain ⟨-, hx, hb, -, -, hown, hts, -⟩ := C
  have hE : STR q v fm A s := hE
  intro H locs ls hR hS hl ho hs
  obtain ⟨cell, g1, g2, g3, g4, g5, g6, g7⟩ := hE.2.2.2.2.1.kept hS.2.1
  exact W.alen (n := Int32.ofInt 65) hx hb g1 g2 (g5.trans (by decide)) rfl rfl hd (k H locs ls hR hS hl ho (stOk_c.mpr ⟨⟨by decide, by decide⟩, (stOk_c.mp hs).2⟩))
theorem txt0_bd : ∀ k : Nat, k < 65 → 32 ≤ txt0.getD k 0 ∧ txt0.getD k 0 ≤ 126 := by decide +kernel
theorem x_tald (C : Cb t l cc own nL ret fr mc ms) (hE : tS q v fm t) {i : Int} (hd : decode cc pc = .ok (.baload, 1)) (h0 : 0 ≤ i ∧ i < 65) (k : J t kc ks (pc + 1) ml (vi (txt0.getD i.toNat 0) :: st) n w) : J t kc ks pc ml (vi i :: vr v :: st) n w := by
  obtain ⟨p, l1, e, R, s, m, args, below, meth, c, Q, D, tI, tZ, tQ, A⟩ := t
  obtain ⟨-, hx, hb, -, -, hown, hts, -⟩ := C
  have hE : STR q v fm A s := hE
  intro H locs ls hR hS hl ho hs
  obtain ⟨oi, hs1⟩ := stOk_c.mp hs
  obtain ⟨cell, g1, g2, g3, g4, g5, g6, g7⟩ := hE.2.2.2.2.1.kept hS.2.1
  have hin := iR_in (n := 65) oi h0.1 h0.2
  have hbd := txt0_bd i.toNat (by omega)
  refine W.bald (v := .int (Int32.ofInt (txt0.getD i.toNat 0))) hx hb g1 g2 g3 ?_ ?_ rfl rfl hd (k H locs ls hR hS hl ho (stOk_c.mpr ⟨⟨by omega, by omega⟩, (stOk_c.mp hs1).2⟩))
  · intro h9
    rcases h9 with h9 | h9
    · exact hin (Or.inl h9)
    · exact hin (Or.inr (Nat.le_trans g4 h9))
  · rw [iR_clamp oi]
    exact g6 i.toNat (by omega)
theorem and255 : ∀ k : Nat, k < 128 → Int32.ofInt (k : Int) &&& Int32.ofInt 255 = Int32.ofInt (k : Int) ∧ ((Int32.ofInt (k : Int)).toUInt32 % 65536).toInt32 = Int32.ofInt (k : Int) ∧ narrow .char (.int (Int32.ofInt (k : Int))) = .int (Int32.ofInt (k : Int)) := by decide +kernel
theorem x_and255 (C : Cb t l cc own nL ret fr mc ms) {x : Int} (hd : decode cc pc = .ok (.iand, 1)) (h0 : 0 ≤ x ∧ x < 128) (k : J t kc ks (pc + 1) ml (vi x :: st) n w) : J t kc ks pc ml (vi 255 :: vi x :: st) n w := by
  obtain ⟨p, l1, e, R, s, m, args, below, meth, c, Q, D, tI, tZ, tQ, A⟩ := t
  obtain ⟨-, hx, hb, -⟩ := C
  intro H locs ls hR hS hl ho hs
  have hs2 := (stOk_c.mp hs).2
  refine lv_iand hx hb hd ?_
  have h1 := (and255 x.toNat (by omega)).1
  rw [show ((x.toNat : Nat) : Int) = x by omega] at h1
  rw [h1]
  exact k H locs ls hR hS hl ho hs2
theorem x_i2c (C : Cb t l cc own nL ret fr mc ms) {x : Int} (hd : decode cc pc = .ok (.i2c, 1)) (h0 : 0 ≤ x ∧ x < 128) (k : J t kc ks (pc + 1) ml (vi x :: st) n w) : J t kc ks pc ml (vi x :: st) n w := by
  obtain ⟨p, l1, e, R, s, m, args, below, meth, c, Q, D, tI, tZ, tQ, A⟩ := t
  obtain ⟨-, hx, hb, -⟩ := C
  intro H locs ls hR hS hl ho hs
  have h1 := (and255 x.toNat (by omega)).2.1
  rw [show ((x.toNat : Nat) : Int) = x by omega] at h1
  exact lv_i2c hx hb hd h1 (k H locs ls hR hS hl ho hs)
theorem x_shr0 (C : Cb t l cc own nL ret fr mc ms) (hd : decode cc pc = .ok (.ishr, 1)) (k : J t kc ks (pc + 1) ml (vi 65 :: st) n w) : J t kc ks pc ml (vi 0 :: vi 65 :: st) n w := by
  obtain ⟨p, l1, e, R, s, m, args, below, meth, c, Q, D, tI, tZ, tQ, A⟩ := t
  obtain ⟨-, hx, hb, -⟩ := C
  intro H locs ls hR hS hl ho hs
  have hs2 := (stOk_c.mp hs).2
  refine lv_ishr hx hb hd ?_
  rw [show Int32.ofInt 65 >>> (Int32.ofInt 0 &&& 31) = Int32.ofInt 65 by decide]
  exact k H locs ls hR hS hl ho hs2
theorem x_cret (C : Cb t l cc own nL (some .char) fr mc ms) (hQ : RQ t mc ms QQ) {z : Int} (hd : decode cc pc = .ok (.ireturn, 1)) (hz : 0 ≤ z ∧ z < 128) (hk : kc ≤ mc) (hk2 : ks ≤ ms) (q : QQ (some (vi z)) n w) : J t kc ks pc ml [vi z] n w := by
  obtain ⟨p, l1, e, R, s, m, args, below, meth, c, Q, D, tI, tZ, tQ, A⟩ := t
  obtain ⟨-, hx, hb, hr, -, -, -, hlocks, -⟩ := C
  have hQ : Q = MQ below (mQ D tI tZ tQ A QQ) args s mc ms A := hQ
  subst hQ
  intro H locs ls hR hS hl ho hs
  refine W.widen (k := mc) (n := ms) hk hk2 ?_
  have h1 := (and255 z.toNat (by omega)).2.2
  rw [show ((z.toNat : Nat) : Int) = z by omega] at h1
  exact W.zret (v := Int32.ofInt z) hx hb hr h1 (fun t ht hW => ⟨some (vi z), n, w, rfl, fun v hv => by cases hv; exact (stOk_c.mp hs).1, q, by rw [ht]; exact hR, hS.F ht⟩) hS.2.2 hd
theorem x_bret0 (C : Cb t l cc own nL (some .byte) fr mc ms) (hQ : RQ t mc ms QQ) (hd : decode cc pc = .ok (.ireturn, 1)) (hk : kc ≤ mc) (hk2 : ks ≤ ms) (q : QQ (some (vi 0)) n w) : J t kc ks pc ml [vi 0] n w := by
  obtain ⟨p, l1, e, R, s, m, args, below, meth, c, Q, D, tI, tZ, tQ, A⟩ := t
  obtain ⟨-, hx, hb, hr, -, -, -, hlocks, -⟩ := C
  have hQ : Q = MQ below (mQ D tI tZ tQ A QQ) args s mc ms A := hQ
  subst hQ
  intro H locs ls hR hS hl ho hs
  refine W.widen (k := mc) (n := ms) hk hk2 ?_
  exact W.zret (v := Int32.ofInt 0) hx hb hr (by decide) (fun t ht hW => ⟨some (vi 0), n, w, rfl, fun v hv => by cases hv; exact (stOk_c.mp hs).1, q, by rw [ht]; exact hR, hS.F ht⟩) hS.2.2 hd
end JS

set_option maxHeartbeats 1000000 in
theorem c_J0_coder_7d493 (l : Launch) {q v : Nat} {fm : Option Nat} {n : Nat} {w : mW} : CtE q v fm l yJ0_coder_7d493 cJ0_coder_7d493 1 (some .byte) 0 0 0 [vr q] n w (fun r n' w' => n' = n ∧ w' = w ∧ r = some (vi 0)) := by
  refine CtE.ofN kyJ0_coder_7d493 rfl (Nat.le_of_ble_eq_true rfl) ?_
  intro t C hQ hN hE
  show J t 0 0 0 [some (vr q)] [] n w
  refine x_gsC C hE dJ0_coder_7d493_0 ?_
  refine x_if_eq (tgt := 13) C dJ0_coder_7d493_3 (by decide) (fun c3 => absurd c3 (by omega)) (fun c3 => ?_)
  refine x_aload_n C dJ0_coder_7d493_6 rfl ?_
  refine x_sgC C hE dJ0_coder_7d493_7 ?_
  refine x_goto (tgt := 14) C dJ0_coder_7d493_10 (by decide) ?_
  exact x_bret0 C hQ dJ0_coder_7d493_14 (Nat.le_refl _) (Nat.le_refl _) ⟨rfl, rfl, rfl⟩

set_option maxHeartbeats 1000000 in
theorem c_J0_isLatin1_aae02 (l : Launch) {q v : Nat} {fm : Option Nat} {n : Nat} {w : mW} : CtE q v fm l yJ0_isLatin1_aae02 cJ0_isLatin1_aae02 1 (some .boolean) 0 0 0 [vr q] n w (fun r n' w' => n' = n ∧ w' = w ∧ r = some (vi 1)) := by
  refine CtE.ofN kyJ0_isLatin1_aae02 rfl (Nat.le_of_ble_eq_true rfl) ?_
  intro t C hQ hN hE
  show J t 0 0 0 [some (vr q)] [] n w
  refine x_gsC C hE dJ0_isLatin1_aae02_0 ?_
  refine x_if_eq (tgt := 17) C dJ0_isLatin1_aae02_3 (by decide) (fun c3 => absurd c3 (by omega)) (fun c3 => ?_)
  refine x_aload_n C dJ0_isLatin1_aae02_6 rfl ?_
  refine x_sgC C hE dJ0_isLatin1_aae02_7 ?_
  refine x_if_ne (tgt := 17) C dJ0_isLatin1_aae02_10 (by decide) (fun c10 => absurd rfl c10) (fun c10 => ?_)
  refine x_iconst C dJ0_isLatin1_aae02_13 ⟨by decide, by decide⟩ ?_
  refine x_goto (tgt := 18) C dJ0_isLatin1_aae02_14 (by decide) ?_
  exact x_zret C hQ dJ0_isLatin1_aae02_18 (Or.inr rfl) (Nat.le_refl _) (Nat.le_refl _) ⟨rfl, rfl, rfl⟩

set_option maxHeartbeats 1000000 in
theorem c_J0_length_8abf5 (l : Launch) {q v : Nat} {fm : Option Nat} {n : Nat} {w : mW} : CtE q v fm l yJ0_length_8abf5 cJ0_length_8abf5 1 (some .int) 1 0 0 [vr q] n w (fun r n' w' => n' = n ∧ w' = w ∧ r = some (vi 65)) := by
  refine CtE.ofN kyJ0_length_8abf5 rfl (Nat.le_of_ble_eq_true rfl) ?_
  intro t C hQ hN hE
  show J t 0 0 0 [some (vr q)] [] n w
  refine x_aload_n C dJ0_length_8abf5_0 rfl ?_
  refine x_sgV C hE dJ0_length_8abf5_1 ?_
  refine x_tlen C hE dJ0_length_8abf5_4 ?_
  refine x_aload_n C dJ0_length_8abf5_5 rfl ?_
  refine x_callVE C hE dJ0_length_8abf5_6 kyJ0_coder_7d493 rfl kn1J0_coder_7d493 kn2J0_coder_7d493 kmS_RJ0_335 (c_J0_coder_7d493 l) (As := []) rfl (by decide) (Nat.le_refl _) (Nat.le_refl _) (Nat.le_of_ble_eq_true rfl) rfl ?_
  rintro r n' w' ⟨rfl, rfl, rfl⟩
  refine x_shr0 C dJ0_length_8abf5_9 ?_
  exact x_iret C hQ dJ0_length_8abf5_10 (Nat.le_refl _) (Nat.le_refl _) ⟨rfl, rfl, rfl⟩

set_option maxHeartbeats 1000000 in
theorem c_J3_checkIndex_8e157 (l : Launch) {q v : Nat} {fm : Option Nat} {n : Nat} {w : mW} {a b : Int} (ha : 0 ≤ a ∧ a < b) : CtE q v fm l yJ3_checkIndex_8e157 cJ3_checkIndex_8e157 3 (some .int) 0 0 0 [vi a, vi b, (Sum.inr (Sum.inr fm) : mV)] n w (fun r n' w' => n' = n ∧ w' = w ∧ r = some (vi a)) := by
  refine CtE.ofN kyJ3_checkIndex_8e157 rfl (Nat.le_of_ble_eq_true rfl) ?_
  intro t C hQ hN hE
  show J t 0 0 0 [some (vi a), some (vi b), some ((Sum.inr (Sum.inr fm) : mV))] [] n w
  refine x_iload_n C dJ3_checkIndex_8e157_0 rfl ?_
  refine x_if_lt (tgt := 9) C dJ3_checkIndex_8e157_1 (by decide) (fun c1 => absurd c1 (by omega)) (fun c1 => ?_)
  refine x_iload_n C dJ3_checkIndex_8e157_4 rfl ?_
  refine x_iload_n C dJ3_checkIndex_8e157_5 rfl ?_
  refine x_icmp_lt (tgt := 16) C dJ3_checkIndex_8e157_6 (by decide) (fun c6 => ?_) (fun c6 => absurd ha.2 (by omega))
  refine x_iload_n C dJ3_checkIndex_8e157_16 rfl ?_
  exact x_iret C hQ dJ3_checkIndex_8e157_17 (Nat.le_refl _) (Nat.le_refl _) ⟨rfl, rfl, rfl⟩

set_option maxHeartbeats 1000000 in
theorem c_J0_checkIndex_df160 (l : Launch) {q v : Nat} {fm : Option Nat} {n : Nat} {w : mW} {a b : Int} (ha : 0 ≤ a ∧ a < b) : CtE q v fm l yJ0_checkIndex_df160 cJ0_checkIndex_df160 2 none 1 0 0 [vi a, vi b] n w (fun r n' w' => n' = n ∧ w' = w ∧ r = none) := by
  refine CtE.ofN kyJ0_checkIndex_df160 rfl (Nat.le_of_ble_eq_true rfl) ?_
  intro t C hQ hN hE
  show J t 0 0 0 [some (vi a), some (vi b)] [] n w
  refine x_iload_n C dJ0_checkIndex_df160_0 rfl ?_
  refine x_iload_n C dJ0_checkIndex_df160_1 rfl ?_
  refine x_gsF C hE dJ0_checkIndex_df160_2 ?_
  refine x_callSE C hE dJ0_checkIndex_df160_5 kyJ3_checkIndex_8e157 ksJ3_checkIndex_8e157 kmS_RJ0_1059 (c_J3_checkIndex_8e157 l ha) rfl (by decide) (Nat.le_refl _) (Nat.le_refl _) (Nat.le_of_ble_eq_true rfl) rfl ?_
  rintro r n' w' ⟨rfl, rfl, rfl⟩
  refine x_pop C dJ0_checkIndex_df160_8 rfl ?_
  exact x_vret C hQ dJ0_checkIndex_df160_9 (Nat.le_refl _) (Nat.le_refl _) ⟨rfl, rfl, rfl⟩

set_option maxHeartbeats 1000000 in
theorem c_J1_charAt_3b067 (l : Launch) {q v : Nat} {fm : Option Nat} {n : Nat} {w : mW} {a : Int} (ha : 0 ≤ a ∧ a < 65) : CtE q v fm l yJ1_charAt_3b067 cJ1_charAt_3b067 2 (some .char) 2 0 0 [vr v, vi a] n w (fun r n' w' => n' = n ∧ w' = w ∧ r = some (vi (txt0.getD a.toNat 0))) := by
  refine CtE.ofN kyJ1_charAt_3b067 rfl (Nat.le_of_ble_eq_true rfl) ?_
  intro t C hQ hN hE
  show J t 0 0 0 [some (vr v), some (vi a)] [] n w
  have hbd := txt0_bd a.toNat (by omega)
  refine x_iload_n C dJ1_charAt_3b067_0 rfl ?_
  refine x_aload_n C dJ1_charAt_3b067_1 rfl ?_
  refine x_tlen C hE dJ1_charAt_3b067_2 ?_
  refine x_callSE C hE dJ1_charAt_3b067_3 kyJ0_checkIndex_df160 ksJ0_checkIndex_df160 kmS_RJ1_9 (c_J0_checkIndex_df160 l ha) rfl (by decide) (Nat.le_refl _) (Nat.le_refl _) (Nat.le_of_ble_eq_true rfl) rfl ?_
  rintro r n' w' ⟨rfl, rfl, rfl⟩
  refine x_aload_n C dJ1_charAt_3b067_6 rfl ?_
  refine x_iload_n C dJ1_charAt_3b067_7 rfl ?_
  refine x_tald C hE dJ1_charAt_3b067_8 ha ?_
  refine x_sipush C dJ1_charAt_3b067_9 ⟨by decide, by decide⟩ ?_
  refine x_and255 C dJ1_charAt_3b067_12 ⟨by omega, by omega⟩ ?_
  refine x_i2c C dJ1_charAt_3b067_13 ⟨by omega, by omega⟩ ?_
  exact x_cret C hQ dJ1_charAt_3b067_14 ⟨by omega, by omega⟩ (Nat.le_refl _) (Nat.le_refl _) ⟨rfl, rfl, rfl⟩

set_option maxHeartbeats 1000000 in
theorem c_J0_charAt_5068e (l : Launch) {q v : Nat} {fm : Option Nat} {n : Nat} {w : mW} {a : Int} (ha : 0 ≤ a ∧ a < 65) : CtE q v fm l yJ0_charAt_5068e cJ0_charAt_5068e 2 (some .char) 3 0 0 [vr q, vi a] n w (fun r n' w' => n' = n ∧ w' = w ∧ r = some (vi (txt0.getD a.toNat 0))) := by
  refine CtE.ofN kyJ0_charAt_5068e rfl (Nat.le_of_ble_eq_true rfl) ?_
  intro t C hQ hN hE
  show J t 0 0 0 [some (vr q), some (vi a)] [] n w
  have hbd := txt0_bd a.toNat (by omega)
  refine x_aload_n C dJ0_charAt_5068e_0 rfl ?_
  refine x_callVE C hE dJ0_charAt_5068e_1 kyJ0_isLatin1_aae02 rfl kn1J0_isLatin1_aae02 kn2J0_isLatin1_aae02 kmS_RJ0_492 (c_J0_isLatin1_aae02 l) (As := []) rfl (by decide) (Nat.le_refl _) (Nat.le_refl _) (Nat.le_of_ble_eq_true rfl) rfl ?_
  rintro r n' w' ⟨rfl, rfl, rfl⟩
  refine x_if_eq (tgt := 16) C dJ0_charAt_5068e_4 (by decide) (fun c4 => absurd c4 (by omega)) (fun c4 => ?_)
  refine x_aload_n C dJ0_charAt_5068e_7 rfl ?_
  refine x_sgV C hE dJ0_charAt_5068e_8 ?_
  refine x_iload_n C dJ0_charAt_5068e_11 rfl ?_
  refine x_callSE C hE dJ0_charAt_5068e_12 kyJ1_charAt_3b067 ksJ1_charAt_3b067 kmS_RJ0_495 (c_J1_charAt_3b067 l ha) rfl (by decide) (Nat.le_refl _) (Nat.le_refl _) (Nat.le_of_ble_eq_true rfl) rfl ?_
  rintro r n' w' ⟨rfl, rfl, rfl⟩
  exact x_cret C hQ dJ0_charAt_5068e_15 ⟨by omega, by omega⟩ (Nat.le_refl _) (Nat.le_refl _) ⟨rfl, rfl, rfl⟩
