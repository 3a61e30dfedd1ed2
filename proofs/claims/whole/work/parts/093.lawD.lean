/-! ===== the law: its start ===== -/
theorem kml9 : Cond.methodLink RL 9 yX4_init ∈ Gw := gw_mem (i := 131) (by decide +kernel) (by decide +kernel)
set_option maxHeartbeats 1000000 in
set_option maxRecDepth 100000 in
theorem law_body {t : TX} {l : Launch} {b L n q v : Nat} {fm : Option Nat} {xs : Nat → Int32} (C : Cb t l cL_law RL 4 (some .boolean) 8 140 3868) (hT : tL b L xs t) (hE : tS q v fm t) (hL : L ≤ 2048) {w : mW} : J t 0 0 0 [some (vr b), none, none, none] [] n w := by
  refine x_new C dL_law_0 (ci := 4) (N := 9) (Cn := RX4) (T := TX4) (ty := tyX4) (fs := [vn, vn, vn, vn, vn, vn, vi 0, vn, vn]) rfl gX4_in tyX4_ok gk_cl_L_7 gk_in_X4 gk_ini_X4 dfX4 dkX4 (Nat.le_of_ble_eq_true rfl) (Nat.le_of_ble_eq_true rfl) ?_
  refine x_dup C dL_law_3 rfl ?_
  refine x_callIE C hE dL_law_4 kyX4_init rfl kiX4_init kml9 (c_X4_init l (h := n) rfl (mu_eq _ _ _)) (As := []) rfl (by decide) (Nat.le_of_ble_eq_true rfl) (Nat.le_of_ble_eq_true rfl) (Nat.le_of_ble_eq_true rfl) rfl ?_
  rintro r n' w1 ⟨rfl, rfl, hX, hf1⟩
  refine s_ast4_1 C dL_law_7 rfl ?_
  refine x_new C dL_law_8 (ci := 5) (N := 41) (Cn := RX5) (T := TX5) (ty := tyX5) (fs := [vi 0, vn, vi 0, vn, vn, vn, vi 0, vn, vn, vi 0, vi 0, vi 0, vi 0, vi 0, vn, vn, vn, vn, vn, vi 0, vi 0, vn, vn, vn, vi 0, vn, vi 0, vn, vi 0, vn, vn, vn, vn, vi 0, vi 0, vn, vn, vi 0, vi 0, vi 0, vn]) rfl gX5_in tyX5_ok gk_cl_L_10 gk_in_X5 gk_ini_X5 dfX5 dkX5 (Nat.le_of_ble_eq_true rfl) (Nat.le_of_ble_eq_true rfl) ?_
  refine x_dup C dL_law_11 rfl ?_
  refine x_callI C dL_law_12 kyX5_init rfl kiX5_init kmL_12 (c_X5_init l (h := n + 116) rfl (mu_eq _ _ _)) (As := []) rfl (by decide) (Nat.le_of_ble_eq_true rfl) (Nat.le_of_ble_eq_true rfl) (Nat.le_of_ble_eq_true rfl) rfl ?_
  rintro r n' w2 ⟨rfl, rfl, hM, hf2⟩
  refine s_ast4_2 C dL_law_15 rfl ?_
  refine x_iconst C dL_law_16 ⟨by decide, by decide⟩ ?_
  refine s_ist4_3 C dL_law_17 rfl ?_
  have hfa : frR w1 w2 (n + 116) (n + 116 + 23) := fun a ha => (hf2 a ha).trans (mu_ne _ _ (by omega))
  have hX := hX.frX hfa (by omega)
  exact law_loop C hT hL 512 0 w2 D30 (by omega) (by omega) (by omega) hX hM

set_option maxHeartbeats 1000000 in
set_option maxRecDepth 100000 in
theorem law_Gs {s : State} {args : Array Value} (hts : ∀ w ∈ lw_tbl, w.before args s = true) : ∃ (D : va_G) (tI tZ tQ : ClassId), Gs D tI tZ tQ (fun q : Nat => s.heap.size ≤ q) s := by
  have hg : ∀ w ∈ Gw, w.before args s = true := fun w h => hts w (gw_tbl w h)
  obtain ⟨c0, i0, k0⟩ := u_known (C := RX0) (T := TX0) (N := 2) (n := 2) hg gX0_in (hg _ gk_in_X0)
  obtain ⟨c1, i1, k1⟩ := u_known (C := RX1) (T := TX1) (N := 10) (n := 10) hg gX1_in (hg _ gk_in_X1)
  obtain ⟨c2, i2, k2⟩ := u_known (C := RX2) (T := TX2) (N := 13) (n := 13) hg gX2_in (hg _ gk_in_X2)
  obtain ⟨c3, i3, k3⟩ := u_known (C := RX3) (T := TX3) (N := 3) (n := 3) hg gX3_in (hg _ gk_in_X3)
  obtain ⟨c4, i4, k4⟩ := u_known (C := RX4) (T := TX4) (N := 9) (n := 9) hg gX4_in (hg _ gk_in_X4)
  obtain ⟨c5, i5, k5⟩ := u_known (C := RX5) (T := TX5) (N := 41) (n := 41) hg gX5_in (hg _ gk_in_X5)
  obtain ⟨tI, kI, pI, a1, a2, a3⟩ := Cond.arrayClass_spec (hg _ gk_ar_int)
  obtain ⟨tZ, kZ, pZ, b1, b2, b3⟩ := Cond.arrayClass_spec (hg _ gk_ar_boolean)
  have hov : (Cond.arrayOver (.object RX2)).before args s = true := hts _ (List.mem_of_getElem? (i := 232) (by decide +kernel))
  obtain ⟨pQ, tQ, kQ, g1, g2, g3, g4, g5⟩ := Cond.arrayOver_spec hov
  refine ⟨(fun k => if k = 0 then c0 else if k = 1 then c1 else if k = 2 then c2 else if k = 3 then c3 else if k = 4 then c4 else c5, fun k => if k = 0 then i0 else if k = 1 then i1 else if k = 2 then i2 else if k = 3 then i3 else if k = 4 then i4 else i5), tI, tZ, tQ, ⟨?_, ?_⟩, ?_, ?_, va_AO.of hov, fun q hq => hq⟩
  · intro k q hq
    match k, hq with
    | 0, hq => cases hq; exact k0
    | 1, hq => cases hq; exact k1
    | 2, hq => cases hq; exact k2
    | 3, hq => cases hq; exact k3
    | 4, hq => cases hq; exact k4
    | 5, hq => cases hq; exact k5
    | k + 6, hq => simp [vwCl] at hq
  · intro k q hq
    match k, hq with
    | 0, hq => cases hq; exact ⟨fun n z => ⟨fun k h => (by cases h), kI, a2, pI, a3⟩, a1⟩
    | 1, hq => cases hq; exact ⟨fun n z => ⟨fun k h => (by cases h), kZ, b2, pZ, b3⟩, b1⟩
    | 2, hq => cases hq; exact ⟨fun n z => ⟨fun k h => (by cases h), kQ, g3, pQ, g4⟩, kQ, pQ, g3, g4, g1, g5⟩
    | k + 3, hq => simp [mm_tys] at hq
  · have h : kNf.map (fun q => some (Cond.fieldLinkNest q.1 q.2.1 q.2.2.1 q.2.2.2.1 q.2.2.2.2 "DisplayMap")) = kNfp.map (fun i => lw_tbl[i]?) := by decide +kernel
    intro q hq
    have h1 : some (Cond.fieldLinkNest q.1 q.2.1 q.2.2.1 q.2.2.2.1 q.2.2.2.2 "DisplayMap") ∈ kNf.map (fun q => some (Cond.fieldLinkNest q.1 q.2.1 q.2.2.1 q.2.2.2.1 q.2.2.2.2 "DisplayMap")) := List.mem_map.mpr ⟨q, hq, rfl⟩
    rw [h] at h1
    obtain ⟨i, -, hi⟩ := List.mem_map.mp h1
    exact va_Nw.of rfl (hts _ (List.mem_of_getElem? hi))
  · have h : kNm.map (fun q => some (Cond.methodLinkNest q.1 q.2.1 q.2.2 "DisplayMap")) = kNmp.map (fun i => lw_tbl[i]?) := by decide +kernel
    intro q hq
    have h1 : some (Cond.methodLinkNest q.1 q.2.1 q.2.2 "DisplayMap") ∈ kNm.map (fun q => some (Cond.methodLinkNest q.1 q.2.1 q.2.2 "DisplayMap")) := List.mem_map.mpr ⟨q, hq, rfl⟩
    rw [h] at h1
    obtain ⟨i, -, hi⟩ := List.mem_map.mp h1
    exact va_Nw.of rfl (hts _ (List.mem_of_getElem? hi))

def gn0 : List Cond := flatC (Jvm.Cond.and given_1 narrow_1)
theorem gn_ex : Cond.exactly (Term.string "DisplayMap" 51) "java/lang/String" ∈ gn0 := by decide +kernel
theorem gn_co : Cond.eq (.field (Term.string "DisplayMap" 51) "java/lang/String" "coder" "B") (.int 0) ∈ gn0 := by decide +kernel
theorem gn_ar : Cond.arrayOf (Term.field (Term.string "DisplayMap" 51) "java/lang/String" "value" "[B") .byte ∈ gn0 := by decide +kernel
theorem gn_le : Cond.eq (.length (Term.field (Term.string "DisplayMap" 51) "java/lang/String" "value" "[B")) (.int (Int32.ofNat 65)) ∈ gn0 := by decide +kernel
theorem gn_el : ∀ j : Nat, j < 65 → Cond.eq (.elem (Term.field (Term.string "DisplayMap" 51) "java/lang/String" "value" "[B") (.int (Int32.ofNat j))) (.int ((txt0.map Int32.ofInt).getD j 0)) ∈ gn0 := by decide +kernel
theorem gn_cs : Cond.eq (.static "java/lang/String" "COMPACT_STRINGS" "Z") (.int 1) ∈ gn0 := by decide +kernel
theorem gn_fm : Cond.isRef (.static "jdk/internal/util/Preconditions" "SIOOBE_FORMATTER" "Ljava/util/function/BiFunction;") ∈ gn0 := by decide +kernel

set_option maxHeartbeats 1000000 in
set_option maxRecDepth 100000 in
theorem law_STR {s : State} {args : Array Value} (hts : ∀ w ∈ lw_tbl, w.before args s = true) (hgv : (Jvm.Cond.and given_1 narrow_1).before args s = true) : ∃ (q v : Nat) (fm : Option Nat), STR q v fm (fun q : Nat => s.heap.size ≤ q) s := by
  have hs : ∀ c ∈ gn0, c.before args s = true := flat_of_before _ hgv
  have hA : ∀ a : Nat, a < s.heap.size → ¬ (fun q : Nat => s.heap.size ≤ q) a := fun a ha => Nat.not_le.mpr ha
  obtain ⟨adK, adV, hS, hev⟩ := vk_Sof (args := args) (s := s) (N := 1) (tm := fun _ => (Term.string "DisplayMap" 51)) (len := [65]) (byt := [txt0.map Int32.ofInt]) (A := fun q : Nat => s.heap.size ≤ q) (fun i hi => by have h0 : i = 0 := (by omega); subst h0; decide) (fun i hi => hs _ gn_ex) (fun i hi => hs _ gn_co) (fun i hi => hs _ gn_ar) (fun i hi => by have h0 : i = 0 := (by omega); subst h0; exact hs _ gn_le) (fun i hi j hj => by have h0 : i = 0 := (by omega); subst h0; exact hs _ (gn_el j hj)) (fun i j hi hj hij => absurd (show i = j by omega) hij) hA
  obtain ⟨h1, h2, h3, h4⟩ := hS.1 0 (by omega)
  obtain ⟨val, hval, hir⟩ := Cond.isRef_spec (hs _ gn_fm)
  have hfm : ∃ fm : Option Nat, val = va_rf fm := by
    cases val with
    | ref a => exact ⟨some a, rfl⟩
    | null => exact ⟨none, rfl⟩
    | _ => cases hir
  obtain ⟨fm, rfl⟩ := hfm
  refine ⟨adK 0, adV 0, fm, vk_R.of (A := args) (hts _ (List.mem_of_getElem? (i := 285) (by decide +kernel))) (hev 0 (by omega)), h1, h2, h3, ?_, ?_, ?_⟩
  · have e : (fun j : Nat => Value.int ((([txt0.map Int32.ofInt] : List (List Int32)).getD 0 []).getD j 0)) = fun j => Value.int (Int32.ofInt (txt0.getD j 0)) := by
      funext j
      congr 1
      show (txt0.map Int32.ofInt).getD j 0 = Int32.ofInt (txt0.getD j 0)
      rw [List.getD_eq_getElem?_getD, List.getD_eq_getElem?_getD, List.getElem?_map]
      cases txt0[j]? <;> rfl
    rw [← e]
    exact h4
  · exact va_Zof (hts _ (List.mem_of_getElem? (i := 295) (by decide +kernel))) (hts _ (List.mem_of_getElem? (i := 123) (by decide +kernel))) (va_eqi (hs _ gn_cs)) hA
  · exact va_Zof (hts _ (List.mem_of_getElem? (i := 311) (by decide +kernel))) (hts _ (List.mem_of_getElem? (i := 125) (by decide +kernel))) hval hA

set_option maxHeartbeats 1000000 in
set_option maxRecDepth 100000 in
theorem whole_start {p : Program} {e : Env} {s : State} {m : MethodId} {below : List Frame} {meth : Method} {c : Code} (l : Launch) (hflags : l.flags = flags0) {b L : Nat} {xs : Nat → Int32} (hL : L ≤ 2048) (C0 : lw_At p s m meth c b L xs) : W p l e room_1 s m #[Value.ref b] below meth c s.heap [] 0 0 (lw_Z below #[Value.ref b] s) (entryFrame m ([Value.ref b] : List Value).toArray 4) := by
  obtain ⟨hx, hb, hr, hml, hown, hts, hX, hbl, hlocks, hgv⟩ := C0
  obtain ⟨D, tI, tZ, tQ, hG⟩ := law_Gs hts
  obtain ⟨q, v, fm, hE⟩ := law_STR hts hgv
  have C : Cb (p, l, e, room_1, s, m, #[Value.ref b], below, meth, c, lw_Z below #[Value.ref b] s, D, tI, tZ, tQ, fun q : Nat => s.heap.size ≤ q) l cL_law RL 4 (some .boolean) 8 140 3868 := ⟨rfl, hx, hb, hr, hml, hown, fun w h => hts w (gw_tbl w h), hlocks, hG, Nat.le_of_ble_eq_true rfl, Nat.le_of_ble_eq_true rfl, Nat.le_of_ble_eq_true rfl, Nat.le_of_ble_eq_true rfl⟩
  have hT : tL b L xs (p, l, e, room_1, s, m, #[Value.ref b], below, meth, c, lw_Z below #[Value.ref b] s, D, tI, tZ, tQ, fun q : Nat => s.heap.size ≤ q) := ⟨rfl, rfl, rfl, rfl, hX, hbl⟩
  have hJ := law_body (n := s.heap.size) (w := fun _ => none) C hT hE hL
  have hl := lv_entry ([.ref b]) (n := 4) (Nat.le_of_ble_eq_true rfl)
  rw [lg_entry_eq]
  refine hJ s.heap [] _ ⟨rfl, fun a c h => by cases h⟩ va_S.rf ⟨hl.1.trans hml.symm, hl.2.1, fun q hq => hl.2.2 q hq⟩ ?_ (fun v hv => by cases hv)
  intro v hv
  have h9 : some v = some (vr b) := by simpa using hv
  cases h9
  trivial
