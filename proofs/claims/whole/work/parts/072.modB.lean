/-! ===== the reference: pieces ===== -/
def fixE (q : mI) : mI := if q.1 = 27 then (q.1, q.2.1, 0) else q
theorem fixE_1 (q : mI) : (fixE q).1 = q.1 ∧ (fixE q).2.1 = q.2.1 ∧ (q.1 ≠ 27 → fixE q = q) ∧ ((fixE q).1 = 27 → (fixE q).2.2 = 0) := by
  unfold fixE
  by_cases h : q.1 = 27
  · rw [if_pos h]; exact ⟨rfl, rfl, fun h1 => absurd h h1, fun _ => rfl⟩
  · rw [if_neg h]; exact ⟨rfl, rfl, fun _ => rfl, fun h1 => absurd h1 h⟩
theorem wordW_fix : ∀ L : List mI, wordW (L.map fixE) = wordW L
  | [] => rfl
  | q :: L => by
    rw [List.map_cons, wordW, wordW, (fixE_1 q).1, wordW_fix L]
    by_cases h : q.1 ≠ 26 ∧ q.1 ≠ 27
    · rw [if_pos h, if_pos h, (fixE_1 q).2.2.1 h.2]
    · rw [if_neg h, if_neg h]
theorem widF_fix (tb col : Int) (q : mI) : widF tb col (fixE q).1 (fixE q).2.2 = widF tb col q.1 q.2.2 := by
  rw [(fixE_1 q).1]
  by_cases h : q.1 = 27
  · unfold widF; rw [if_pos h, if_pos h]
  · rw [(fixE_1 q).2.2.1 h]
theorem flw_fix (mo wi nd tb : Int) : ∀ (L : List mI) (pw fl : Bool) (rw : List (Int × Int)) (cs col : Int), flw mo wi nd tb (L.map fixE) pw fl rw cs col = flw mo wi nd tb L pw fl rw cs col
  | [], _, _, _, _, _ => rfl
  | q :: L, pw, fl, rw, cs, col => by
    have hg : goesF mo wi nd tb pw col (fixE q :: L.map fixE) = goesF mo wi nd tb pw col (q :: L) := by
      have h1 := wordW_fix (q :: L)
      rw [List.map_cons] at h1
      rw [goesF, goesF, h1, widF_fix, (fixE_1 q).1]
    rw [List.map_cons, flw, flw, hg, widF_fix, widF_fix, (fixE_1 q).1, (fixE_1 q).2.1]
    simp only [flw_fix mo wi nd tb L]
theorem pS_t {a : Int} {q : Int × Int × Int} (h : pS a q = true) : q.2.2 ≠ 0 ∧ q.1 ≤ a ∧ a < q.2.1 := of_decide_eq_true h
theorem pw_eq {α : Type} {p : α → Bool} : ∀ {l : List α}, l.Pairwise (fun x y => ¬ (p x = true ∧ p y = true)) → ∀ {x y : α}, x ∈ l → y ∈ l → p x = true → p y = true → x = y
  | [], _, x, y, hx, _, _, _ => by cases hx
  | z :: l, h, x, y, hx, hy, px, py => by
    rw [List.pairwise_cons] at h
    rcases List.mem_cons.mp hx with h1 | h1 <;> rcases List.mem_cons.mp hy with h2 | h2
    · rw [h1, h2]
    · subst h1; exact absurd ⟨px, py⟩ (h.1 y h2)
    · subst h2; exact absurd ⟨py, px⟩ (h.1 x h1)
    · exact pw_eq h.2 h1 h2 px py
theorem find_u {α : Type} {p : α → Bool} {l : List α} (h : l.Pairwise (fun x y => ¬ (p x = true ∧ p y = true))) {x : α} (hx : x ∈ l) (px : p x = true) : l.find? p = some x := by
  cases hf : l.find? p with
  | none => exact absurd px (List.find?_eq_none.mp hf x hx)
  | some y => rw [pw_eq h hx (List.mem_of_find?_eq_some hf) px (List.find?_some hf)]
theorem hold_in {fo : List (Int × Int × Int)} (h : fo.Pairwise (fun a b => a.2.1 ≤ b.1)) {x : Int × Int × Int} (hx : x ∈ fo) {p : Int} (hp : pS p x = true) : hold fo p = x.1 := by
  unfold hold
  rw [find_u (pw_pS h p) hx hp]
theorem fo_apart {fo : List (Int × Int × Int)} (h : fo.Pairwise (fun a b => a.2.1 ≤ b.1)) {x y : Int × Int × Int} (hx : x ∈ fo) (hy : y ∈ fo) : x = y ∨ x.2.1 ≤ y.1 ∨ y.2.1 ≤ x.1 := by
  induction fo with
  | nil => cases hx
  | cons z l ih =>
    rw [List.pairwise_cons] at h
    rcases List.mem_cons.mp hx with h1 | h1 <;> rcases List.mem_cons.mp hy with h2 | h2
    · exact Or.inl (by rw [h1, h2])
    · subst h1; exact Or.inr (Or.inl (h.1 y h2))
    · subst h2; exact Or.inr (Or.inr (h.1 x h1))
    · exact ih h.2 h1 h2
/-- behind a fold that is jumped over a place is shown -/
theorem hold_jump {fo : List (Int × Int × Int)} (h : fo.Pairwise (fun a b => a.2.1 ≤ b.1)) {x : Int × Int × Int} (hx : x ∈ fo) (h1 : x.1 < x.2.1) : hold fo x.2.1 = x.2.1 := by
  unfold hold
  cases hf : fo.find? (pS x.2.1) with
  | none => rfl
  | some y =>
    have h2 := pS_t (List.find?_some hf)
    simp only
    rcases fo_apart h hx (List.mem_of_find?_eq_some hf) with h3 | h3 | h3
    · subst h3; omega
    · omega
    · omega
theorem hold_next {fo : List (Int × Int × Int)} {k : Int} (h : fo.find? (pS k) = none) : hold fo (k + 1) = k + 1 := by
  unfold hold
  cases hf : fo.find? (pS (k + 1)) with
  | none => rfl
  | some y =>
    have h2 := pS_t (List.find?_some hf)
    have h3 := List.find?_eq_none.mp h y (List.mem_of_find?_eq_some hf)
    simp only
    rcases Int.lt_or_le y.1 (k + 1) with h4 | h4
    · exact absurd (decide_eq_true ⟨h2.1, by omega, by omega⟩) h3
    · omega
theorem gth_jump {sg : List Int} {fo : List (Int × Int × Int)} {hi : List (Int × Int)} {k : Nat} : ∀ d : Nat, (∀ p : Int, (k : Int) < p → p < k + 1 + d → hold fo p ≠ p) → gthF sg fo hi (k + 1 + d) = gthF sg fo hi (k + 1)
  | 0, _ => rfl
  | d + 1, h => by
    rw [← Nat.add_assoc, gthF, gth_jump d (fun p h1 h2 => h p h1 (by omega)), pcs, if_neg (h _ (by omega) (by omega)), List.append_nil]

set_option maxHeartbeats 1000000 in
set_option maxRecDepth 100000 in
theorem c_X5_comesPiece (l : Launch) {w : mW} {h : Nat} {mn fc hc mo wi nd tb pi lr lc um sm wp wr ac sz ra rn : Int} {M1 M2 M3 M4 M5 M6 M7 M8 M9 M10 M11 M12 M13 M14 M15 M16 M17 M18 M19 M20 M21 M22 M23 : List Int} (hr : rM w h mn fc hc mo wi nd tb pi lr lc um sm wp wr ac sz ra rn M1 M2 M3 M4 M5 M6 M7 M8 M9 M10 M11 M12 M13 M14 M15 M16 M17 M18 M19 M20 M21 M22 M23) (c a v : Int) (hpi : 0 ≤ pi ∧ pi < 48) : Cv l yX5_comesPiece cX5_comesPiece 4 0 [vr h, vi c, vi a, vi v] w (fun w' => rM w' h mn fc hc mo wi nd tb (pi + 1) lr lc um sm wp wr ac sz ra rn M1 M2 M3 M4 M5 M6 (M7.set pi.toNat c) (M8.set pi.toNat a) M9 M10 (M11.set pi.toNat v) M12 M13 M14 M15 M16 M17 M18 M19 M20 M21 M22 M23 ∧ frR w w' h (h + 23)) := by
  refine Cv.of (ml := [some (vr h), some (vi c), some (vi a), some (vi v)]) kyX5_comesPiece rfl (Nat.le_of_ble_eq_true rfl) rfl ?_
  intro t n C hQ
  have hf : frR w w h (h + 23) := frR.rf
  refine x_aload_n C dX5_comesPiece_0 rfl ?_
  refine x_get C dX5_comesPiece_1 kfX5_38 hr.o rfl ?_
  refine x_aload_n C dX5_comesPiece_4 rfl ?_
  refine x_get C dX5_comesPiece_5 kfX5_117 hr.o rfl ?_
  refine x_iload_n C dX5_comesPiece_8 rfl ?_
  refine x_iast C dX5_comesPiece_9 hr.a7 (by omega) (by rw [hr.l7]; omega) ?_
  refine ab_M_M7 hr hf (by rw [List.length_set]; exact hr.l7) (fun w hr hf => ?_)
  refine x_aload_n C dX5_comesPiece_10 rfl ?_
  refine x_get C dX5_comesPiece_11 kfX5_41 hr.o rfl ?_
  refine x_aload_n C dX5_comesPiece_14 rfl ?_
  refine x_get C dX5_comesPiece_15 kfX5_117 hr.o rfl ?_
  refine x_iload_n C dX5_comesPiece_18 rfl ?_
  refine x_iast C dX5_comesPiece_19 hr.a8 (by omega) (by rw [hr.l8]; omega) ?_
  refine ab_M_M8 hr hf (by rw [List.length_set]; exact hr.l8) (fun w hr hf => ?_)
  refine x_aload_n C dX5_comesPiece_20 rfl ?_
  refine x_get C dX5_comesPiece_21 kfX5_50 hr.o rfl ?_
  refine x_aload_n C dX5_comesPiece_24 rfl ?_
  refine x_get C dX5_comesPiece_25 kfX5_117 hr.o rfl ?_
  refine x_iload_n C dX5_comesPiece_28 rfl ?_
  refine x_iast C dX5_comesPiece_29 hr.a11 (by omega) (by rw [hr.l11]; omega) ?_
  refine ab_M_M11 hr hf (by rw [List.length_set]; exact hr.l11) (fun w hr hf => ?_)
  refine x_aload_n C dX5_comesPiece_30 rfl ?_
  refine x_dup C dX5_comesPiece_31 rfl ?_
  refine x_get C dX5_comesPiece_32 kfX5_117 hr.o rfl ?_
  refine x_iconst C dX5_comesPiece_35 ⟨by decide, by decide⟩ ?_
  refine x_iadd C dX5_comesPiece_36 (by first | (unfold iR; omega) | exact ⟨by omega, by omega⟩) ?_
  refine x_put C dX5_comesPiece_37 kfX5_117 kw_5_13 rfl rfl hr.o (Nat.le_of_ble_eq_true rfl) ?_
  refine ab_M_pi hr hf (fun w hr hf => ?_)
  refine x_vret C hQ dX5_comesPiece_40 (Nat.le_refl _) (Nat.le_refl _) ?_
  exact ⟨rfl, rfl, hr, hf⟩

set_option maxHeartbeats 1000000 in
set_option maxRecDepth 100000 in
theorem lp_X5_setPieces {t : TX} {l : Launch} {n0 : Nat} {w0 : mW} {h : Nat} {sg : List Int} {fo : List (Int × Int × Int)} {hi : List (Int × Int)} {j1 j2 j3 j4 j5 j6 : List Int} {mo wi nd tb lr lc um sm wp wr ac sz ra rn : Int} {M9 M10 M12 M13 M14 M15 M16 M17 M18 M19 M20 M21 M22 M23 : List Int} (hw : ∀ f ∈ fo, (0 ≤ f.1 ∧ f.1 ≤ 100) ∧ (0 ≤ f.2.1 ∧ f.2.1 ≤ 100) ∧ (f.2.2 = 0 ∨ f.2.2 = 1)) (hp : fo.Pairwise (fun a b => a.2.1 ≤ b.1)) (hq : hi.Pairwise (fun a b => a.1 < b.1)) (hfo : ∀ f ∈ fo, f.1 < f.2.1 ∧ f.2.1 ≤ sg.length) (hln : sg.length ≤ 40 ∧ hi.length ≤ 4) (C : Cb t l cX5_setPieces RX5 4 none 2 0 0) {Q : mW → Prop} (hQ : RQ t 0 0 (fun r n' w' => n' = n0 ∧ r = none ∧ Q w')) (hfin : ∀ (w' : mW) (J7 J8 J11 : List Int), rM w' h sg.length fo.length hi.length mo wi nd tb ((its sg fo hi).map fixE).length lr lc um sm wp wr ac sz ra rn (sg ++ j1) (fo.map (fun f => f.1) ++ j2) (fo.map (fun f => f.2.1) ++ j3) (fo.map (fun f => f.2.2) ++ j4) (hi.map (fun q => q.1) ++ j5) (hi.map (fun q => q.2) ++ j6) (((its sg fo hi).map fixE).map (fun q => q.1) ++ J7) (((its sg fo hi).map fixE).map (fun q => q.2.1) ++ J8) M9 M10 (((its sg fo hi).map fixE).map (fun q => q.2.2) ++ J11) M12 M13 M14 M15 M16 M17 M18 M19 M20 M21 M22 M23 → frR w0 w' h (h + 23) → Q w') : ∀ (m : Nat) (p : Int) (k : Nat) (x2 x3 : Option mV) (J7 J8 J11 : List Int) (w : mW), sg.length + 2 ≤ k + m → p = k → k ≤ sg.length + 1 → (p ≤ sg.length → hold fo p = p) → rM w h sg.length fo.length hi.length mo wi nd tb ((gthF sg fo hi k).map fixE).length lr lc um sm wp wr ac sz ra rn (sg ++ j1) (fo.map (fun f => f.1) ++ j2) (fo.map (fun f => f.2.1) ++ j3) (fo.map (fun f => f.2.2) ++ j4) (hi.map (fun q => q.1) ++ j5) (hi.map (fun q => q.2) ++ j6) (((gthF sg fo hi k).map fixE).map (fun q => q.1) ++ J7) (((gthF sg fo hi k).map fixE).map (fun q => q.2.1) ++ J8) M9 M10 (((gthF sg fo hi k).map fixE).map (fun q => q.2.2) ++ J11) M12 M13 M14 M15 M16 M17 M18 M19 M20 M21 M22 M23 → frR w0 w h (h + 23) → J t 0 0 7 [some (vr h), some (vi p), x2, x3] [] n0 w := by
  intro m
  induction m with
  | zero => intro p k x2 x3 J7 J8 J11 w hm; omega
  | succ m ih =>
    intro p k x2 x3 J7 J8 J11 w hm hpk hkn hh hr hf
    have l1 := hr.l1
    have l2 := hr.l2
    have l3 := hr.l3
    have l4 := hr.l4
    have l5 := hr.l5
    have l6 := hr.l6
    have l7 := hr.l7
    have l8 := hr.l8
    have l11 := hr.l11
    simp only [List.length_append, List.length_map, List.length_cons] at l1 l2 l3 l4 l5 l6 l7 l8 l11
    have g1 := gth_44 (fo := fo) hln.1 hln.2 k
    have g2 := gth_44 (fo := fo) hln.1 hln.2 (k + 1)
    refine x_iload_n C dX5_setPieces_7 rfl ?_
    refine x_aload_n C dX5_setPieces_8 rfl ?_
    refine x_get C dX5_setPieces_9 kfX5_89 hr.o rfl ?_
    refine x_icmp_gt (tgt := 117) C dX5_setPieces_12 (by decide) (fun c12 => ?_) (fun c12 => ?_)
    · refine x_vret C hQ dX5_setPieces_117 (Nat.le_refl _) (Nat.le_refl _) ?_
      have hk : k = sg.length + 1 := by omega
      subst hk
      exact ⟨rfl, rfl, hfin w J7 J8 J11 hr hf⟩
    · have hh0 := hh (by omega)
      have hpk2 : ((k : Nat) : Int) = p := hpk.symm
      refine x_aload_n C dX5_setPieces_15 rfl ?_
      refine x_iload_n C dX5_setPieces_16 rfl ?_
      refine y_p1 C dX5_setPieces_17 kyX5_hintOf knX5_hintOf kmX5_120 hr.o (c_X5_hintOf l hr hq p) (by decide) (Nat.zero_le _) (Nat.zero_le _) (Nat.le_of_ble_eq_true rfl) (fun z17 q17 => ?_)
      subst q17
      have hc1 := fI4_c (pH p) hi
      refine s_ist4_2 C dX5_setPieces_20 rfl ?_
      refine x_iload_n C dX5_setPieces_21 rfl ?_
      refine x_bipush C dX5_setPieces_22 ⟨by decide, by decide⟩ ?_
      refine x_icmp_eq (tgt := 40) C dX5_setPieces_24 (by decide) (fun c24 => ?_) (fun c24 => ?_)
      · have ex1 : hi.find? (pH p) = none := by
          rcases hc1 with h9 | h9
          · exact h9.2
          · omega
        rw [gthF, List.length_append, hpk2, pcs, if_pos hh0, List.length_append, hPc_none ex1] at g2
        simp only [List.length_nil] at g2
        refine x_aload_n C dX5_setPieces_40 rfl ?_
        refine x_iload_n C dX5_setPieces_41 rfl ?_
        refine y_p1 C dX5_setPieces_42 kyX5_shutOf knX5_shutOf kmX5_113 hr.o (c_X5_shutOf l hr hw hp p) (by decide) (Nat.zero_le _) (Nat.zero_le _) (Nat.le_of_ble_eq_true rfl) (fun z42 q42 => ?_)
        subst q42
        have hc2 := fI4_c (pS p) fo
        refine s_ist4_3 C dX5_setPieces_45 rfl ?_
        refine x_iload_n C dX5_setPieces_46 rfl ?_
        refine x_aload_n C dX5_setPieces_47 rfl ?_
        refine x_get C dX5_setPieces_48 kfX5_89 hr.o rfl ?_
        refine x_icmp_ne (tgt := 60) C dX5_setPieces_51 (by decide) (fun c51 => ?_) (fun c51 => ?_)
        · unfold sPc at g2
          rw [if_pos (by omega)] at g2
          simp only [List.length_cons, List.length_nil] at g2
          have l1 := hr.l1
          have l2 := hr.l2
          have l3 := hr.l3
          have l4 := hr.l4
          have l5 := hr.l5
          have l6 := hr.l6
          have l7 := hr.l7
          have l8 := hr.l8
          have l11 := hr.l11
          simp only [List.length_append, List.length_map, List.length_cons, List.length_nil] at l1 l2 l3 l4 l5 l6 l7 l8 l11
          obtain ⟨y7, J7, rfl⟩ : ∃ u v, J7 = u :: v := List.exists_cons_of_length_pos (by omega)
          obtain ⟨y8, J8, rfl⟩ : ∃ u v, J8 = u :: v := List.exists_cons_of_length_pos (by omega)
          obtain ⟨y11, J11, rfl⟩ : ∃ u v, J11 = u :: v := List.exists_cons_of_length_pos (by omega)
          simp only [List.length_cons] at l7 l8 l11
          refine x_iload_n C dX5_setPieces_60 rfl ?_
          refine x_bipush C dX5_setPieces_61 ⟨by decide, by decide⟩ ?_
          refine x_icmp_eq (tgt := 84) C dX5_setPieces_63 (by decide) (fun c63 => ?_) (fun c63 => ?_)
          · have ey1 : fo.find? (pS p) = none := by
              rcases hc2 with h9 | h9
              · exact h9.2
              · omega
            have hfi : fIdx (pS p) fo 0 < 0 := by
              rcases Int.lt_or_le (fIdx (pS p) fo 0) 0 with h9 | h9
              · exact h9
              · obtain ⟨x8, h8, -⟩ := fIdx_find (pS p) fo (fun _ => 0) [] h9
                rw [ey1] at h8; cases h8
            have e1 : (sg ++ j1).getD p.toNat 0 = sg.getD p.toNat 0 := gd_app_l (by omega)
            refine x_aload_n C dX5_setPieces_84 rfl ?_
            refine x_aload_n C dX5_setPieces_85 rfl ?_
            refine x_get C dX5_setPieces_86 kfX5_7 hr.o rfl ?_
            refine x_iload_n C dX5_setPieces_89 rfl ?_
            refine x_iald C dX5_setPieces_90 hr.a1 (by omega) (by rw [hr.l1]; omega) ?_
            rw [e1]
            refine x_iload_n C dX5_setPieces_91 rfl ?_
            refine x_aload_n C dX5_setPieces_92 rfl ?_
            refine x_get C dX5_setPieces_93 kfX5_7 hr.o rfl ?_
            refine x_iload_n C dX5_setPieces_96 rfl ?_
            refine x_iald C dX5_setPieces_97 hr.a1 (by omega) (by rw [hr.l1]; omega) ?_
            rw [e1]
            refine x_bipush C dX5_setPieces_98 ⟨by decide, by decide⟩ ?_
            refine x_icmp_ne (tgt := 107) C dX5_setPieces_100 (by decide) (fun c100 => ?_) (fun c100 => ?_)
            · refine x_iconst C dX5_setPieces_107 ⟨by decide, by decide⟩ ?_
              refine y_v3 C dX5_setPieces_108 kyX5_comesPiece knX5_comesPiece kmX5_123 hr.o (c_X5_comesPiece l hr (sg.getD p.toNat 0) p _ (by simp only [List.length_append, List.length_map, List.length_cons, List.length_nil]; omega)) (by decide) (Nat.zero_le _) (Nat.zero_le _) (Nat.le_of_ble_eq_true rfl) (fun w108 q108 => ?_)
              obtain ⟨hr, hf9⟩ := q108
              have hf := hf.tr hf9
              rw [set_mid _ y7 _ J7 (by simp), set_mid _ y8 _ J8 (by simp), set_mid _ y11 _ J11 (by simp)] at hr
              refine s_inc4_1 C dX5_setPieces_111 rfl (by first | (unfold iR; omega) | exact ⟨by omega, by omega⟩) ?_
              refine x_goto (tgt := 7) C dX5_setPieces_114 (by decide) ?_
              have eG : (gthF sg fo hi (k + 1)).map fixE = (gthF sg fo hi k).map fixE ++ [(sg.getD p.toNat 0, p, 1)] := by
                rw [gthF, List.map_append, hpk2, pcs, if_pos hh0]
                rw [hPc_none ex1]
                unfold sPc
                rw [if_pos (by omega), if_neg (by omega)]
                have eF : fixE (sg.getD p.toNat 0, p, 1) = (sg.getD p.toNat 0, p, 1) := by unfold fixE; exact if_neg c100
                show (gthF sg fo hi k).map fixE ++ [fixE (sg.getD p.toNat 0, p, 1)] = _
                rw [eF]
              refine ih (p + 1) (k + 1) _ _ J7 J8 J11 _ (by omega) (by omega) (by omega) (fun h9 => hold_next ey1) ?_ hf
              rw [eG]
              simpa [Int.add_assoc] using hr
            · refine x_iconst C dX5_setPieces_103 ⟨by decide, by decide⟩ ?_
              refine x_goto (tgt := 108) C dX5_setPieces_104 (by decide) ?_
              refine y_v3 C dX5_setPieces_108 kyX5_comesPiece knX5_comesPiece kmX5_123 hr.o (c_X5_comesPiece l hr (sg.getD p.toNat 0) p _ (by simp only [List.length_append, List.length_map, List.length_cons, List.length_nil]; omega)) (by decide) (Nat.zero_le _) (Nat.zero_le _) (Nat.le_of_ble_eq_true rfl) (fun w108 q108 => ?_)
              obtain ⟨hr, hf9⟩ := q108
              have hf := hf.tr hf9
              rw [set_mid _ y7 _ J7 (by simp), set_mid _ y8 _ J8 (by simp), set_mid _ y11 _ J11 (by simp)] at hr
              refine s_inc4_1 C dX5_setPieces_111 rfl (by first | (unfold iR; omega) | exact ⟨by omega, by omega⟩) ?_
              refine x_goto (tgt := 7) C dX5_setPieces_114 (by decide) ?_
              have eG : (gthF sg fo hi (k + 1)).map fixE = (gthF sg fo hi k).map fixE ++ [(sg.getD p.toNat 0, p, 0)] := by
                rw [gthF, List.map_append, hpk2, pcs, if_pos hh0]
                rw [hPc_none ex1]
                unfold sPc
                rw [if_pos (by omega), if_neg (by omega)]
                have eF : fixE (sg.getD p.toNat 0, p, 1) = (sg.getD p.toNat 0, p, 0) := by unfold fixE; exact if_pos c100
                show (gthF sg fo hi k).map fixE ++ [fixE (sg.getD p.toNat 0, p, 1)] = _
                rw [eF]
              refine ih (p + 1) (k + 1) _ _ J7 J8 J11 _ (by omega) (by omega) (by omega) (fun h9 => hold_next ey1) ?_ hf
              rw [eG]
              simpa [Int.add_assoc] using hr
          · have hc2 := hc2.resolve_left (fun h9 => c63 h9.1)
            obtain ⟨y9, ey1, ey2⟩ := hc2.2.2.2 (fun f => f.2.1) j3
            have hym := List.mem_of_find?_eq_some ey1
            have hyp := pS_t (List.find?_some ey1)
            have hyf := hfo y9 hym
            have hy1 : y9.1 = p := by
              have h9 := hold_in hp hym (List.find?_some ey1)
              omega
            refine x_aload_n C dX5_setPieces_66 rfl ?_
            refine x_bipush C dX5_setPieces_67 ⟨by decide, by decide⟩ ?_
            refine x_iload_n C dX5_setPieces_69 rfl ?_
            refine x_iconst C dX5_setPieces_70 ⟨by decide, by decide⟩ ?_
            refine y_v3 C dX5_setPieces_71 kyX5_comesPiece knX5_comesPiece kmX5_123 hr.o (c_X5_comesPiece l hr 28 p 1 (by simp only [List.length_append, List.length_map, List.length_cons, List.length_nil]; omega)) (by decide) (Nat.zero_le _) (Nat.zero_le _) (Nat.le_of_ble_eq_true rfl) (fun w71 q71 => ?_)
            obtain ⟨hr, hf9⟩ := q71
            have hf := hf.tr hf9
            rw [set_mid _ y7 _ J7 (by simp), set_mid _ y8 _ J8 (by simp), set_mid _ y11 _ J11 (by simp)] at hr
            refine x_aload_n C dX5_setPieces_74 rfl ?_
            refine x_get C dX5_setPieces_75 kfX5_16 hr.o rfl ?_
            refine x_iload_n C dX5_setPieces_78 rfl ?_
            refine x_iald C dX5_setPieces_79 hr.a3 (by omega) (by rw [hr.l3]; omega) ?_
            rw [ey2]
            refine s_ist4_1 C dX5_setPieces_80 rfl ?_
            refine x_goto (tgt := 114) C dX5_setPieces_81 (by decide) ?_
            refine x_goto (tgt := 7) C dX5_setPieces_114 (by decide) ?_
            have eG : (gthF sg fo hi (k + 1)).map fixE = (gthF sg fo hi k).map fixE ++ [(28, p, 1)] := by
              rw [gthF, List.map_append, hpk2, pcs, if_pos hh0]
              rw [hPc_none ex1]
              unfold sPc
              rw [if_pos (by omega), if_pos (by omega)]
              simp [fixE]
            have eJ : gthF sg fo hi y9.2.1.toNat = gthF sg fo hi (k + 1) := by
              have h9 := gth_jump (sg := sg) (hi := hi) (fo := fo) (k := k) (y9.2.1.toNat - (k + 1)) (fun p9 h1 h2 => by rw [hold_in hp hym (decide_eq_true ⟨hyp.1, by omega, by omega⟩)]; omega)
              rw [show k + 1 + (y9.2.1.toNat - (k + 1)) = y9.2.1.toNat by omega] at h9
              exact h9
            refine ih _ y9.2.1.toNat _ _ J7 J8 J11 _ (by omega) (by omega) (by omega) (fun _ => hold_jump hp hym (hfo y9 hym).1) ?_ hf
            rw [eJ, eG]
            simpa [Int.add_assoc] using hr
        · refine s_inc4_1 C dX5_setPieces_54 rfl (by first | (unfold iR; omega) | exact ⟨by omega, by omega⟩) ?_
          refine x_goto (tgt := 114) C dX5_setPieces_57 (by decide) ?_
          refine x_goto (tgt := 7) C dX5_setPieces_114 (by decide) ?_
          have eG : (gthF sg fo hi (k + 1)).map fixE = (gthF sg fo hi k).map fixE ++ [] := by
            rw [gthF, List.map_append, hpk2, pcs, if_pos hh0]
            rw [hPc_none ex1]
            unfold sPc
            rw [if_neg (by omega)]
            simp [fixE]
          refine ih (p + 1) (k + 1) _ _ J7 J8 J11 _ (by omega) (by omega) (by omega) (fun h9 => by omega) ?_ hf
          rw [eG]
          simpa [Int.add_assoc] using hr
      · have hc1 := hc1.resolve_left (fun h9 => c24 h9.1)
        obtain ⟨x9, ex1, ex2⟩ := hc1.2.2.2 (fun f => f.2) j6
        rw [gthF, List.length_append, hpk2, pcs, if_pos hh0, List.length_append, hPc_some ex1] at g2
        simp only [List.length_cons, List.length_nil] at g2
        obtain ⟨y7, J7, rfl⟩ : ∃ u v, J7 = u :: v := List.exists_cons_of_length_pos (by omega)
        obtain ⟨y8, J8, rfl⟩ : ∃ u v, J8 = u :: v := List.exists_cons_of_length_pos (by omega)
        obtain ⟨y11, J11, rfl⟩ : ∃ u v, J11 = u :: v := List.exists_cons_of_length_pos (by omega)
        simp only [List.length_cons] at l7 l8 l11
        refine x_aload_n C dX5_setPieces_27 rfl ?_
        refine x_bipush C dX5_setPieces_28 ⟨by decide, by decide⟩ ?_
        refine x_iload_n C dX5_setPieces_30 rfl ?_
        refine x_aload_n C dX5_setPieces_31 rfl ?_
        refine x_get C dX5_setPieces_32 kfX5_25 hr.o rfl ?_
        refine x_iload_n C dX5_setPieces_35 rfl ?_
        skip
        refine x_iald C dX5_setPieces_36 hr.a6 (by omega) (by rw [hr.l6]; omega) ?_
        rw [ex2]
        refine y_v3 C dX5_setPieces_37 kyX5_comesPiece knX5_comesPiece kmX5_123 hr.o (c_X5_comesPiece l hr 29 p x9.2 (by rw [List.length_map]; omega)) (by decide) (Nat.zero_le _) (Nat.zero_le _) (Nat.le_of_ble_eq_true rfl) (fun w37 q37 => ?_)
        obtain ⟨hr, hf9⟩ := q37
        have hf := hf.tr hf9
        rw [set_mid _ y7 _ J7 (by simp), set_mid _ y8 _ J8 (by simp), set_mid _ y11 _ J11 (by simp)] at hr
        refine x_aload_n C dX5_setPieces_40 rfl ?_
        refine x_iload_n C dX5_setPieces_41 rfl ?_
        refine y_p1 C dX5_setPieces_42 kyX5_shutOf knX5_shutOf kmX5_113 hr.o (c_X5_shutOf l hr hw hp p) (by decide) (Nat.zero_le _) (Nat.zero_le _) (Nat.le_of_ble_eq_true rfl) (fun z42 q42 => ?_)
        subst q42
        have hc2 := fI4_c (pS p) fo
        refine s_ist4_3 C dX5_setPieces_45 rfl ?_
        refine x_iload_n C dX5_setPieces_46 rfl ?_
        refine x_aload_n C dX5_setPieces_47 rfl ?_
        refine x_get C dX5_setPieces_48 kfX5_89 hr.o rfl ?_
        refine x_icmp_ne (tgt := 60) C dX5_setPieces_51 (by decide) (fun c51 => ?_) (fun c51 => ?_)
        · unfold sPc at g2
          rw [if_pos (by omega)] at g2
          simp only [List.length_cons, List.length_nil] at g2
          have l1 := hr.l1
          have l2 := hr.l2
          have l3 := hr.l3
          have l4 := hr.l4
          have l5 := hr.l5
          have l6 := hr.l6
          have l7 := hr.l7
          have l8 := hr.l8
          have l11 := hr.l11
          simp only [List.length_append, List.length_map, List.length_cons, List.length_nil] at l1 l2 l3 l4 l5 l6 l7 l8 l11
          obtain ⟨y7, J7, rfl⟩ : ∃ u v, J7 = u :: v := List.exists_cons_of_length_pos (by omega)
          obtain ⟨y8, J8, rfl⟩ : ∃ u v, J8 = u :: v := List.exists_cons_of_length_pos (by omega)
          obtain ⟨y11, J11, rfl⟩ : ∃ u v, J11 = u :: v := List.exists_cons_of_length_pos (by omega)
          simp only [List.length_cons] at l7 l8 l11
          refine x_iload_n C dX5_setPieces_60 rfl ?_
          refine x_bipush C dX5_setPieces_61 ⟨by decide, by decide⟩ ?_
          refine x_icmp_eq (tgt := 84) C dX5_setPieces_63 (by decide) (fun c63 => ?_) (fun c63 => ?_)
          · have ey1 : fo.find? (pS p) = none := by
              rcases hc2 with h9 | h9
              · exact h9.2
              · omega
            have hfi : fIdx (pS p) fo 0 < 0 := by
              rcases Int.lt_or_le (fIdx (pS p) fo 0) 0 with h9 | h9
              · exact h9
              · obtain ⟨x8, h8, -⟩ := fIdx_find (pS p) fo (fun _ => 0) [] h9
                rw [ey1] at h8; cases h8
            have e1 : (sg ++ j1).getD p.toNat 0 = sg.getD p.toNat 0 := gd_app_l (by omega)
            refine x_aload_n C dX5_setPieces_84 rfl ?_
            refine x_aload_n C dX5_setPieces_85 rfl ?_
            refine x_get C dX5_setPieces_86 kfX5_7 hr.o rfl ?_
            refine x_iload_n C dX5_setPieces_89 rfl ?_
            refine x_iald C dX5_setPieces_90 hr.a1 (by omega) (by rw [hr.l1]; omega) ?_
            rw [e1]
            refine x_iload_n C dX5_setPieces_91 rfl ?_
            refine x_aload_n C dX5_setPieces_92 rfl ?_
            refine x_get C dX5_setPieces_93 kfX5_7 hr.o rfl ?_
            refine x_iload_n C dX5_setPieces_96 rfl ?_
            refine x_iald C dX5_setPieces_97 hr.a1 (by omega) (by rw [hr.l1]; omega) ?_
            rw [e1]
            refine x_bipush C dX5_setPieces_98 ⟨by decide, by decide⟩ ?_
            refine x_icmp_ne (tgt := 107) C dX5_setPieces_100 (by decide) (fun c100 => ?_) (fun c100 => ?_)
            · refine x_iconst C dX5_setPieces_107 ⟨by decide, by decide⟩ ?_
              refine y_v3 C dX5_setPieces_108 kyX5_comesPiece knX5_comesPiece kmX5_123 hr.o (c_X5_comesPiece l hr (sg.getD p.toNat 0) p _ (by simp only [List.length_append, List.length_map, List.length_cons, List.length_nil]; omega)) (by decide) (Nat.zero_le _) (Nat.zero_le _) (Nat.le_of_ble_eq_true rfl) (fun w108 q108 => ?_)
              obtain ⟨hr, hf9⟩ := q108
              have hf := hf.tr hf9
              rw [set_mid1 _ _ y7 _ J7 (by simp), set_mid1 _ _ y8 _ J8 (by simp), set_mid1 _ _ y11 _ J11 (by simp)] at hr
              refine s_inc4_1 C dX5_setPieces_111 rfl (by first | (unfold iR; omega) | exact ⟨by omega, by omega⟩) ?_
              refine x_goto (tgt := 7) C dX5_setPieces_114 (by decide) ?_
              have eG : (gthF sg fo hi (k + 1)).map fixE = (gthF sg fo hi k).map fixE ++ [(29, p, x9.2), (sg.getD p.toNat 0, p, 1)] := by
                rw [gthF, List.map_append, hpk2, pcs, if_pos hh0]
                rw [hPc_some ex1]
                unfold sPc
                rw [if_pos (by omega), if_neg (by omega)]
                have eF : fixE (sg.getD p.toNat 0, p, 1) = (sg.getD p.toNat 0, p, 1) := by unfold fixE; exact if_neg c100
                show (gthF sg fo hi k).map fixE ++ [fixE (29, p, x9.2), fixE (sg.getD p.toNat 0, p, 1)] = _
                rw [eF]
                rfl
              refine ih (p + 1) (k + 1) _ _ J7 J8 J11 _ (by omega) (by omega) (by omega) (fun h9 => hold_next ey1) ?_ hf
              rw [eG]
              simpa [Int.add_assoc] using hr
            · refine x_iconst C dX5_setPieces_103 ⟨by decide, by decide⟩ ?_
              refine x_goto (tgt := 108) C dX5_setPieces_104 (by decide) ?_
              refine y_v3 C dX5_setPieces_108 kyX5_comesPiece knX5_comesPiece kmX5_123 hr.o (c_X5_comesPiece l hr (sg.getD p.toNat 0) p _ (by simp only [List.length_append, List.length_map, List.length_cons, List.length_nil]; omega)) (by decide) (Nat.zero_le _) (Nat.zero_le _) (Nat.le_of_ble_eq_true rfl) (fun w108 q108 => ?_)
              obtain ⟨hr, hf9⟩ := q108
              have hf := hf.tr hf9
              rw [set_mid1 _ _ y7 _ J7 (by simp), set_mid1 _ _ y8 _ J8 (by simp), set_mid1 _ _ y11 _ J11 (by simp)] at hr
              refine s_inc4_1 C dX5_setPieces_111 rfl (by first | (unfold iR; omega) | exact ⟨by omega, by omega⟩) ?_
              refine x_goto (tgt := 7) C dX5_setPieces_114 (by decide) ?_
              have eG : (gthF sg fo hi (k + 1)).map fixE = (gthF sg fo hi k).map fixE ++ [(29, p, x9.2), (sg.getD p.toNat 0, p, 0)] := by
                rw [gthF, List.map_append, hpk2, pcs, if_pos hh0]
                rw [hPc_some ex1]
                unfold sPc
                rw [if_pos (by omega), if_neg (by omega)]
                have eF : fixE (sg.getD p.toNat 0, p, 1) = (sg.getD p.toNat 0, p, 0) := by unfold fixE; exact if_pos c100
                show (gthF sg fo hi k).map fixE ++ [fixE (29, p, x9.2), fixE (sg.getD p.toNat 0, p, 1)] = _
                rw [eF]
                rfl
              refine ih (p + 1) (k + 1) _ _ J7 J8 J11 _ (by omega) (by omega) (by omega) (fun h9 => hold_next ey1) ?_ hf
              rw [eG]
              simpa [Int.add_assoc] using hr
          · have hc2 := hc2.resolve_left (fun h9 => c63 h9.1)
            obtain ⟨y9, ey1, ey2⟩ := hc2.2.2.2 (fun f => f.2.1) j3
            have hym := List.mem_of_find?_eq_some ey1
            have hyp := pS_t (List.find?_some ey1)
            have hyf := hfo y9 hym
            have hy1 : y9.1 = p := by
              have h9 := hold_in hp hym (List.find?_some ey1)
              omega
            refine x_aload_n C dX5_setPieces_66 rfl ?_
            refine x_bipush C dX5_setPieces_67 ⟨by decide, by decide⟩ ?_
            refine x_iload_n C dX5_setPieces_69 rfl ?_
            refine x_iconst C dX5_setPieces_70 ⟨by decide, by decide⟩ ?_
            refine y_v3 C dX5_setPieces_71 kyX5_comesPiece knX5_comesPiece kmX5_123 hr.o (c_X5_comesPiece l hr 28 p 1 (by simp only [List.length_append, List.length_map, List.length_cons, List.length_nil]; omega)) (by decide) (Nat.zero_le _) (Nat.zero_le _) (Nat.le_of_ble_eq_true rfl) (fun w71 q71 => ?_)
            obtain ⟨hr, hf9⟩ := q71
            have hf := hf.tr hf9
            rw [set_mid1 _ _ y7 _ J7 (by simp), set_mid1 _ _ y8 _ J8 (by simp), set_mid1 _ _ y11 _ J11 (by simp)] at hr
            refine x_aload_n C dX5_setPieces_74 rfl ?_
            refine x_get C dX5_setPieces_75 kfX5_16 hr.o rfl ?_
            refine x_iload_n C dX5_setPieces_78 rfl ?_
            refine x_iald C dX5_setPieces_79 hr.a3 (by omega) (by rw [hr.l3]; omega) ?_
            rw [ey2]
            refine s_ist4_1 C dX5_setPieces_80 rfl ?_
            refine x_goto (tgt := 114) C dX5_setPieces_81 (by decide) ?_
            refine x_goto (tgt := 7) C dX5_setPieces_114 (by decide) ?_
            have eG : (gthF sg fo hi (k + 1)).map fixE = (gthF sg fo hi k).map fixE ++ [(29, p, x9.2), (28, p, 1)] := by
              rw [gthF, List.map_append, hpk2, pcs, if_pos hh0]
              rw [hPc_some ex1]
              unfold sPc
              rw [if_pos (by omega), if_pos (by omega)]
              simp [fixE]
            have eJ : gthF sg fo hi y9.2.1.toNat = gthF sg fo hi (k + 1) := by
              have h9 := gth_jump (sg := sg) (hi := hi) (fo := fo) (k := k) (y9.2.1.toNat - (k + 1)) (fun p9 h1 h2 => by rw [hold_in hp hym (decide_eq_true ⟨hyp.1, by omega, by omega⟩)]; omega)
              rw [show k + 1 + (y9.2.1.toNat - (k + 1)) = y9.2.1.toNat by omega] at h9
              exact h9
            refine ih _ y9.2.1.toNat _ _ J7 J8 J11 _ (by omega) (by omega) (by omega) (fun _ => hold_jump hp hym (hfo y9 hym).1) ?_ hf
            rw [eJ, eG]
            simpa [Int.add_assoc] using hr
        · refine s_inc4_1 C dX5_setPieces_54 rfl (by first | (unfold iR; omega) | exact ⟨by omega, by omega⟩) ?_
          refine x_goto (tgt := 114) C dX5_setPieces_57 (by decide) ?_
          refine x_goto (tgt := 7) C dX5_setPieces_114 (by decide) ?_
          have eG : (gthF sg fo hi (k + 1)).map fixE = (gthF sg fo hi k).map fixE ++ [(29, p, x9.2)] := by
            rw [gthF, List.map_append, hpk2, pcs, if_pos hh0]
            rw [hPc_some ex1]
            unfold sPc
            rw [if_neg (by omega)]
            simp [fixE]
          refine ih (p + 1) (k + 1) _ _ J7 J8 J11 _ (by omega) (by omega) (by omega) (fun h9 => by omega) ?_ hf
          rw [eG]
          simpa [Int.add_assoc] using hr

theorem hold_0 {fo : List (Int × Int × Int)} (h : ∀ f ∈ fo, 0 ≤ f.1) : hold fo 0 = 0 := by
  unfold hold
  cases hf : fo.find? (pS 0) with
  | none => rfl
  | some y =>
    have h2 := pS_t (List.find?_some hf)
    have h3 := h y (List.mem_of_find?_eq_some hf)
    simp only
    omega

set_option maxHeartbeats 1000000 in
set_option maxRecDepth 100000 in
theorem c_X5_setPieces (l : Launch) {w : mW} {h : Nat} {sg : List Int} {fo : List (Int × Int × Int)} {hi : List (Int × Int)} {j1 j2 j3 j4 j5 j6 : List Int} {mo wi nd tb pi lr lc um sm wp wr ac sz ra rn : Int} {M7 M8 M9 M10 M11 M12 M13 M14 M15 M16 M17 M18 M19 M20 M21 M22 M23 : List Int} (hr : rM w h sg.length fo.length hi.length mo wi nd tb pi lr lc um sm wp wr ac sz ra rn (sg ++ j1) (fo.map (fun f => f.1) ++ j2) (fo.map (fun f => f.2.1) ++ j3) (fo.map (fun f => f.2.2) ++ j4) (hi.map (fun q => q.1) ++ j5) (hi.map (fun q => q.2) ++ j6) M7 M8 M9 M10 M11 M12 M13 M14 M15 M16 M17 M18 M19 M20 M21 M22 M23) (hw : ∀ f ∈ fo, (0 ≤ f.1 ∧ f.1 ≤ 100) ∧ (0 ≤ f.2.1 ∧ f.2.1 ≤ 100) ∧ (f.2.2 = 0 ∨ f.2.2 = 1)) (hp : fo.Pairwise (fun a b => a.2.1 ≤ b.1)) (hq : hi.Pairwise (fun a b => a.1 < b.1)) (hfo : ∀ f ∈ fo, f.1 < f.2.1 ∧ f.2.1 ≤ sg.length) (hln : sg.length ≤ 40 ∧ hi.length ≤ 4) : Cv l yX5_setPieces cX5_setPieces 4 2 [vr h] w (fun w' => ∃ J7 J8 J11 : List Int, rM w' h sg.length fo.length hi.length mo wi nd tb ((its sg fo hi).map fixE).length lr lc um sm wp wr ac sz ra rn (sg ++ j1) (fo.map (fun f => f.1) ++ j2) (fo.map (fun f => f.2.1) ++ j3) (fo.map (fun f => f.2.2) ++ j4) (hi.map (fun q => q.1) ++ j5) (hi.map (fun q => q.2) ++ j6) (((its sg fo hi).map fixE).map (fun q => q.1) ++ J7) (((its sg fo hi).map fixE).map (fun q => q.2.1) ++ J8) M9 M10 (((its sg fo hi).map fixE).map (fun q => q.2.2) ++ J11) M12 M13 M14 M15 M16 M17 M18 M19 M20 M21 M22 M23 ∧ frR w w' h (h + 23)) := by
  refine Cv.of (ml := [some (vr h), none, none, none]) kyX5_setPieces rfl (Nat.le_of_ble_eq_true rfl) rfl ?_
  intro t n C hQ
  have hf : frR w w h (h + 23) := frR.rf
  refine x_aload_n C dX5_setPieces_0 rfl ?_
  refine x_iconst C dX5_setPieces_1 ⟨by decide, by decide⟩ ?_
  refine x_put C dX5_setPieces_2 kfX5_117 kw_5_13 rfl rfl hr.o (Nat.le_of_ble_eq_true rfl) ?_
  refine ab_M_pi hr hf (fun w hr hf => ?_)
  refine x_iconst C dX5_setPieces_5 ⟨by decide, by decide⟩ ?_
  refine s_ist4_1 C dX5_setPieces_6 rfl ?_
  exact lp_X5_setPieces hw hp hq hfo hln C hQ (fun w9 J7 J8 J11 h8 h9 => ⟨J7, J8, J11, h8, h9⟩) (sg.length + 2) 0 0 _ _ M7 M8 M11 w (by omega) rfl (by omega) (fun _ => hold_0 (fun f hf9 => (hw f hf9).1.1)) (by simpa [gthF] using hr) hf
