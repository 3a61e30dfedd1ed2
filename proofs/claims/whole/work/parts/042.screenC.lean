/-! ===== DisplayMap.Screen: gather, draw, finders ===== -/
/-- what stands at a place -/
def hPc (hi : List (Int × Int)) (p : Int) : List mI := match hi.find? (pH p) with
  | some q => [(29, p, q.2)]
  | none => []
def sPc (sg : List Int) (fo : List (Int × Int × Int)) (p : Int) : List mI := if p < sg.length then [(if 0 ≤ fIdx (pS p) fo 0 then 28 else sg.getD p.toNat 0, p, 1)] else []
def pcs (sg : List Int) (fo : List (Int × Int × Int)) (hi : List (Int × Int)) (p : Int) : List mI := if hold fo p = p then hPc hi p ++ sPc sg fo p else []
theorem hPc_some {hi : List (Int × Int)} {p : Int} {q : Int × Int} (h : hi.find? (pH p) = some q) : hPc hi p = [(29, p, q.2)] := by unfold hPc; rw [h]
theorem hPc_none {hi : List (Int × Int)} {p : Int} (h : hi.find? (pH p) = none) : hPc hi p = [] := by unfold hPc; rw [h]
def gthF (sg : List Int) (fo : List (Int × Int × Int)) (hi : List (Int × Int)) : Nat → List mI
  | 0 => []
  | k + 1 => gthF sg fo hi k ++ pcs sg fo hi k
def its (sg : List Int) (fo : List (Int × Int × Int)) (hi : List (Int × Int)) : List mI := gthF sg fo hi (sg.length + 1)
def scrF (sg : List Int) (fo : List (Int × Int × Int)) (hi : List (Int × Int)) (mo wi nd tb : Int) : List mP × List (Int × Int) := flw mo wi nd tb (its sg fo hi) false false [] 1 0
theorem flt_succ (hi : List (Int × Int)) (k : Int) : (hi.filter (fun q => decide (q.1 < k + 1))).length = (hi.filter (fun q => decide (q.1 < k))).length + (hi.filter (pH k)).length := by
  induction hi with
  | nil => rfl
  | cons q hi ih =>
    by_cases h1 : q.1 < k
    · have a1 : decide (q.1 < k + 1) = true := by simp; omega
      have a2 : decide (q.1 < k) = true := by simp; omega
      have a3 : ¬ pH k q = true := by simp [pH]; omega
      rw [List.filter_cons_of_pos (p := fun q : Int × Int => decide (q.1 < k + 1)) a1, List.filter_cons_of_pos (p := fun q : Int × Int => decide (q.1 < k)) a2, List.filter_cons_of_neg a3]
      simp only [List.length_cons]; omega
    · by_cases h2 : q.1 = k
      · have a1 : decide (q.1 < k + 1) = true := by simp; omega
        have a2 : ¬ decide (q.1 < k) = true := by simp; omega
        have a3 : pH k q = true := by simp [pH]; omega
        rw [List.filter_cons_of_pos (p := fun q : Int × Int => decide (q.1 < k + 1)) a1, List.filter_cons_of_neg (p := fun q : Int × Int => decide (q.1 < k)) a2, List.filter_cons_of_pos a3]
        simp only [List.length_cons]; omega
      · have a1 : ¬ decide (q.1 < k + 1) = true := by simp; omega
        have a2 : ¬ decide (q.1 < k) = true := by simp; omega
        have a3 : ¬ pH k q = true := by simp [pH]; omega
        rw [List.filter_cons_of_neg (p := fun q : Int × Int => decide (q.1 < k + 1)) a1, List.filter_cons_of_neg (p := fun q : Int × Int => decide (q.1 < k)) a2, List.filter_cons_of_neg a3]
        exact ih
theorem find_flt {α : Type} (p : α → Bool) (l : List α) {x : α} (h : l.find? p = some x) : 1 ≤ (l.filter p).length := by
  have h1 : x ∈ l.filter p := List.mem_filter.mpr ⟨List.mem_of_find?_eq_some h, List.find?_some h⟩
  exact List.length_pos_of_mem h1
theorem pcs_len (sg : List Int) (fo : List (Int × Int × Int)) (hi : List (Int × Int)) (p : Int) : (pcs sg fo hi p).length ≤ (hi.filter (pH p)).length + (if p < sg.length then 1 else 0) := by
  unfold pcs
  split
  · rw [List.length_append]
    have h1 : (hPc hi p).length ≤ (hi.filter (pH p)).length := by
      cases hf : hi.find? (pH p) with
      | none => rw [hPc_none hf]; simp
      | some q => rw [hPc_some hf]; exact find_flt _ _ hf
    have h2 : (sPc sg fo p).length ≤ (if p < sg.length then 1 else 0) := by
      unfold sPc
      split <;> simp
    omega
  · simp
theorem gth_len (sg : List Int) (fo : List (Int × Int × Int)) (hi : List (Int × Int)) : ∀ k : Nat, (gthF sg fo hi k).length ≤ (hi.filter (fun q => decide (q.1 < (k : Int)))).length + (if k ≤ sg.length then k else sg.length)
  | 0 => by simp [gthF]
  | k + 1 => by
    have ih := gth_len sg fo hi k
    have h1 := pcs_len sg fo hi k
    have h2 := flt_succ hi k
    rw [gthF, List.length_append]
    have e : ((k + 1 : Nat) : Int) = (k : Int) + 1 := by omega
    rw [e, h2]
    split at ih <;> split <;> (split at h1 <;> omega)
theorem gth_44 {sg : List Int} {fo : List (Int × Int × Int)} {hi : List (Int × Int)} (h1 : sg.length ≤ 40) (h2 : hi.length ≤ 4) (k : Nat) : (gthF sg fo hi k).length ≤ 44 := by
  have h3 := gth_len sg fo hi k
  have h4 := List.length_filter_le (fun q : Int × Int => decide (q.1 < (k : Int))) hi
  split at h3 <;> omega
theorem gth_mono (sg : List Int) (fo : List (Int × Int × Int)) (hi : List (Int × Int)) (k : Nat) : ∀ m : Nat, (gthF sg fo hi k).length ≤ (gthF sg fo hi (k + m)).length
  | 0 => Nat.le_refl _
  | m + 1 => by
    have ih := gth_mono sg fo hi k m
    rw [← Nat.add_assoc, gthF, List.length_append]
    omega
theorem pcs_bd {sg : List Int} {fo : List (Int × Int × Int)} {hi : List (Int × Int)} (hh : ∀ q ∈ hi, 1 ≤ q.2 ∧ q.2 ≤ 5) (p : Int) : ∀ x ∈ pcs sg fo hi p, 0 ≤ x.2.2 ∧ x.2.2 ≤ 5 := by
  intro x hx
  unfold pcs at hx
  split at hx
  · rcases List.mem_append.mp hx with h | h
    · cases hf : hi.find? (pH p) with
      | none => rw [hPc_none hf] at h; cases h
      | some q =>
        rw [hPc_some hf] at h
        have := hh q (List.mem_of_find?_eq_some hf)
        rw [List.mem_singleton.mp h]
        simp only; omega
    · unfold sPc at h
      split at h
      · rw [List.mem_singleton.mp h]; simp
      · cases h
  · cases hx
theorem gth_bd {sg : List Int} {fo : List (Int × Int × Int)} {hi : List (Int × Int)} (hh : ∀ q ∈ hi, 1 ≤ q.2 ∧ q.2 ≤ 5) : ∀ (k : Nat), ∀ x ∈ gthF sg fo hi k, 0 ≤ x.2.2 ∧ x.2.2 ≤ 5
  | 0 => by simp [gthF]
  | k + 1 => by
    intro x hx
    rw [gthF] at hx
    rcases List.mem_append.mp hx with h | h
    · exact gth_bd hh k x h
    · exact pcs_bd hh k x h

set_option maxHeartbeats 1000000 in
set_option maxRecDepth 100000 in
theorem c_X1_flow (l : Launch) {w : mW} {h : Nat} {rc lc : Int} {L : List mI} {J1 J2 B3 B4 J5 B6 B7 : List Int} (hr : rC w h L.length rc lc (L.map (fun q => q.1) ++ J1) (L.map (fun q => q.2.1) ++ J2) B3 B4 (L.map (fun q => q.2.2) ++ J5) B6 B7) {u : Nat} {n fc hc mo wi nd tb : Int} {A1 A2 A3 A4 A5 A6 : List Int} (hs : rS w u n fc hc mo wi nd tb A1 A2 A3 A4 A5 A6) (hd : u + 6 < h ∨ h + 7 < u) (htb : 1 ≤ tb ∧ tb ≤ 8) (hwi : 4 ≤ wi ∧ wi ≤ 20) (hnd : 0 ≤ nd ∧ nd ≤ 3) (hb : ∀ x ∈ L, 0 ≤ x.2.2 ∧ x.2.2 ≤ 5) : Cv l yX1_flow cX1_flow 4 3 [vr h, vr u] w (fun w' => isSc w' h (flw mo wi nd tb L false false [] 1 0).1 (flw mo wi nd tb L false false [] 1 0).2 ∧ frR w w' h (h + 7)) := by
  refine Cv.of (ml := [some (vr h), some (vr u), none, none]) kyX1_flow rfl (Nat.le_of_ble_eq_true rfl) rfl ?_
  intro t n C hQ
  have hw_ : ∃ w_, w_ = w := ⟨w, rfl⟩
  obtain ⟨w_, hw_⟩ := hw_
  rw [← hw_] at hs
  have hf0 : frR w_ w h (h + 7) := hw_ ▸ frR.rf
  have hf : frR w_ w h (h + 7) := hf0
  have l6 := hr.l6
  have l7 := hr.l7
  obtain ⟨x6, B6, rfl⟩ : ∃ u v, B6 = u :: v := List.exists_cons_of_length_pos (by omega)
  obtain ⟨x7, B7, rfl⟩ : ∃ u v, B7 = u :: v := List.exists_cons_of_length_pos (by omega)
  refine x_aload_n C dX1_flow_0 rfl ?_
  refine x_iconst C dX1_flow_1 ⟨by decide, by decide⟩ ?_
  refine x_put C dX1_flow_2 kfX1_41 kw_1_8 rfl rfl hr.o (Nat.le_of_ble_eq_true rfl) ?_
  refine ab_C_rc hr hf (fun w hr hf => ?_)
  refine x_aload_n C dX1_flow_5 rfl ?_
  refine x_iconst C dX1_flow_6 ⟨by decide, by decide⟩ ?_
  refine y_v1 C dX1_flow_7 kyX1_openRow knX1_openRow kmX1_74 hr.o (c_X1_openRow l hr 1 (Or.inr rfl) (by omega)) (by decide) (Nat.zero_le _) (Nat.zero_le _) (Nat.le_of_ble_eq_true rfl) (fun w7 q7 => ?_)
  obtain ⟨hr, hf9⟩ := q7
  have hf := hf.tr hf9
  refine x_iconst C dX1_flow_10 ⟨by decide, by decide⟩ ?_
  refine s_ist4_2 C dX1_flow_11 rfl ?_
  refine x_iconst C dX1_flow_12 ⟨by decide, by decide⟩ ?_
  refine s_ist4_3 C dX1_flow_13 rfl ?_
  refine lp_X1_flow (w0 := w_) hs hd htb hwi hnd C hQ (fun w9 h8 h9 => ⟨h8, hw_ ▸ h9⟩) L [] [] 1 0 0 0 false false J1 J2 B3 B4 J5 B6 B7 w7 (by simpa using hr) hf rfl (Or.inr ⟨rfl, rfl⟩) (by simp) (by simp) (by simp) hb (by simp) rfl

theorem set_mid1 (P : List Int) (a x y : Int) (R : List Int) {i : Nat} (hi : i = P.length + 1) : (P ++ a :: x :: R).set i y = P ++ a :: y :: R := by
  subst hi
  simp

set_option maxHeartbeats 1000000 in
set_option maxRecDepth 100000 in
theorem lp_X1_gather {t : TX} {l : Launch} {n0 : Nat} {w0 : mW} {h u : Nat} {sg : List Int} {fo : List (Int × Int × Int)} {hi : List (Int × Int)} {mo wi nd tb rc lc : Int} {B3 B4 B6 B7 : List Int} (hS0 : isSh w0 u sg fo hi mo wi nd tb) (hd : u + 6 < h ∨ h + 7 < u) (hlt : ∀ k : Nat, k ≤ sg.length + 1 → (gthF sg fo hi k).length ≤ 44) (C : Cb t l cX1_gather RX1 4 none 3 0 0) {Q : mW → Prop} (hQ : RQ t 0 0 (fun r n' w' => n' = n0 ∧ r = none ∧ Q w')) (hfin : ∀ (w' : mW) (J1 J2 J5 : List Int), rC w' h (gthF sg fo hi (sg.length + 1)).length rc lc ((gthF sg fo hi (sg.length + 1)).map (fun q => q.1) ++ J1) ((gthF sg fo hi (sg.length + 1)).map (fun q => q.2.1) ++ J2) B3 B4 ((gthF sg fo hi (sg.length + 1)).map (fun q => q.2.2) ++ J5) B6 B7 → frR w0 w' h (h + 7) → Q w') : ∀ (m : Nat) (p : Int) (k : Nat) (x3 : Option mV) (J1 J2 J5 : List Int) (w : mW), sg.length + 2 ≤ k + m → p = k → k ≤ sg.length + 1 → rC w h (gthF sg fo hi k).length rc lc ((gthF sg fo hi k).map (fun q => q.1) ++ J1) ((gthF sg fo hi k).map (fun q => q.2.1) ++ J2) B3 B4 ((gthF sg fo hi k).map (fun q => q.2.2) ++ J5) B6 B7 → frR w0 w h (h + 7) → J t 0 0 7 [some (vr h), some (vr u), some (vi p), x3] [] n0 w := by
  have hlen := hS0.len
  intro m
  induction m with
  | zero => intro p k x3 J1 J2 J5 w hm; omega
  | succ m ih =>
    intro p k x3 J1 J2 J5 w hm hp hpn hr hf
    have hL := hlt k (by omega)
    have hpk := hlt (k + 1)
    rw [gthF, List.length_append, pcs] at hpk
    have hS := hS0.fr hf hd
    have hS2 := hS
    obtain ⟨j1, j2, j3, j4, j5, j6, hs⟩ := hS
    have hkp : ((k : Nat) : Int) = p := by omega
    rw [hkp] at hpk
    refine x_iload_n C dX1_gather_7 rfl ?_
    refine x_aload_n C dX1_gather_8 rfl ?_
    refine x_get C dX1_gather_9 kfX1_48 hs.o rfl ?_
    refine x_icmp_gt (tgt := 87) C dX1_gather_12 (by decide) (fun c12 => ?_) (fun c12 => ?_)
    · refine x_vret C hQ dX1_gather_87 (Nat.le_refl _) (Nat.le_refl _) ?_
      have hk : k = sg.length + 1 := by omega
      subst hk
      exact ⟨rfl, rfl, hfin w J1 J2 J5 hr hf⟩
    · refine x_aload_n C dX1_gather_15 rfl ?_
      refine x_iload_n C dX1_gather_16 rfl ?_
      refine y_p1 C dX1_gather_17 kyX2_isShown knX2_isShown kmX1_53 hs.o (c_X2_isShown l hS2 p) (by decide) (Nat.zero_le _) (Nat.zero_le _) (Nat.le_of_ble_eq_true rfl) (fun z17 q17 => ?_)
      refine x_if_ne (tgt := 26) C dX1_gather_20 (by decide) (fun c20 => ?_) (fun c20 => ?_)
      · rw [if_pos (by omega)] at hpk
        refine x_aload_n C dX1_gather_26 rfl ?_
        refine x_iload_n C dX1_gather_27 rfl ?_
        refine y_p1 C dX1_gather_28 kyX2_hintAt knX2_hintAt kmX1_57 hs.o (c_X2_hintAt l hS2 p) (by decide) (Nat.zero_le _) (Nat.zero_le _) (Nat.le_of_ble_eq_true rfl) (fun z28 q28 => ?_)
        subst q28
        refine s_ist4_3 C dX1_gather_31 rfl ?_
        refine x_iload_n C dX1_gather_32 rfl ?_
        refine x_if_lt (tgt := 49) C dX1_gather_33 (by decide) (fun c33 => ?_) (fun c33 => ?_)
        · rw [hPc_none (fIdx_none _ _ c33)] at hpk
          simp only [List.length_append, List.length_nil] at hpk
          have hpk := hpk (by omega)
          refine x_iload_n C dX1_gather_49 rfl ?_
          refine x_aload_n C dX1_gather_50 rfl ?_
          refine x_get C dX1_gather_51 kfX1_48 hs.o rfl ?_
          refine x_icmp_ge (tgt := 81) C dX1_gather_54 (by decide) (fun c54 => ?_) (fun c54 => ?_)
          · refine s_inc4_2 C dX1_gather_81 rfl (by first | (unfold iR; omega) | exact ⟨by omega, by omega⟩) ?_
            refine x_goto (tgt := 7) C dX1_gather_84 (by decide) ?_
            refine ih (p + 1) (k + 1) _ J1 J2 J5 _ (by omega) (by omega) (by omega) ?_ hf
            have eG : gthF sg fo hi (k + 1) = gthF sg fo hi k ++ [] := by
              rw [gthF, hkp, pcs]
              rw [if_pos (by omega)]
              rw [hPc_none (fIdx_none _ _ c33)]
              unfold sPc
              rw [if_neg (by omega)]
              simp
            rw [eG]
            simpa [Int.add_assoc] using hr
          · unfold sPc at hpk
            rw [if_pos (by omega)] at hpk
            simp only [List.length_cons, List.length_nil] at hpk
            have l1 := hr.l1
            have l2 := hr.l2
            have l5 := hr.l5
            simp only [List.length_append, List.length_map, List.length_cons] at l1 l2 l5
            obtain ⟨x1, J1, rfl⟩ : ∃ u v, J1 = u :: v := List.exists_cons_of_length_pos (by omega)
            obtain ⟨x2, J2, rfl⟩ : ∃ u v, J2 = u :: v := List.exists_cons_of_length_pos (by omega)
            obtain ⟨x5, J5, rfl⟩ : ∃ u v, J5 = u :: v := List.exists_cons_of_length_pos (by omega)
            refine x_aload_n C dX1_gather_57 rfl ?_
            refine x_aload_n C dX1_gather_58 rfl ?_
            refine x_iload_n C dX1_gather_59 rfl ?_
            refine y_p1 C dX1_gather_60 kyX2_shutFoldOf knX2_shutFoldOf kmX1_68 hs.o (c_X2_shutFoldOf l hS2 p) (by decide) (Nat.zero_le _) (Nat.zero_le _) (Nat.le_of_ble_eq_true rfl) (fun z60 q60 => ?_)
            subst q60
            refine x_if_ge (tgt := 74) C dX1_gather_63 (by decide) (fun c63 => ?_) (fun c63 => ?_)
            · refine x_bipush C dX1_gather_74 ⟨by decide, by decide⟩ ?_
              refine x_iload_n C dX1_gather_76 rfl ?_
              refine x_iconst C dX1_gather_77 ⟨by decide, by decide⟩ ?_
              refine y_v3 C dX1_gather_78 kyX1_addItem knX1_addItem kmX1_64 hr.o (c_X1_addItem l hr _ p 1 (by omega)) (by decide) (Nat.zero_le _) (Nat.zero_le _) (Nat.le_of_ble_eq_true rfl) (fun w78 q78 => ?_)
              obtain ⟨hr, hf9⟩ := q78
              have hf := hf.tr hf9
              rw [set_mid _ x1 _ J1 (by simp), set_mid _ x2 _ J2 (by simp), set_mid _ x5 _ J5 (by simp)] at hr
              refine s_inc4_2 C dX1_gather_81 rfl (by first | (unfold iR; omega) | exact ⟨by omega, by omega⟩) ?_
              refine x_goto (tgt := 7) C dX1_gather_84 (by decide) ?_
              refine ih (p + 1) (k + 1) _ J1 J2 J5 _ (by omega) (by omega) (by omega) ?_ hf
              have eG : gthF sg fo hi (k + 1) = gthF sg fo hi k ++ [(28, p, 1)] := by
                rw [gthF, hkp, pcs]
                rw [if_pos (by omega)]
                rw [hPc_none (fIdx_none _ _ c33)]
                unfold sPc
                rw [if_pos (by omega), if_pos (by omega)]
                simp
              rw [eG]
              simpa [Int.add_assoc] using hr
            · refine x_aload_n C dX1_gather_66 rfl ?_
              refine x_iload_n C dX1_gather_67 rfl ?_
              refine y_p1 C dX1_gather_68 kyX2_signAt knX2_signAt kmX1_71 hs.o (c_X2_signAt l hS2 p) (by decide) (Nat.zero_le _) (Nat.zero_le _) (Nat.le_of_ble_eq_true rfl) (fun z68 q68 => ?_)
              have q68 := q68.1 (by omega)
              subst q68
              refine x_goto (tgt := 76) C dX1_gather_71 (by decide) ?_
              refine x_iload_n C dX1_gather_76 rfl ?_
              refine x_iconst C dX1_gather_77 ⟨by decide, by decide⟩ ?_
              refine y_v3 C dX1_gather_78 kyX1_addItem knX1_addItem kmX1_64 hr.o (c_X1_addItem l hr _ p 1 (by omega)) (by decide) (Nat.zero_le _) (Nat.zero_le _) (Nat.le_of_ble_eq_true rfl) (fun w78 q78 => ?_)
              obtain ⟨hr, hf9⟩ := q78
              have hf := hf.tr hf9
              rw [set_mid _ x1 _ J1 (by simp), set_mid _ x2 _ J2 (by simp), set_mid _ x5 _ J5 (by simp)] at hr
              refine s_inc4_2 C dX1_gather_81 rfl (by first | (unfold iR; omega) | exact ⟨by omega, by omega⟩) ?_
              refine x_goto (tgt := 7) C dX1_gather_84 (by decide) ?_
              refine ih (p + 1) (k + 1) _ J1 J2 J5 _ (by omega) (by omega) (by omega) ?_ hf
              have eG : gthF sg fo hi (k + 1) = gthF sg fo hi k ++ [(sg.getD p.toNat 0, p, 1)] := by
                rw [gthF, hkp, pcs]
                rw [if_pos (by omega)]
                rw [hPc_none (fIdx_none _ _ c33)]
                unfold sPc
                rw [if_pos (by omega), if_neg (by omega)]
                simp
              rw [eG]
              simpa [Int.add_assoc] using hr
        · obtain ⟨x9, ex1, ex2, ex3⟩ := fIdx_find (pH p) hi (fun f => f.2) j6 c33
          rw [hPc_some ex1] at hpk
          simp only [List.length_append, List.length_cons, List.length_nil] at hpk
          have hpk := hpk (by omega)
          have l1 := hr.l1
          have l2 := hr.l2
          have l5 := hr.l5
          simp only [List.length_append, List.length_map, List.length_cons] at l1 l2 l5
          obtain ⟨x1, J1, rfl⟩ : ∃ u v, J1 = u :: v := List.exists_cons_of_length_pos (by omega)
          obtain ⟨x2, J2, rfl⟩ : ∃ u v, J2 = u :: v := List.exists_cons_of_length_pos (by omega)
          obtain ⟨x5, J5, rfl⟩ : ∃ u v, J5 = u :: v := List.exists_cons_of_length_pos (by omega)
          refine x_aload_n C dX1_gather_36 rfl ?_
          refine x_bipush C dX1_gather_37 ⟨by decide, by decide⟩ ?_
          refine x_iload_n C dX1_gather_39 rfl ?_
          refine x_aload_n C dX1_gather_40 rfl ?_
          refine x_get C dX1_gather_41 kfX1_61 hs.o rfl ?_
          refine x_iload_n C dX1_gather_44 rfl ?_
          refine x_iald C dX1_gather_45 hs.a6 (by omega) (by rw [hs.l6]; omega) ?_
          rw [ex3]
          refine y_v3 C dX1_gather_46 kyX1_addItem knX1_addItem kmX1_64 hr.o (c_X1_addItem l hr 29 p x9.2 (by omega)) (by decide) (Nat.zero_le _) (Nat.zero_le _) (Nat.le_of_ble_eq_true rfl) (fun w46 q46 => ?_)
          obtain ⟨hr, hf9⟩ := q46
          have hf := hf.tr hf9
          rw [set_mid _ x1 _ J1 (by simp), set_mid _ x2 _ J2 (by simp), set_mid _ x5 _ J5 (by simp)] at hr
          have hS := hS0.fr hf hd
          have hS2 := hS
          obtain ⟨j1, j2, j3, j4, j5, j6, hs⟩ := hS
          refine x_iload_n C dX1_gather_49 rfl ?_
          refine x_aload_n C dX1_gather_50 rfl ?_
          refine x_get C dX1_gather_51 kfX1_48 hs.o rfl ?_
          refine x_icmp_ge (tgt := 81) C dX1_gather_54 (by decide) (fun c54 => ?_) (fun c54 => ?_)
          · refine s_inc4_2 C dX1_gather_81 rfl (by first | (unfold iR; omega) | exact ⟨by omega, by omega⟩) ?_
            refine x_goto (tgt := 7) C dX1_gather_84 (by decide) ?_
            refine ih (p + 1) (k + 1) _ J1 J2 J5 _ (by omega) (by omega) (by omega) ?_ hf
            have eG : gthF sg fo hi (k + 1) = gthF sg fo hi k ++ [(29, p, x9.2)] := by
              rw [gthF, hkp, pcs]
              rw [if_pos (by omega)]
              rw [hPc_some ex1]
              unfold sPc
              rw [if_neg (by omega)]
              simp
            rw [eG]
            simpa [Int.add_assoc] using hr
          · unfold sPc at hpk
            rw [if_pos (by omega)] at hpk
            simp only [List.length_cons, List.length_nil] at hpk
            have l1 := hr.l1
            have l2 := hr.l2
            have l5 := hr.l5
            simp only [List.length_append, List.length_map, List.length_cons] at l1 l2 l5
            obtain ⟨x1, J1, rfl⟩ : ∃ u v, J1 = u :: v := List.exists_cons_of_length_pos (by omega)
            obtain ⟨x2, J2, rfl⟩ : ∃ u v, J2 = u :: v := List.exists_cons_of_length_pos (by omega)
            obtain ⟨x5, J5, rfl⟩ : ∃ u v, J5 = u :: v := List.exists_cons_of_length_pos (by omega)
            refine x_aload_n C dX1_gather_57 rfl ?_
            refine x_aload_n C dX1_gather_58 rfl ?_
            refine x_iload_n C dX1_gather_59 rfl ?_
            refine y_p1 C dX1_gather_60 kyX2_shutFoldOf knX2_shutFoldOf kmX1_68 hs.o (c_X2_shutFoldOf l hS2 p) (by decide) (Nat.zero_le _) (Nat.zero_le _) (Nat.le_of_ble_eq_true rfl) (fun z60 q60 => ?_)
            subst q60
            refine x_if_ge (tgt := 74) C dX1_gather_63 (by decide) (fun c63 => ?_) (fun c63 => ?_)
            · refine x_bipush C dX1_gather_74 ⟨by decide, by decide⟩ ?_
              refine x_iload_n C dX1_gather_76 rfl ?_
              refine x_iconst C dX1_gather_77 ⟨by decide, by decide⟩ ?_
              refine y_v3 C dX1_gather_78 kyX1_addItem knX1_addItem kmX1_64 hr.o (c_X1_addItem l hr _ p 1 (by omega)) (by decide) (Nat.zero_le _) (Nat.zero_le _) (Nat.le_of_ble_eq_true rfl) (fun w78 q78 => ?_)
              obtain ⟨hr, hf9⟩ := q78
              have hf := hf.tr hf9
              rw [set_mid1 _ _ x1 _ J1 (by simp), set_mid1 _ _ x2 _ J2 (by simp), set_mid1 _ _ x5 _ J5 (by simp)] at hr
              refine s_inc4_2 C dX1_gather_81 rfl (by first | (unfold iR; omega) | exact ⟨by omega, by omega⟩) ?_
              refine x_goto (tgt := 7) C dX1_gather_84 (by decide) ?_
              refine ih (p + 1) (k + 1) _ J1 J2 J5 _ (by omega) (by omega) (by omega) ?_ hf
              have eG : gthF sg fo hi (k + 1) = gthF sg fo hi k ++ [(29, p, x9.2), (28, p, 1)] := by
                rw [gthF, hkp, pcs]
                rw [if_pos (by omega)]
                rw [hPc_some ex1]
                unfold sPc
                rw [if_pos (by omega), if_pos (by omega)]
                simp
              rw [eG]
              simpa [Int.add_assoc] using hr
            · refine x_aload_n C dX1_gather_66 rfl ?_
              refine x_iload_n C dX1_gather_67 rfl ?_
              refine y_p1 C dX1_gather_68 kyX2_signAt knX2_signAt kmX1_71 hs.o (c_X2_signAt l hS2 p) (by decide) (Nat.zero_le _) (Nat.zero_le _) (Nat.le_of_ble_eq_true rfl) (fun z68 q68 => ?_)
              have q68 := q68.1 (by omega)
              subst q68
              refine x_goto (tgt := 76) C dX1_gather_71 (by decide) ?_
              refine x_iload_n C dX1_gather_76 rfl ?_
              refine x_iconst C dX1_gather_77 ⟨by decide, by decide⟩ ?_
              refine y_v3 C dX1_gather_78 kyX1_addItem knX1_addItem kmX1_64 hr.o (c_X1_addItem l hr _ p 1 (by omega)) (by decide) (Nat.zero_le _) (Nat.zero_le _) (Nat.le_of_ble_eq_true rfl) (fun w78 q78 => ?_)
              obtain ⟨hr, hf9⟩ := q78
              have hf := hf.tr hf9
              rw [set_mid1 _ _ x1 _ J1 (by simp), set_mid1 _ _ x2 _ J2 (by simp), set_mid1 _ _ x5 _ J5 (by simp)] at hr
              refine s_inc4_2 C dX1_gather_81 rfl (by first | (unfold iR; omega) | exact ⟨by omega, by omega⟩) ?_
              refine x_goto (tgt := 7) C dX1_gather_84 (by decide) ?_
              refine ih (p + 1) (k + 1) _ J1 J2 J5 _ (by omega) (by omega) (by omega) ?_ hf
              have eG : gthF sg fo hi (k + 1) = gthF sg fo hi k ++ [(29, p, x9.2), (sg.getD p.toNat 0, p, 1)] := by
                rw [gthF, hkp, pcs]
                rw [if_pos (by omega)]
                rw [hPc_some ex1]
                unfold sPc
                rw [if_pos (by omega), if_neg (by omega)]
                simp
              rw [eG]
              simpa [Int.add_assoc] using hr
      · refine x_goto (tgt := 81) C dX1_gather_23 (by decide) ?_
        refine s_inc4_2 C dX1_gather_81 rfl (by first | (unfold iR; omega) | exact ⟨by omega, by omega⟩) ?_
        refine x_goto (tgt := 7) C dX1_gather_84 (by decide) ?_
        refine ih (p + 1) (k + 1) _ J1 J2 J5 _ (by omega) (by omega) (by omega) ?_ hf
        have eG : gthF sg fo hi (k + 1) = gthF sg fo hi k := by
          rw [gthF, hkp, pcs]
          rw [if_neg (by omega), List.append_nil]
        rw [eG]
        exact hr
