set_option maxHeartbeats 1000000 in
set_option maxRecDepth 100000 in
theorem c_X1_gather (l : Launch) {w : mW} {h : Nat} {ic rc lc : Int} {B1 B2 B3 B4 B5 B6 B7 : List Int} (hr : rC w h ic rc lc B1 B2 B3 B4 B5 B6 B7) {u : Nat} {sg : List Int} {fo : List (Int × Int × Int)} {hi : List (Int × Int)} {mo wi nd tb : Int} (hS : isSh w u sg fo hi mo wi nd tb) (hd : u + 6 < h ∨ h + 7 < u) : Cv l yX1_gather cX1_gather 4 3 [vr h, vr u] w (fun w' => ∃ J1 J2 J5 : List Int, rC w' h (its sg fo hi).length rc lc ((its sg fo hi).map (fun q => q.1) ++ J1) ((its sg fo hi).map (fun q => q.2.1) ++ J2) B3 B4 ((its sg fo hi).map (fun q => q.2.2) ++ J5) B6 B7 ∧ frR w w' h (h + 7)) := by
  refine Cv.of (ml := [some (vr h), some (vr u), none, none]) kyX1_gather rfl (Nat.le_of_ble_eq_true rfl) rfl ?_
  intro t n C hQ
  have hlen := hS.len
  have hf : frR w w h (h + 7) := frR.rf
  refine x_aload_n C dX1_gather_0 rfl ?_
  refine x_iconst C dX1_gather_1 ⟨by decide, by decide⟩ ?_
  refine x_put C dX1_gather_2 kfX1_45 kw_1_5 rfl rfl hr.o (Nat.le_of_ble_eq_true rfl) ?_
  refine ab_C_ic hr hf (fun w hr hf => ?_)
  refine x_iconst C dX1_gather_5 ⟨by decide, by decide⟩ ?_
  refine s_ist4_2 C dX1_gather_6 rfl ?_
  refine lp_X1_gather hS hd (fun k _ => gth_44 hlen.1 hlen.2.2 k) C hQ (fun w9 J1 J2 J5 h8 h9 => ⟨J1, J2, J5, h8, h9⟩) (sg.length + 2) 0 0 none B1 B2 B5 w (by omega) rfl (by omega) ?_ hf
  simpa [gthF] using hr

set_option maxHeartbeats 1000000 in
set_option maxRecDepth 100000 in
theorem c_X1_draw (l : Launch) {w : mW} {h : Nat} {ic rc lc : Int} {B1 B2 B3 B4 B5 B6 B7 : List Int} (hr : rC w h ic rc lc B1 B2 B3 B4 B5 B6 B7) {u : Nat} {sg : List Int} {fo : List (Int × Int × Int)} {hi : List (Int × Int)} {mo wi nd tb : Int} (hS : isSh w u sg fo hi mo wi nd tb) (hd : u + 6 < h ∨ h + 7 < u) (hW : wfS sg fo hi mo wi nd tb) : Ci l yX1_draw cX1_draw 2 (some .int) 4 [vr h, vr u] w (fun z w' => z = (scrF sg fo hi mo wi nd tb).2.length ∧ isSc w' h (scrF sg fo hi mo wi nd tb).1 (scrF sg fo hi mo wi nd tb).2 ∧ frR w w' h (h + 7)) := by
  refine Ci.of (ml := [some (vr h), some (vr u)]) kyX1_draw rfl (Nat.le_of_ble_eq_true rfl) rfl ?_
  intro t n C hQ
  have hf : frR w w h (h + 7) := frR.rf
  obtain ⟨-, -, -, -, -, -, hh, -, hmo, hwi, hnd, htb⟩ := hW
  have hh2 : ∀ q ∈ hi, 1 ≤ q.2 ∧ q.2 ≤ 5 := fun q hq => (hh q hq).2.2
  have hS0 := hS
  obtain ⟨j1, j2, j3, j4, j5, j6, hs⟩ := hS
  refine x_aload_n C dX1_draw_0 rfl ?_
  refine x_aload_n C dX1_draw_1 rfl ?_
  refine y_v1 C dX1_draw_2 kyX1_gather knX1_gather kmX1_34 hr.o (c_X1_gather l hr hS0 hd) (by decide) (Nat.zero_le _) (Nat.zero_le _) (Nat.le_of_ble_eq_true rfl) (fun w2 q2 => ?_)
  obtain ⟨J1, J2, J5, hr, hf9⟩ := q2
  have hf := hf.tr hf9
  have hs2 := hs.fr hf hd
  refine x_aload_n C dX1_draw_5 rfl ?_
  refine x_aload_n C dX1_draw_6 rfl ?_
  refine y_v1 C dX1_draw_7 kyX1_flow knX1_flow kmX1_38 hr.o (c_X1_flow l hr hs2 hd htb hwi hnd (gth_bd hh2 _)) (by decide) (Nat.zero_le _) (Nat.zero_le _) (Nat.le_of_ble_eq_true rfl) (fun w7 q7 => ?_)
  obtain ⟨hSc, hf9⟩ := q7
  have hf := hf.tr hf9
  have hSc : isSc w7 h (scrF sg fo hi mo wi nd tb).1 (scrF sg fo hi mo wi nd tb).2 := hSc
  have hS9 := hSc
  obtain ⟨K1, K2, K3, K4, K5, K6, K7, hr⟩ := hS9
  refine x_aload_n C dX1_draw_10 rfl ?_
  refine x_get C dX1_draw_11 kfX1_41 hr.o rfl ?_
  refine x_iret C hQ dX1_draw_14 (Nat.le_refl _) (Nat.le_refl _) ?_
  exact ⟨rfl, _, rfl, rfl, hSc, hf⟩

set_option maxHeartbeats 1000000 in
set_option maxRecDepth 100000 in
theorem lp_X1_itemOf {t : TX} {l : Launch} {n0 : Nat} {w : mW} {h : Nat} {pl : List mP} {rows : List (Int × Int)} (hS : isSc w h pl rows) (a : Int) (C : Cb t l cX1_itemOf RX1 3 (some .int) 0 0 0) {Q : Int → Prop} (hQ : RQ t 0 0 (fun r n' w' => n' = n0 ∧ w' = w ∧ ∃ z : Int, r = some (vi z) ∧ Q z)) : ∀ (R P : List mP) (k : Int), pl = P ++ R → k = P.length → Q (fIdx (fun q : mP => decide (q.2.1 = a ∧ q.1 ≠ 29)) R k) → J t 0 0 2 [some (vr h), some (vi a), some (vi k)] [] n0 w := by
  obtain ⟨J1, J2, J3, J4, J5, J6, J7, hr⟩ := hS
  have l1 := hr.l1
  have l2 := hr.l2
  have l3 := hr.l3
  have l4 := hr.l4
  have l5 := hr.l5
  have l6 := hr.l6
  have l7 := hr.l7
  simp only [List.length_append, List.length_map] at l1 l2 l3 l4 l5 l6 l7
  intro R
  induction R with
  | nil =>
    intro P k hP hk hq
    have hl : pl.length = P.length := by rw [hP]; simp
    refine x_iload_n C dX1_itemOf_2 rfl ?_
    refine x_aload_n C dX1_itemOf_3 rfl ?_
    refine x_get C dX1_itemOf_4 kfX1_45 hr.o rfl ?_
    refine x_icmp_ge (tgt := 39) C dX1_itemOf_7 (by decide) (fun c7 => ?_) (fun c7 => ?_)
    · refine x_iconst C dX1_itemOf_39 ⟨by decide, by decide⟩ ?_
      refine x_iret C hQ dX1_itemOf_40 (Nat.le_refl _) (Nat.le_refl _) ?_
      exact ⟨rfl, rfl, _, rfl, hq⟩
    · omega
  | cons r R ih =>
    intro P k hP hk hq
    have hl : pl.length = P.length + (R.length + 1) := by rw [hP]; simp
    have hrm : r ∈ pl := by rw [hP]; simp
    have e1 : (pl.map (fun q => q.1) ++ J1).getD k.toNat 0 = r.1 := by rw [hP]; exact gmap_at _ P R r J1 hk
    have e2 : (pl.map (fun q => q.2.1) ++ J2).getD k.toNat 0 = r.2.1 := by rw [hP]; exact gmap_at _ P R r J2 hk
    refine x_iload_n C dX1_itemOf_2 rfl ?_
    refine x_aload_n C dX1_itemOf_3 rfl ?_
    refine x_get C dX1_itemOf_4 kfX1_45 hr.o rfl ?_
    refine x_icmp_ge (tgt := 39) C dX1_itemOf_7 (by decide) (fun c7 => ?_) (fun c7 => ?_)
    · omega
    · refine x_aload_n C dX1_itemOf_10 rfl ?_
      refine x_get C dX1_itemOf_11 kfX1_15 hr.o rfl ?_
      refine x_iload_n C dX1_itemOf_14 rfl ?_
      refine x_iald C dX1_itemOf_15 hr.a2 (by omega) (by rw [hr.l2]; omega) ?_
      rw [e2]
      refine x_iload_n C dX1_itemOf_16 rfl ?_
      refine x_icmp_ne (tgt := 33) C dX1_itemOf_17 (by decide) (fun c17 => ?_) (fun c17 => ?_)
      · refine s_inc3_2 C dX1_itemOf_33 rfl (by first | (unfold iR; omega) | exact ⟨by omega, by omega⟩) ?_
        refine x_goto (tgt := 2) C dX1_itemOf_36 (by decide) ?_
        unfold fIdx at hq
        exact ih (P ++ [r]) (k + 1) (by rw [hP]; simp) (by simp; omega) (by rw [if_neg (by simp; omega)] at hq; exact hq)
      · refine x_aload_n C dX1_itemOf_20 rfl ?_
        refine x_get C dX1_itemOf_21 kfX1_9 hr.o rfl ?_
        refine x_iload_n C dX1_itemOf_24 rfl ?_
        refine x_iald C dX1_itemOf_25 hr.a1 (by omega) (by rw [hr.l1]; omega) ?_
        rw [e1]
        refine x_bipush C dX1_itemOf_26 ⟨by decide, by decide⟩ ?_
        refine x_icmp_eq (tgt := 33) C dX1_itemOf_28 (by decide) (fun c28 => ?_) (fun c28 => ?_)
        · refine s_inc3_2 C dX1_itemOf_33 rfl (by first | (unfold iR; omega) | exact ⟨by omega, by omega⟩) ?_
          refine x_goto (tgt := 2) C dX1_itemOf_36 (by decide) ?_
          unfold fIdx at hq
          exact ih (P ++ [r]) (k + 1) (by rw [hP]; simp) (by simp; omega) (by rw [if_neg (by simp; omega)] at hq; exact hq)
        · refine x_iload_n C dX1_itemOf_31 rfl ?_
          refine x_iret C hQ dX1_itemOf_32 (Nat.le_refl _) (Nat.le_refl _) ?_
          exact ⟨rfl, rfl, _, rfl, by unfold fIdx at hq; rw [if_pos (by simp; omega)] at hq; exact hq⟩

set_option maxHeartbeats 1000000 in
set_option maxRecDepth 100000 in
theorem c_X1_itemOf (l : Launch) {w : mW} {h : Nat} {pl : List mP} {rows : List (Int × Int)} (hS : isSc w h pl rows) (a : Int) : Cp l yX1_itemOf cX1_itemOf 3 (some .int) 0 [vr h, vi a] w (fun z => z = fIdx (fun q : mP => decide (q.2.1 = a ∧ q.1 ≠ 29)) pl 0) := by
  refine Cp.of (ml := [some (vr h), some (vi a), none]) kyX1_itemOf rfl (Nat.le_of_ble_eq_true rfl) rfl ?_
  intro t n C hQ
  refine x_iconst C dX1_itemOf_0 ⟨by decide, by decide⟩ ?_
  refine s_ist3_2 C dX1_itemOf_1 rfl ?_
  exact lp_X1_itemOf hS a C hQ pl [] 0 rfl rfl rfl

def codeF (r col : Int) : List mP → Int
  | [] => -4
  | q :: l => if q.2.2.1 = r ∧ q.2.2.2.1 ≤ col ∧ col < q.2.2.2.1 + q.2.2.2.2 then q.1 else codeF r col l
/-- the place at a row and column: found so far, the last place, how many rows -/
def plcF (r col last rc : Int) : List mP → Int → Int
  | [], f => if r = rc - 1 then last else f
  | q :: l, f => if q.2.2.1 = r then (if col < q.2.2.2.1 + q.2.2.2.2 ∨ q.1 = 27 then q.2.1 else plcF r col last rc l q.2.1) else plcF r col last rc l f
def bdP (pl : List mP) : Prop := ∀ q ∈ pl, (0 ≤ q.2.2.2.1 ∧ q.2.2.2.1 ≤ 1000) ∧ 0 ≤ q.2.2.2.2 ∧ q.2.2.2.2 ≤ 8

set_option maxHeartbeats 1000000 in
set_option maxRecDepth 100000 in
theorem lp_X1_codeAt {t : TX} {l : Launch} {n0 : Nat} {w : mW} {h : Nat} {pl : List mP} {rows : List (Int × Int)} (hS : isSc w h pl rows) (a b : Int) (hbd : bdP pl) (C : Cb t l cX1_codeAt RX1 4 (some .int) 0 0 0) {Q : Int → Prop} (hQ : RQ t 0 0 (fun r n' w' => n' = n0 ∧ w' = w ∧ ∃ z : Int, r = some (vi z) ∧ Q z)) : ∀ (R P : List mP) (k : Int), pl = P ++ R → k = P.length → Q (codeF a b R) → J t 0 0 2 [some (vr h), some (vi a), some (vi b), some (vi k)] [] n0 w := by
  obtain ⟨J1, J2, J3, J4, J5, J6, J7, hr⟩ := hS
  have l1 := hr.l1
  have l2 := hr.l2
  have l3 := hr.l3
  have l4 := hr.l4
  have l5 := hr.l5
  have l6 := hr.l6
  have l7 := hr.l7
  simp only [List.length_append, List.length_map] at l1 l2 l3 l4 l5 l6 l7
  intro R
  induction R with
  | nil =>
    intro P k hP hk hq
    have hl : pl.length = P.length := by rw [hP]; simp
    refine x_iload_n C dX1_codeAt_2 rfl ?_
    refine x_aload_n C dX1_codeAt_3 rfl ?_
    refine x_get C dX1_codeAt_4 kfX1_45 hr.o rfl ?_
    refine x_icmp_ge (tgt := 60) C dX1_codeAt_7 (by decide) (fun c7 => ?_) (fun c7 => ?_)
    · refine x_bipush C dX1_codeAt_60 ⟨by decide, by decide⟩ ?_
      refine x_iret C hQ dX1_codeAt_62 (Nat.le_refl _) (Nat.le_refl _) ?_
      exact ⟨rfl, rfl, _, rfl, hq⟩
    · omega
  | cons r R ih =>
    intro P k hP hk hq
    have hl : pl.length = P.length + (R.length + 1) := by rw [hP]; simp
    have hrm : r ∈ pl := by rw [hP]; simp
    have e1 : (pl.map (fun q => q.1) ++ J1).getD k.toNat 0 = r.1 := by rw [hP]; exact gmap_at _ P R r J1 hk
    have e3 : (pl.map (fun q => q.2.2.1) ++ J3).getD k.toNat 0 = r.2.2.1 := by rw [hP]; exact gmap_at _ P R r J3 hk
    have e4 : (pl.map (fun q => q.2.2.2.1) ++ J4).getD k.toNat 0 = r.2.2.2.1 := by rw [hP]; exact gmap_at _ P R r J4 hk
    have e5 : (pl.map (fun q => q.2.2.2.2) ++ J5).getD k.toNat 0 = r.2.2.2.2 := by rw [hP]; exact gmap_at _ P R r J5 hk
    refine x_iload_n C dX1_codeAt_2 rfl ?_
    refine x_aload_n C dX1_codeAt_3 rfl ?_
    refine x_get C dX1_codeAt_4 kfX1_45 hr.o rfl ?_
    refine x_icmp_ge (tgt := 60) C dX1_codeAt_7 (by decide) (fun c7 => ?_) (fun c7 => ?_)
    · omega
    · have hbr := hbd r hrm
      refine x_aload_n C dX1_codeAt_10 rfl ?_
      refine x_get C dX1_codeAt_11 kfX1_18 hr.o rfl ?_
      refine x_iload_n C dX1_codeAt_14 rfl ?_
      refine x_iald C dX1_codeAt_15 hr.a3 (by omega) (by rw [hr.l3]; omega) ?_
      rw [e3]
      refine x_iload_n C dX1_codeAt_16 rfl ?_
      refine x_icmp_ne (tgt := 54) C dX1_codeAt_17 (by decide) (fun c17 => ?_) (fun c17 => ?_)
      · refine s_inc4_3 C dX1_codeAt_54 rfl (by first | (unfold iR; omega) | exact ⟨by omega, by omega⟩) ?_
        refine x_goto (tgt := 2) C dX1_codeAt_57 (by decide) ?_
        unfold codeF at hq
        exact ih (P ++ [r]) (k + 1) (by rw [hP]; simp) (by simp; omega) (by rw [if_neg (by omega)] at hq; exact hq)
      · refine x_aload_n C dX1_codeAt_20 rfl ?_
        refine x_get C dX1_codeAt_21 kfX1_21 hr.o rfl ?_
        refine x_iload_n C dX1_codeAt_24 rfl ?_
        refine x_iald C dX1_codeAt_25 hr.a4 (by omega) (by rw [hr.l4]; omega) ?_
        rw [e4]
        refine x_iload_n C dX1_codeAt_26 rfl ?_
        refine x_icmp_gt (tgt := 54) C dX1_codeAt_27 (by decide) (fun c27 => ?_) (fun c27 => ?_)
        · refine s_inc4_3 C dX1_codeAt_54 rfl (by first | (unfold iR; omega) | exact ⟨by omega, by omega⟩) ?_
          refine x_goto (tgt := 2) C dX1_codeAt_57 (by decide) ?_
          unfold codeF at hq
          exact ih (P ++ [r]) (k + 1) (by rw [hP]; simp) (by simp; omega) (by rw [if_neg (by omega)] at hq; exact hq)
        · refine x_iload_n C dX1_codeAt_30 rfl ?_
          refine x_aload_n C dX1_codeAt_31 rfl ?_
          refine x_get C dX1_codeAt_32 kfX1_21 hr.o rfl ?_
          refine x_iload_n C dX1_codeAt_35 rfl ?_
          refine x_iald C dX1_codeAt_36 hr.a4 (by omega) (by rw [hr.l4]; omega) ?_
          rw [e4]
          refine x_aload_n C dX1_codeAt_37 rfl ?_
          refine x_get C dX1_codeAt_38 kfX1_24 hr.o rfl ?_
          refine x_iload_n C dX1_codeAt_41 rfl ?_
          refine x_iald C dX1_codeAt_42 hr.a5 (by omega) (by rw [hr.l5]; omega) ?_
          rw [e5]
          refine x_iadd C dX1_codeAt_43 (by first | (unfold iR; omega) | exact ⟨by omega, by omega⟩) ?_
          refine x_icmp_ge (tgt := 54) C dX1_codeAt_44 (by decide) (fun c44 => ?_) (fun c44 => ?_)
          · refine s_inc4_3 C dX1_codeAt_54 rfl (by first | (unfold iR; omega) | exact ⟨by omega, by omega⟩) ?_
            refine x_goto (tgt := 2) C dX1_codeAt_57 (by decide) ?_
            unfold codeF at hq
            exact ih (P ++ [r]) (k + 1) (by rw [hP]; simp) (by simp; omega) (by rw [if_neg (by omega)] at hq; exact hq)
          · refine x_aload_n C dX1_codeAt_47 rfl ?_
            refine x_get C dX1_codeAt_48 kfX1_9 hr.o rfl ?_
            refine x_iload_n C dX1_codeAt_51 rfl ?_
            refine x_iald C dX1_codeAt_52 hr.a1 (by omega) (by rw [hr.l1]; omega) ?_
            rw [e1]
            refine x_iret C hQ dX1_codeAt_53 (Nat.le_refl _) (Nat.le_refl _) ?_
            exact ⟨rfl, rfl, _, rfl, by unfold codeF at hq; rw [if_pos (by omega)] at hq; exact hq⟩

set_option maxHeartbeats 1000000 in
set_option maxRecDepth 100000 in
theorem c_X1_codeAt (l : Launch) {w : mW} {h : Nat} {pl : List mP} {rows : List (Int × Int)} (hS : isSc w h pl rows) (a b : Int) (hbd : bdP pl) : Cp l yX1_codeAt cX1_codeAt 4 (some .int) 0 [vr h, vi a, vi b] w (fun z => z = codeF a b pl) := by
  refine Cp.of (ml := [some (vr h), some (vi a), some (vi b), none]) kyX1_codeAt rfl (Nat.le_of_ble_eq_true rfl) rfl ?_
  intro t n C hQ
  refine x_iconst C dX1_codeAt_0 ⟨by decide, by decide⟩ ?_
  refine s_ist4_3 C dX1_codeAt_1 rfl ?_
  exact lp_X1_codeAt hS a b hbd C hQ pl [] 0 rfl rfl rfl

set_option maxHeartbeats 1000000 in
set_option maxRecDepth 100000 in
theorem lp_X1_placeAt {t : TX} {l : Launch} {n0 : Nat} {w : mW} {h : Nat} {pl : List mP} {rows : List (Int × Int)} (hS : isSc w h pl rows) (a b c : Int) (hbd : bdP pl) (C : Cb t l cX1_placeAt RX1 6 (some .int) 0 0 0) {Q : Int → Prop} (hQ : RQ t 0 0 (fun r n' w' => n' = n0 ∧ w' = w ∧ ∃ z : Int, r = some (vi z) ∧ Q z)) : ∀ (R P : List mP) (k f : Int), pl = P ++ R → k = P.length → Q (plcF a b c rows.length R f) → J t 0 0 6 [some (vr h), some (vi a), some (vi b), some (vi c), some (vi f), some (vi k)] [] n0 w := by
  obtain ⟨J1, J2, J3, J4, J5, J6, J7, hr⟩ := hS
  have l1 := hr.l1
  have l2 := hr.l2
  have l3 := hr.l3
  have l4 := hr.l4
  have l5 := hr.l5
  have l6 := hr.l6
  have l7 := hr.l7
  simp only [List.length_append, List.length_map] at l1 l2 l3 l4 l5 l6 l7
  intro R
  induction R with
  | nil =>
    intro P k f hP hk hq
    have hl : pl.length = P.length := by rw [hP]; simp
    refine x_iload C dX1_placeAt_6 rfl ?_
    refine x_aload_n C dX1_placeAt_8 rfl ?_
    refine x_get C dX1_placeAt_9 kfX1_45 hr.o rfl ?_
    refine x_icmp_ge (tgt := 78) C dX1_placeAt_12 (by decide) (fun c12 => ?_) (fun c12 => ?_)
    · refine x_iload_n C dX1_placeAt_78 rfl ?_
      refine x_aload_n C dX1_placeAt_79 rfl ?_
      refine x_get C dX1_placeAt_80 kfX1_41 hr.o rfl ?_
      refine x_iconst C dX1_placeAt_83 ⟨by decide, by decide⟩ ?_
      refine x_isub C dX1_placeAt_84 (by first | (unfold iR; omega) | exact ⟨by omega, by omega⟩) ?_
      refine x_icmp_ne (tgt := 92) C dX1_placeAt_85 (by decide) (fun c85 => ?_) (fun c85 => ?_)
      · refine x_iload C dX1_placeAt_92 rfl ?_
        refine x_iret C hQ dX1_placeAt_94 (Nat.le_refl _) (Nat.le_refl _) ?_
        refine ⟨rfl, rfl, _, rfl, ?_⟩
        unfold plcF at hq
        first | (rw [if_pos (by omega)] at hq; exact hq) | (rw [if_neg (by omega)] at hq; exact hq)
      · refine x_iload_n C dX1_placeAt_88 rfl ?_
        refine x_goto (tgt := 94) C dX1_placeAt_89 (by decide) ?_
        refine x_iret C hQ dX1_placeAt_94 (Nat.le_refl _) (Nat.le_refl _) ?_
        refine ⟨rfl, rfl, _, rfl, ?_⟩
        unfold plcF at hq
        first | (rw [if_pos (by omega)] at hq; exact hq) | (rw [if_neg (by omega)] at hq; exact hq)
    · omega
  | cons r R ih =>
    intro P k f hP hk hq
    have hl : pl.length = P.length + (R.length + 1) := by rw [hP]; simp
    have hrm : r ∈ pl := by rw [hP]; simp
    have e1 : (pl.map (fun q => q.1) ++ J1).getD k.toNat 0 = r.1 := by rw [hP]; exact gmap_at _ P R r J1 hk
    have e2 : (pl.map (fun q => q.2.1) ++ J2).getD k.toNat 0 = r.2.1 := by rw [hP]; exact gmap_at _ P R r J2 hk
    have e3 : (pl.map (fun q => q.2.2.1) ++ J3).getD k.toNat 0 = r.2.2.1 := by rw [hP]; exact gmap_at _ P R r J3 hk
    have e4 : (pl.map (fun q => q.2.2.2.1) ++ J4).getD k.toNat 0 = r.2.2.2.1 := by rw [hP]; exact gmap_at _ P R r J4 hk
    have e5 : (pl.map (fun q => q.2.2.2.2) ++ J5).getD k.toNat 0 = r.2.2.2.2 := by rw [hP]; exact gmap_at _ P R r J5 hk
    refine x_iload C dX1_placeAt_6 rfl ?_
    refine x_aload_n C dX1_placeAt_8 rfl ?_
    refine x_get C dX1_placeAt_9 kfX1_45 hr.o rfl ?_
    refine x_icmp_ge (tgt := 78) C dX1_placeAt_12 (by decide) (fun c12 => ?_) (fun c12 => ?_)
    · omega
    · have hbr := hbd r hrm
      refine x_aload_n C dX1_placeAt_15 rfl ?_
      refine x_get C dX1_placeAt_16 kfX1_18 hr.o rfl ?_
      refine x_iload C dX1_placeAt_19 rfl ?_
      refine x_iald C dX1_placeAt_21 hr.a3 (by omega) (by rw [hr.l3]; omega) ?_
      rw [e3]
      refine x_iload_n C dX1_placeAt_22 rfl ?_
      refine x_icmp_eq (tgt := 29) C dX1_placeAt_23 (by decide) (fun c23 => ?_) (fun c23 => ?_)
      · refine x_aload_n C dX1_placeAt_29 rfl ?_
        refine x_get C dX1_placeAt_30 kfX1_15 hr.o rfl ?_
        refine x_iload C dX1_placeAt_33 rfl ?_
        refine x_iald C dX1_placeAt_35 hr.a2 (by omega) (by rw [hr.l2]; omega) ?_
        rw [e2]
        refine s_is6_4 C dX1_placeAt_36 rfl ?_
        refine x_iload_n C dX1_placeAt_38 rfl ?_
        refine x_aload_n C dX1_placeAt_39 rfl ?_
        refine x_get C dX1_placeAt_40 kfX1_21 hr.o rfl ?_
        refine x_iload C dX1_placeAt_43 rfl ?_
        refine x_iald C dX1_placeAt_45 hr.a4 (by omega) (by rw [hr.l4]; omega) ?_
        rw [e4]
        refine x_aload_n C dX1_placeAt_46 rfl ?_
        refine x_get C dX1_placeAt_47 kfX1_24 hr.o rfl ?_
        refine x_iload C dX1_placeAt_50 rfl ?_
        refine x_iald C dX1_placeAt_52 hr.a5 (by omega) (by rw [hr.l5]; omega) ?_
        rw [e5]
        refine x_iadd C dX1_placeAt_53 (by first | (unfold iR; omega) | exact ⟨by omega, by omega⟩) ?_
        refine x_icmp_lt (tgt := 69) C dX1_placeAt_54 (by decide) (fun c54 => ?_) (fun c54 => ?_)
        · refine x_iload C dX1_placeAt_69 rfl ?_
          refine x_iret C hQ dX1_placeAt_71 (Nat.le_refl _) (Nat.le_refl _) ?_
          exact ⟨rfl, rfl, _, rfl, by unfold plcF at hq; rw [if_pos (by omega), if_pos (by omega)] at hq; exact hq⟩
        · refine x_aload_n C dX1_placeAt_57 rfl ?_
          refine x_get C dX1_placeAt_58 kfX1_9 hr.o rfl ?_
          refine x_iload C dX1_placeAt_61 rfl ?_
          refine x_iald C dX1_placeAt_63 hr.a1 (by omega) (by rw [hr.l1]; omega) ?_
          rw [e1]
          refine x_bipush C dX1_placeAt_64 ⟨by decide, by decide⟩ ?_
          refine x_icmp_ne (tgt := 72) C dX1_placeAt_66 (by decide) (fun c66 => ?_) (fun c66 => ?_)
          · refine s_inc6_5 C dX1_placeAt_72 rfl (by first | (unfold iR; omega) | exact ⟨by omega, by omega⟩) ?_
            refine x_goto (tgt := 6) C dX1_placeAt_75 (by decide) ?_
            unfold plcF at hq
            exact ih (P ++ [r]) (k + 1) r.2.1 (by rw [hP]; simp) (by simp; omega) (by rw [if_pos (by omega), if_neg (by omega)] at hq; exact hq)
          · refine x_iload C dX1_placeAt_69 rfl ?_
            refine x_iret C hQ dX1_placeAt_71 (Nat.le_refl _) (Nat.le_refl _) ?_
            exact ⟨rfl, rfl, _, rfl, by unfold plcF at hq; rw [if_pos (by omega), if_pos (by omega)] at hq; exact hq⟩
      · refine x_goto (tgt := 72) C dX1_placeAt_26 (by decide) ?_
        refine s_inc6_5 C dX1_placeAt_72 rfl (by first | (unfold iR; omega) | exact ⟨by omega, by omega⟩) ?_
        refine x_goto (tgt := 6) C dX1_placeAt_75 (by decide) ?_
        unfold plcF at hq
        exact ih (P ++ [r]) (k + 1) f (by rw [hP]; simp) (by simp; omega) (by rw [if_neg (by omega)] at hq; exact hq)

set_option maxHeartbeats 1000000 in
set_option maxRecDepth 100000 in
theorem c_X1_placeAt (l : Launch) {w : mW} {h : Nat} {pl : List mP} {rows : List (Int × Int)} (hS : isSc w h pl rows) (a b c : Int) (hbd : bdP pl) : Cp l yX1_placeAt cX1_placeAt 6 (some .int) 0 [vr h, vi a, vi b, vi c] w (fun z => z = plcF a b c rows.length pl c) := by
  refine Cp.of (ml := [some (vr h), some (vi a), some (vi b), some (vi c), none, none]) kyX1_placeAt rfl (Nat.le_of_ble_eq_true rfl) rfl ?_
  intro t n C hQ
  refine x_iload_n C dX1_placeAt_0 rfl ?_
  refine s_is6_4 C dX1_placeAt_1 rfl ?_
  refine x_iconst C dX1_placeAt_3 ⟨by decide, by decide⟩ ?_
  refine s_is6_5 C dX1_placeAt_4 rfl ?_
  exact lp_X1_placeAt hS a b c hbd C hQ pl [] 0 c rfl rfl rfl

def pR (r : Int) (q : mP) : Bool := decide (q.2.2.1 = r ∧ q.1 ≠ 27)

set_option maxHeartbeats 1000000 in
set_option maxRecDepth 100000 in
theorem lp_X1_seek {t : TX} {l : Launch} {n0 : Nat} {w : mW} {h : Nat} {pl : List mP} {rows : List (Int × Int)} (hS : isSc w h pl rows) (a b : Int) (C : Cb t l cX1_seek RX1 4 (some .int) 0 0 0) {Q : Int → Prop} (hQ : RQ t 0 0 (fun r n' w' => n' = n0 ∧ w' = w ∧ ∃ z : Int, r = some (vi z) ∧ Q z)) : ∀ (R P : List mP) (k : Int), pl = P ++ R → k = P.length → Q (fIdx (pR a) R k) → J t 0 0 2 [some (vr h), some (vi a), some (vi b), some (vi k)] [] n0 w := by
  obtain ⟨J1, J2, J3, J4, J5, J6, J7, hr⟩ := hS
  have l1 := hr.l1
  have l2 := hr.l2
  have l3 := hr.l3
  have l4 := hr.l4
  have l5 := hr.l5
  have l6 := hr.l6
  have l7 := hr.l7
  simp only [List.length_append, List.length_map] at l1 l2 l3 l4 l5 l6 l7
  intro R
  induction R with
  | nil =>
    intro P k hP hk hq
    have hl : pl.length = P.length := by rw [hP]; simp
    refine x_iload_n C dX1_seek_2 rfl ?_
    refine x_aload_n C dX1_seek_3 rfl ?_
    refine x_get C dX1_seek_4 kfX1_45 hr.o rfl ?_
    refine x_icmp_ge (tgt := 39) C dX1_seek_7 (by decide) (fun c7 => ?_) (fun c7 => ?_)
    · refine x_iconst C dX1_seek_39 ⟨by decide, by decide⟩ ?_
      refine x_iret C hQ dX1_seek_40 (Nat.le_refl _) (Nat.le_refl _) ?_
      exact ⟨rfl, rfl, _, rfl, hq⟩
    · omega
  | cons r R ih =>
    intro P k hP hk hq
    have hl : pl.length = P.length + (R.length + 1) := by rw [hP]; simp
    have hrm : r ∈ pl := by rw [hP]; simp
    have e1 : (pl.map (fun q => q.1) ++ J1).getD k.toNat 0 = r.1 := by rw [hP]; exact gmap_at _ P R r J1 hk
    have e3 : (pl.map (fun q => q.2.2.1) ++ J3).getD k.toNat 0 = r.2.2.1 := by rw [hP]; exact gmap_at _ P R r J3 hk
    refine x_iload_n C dX1_seek_2 rfl ?_
    refine x_aload_n C dX1_seek_3 rfl ?_
    refine x_get C dX1_seek_4 kfX1_45 hr.o rfl ?_
    refine x_icmp_ge (tgt := 39) C dX1_seek_7 (by decide) (fun c7 => ?_) (fun c7 => ?_)
    · omega
    · refine x_aload_n C dX1_seek_10 rfl ?_
      refine x_get C dX1_seek_11 kfX1_18 hr.o rfl ?_
      refine x_iload_n C dX1_seek_14 rfl ?_
      refine x_iald C dX1_seek_15 hr.a3 (by omega) (by rw [hr.l3]; omega) ?_
      rw [e3]
      refine x_iload_n C dX1_seek_16 rfl ?_
      refine x_icmp_ne (tgt := 33) C dX1_seek_17 (by decide) (fun c17 => ?_) (fun c17 => ?_)
      · refine s_inc4_3 C dX1_seek_33 rfl (by first | (unfold iR; omega) | exact ⟨by omega, by omega⟩) ?_
        refine x_goto (tgt := 2) C dX1_seek_36 (by decide) ?_
        unfold fIdx at hq
        exact ih (P ++ [r]) (k + 1) (by rw [hP]; simp) (by simp; omega) (by rw [if_neg (by simp [pR]; omega)] at hq; exact hq)
      · refine x_aload_n C dX1_seek_20 rfl ?_
        refine x_get C dX1_seek_21 kfX1_9 hr.o rfl ?_
        refine x_iload_n C dX1_seek_24 rfl ?_
        refine x_iald C dX1_seek_25 hr.a1 (by omega) (by rw [hr.l1]; omega) ?_
        rw [e1]
        refine x_bipush C dX1_seek_26 ⟨by decide, by decide⟩ ?_
        refine x_icmp_eq (tgt := 33) C dX1_seek_28 (by decide) (fun c28 => ?_) (fun c28 => ?_)
        · refine s_inc4_3 C dX1_seek_33 rfl (by first | (unfold iR; omega) | exact ⟨by omega, by omega⟩) ?_
          refine x_goto (tgt := 2) C dX1_seek_36 (by decide) ?_
          unfold fIdx at hq
          exact ih (P ++ [r]) (k + 1) (by rw [hP]; simp) (by simp; omega) (by rw [if_neg (by simp [pR]; omega)] at hq; exact hq)
        · refine x_iload_n C dX1_seek_31 rfl ?_
          refine x_iret C hQ dX1_seek_32 (Nat.le_refl _) (Nat.le_refl _) ?_
          exact ⟨rfl, rfl, _, rfl, by unfold fIdx at hq; rw [if_pos (by simp [pR]; omega)] at hq; exact hq⟩

set_option maxHeartbeats 1000000 in
set_option maxRecDepth 100000 in
theorem c_X1_seek (l : Launch) {w : mW} {h : Nat} {pl : List mP} {rows : List (Int × Int)} (hS : isSc w h pl rows) (a b : Int) {P R : List mP} (hP : pl = P ++ R) (hb : b = P.length) : Cp l yX1_seek cX1_seek 4 (some .int) 0 [vr h, vi a, vi b] w (fun z => z = fIdx (pR a) R b) := by
  refine Cp.of (ml := [some (vr h), some (vi a), some (vi b), none]) kyX1_seek rfl (Nat.le_of_ble_eq_true rfl) rfl ?_
  intro t n C hQ
  refine x_iload_n C dX1_seek_0 rfl ?_
  refine s_ist4_3 C dX1_seek_1 rfl ?_
  exact lp_X1_seek hS a b C hQ R P b hP hb rfl

def maxE : List (Int × Int) → Int → Int
  | [], m => m
  | q :: l, m => maxE l (if m < q.1 then q.1 else m)

set_option maxHeartbeats 1000000 in
set_option maxRecDepth 100000 in
theorem lp_X1_longestRow {t : TX} {l : Launch} {n0 : Nat} {w : mW} {h : Nat} {pl : List mP} {rows : List (Int × Int)} (hS : isSc w h pl rows) (C : Cb t l cX1_longestRow RX1 3 (some .int) 1 0 0) {Q : Int → Prop} (hQ : RQ t 0 0 (fun r n' w' => n' = n0 ∧ w' = w ∧ ∃ z : Int, r = some (vi z) ∧ Q z)) : ∀ (R P : List (Int × Int)) (k s : Int), rows = P ++ R → k = P.length → Q (maxE R s) → J t 0 0 4 [some (vr h), some (vi s), some (vi k)] [] n0 w := by
  obtain ⟨J1, J2, J3, J4, J5, J6, J7, hr⟩ := hS
  have l1 := hr.l1
  have l2 := hr.l2
  have l3 := hr.l3
  have l4 := hr.l4
  have l5 := hr.l5
  have l6 := hr.l6
  have l7 := hr.l7
  simp only [List.length_append, List.length_map] at l1 l2 l3 l4 l5 l6 l7
  intro R
  induction R with
  | nil =>
    intro P k s hP hk hq
    have hl : rows.length = P.length := by rw [hP]; simp
    refine x_iload_n C dX1_longestRow_4 rfl ?_
    refine x_aload_n C dX1_longestRow_5 rfl ?_
    refine x_get C dX1_longestRow_6 kfX1_41 hr.o rfl ?_
    refine x_icmp_ge (tgt := 29) C dX1_longestRow_9 (by decide) (fun c9 => ?_) (fun c9 => ?_)
    · refine x_iload_n C dX1_longestRow_29 rfl ?_
      refine x_iret C hQ dX1_longestRow_30 (Nat.le_refl _) (Nat.le_refl _) ?_
      exact ⟨rfl, rfl, _, rfl, hq⟩
    · omega
  | cons r R ih =>
    intro P k s hP hk hq
    have hl : rows.length = P.length + (R.length + 1) := by rw [hP]; simp
    have e6 : (rows.map (fun q => q.1) ++ J6).getD k.toNat 0 = r.1 := by rw [hP]; exact gmap_at _ P R r J6 hk
    refine x_iload_n C dX1_longestRow_4 rfl ?_
    refine x_aload_n C dX1_longestRow_5 rfl ?_
    refine x_get C dX1_longestRow_6 kfX1_41 hr.o rfl ?_
    refine x_icmp_ge (tgt := 29) C dX1_longestRow_9 (by decide) (fun c9 => ?_) (fun c9 => ?_)
    · omega
    · refine x_iload_n C dX1_longestRow_12 rfl ?_
      refine x_aload_n C dX1_longestRow_13 rfl ?_
      refine x_get C dX1_longestRow_14 kfX1_27 hr.o rfl ?_
      refine x_iload_n C dX1_longestRow_17 rfl ?_
      refine x_iald C dX1_longestRow_18 hr.a6 (by omega) (by rw [hr.l6]; omega) ?_
      rw [e6]
      refine x_max C dX1_longestRow_19 gk_max_X1 gk_max1 gk_max2 gk_max3 (by decide) (Nat.zero_le _) (Nat.zero_le _) (Nat.le_of_ble_eq_true rfl) ?_
      refine s_ist3_1 C dX1_longestRow_22 rfl ?_
      refine s_inc3_2 C dX1_longestRow_23 rfl (by first | (unfold iR; omega) | exact ⟨by omega, by omega⟩) ?_
      refine x_goto (tgt := 4) C dX1_longestRow_26 (by decide) ?_
      exact ih (P ++ [r]) (k + 1) _ (by rw [hP]; simp) (by simp; omega) hq

set_option maxHeartbeats 1000000 in
set_option maxRecDepth 100000 in
theorem c_X1_longestRow (l : Launch) {w : mW} {h : Nat} {pl : List mP} {rows : List (Int × Int)} (hS : isSc w h pl rows) : Cp l yX1_longestRow cX1_longestRow 3 (some .int) 1 [vr h] w (fun z => z = maxE rows 0) := by
  refine Cp.of (ml := [some (vr h), none, none]) kyX1_longestRow rfl (Nat.le_of_ble_eq_true rfl) rfl ?_
  intro t n C hQ
  refine x_iconst C dX1_longestRow_0 ⟨by decide, by decide⟩ ?_
  refine s_ist3_1 C dX1_longestRow_1 rfl ?_
  refine x_iconst C dX1_longestRow_2 ⟨by decide, by decide⟩ ?_
  refine s_ist3_2 C dX1_longestRow_3 rfl ?_
  exact lp_X1_longestRow hS C hQ rows [] 0 0 rfl rfl rfl

set_option maxHeartbeats 1000000 in
set_option maxRecDepth 100000 in
theorem c_X1_isItemAsIn (l : Launch) {w : mW} {h : Nat} {pl : List mP} {rows : List (Int × Int)} (hS : isSc w h pl rows) {v : Nat} {pl2 : List mP} {rows2 : List (Int × Int)} (hS2 : isSc w v pl2 rows2) (a b : Int) {P R P2 R2 : List mP} {x y : mP} (hP : pl = P ++ x :: R) (ha : a = P.length) (hP2 : pl2 = P2 ++ y :: R2) (hb : b = P2.length) : Cp l yX1_isItemAsIn cX1_isItemAsIn 4 (some .boolean) 0 [vr h, vr v, vi a, vi b] w (fun z => (z = 0 ∨ z = 1) ∧ (z = 1 ↔ x.1 = y.1 ∧ x.2.2.2.1 = y.2.2.2.1 ∧ x.2.2.2.2 = y.2.2.2.2)) := by
  refine Cp.of (ml := [some (vr h), some (vr v), some (vi a), some (vi b)]) kyX1_isItemAsIn rfl (Nat.le_of_ble_eq_true rfl) rfl ?_
  intro t n C hQ
  obtain ⟨J1, J2, J3, J4, J5, J6, J7, hr⟩ := hS
  have l1 := hr.l1
  have l2 := hr.l2
  have l3 := hr.l3
  have l4 := hr.l4
  have l5 := hr.l5
  have l6 := hr.l6
  have l7 := hr.l7
  simp only [List.length_append, List.length_map] at l1 l2 l3 l4 l5 l6 l7
  obtain ⟨K1, K2, K3, K4, K5, K6, K7, hv⟩ := hS2
  have k1 := hv.l1
  simp only [List.length_append, List.length_map] at k1
  have hl : pl.length = P.length + (R.length + 1) := by rw [hP]; simp
  have hl2 : pl2.length = P2.length + (R2.length + 1) := by rw [hP2]; simp
  have e1 : (pl.map (fun q => q.1) ++ J1).getD a.toNat 0 = x.1 := by rw [hP]; exact gmap_at _ P R x J1 ha
  have f1 : (pl2.map (fun q => q.1) ++ K1).getD b.toNat 0 = y.1 := by rw [hP2]; exact gmap_at _ P2 R2 y K1 hb
  have e4 : (pl.map (fun q => q.2.2.2.1) ++ J4).getD a.toNat 0 = x.2.2.2.1 := by rw [hP]; exact gmap_at _ P R x J4 ha
  have f4 : (pl2.map (fun q => q.2.2.2.1) ++ K4).getD b.toNat 0 = y.2.2.2.1 := by rw [hP2]; exact gmap_at _ P2 R2 y K4 hb
  have e5 : (pl.map (fun q => q.2.2.2.2) ++ J5).getD a.toNat 0 = x.2.2.2.2 := by rw [hP]; exact gmap_at _ P R x J5 ha
  have f5 : (pl2.map (fun q => q.2.2.2.2) ++ K5).getD b.toNat 0 = y.2.2.2.2 := by rw [hP2]; exact gmap_at _ P2 R2 y K5 hb
  refine x_aload_n C dX1_isItemAsIn_0 rfl ?_
  refine x_get C dX1_isItemAsIn_1 kfX1_9 hr.o rfl ?_
  refine x_iload_n C dX1_isItemAsIn_4 rfl ?_
  refine x_iald C dX1_isItemAsIn_5 hr.a1 (by omega) (by rw [hr.l1]; omega) ?_
  rw [e1]
  refine x_aload_n C dX1_isItemAsIn_6 rfl ?_
  refine x_get C dX1_isItemAsIn_7 kfX1_9 hv.o rfl ?_
  refine x_iload_n C dX1_isItemAsIn_10 rfl ?_
  refine x_iald C dX1_isItemAsIn_11 hv.a1 (by omega) (by rw [hv.l1]; omega) ?_
  rw [f1]
  refine x_icmp_ne (tgt := 49) C dX1_isItemAsIn_12 (by decide) (fun c12 => ?_) (fun c12 => ?_)
  · refine x_iconst C dX1_isItemAsIn_49 ⟨by decide, by decide⟩ ?_
    refine x_zret C hQ dX1_isItemAsIn_50 (by first | exact Or.inl rfl | exact Or.inr rfl | omega) (Nat.le_refl _) (Nat.le_refl _) ?_
    exact ⟨rfl, rfl, _, rfl, by omega⟩
  · refine x_aload_n C dX1_isItemAsIn_15 rfl ?_
    refine x_get C dX1_isItemAsIn_16 kfX1_21 hr.o rfl ?_
    refine x_iload_n C dX1_isItemAsIn_19 rfl ?_
    refine x_iald C dX1_isItemAsIn_20 hr.a4 (by omega) (by rw [hr.l4]; omega) ?_
    rw [e4]
    refine x_aload_n C dX1_isItemAsIn_21 rfl ?_
    refine x_get C dX1_isItemAsIn_22 kfX1_21 hv.o rfl ?_
    refine x_iload_n C dX1_isItemAsIn_25 rfl ?_
    refine x_iald C dX1_isItemAsIn_26 hv.a4 (by omega) (by rw [hv.l4]; omega) ?_
    rw [f4]
    refine x_icmp_ne (tgt := 49) C dX1_isItemAsIn_27 (by decide) (fun c27 => ?_) (fun c27 => ?_)
    · refine x_iconst C dX1_isItemAsIn_49 ⟨by decide, by decide⟩ ?_
      refine x_zret C hQ dX1_isItemAsIn_50 (by first | exact Or.inl rfl | exact Or.inr rfl | omega) (Nat.le_refl _) (Nat.le_refl _) ?_
      exact ⟨rfl, rfl, _, rfl, by omega⟩
    · refine x_aload_n C dX1_isItemAsIn_30 rfl ?_
      refine x_get C dX1_isItemAsIn_31 kfX1_24 hr.o rfl ?_
      refine x_iload_n C dX1_isItemAsIn_34 rfl ?_
      refine x_iald C dX1_isItemAsIn_35 hr.a5 (by omega) (by rw [hr.l5]; omega) ?_
      rw [e5]
      refine x_aload_n C dX1_isItemAsIn_36 rfl ?_
      refine x_get C dX1_isItemAsIn_37 kfX1_24 hv.o rfl ?_
      refine x_iload_n C dX1_isItemAsIn_40 rfl ?_
      refine x_iald C dX1_isItemAsIn_41 hv.a5 (by omega) (by rw [hv.l5]; omega) ?_
      rw [f5]
      refine x_icmp_ne (tgt := 49) C dX1_isItemAsIn_42 (by decide) (fun c42 => ?_) (fun c42 => ?_)
      · refine x_iconst C dX1_isItemAsIn_49 ⟨by decide, by decide⟩ ?_
        refine x_zret C hQ dX1_isItemAsIn_50 (by first | exact Or.inl rfl | exact Or.inr rfl | omega) (Nat.le_refl _) (Nat.le_refl _) ?_
        exact ⟨rfl, rfl, _, rfl, by omega⟩
      · refine x_iconst C dX1_isItemAsIn_45 ⟨by decide, by decide⟩ ?_
        refine x_goto (tgt := 50) C dX1_isItemAsIn_46 (by decide) ?_
        refine x_zret C hQ dX1_isItemAsIn_50 (by first | exact Or.inl rfl | exact Or.inr rfl | omega) (Nat.le_refl _) (Nat.le_refl _) ?_
        exact ⟨rfl, rfl, _, rfl, by omega⟩
