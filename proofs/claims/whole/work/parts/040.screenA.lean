/-! ===== DisplayMap.Screen ===== -/
abbrev mI : Type := Int × Int × Int
abbrev mP : Type := Int × Int × Int × Int × Int
def widF (tb col c v : Int) : Int := if c = 27 then 0 else if c = 26 then tb - col % tb else v
def wordW : List mI → Int
  | [] => 0
  | q :: l => if q.1 ≠ 26 ∧ q.1 ≠ 27 then q.2.2 + wordW l else 0
def goesF (mo wi nd tb : Int) (pw : Bool) (col : Int) (l : List mI) : Bool := match l with
  | [] => false
  | q :: R => decide ((mo = 1 ∨ mo = 2) ∧ q.1 ≠ 27 ∧ (wi < col + widF tb col q.1 q.2.2 ∨ (mo = 2 ∧ (q.1 ≠ 26 ∧ q.1 ≠ 27) ∧ pw = false ∧ wi < col + wordW (q :: R) ∧ wordW (q :: R) ≤ wi - nd)))
def isWc (c : Int) : Bool := decide (c ≠ 26 ∧ c ≠ 27)
/-- what stands where: items with row, column, width; the rows: their end, 1 if a line begins -/
def flw (mo wi nd tb : Int) : List mI → Bool → Bool → List (Int × Int) → Int → Int → List mP × List (Int × Int)
  | [], _, _, rw, cs, col => ([], rw ++ [(col, cs)])
  | q :: R, pw, fl, rw, cs, col =>
    if (fl && goesF mo wi nd tb pw col (q :: R)) = true then
      let v := widF tb nd q.1 q.2.2
      let r := flw mo wi nd tb R (isWc q.1) true (rw ++ [(col, cs)]) 0 (nd + v)
      ((q.1, q.2.1, (rw.length : Int) + 1, nd, v) :: r.1, r.2)
    else
      let v := widF tb col q.1 q.2.2
      let r := if q.1 = 27 then flw mo wi nd tb R false false (rw ++ [(col + v, cs)]) 1 0 else flw mo wi nd tb R (isWc q.1) true rw cs (col + v)
      ((q.1, q.2.1, (rw.length : Int), col, v) :: r.1, r.2)
def lastC (rows : List (Int × Int)) : Int := match rows.getLast? with
  | none => 0
  | some q => q.1
def isSc (w : mW) (h : Nat) (pl : List mP) (rows : List (Int × Int)) : Prop := ∃ J1 J2 J3 J4 J5 J6 J7 : List Int, rC w h pl.length rows.length (lastC rows) (pl.map (fun q => q.1) ++ J1) (pl.map (fun q => q.2.1) ++ J2) (pl.map (fun q => q.2.2.1) ++ J3) (pl.map (fun q => q.2.2.2.1) ++ J4) (pl.map (fun q => q.2.2.2.2) ++ J5) (rows.map (fun q => q.1) ++ J6) (rows.map (fun q => q.2) ++ J7)
theorem isSc.fr {w w' : mW} {h lo up : Nat} {pl : List mP} {rows : List (Int × Int)} (hS : isSc w h pl rows) (hf : frR w w' lo up) (hd : h + 7 < lo ∨ up < h) : isSc w' h pl rows := by
  obtain ⟨J1, J2, J3, J4, J5, J6, J7, hr⟩ := hS
  exact ⟨J1, J2, J3, J4, J5, J6, J7, hr.fr hf hd⟩
theorem isSc.len {w : mW} {h : Nat} {pl : List mP} {rows : List (Int × Int)} (hS : isSc w h pl rows) : pl.length ≤ 44 ∧ rows.length ≤ 45 := by
  obtain ⟨J1, J2, J3, J4, J5, J6, J7, hr⟩ := hS
  have l1 := hr.l1
  have l6 := hr.l6
  simp only [List.length_append, List.length_map] at l1 l6
  omega

set_option maxHeartbeats 1000000 in
set_option maxRecDepth 100000 in
theorem c_X1_addItem (l : Launch) {w : mW} {h : Nat} {ic rc lc : Int} {B1 B2 B3 B4 B5 B6 B7 : List Int} (hr : rC w h ic rc lc B1 B2 B3 B4 B5 B6 B7) (c a v : Int) (hic : 0 ≤ ic ∧ ic < 44) : Cv l yX1_addItem cX1_addItem 4 0 [vr h, vi c, vi a, vi v] w (fun w' => rC w' h (ic + 1) rc lc (B1.set ic.toNat c) (B2.set ic.toNat a) B3 B4 (B5.set ic.toNat v) B6 B7 ∧ frR w w' h (h + 7)) := by
  refine Cv.of (ml := [some (vr h), some (vi c), some (vi a), some (vi v)]) kyX1_addItem rfl (Nat.le_of_ble_eq_true rfl) rfl ?_
  intro t n C hQ
  have hf : frR w w h (h + 7) := frR.rf
  refine x_aload_n C dX1_addItem_0 rfl ?_
  refine x_get C dX1_addItem_1 kfX1_45 hr.o rfl ?_
  refine x_if_lt (tgt := 16) C dX1_addItem_4 (by decide) (fun c4 => ?_) (fun c4 => ?_)
  · refine x_vret C hQ dX1_addItem_16 (Nat.le_refl _) (Nat.le_refl _) ?_
    first | omega | exact ⟨rfl, rfl, hr, hf⟩
  · refine x_aload_n C dX1_addItem_7 rfl ?_
    refine x_get C dX1_addItem_8 kfX1_45 hr.o rfl ?_
    refine x_bipush C dX1_addItem_11 ⟨by decide, by decide⟩ ?_
    refine x_icmp_lt (tgt := 17) C dX1_addItem_13 (by decide) (fun c13 => ?_) (fun c13 => ?_)
    · refine x_aload_n C dX1_addItem_17 rfl ?_
      refine x_get C dX1_addItem_18 kfX1_9 hr.o rfl ?_
      refine x_aload_n C dX1_addItem_21 rfl ?_
      refine x_get C dX1_addItem_22 kfX1_45 hr.o rfl ?_
      refine x_iload_n C dX1_addItem_25 rfl ?_
      refine x_iast C dX1_addItem_26 hr.a1 (by omega) (by rw [hr.l1]; omega) ?_
      refine ab_C_B1 hr hf (by rw [List.length_set]; exact hr.l1) (fun w hr hf => ?_)
      refine x_aload_n C dX1_addItem_27 rfl ?_
      refine x_get C dX1_addItem_28 kfX1_15 hr.o rfl ?_
      refine x_aload_n C dX1_addItem_31 rfl ?_
      refine x_get C dX1_addItem_32 kfX1_45 hr.o rfl ?_
      refine x_iload_n C dX1_addItem_35 rfl ?_
      refine x_iast C dX1_addItem_36 hr.a2 (by omega) (by rw [hr.l2]; omega) ?_
      refine ab_C_B2 hr hf (by rw [List.length_set]; exact hr.l2) (fun w hr hf => ?_)
      refine x_aload_n C dX1_addItem_37 rfl ?_
      refine x_get C dX1_addItem_38 kfX1_24 hr.o rfl ?_
      refine x_aload_n C dX1_addItem_41 rfl ?_
      refine x_get C dX1_addItem_42 kfX1_45 hr.o rfl ?_
      refine x_iload_n C dX1_addItem_45 rfl ?_
      refine x_iast C dX1_addItem_46 hr.a5 (by omega) (by rw [hr.l5]; omega) ?_
      refine ab_C_B5 hr hf (by rw [List.length_set]; exact hr.l5) (fun w hr hf => ?_)
      refine x_aload_n C dX1_addItem_47 rfl ?_
      refine x_dup C dX1_addItem_48 rfl ?_
      refine x_get C dX1_addItem_49 kfX1_45 hr.o rfl ?_
      refine x_iconst C dX1_addItem_52 ⟨by decide, by decide⟩ ?_
      refine x_iadd C dX1_addItem_53 (by first | (unfold iR; omega) | exact ⟨by omega, by omega⟩) ?_
      refine x_put C dX1_addItem_54 kfX1_45 kw_1_5 rfl rfl hr.o (Nat.le_of_ble_eq_true rfl) ?_
      refine ab_C_ic hr hf (fun w hr hf => ?_)
      refine x_vret C hQ dX1_addItem_57 (Nat.le_refl _) (Nat.le_refl _) ?_
      first | omega | exact ⟨rfl, rfl, hr, hf⟩
    · refine x_vret C hQ dX1_addItem_16 (Nat.le_refl _) (Nat.le_refl _) ?_
      first | omega | exact ⟨rfl, rfl, hr, hf⟩

set_option maxHeartbeats 1000000 in
set_option maxRecDepth 100000 in
theorem c_X1_openRow (l : Launch) {w : mW} {h : Nat} {ic rc lc : Int} {B1 B2 B3 B4 B5 B6 B7 : List Int} (hr : rC w h ic rc lc B1 B2 B3 B4 B5 B6 B7) (b : Int) (hb : b = 0 ∨ b = 1) (hrc : 0 ≤ rc ∧ rc < 45) : Cv l yX1_openRow cX1_openRow 2 0 [vr h, vi b] w (fun w' => rC w' h ic (rc + 1) 0 B1 B2 B3 B4 B5 (B6.set rc.toNat 0) (B7.set rc.toNat b) ∧ frR w w' h (h + 7)) := by
  refine Cv.of (ml := [some (vr h), some (vi b)]) kyX1_openRow rfl (Nat.le_of_ble_eq_true rfl) rfl ?_
  intro t n C hQ
  have hf : frR w w h (h + 7) := frR.rf
  refine x_aload_n C dX1_openRow_0 rfl ?_
  refine x_get C dX1_openRow_1 kfX1_41 hr.o rfl ?_
  refine x_if_lt (tgt := 16) C dX1_openRow_4 (by decide) (fun c4 => ?_) (fun c4 => ?_)
  · refine x_vret C hQ dX1_openRow_16 (Nat.le_refl _) (Nat.le_refl _) ?_
    first | omega | exact ⟨rfl, rfl, hr, hf⟩
  · refine x_aload_n C dX1_openRow_7 rfl ?_
    refine x_get C dX1_openRow_8 kfX1_41 hr.o rfl ?_
    refine x_bipush C dX1_openRow_11 ⟨by decide, by decide⟩ ?_
    refine x_icmp_lt (tgt := 17) C dX1_openRow_13 (by decide) (fun c13 => ?_) (fun c13 => ?_)
    · refine x_aload_n C dX1_openRow_17 rfl ?_
      refine x_get C dX1_openRow_18 kfX1_30 hr.o rfl ?_
      refine x_aload_n C dX1_openRow_21 rfl ?_
      refine x_get C dX1_openRow_22 kfX1_41 hr.o rfl ?_
      refine x_iload_n C dX1_openRow_25 rfl ?_
      refine x_zast C dX1_openRow_26 hr.a7 (by omega) (by rw [hr.l7]; omega) (by first | exact Or.inl rfl | exact Or.inr rfl | assumption | omega) ?_
      refine ab_C_B7 hr hf (by rw [List.length_set]; exact hr.l7) (fun w hr hf => ?_)
      refine x_aload_n C dX1_openRow_27 rfl ?_
      refine x_get C dX1_openRow_28 kfX1_27 hr.o rfl ?_
      refine x_aload_n C dX1_openRow_31 rfl ?_
      refine x_get C dX1_openRow_32 kfX1_41 hr.o rfl ?_
      refine x_iconst C dX1_openRow_35 ⟨by decide, by decide⟩ ?_
      refine x_iast C dX1_openRow_36 hr.a6 (by omega) (by rw [hr.l6]; omega) ?_
      refine ab_C_B6 hr hf (by rw [List.length_set]; exact hr.l6) (fun w hr hf => ?_)
      refine x_aload_n C dX1_openRow_37 rfl ?_
      refine x_dup C dX1_openRow_38 rfl ?_
      refine x_get C dX1_openRow_39 kfX1_41 hr.o rfl ?_
      refine x_iconst C dX1_openRow_42 ⟨by decide, by decide⟩ ?_
      refine x_iadd C dX1_openRow_43 (by first | (unfold iR; omega) | exact ⟨by omega, by omega⟩) ?_
      refine x_put C dX1_openRow_44 kfX1_41 kw_1_8 rfl rfl hr.o (Nat.le_of_ble_eq_true rfl) ?_
      refine ab_C_rc hr hf (fun w hr hf => ?_)
      refine x_aload_n C dX1_openRow_47 rfl ?_
      refine x_iconst C dX1_openRow_48 ⟨by decide, by decide⟩ ?_
      refine x_put C dX1_openRow_49 kfX1_85 kw_1_9 rfl rfl hr.o (Nat.le_of_ble_eq_true rfl) ?_
      refine ab_C_lc hr hf (fun w hr hf => ?_)
      refine x_vret C hQ dX1_openRow_52 (Nat.le_refl _) (Nat.le_refl _) ?_
      first | omega | exact ⟨rfl, rfl, hr, hf⟩
    · refine x_vret C hQ dX1_openRow_16 (Nat.le_refl _) (Nat.le_refl _) ?_
      first | omega | exact ⟨rfl, rfl, hr, hf⟩

set_option maxHeartbeats 1000000 in
set_option maxRecDepth 100000 in
theorem c_X1_closeRow (l : Launch) {w : mW} {h : Nat} {ic rc lc : Int} {B1 B2 B3 B4 B5 B6 B7 : List Int} (hr : rC w h ic rc lc B1 B2 B3 B4 B5 B6 B7) (hrc : 1 ≤ rc ∧ rc ≤ 45) : Cv l yX1_closeRow cX1_closeRow 1 0 [vr h] w (fun w' => rC w' h ic rc lc B1 B2 B3 B4 B5 (B6.set (rc - 1).toNat lc) B7 ∧ frR w w' h (h + 7)) := by
  refine Cv.of (ml := [some (vr h)]) kyX1_closeRow rfl (Nat.le_of_ble_eq_true rfl) rfl ?_
  intro t n C hQ
  have hf : frR w w h (h + 7) := frR.rf
  refine x_aload_n C dX1_closeRow_0 rfl ?_
  refine x_get C dX1_closeRow_1 kfX1_41 hr.o rfl ?_
  refine x_iconst C dX1_closeRow_4 ⟨by decide, by decide⟩ ?_
  refine x_icmp_lt (tgt := 32) C dX1_closeRow_5 (by decide) (fun c5 => ?_) (fun c5 => ?_)
  · refine x_vret C hQ dX1_closeRow_32 (Nat.le_refl _) (Nat.le_refl _) ?_
    first | omega | exact ⟨rfl, rfl, hr, hf⟩
  · refine x_aload_n C dX1_closeRow_8 rfl ?_
    refine x_get C dX1_closeRow_9 kfX1_41 hr.o rfl ?_
    refine x_bipush C dX1_closeRow_12 ⟨by decide, by decide⟩ ?_
    refine x_icmp_gt (tgt := 32) C dX1_closeRow_14 (by decide) (fun c14 => ?_) (fun c14 => ?_)
    · refine x_vret C hQ dX1_closeRow_32 (Nat.le_refl _) (Nat.le_refl _) ?_
      first | omega | exact ⟨rfl, rfl, hr, hf⟩
    · refine x_aload_n C dX1_closeRow_17 rfl ?_
      refine x_get C dX1_closeRow_18 kfX1_27 hr.o rfl ?_
      refine x_aload_n C dX1_closeRow_21 rfl ?_
      refine x_get C dX1_closeRow_22 kfX1_41 hr.o rfl ?_
      refine x_iconst C dX1_closeRow_25 ⟨by decide, by decide⟩ ?_
      refine x_isub C dX1_closeRow_26 (by first | (unfold iR; omega) | exact ⟨by omega, by omega⟩) ?_
      refine x_aload_n C dX1_closeRow_27 rfl ?_
      refine x_get C dX1_closeRow_28 kfX1_85 hr.o rfl ?_
      refine x_iast C dX1_closeRow_31 hr.a6 (by omega) (by rw [hr.l6]; omega) ?_
      refine ab_C_B6 hr hf (by rw [List.length_set]; exact hr.l6) (fun w hr hf => ?_)
      refine x_vret C hQ dX1_closeRow_32 (Nat.le_refl _) (Nat.le_refl _) ?_
      first | omega | exact ⟨rfl, rfl, hr, hf⟩

set_option maxHeartbeats 1000000 in
set_option maxRecDepth 100000 in
theorem c_X1_widthOf (l : Launch) {w : mW} {h : Nat} {ic rc lc : Int} {B1 B2 B3 B4 B5 B6 B7 : List Int} (hr : rC w h ic rc lc B1 B2 B3 B4 B5 B6 B7) {u : Nat} {n fc hc mo wi nd tb : Int} {A1 A2 A3 A4 A5 A6 : List Int} (hs : rS w u n fc hc mo wi nd tb A1 A2 A3 A4 A5 A6) (i : Int) (hi : 0 ≤ i ∧ i < 44) (hlc : 0 ≤ lc ∧ lc ≤ 100000) (htb : 1 ≤ tb ∧ tb ≤ 8) : Cp l yX1_widthOf cX1_widthOf 3 (some .int) 0 [vr h, vr u, vi i] w (fun z => z = widF tb lc (B1.getD i.toNat 0) (B5.getD i.toNat 0)) := by
  refine Cp.of (ml := [some (vr h), some (vr u), some (vi i)]) kyX1_widthOf rfl (Nat.le_of_ble_eq_true rfl) rfl ?_
  intro t n C hQ
  have hm := Int.emod_lt_of_pos lc (show 0 < tb by omega)
  have hm0 := Int.emod_nonneg lc (show tb ≠ 0 by omega)
  refine x_aload_n C dX1_widthOf_0 rfl ?_
  refine x_get C dX1_widthOf_1 kfX1_9 hr.o rfl ?_
  refine x_iload_n C dX1_widthOf_4 rfl ?_
  refine x_iald C dX1_widthOf_5 hr.a1 (by omega) (by rw [hr.l1]; omega) ?_
  refine x_bipush C dX1_widthOf_6 ⟨by decide, by decide⟩ ?_
  refine x_icmp_ne (tgt := 13) C dX1_widthOf_8 (by decide) (fun c8 => ?_) (fun c8 => ?_)
  · refine x_aload_n C dX1_widthOf_13 rfl ?_
    refine x_get C dX1_widthOf_14 kfX1_9 hr.o rfl ?_
    refine x_iload_n C dX1_widthOf_17 rfl ?_
    refine x_iald C dX1_widthOf_18 hr.a1 (by omega) (by rw [hr.l1]; omega) ?_
    refine x_bipush C dX1_widthOf_19 ⟨by decide, by decide⟩ ?_
    refine x_icmp_eq (tgt := 31) C dX1_widthOf_21 (by decide) (fun c21 => ?_) (fun c21 => ?_)
    · refine x_aload_n C dX1_widthOf_31 rfl ?_
      refine x_get C dX1_widthOf_32 kfX1_107 hs.o rfl ?_
      refine x_iconst C dX1_widthOf_35 ⟨by decide, by decide⟩ ?_
      refine x_icmp_ge (tgt := 43) C dX1_widthOf_36 (by decide) (fun c36 => ?_) (fun c36 => ?_)
      · refine x_aload_n C dX1_widthOf_43 rfl ?_
        refine x_get C dX1_widthOf_44 kfX1_107 hs.o rfl ?_
        refine x_aload_n C dX1_widthOf_47 rfl ?_
        refine x_get C dX1_widthOf_48 kfX1_85 hr.o rfl ?_
        refine x_aload_n C dX1_widthOf_51 rfl ?_
        refine x_get C dX1_widthOf_52 kfX1_107 hs.o rfl ?_
        refine x_irem C dX1_widthOf_55 (by omega) (by omega) ?_
        refine x_isub C dX1_widthOf_56 (by first | (unfold iR; omega) | exact ⟨by omega, by omega⟩) ?_
        refine x_iret C hQ dX1_widthOf_57 (Nat.le_refl _) (Nat.le_refl _) ?_
        refine ⟨rfl, rfl, _, rfl, ?_⟩
        unfold widF
        first | omega | (rw [if_pos (by omega)]; done) | (rw [if_neg (by omega), if_pos (by omega)]; done) | (rw [if_neg (by omega), if_neg (by omega)]; done)
      · refine x_iconst C dX1_widthOf_39 ⟨by decide, by decide⟩ ?_
        refine x_goto (tgt := 57) C dX1_widthOf_40 (by decide) ?_
        refine x_iret C hQ dX1_widthOf_57 (Nat.le_refl _) (Nat.le_refl _) ?_
        refine ⟨rfl, rfl, _, rfl, ?_⟩
        unfold widF
        first | omega | (rw [if_pos (by omega)]; done) | (rw [if_neg (by omega), if_pos (by omega)]; done) | (rw [if_neg (by omega), if_neg (by omega)]; done)
    · refine x_aload_n C dX1_widthOf_24 rfl ?_
      refine x_get C dX1_widthOf_25 kfX1_24 hr.o rfl ?_
      refine x_iload_n C dX1_widthOf_28 rfl ?_
      refine x_iald C dX1_widthOf_29 hr.a5 (by omega) (by rw [hr.l5]; omega) ?_
      refine x_iret C hQ dX1_widthOf_30 (Nat.le_refl _) (Nat.le_refl _) ?_
      refine ⟨rfl, rfl, _, rfl, ?_⟩
      unfold widF
      first | omega | (rw [if_pos (by omega)]; done) | (rw [if_neg (by omega), if_pos (by omega)]; done) | (rw [if_neg (by omega), if_neg (by omega)]; done)
  · refine x_iconst C dX1_widthOf_11 ⟨by decide, by decide⟩ ?_
    refine x_iret C hQ dX1_widthOf_12 (Nat.le_refl _) (Nat.le_refl _) ?_
    refine ⟨rfl, rfl, _, rfl, ?_⟩
    unfold widF
    first | omega | (rw [if_pos (by omega)]; done) | (rw [if_neg (by omega), if_pos (by omega)]; done) | (rw [if_neg (by omega), if_neg (by omega)]; done)

set_option maxHeartbeats 1000000 in
set_option maxRecDepth 100000 in
theorem c_X1_isOfWord (l : Launch) {w : mW} {h : Nat} {ic rc lc : Int} {B1 B2 B3 B4 B5 B6 B7 : List Int} (hr : rC w h ic rc lc B1 B2 B3 B4 B5 B6 B7) (i : Int) (hi : 0 ≤ i ∧ i < 44) : Cp l yX1_isOfWord cX1_isOfWord 2 (some .boolean) 0 [vr h, vi i] w (fun z => (z = 0 ∨ z = 1) ∧ (z = 1 ↔ B1.getD i.toNat 0 ≠ 26 ∧ B1.getD i.toNat 0 ≠ 27)) := by
  refine Cp.of (ml := [some (vr h), some (vi i)]) kyX1_isOfWord rfl (Nat.le_of_ble_eq_true rfl) rfl ?_
  intro t n C hQ
  refine x_aload_n C dX1_isOfWord_0 rfl ?_
  refine x_get C dX1_isOfWord_1 kfX1_9 hr.o rfl ?_
  refine x_iload_n C dX1_isOfWord_4 rfl ?_
  refine x_iald C dX1_isOfWord_5 hr.a1 (by omega) (by rw [hr.l1]; omega) ?_
  refine x_bipush C dX1_isOfWord_6 ⟨by decide, by decide⟩ ?_
  refine x_icmp_eq (tgt := 26) C dX1_isOfWord_8 (by decide) (fun c8 => ?_) (fun c8 => ?_)
  · refine x_iconst C dX1_isOfWord_26 ⟨by decide, by decide⟩ ?_
    refine x_zret C hQ dX1_isOfWord_27 (by first | exact Or.inl rfl | exact Or.inr rfl | omega) (Nat.le_refl _) (Nat.le_refl _) ?_
    exact ⟨rfl, rfl, _, rfl, by omega⟩
  · refine x_aload_n C dX1_isOfWord_11 rfl ?_
    refine x_get C dX1_isOfWord_12 kfX1_9 hr.o rfl ?_
    refine x_iload_n C dX1_isOfWord_15 rfl ?_
    refine x_iald C dX1_isOfWord_16 hr.a1 (by omega) (by rw [hr.l1]; omega) ?_
    refine x_bipush C dX1_isOfWord_17 ⟨by decide, by decide⟩ ?_
    refine x_icmp_eq (tgt := 26) C dX1_isOfWord_19 (by decide) (fun c19 => ?_) (fun c19 => ?_)
    · refine x_iconst C dX1_isOfWord_26 ⟨by decide, by decide⟩ ?_
      refine x_zret C hQ dX1_isOfWord_27 (by first | exact Or.inl rfl | exact Or.inr rfl | omega) (Nat.le_refl _) (Nat.le_refl _) ?_
      exact ⟨rfl, rfl, _, rfl, by omega⟩
    · refine x_iconst C dX1_isOfWord_22 ⟨by decide, by decide⟩ ?_
      refine x_goto (tgt := 27) C dX1_isOfWord_23 (by decide) ?_
      refine x_zret C hQ dX1_isOfWord_27 (by first | exact Or.inl rfl | exact Or.inr rfl | omega) (Nat.le_refl _) (Nat.le_refl _) ?_
      exact ⟨rfl, rfl, _, rfl, by omega⟩

set_option maxHeartbeats 1000000 in
set_option maxRecDepth 100000 in
theorem c_X1_startsWord (l : Launch) {w : mW} {h : Nat} {ic rc lc : Int} {B1 B2 B3 B4 B5 B6 B7 : List Int} (hr : rC w h ic rc lc B1 B2 B3 B4 B5 B6 B7) (i : Int) (hi : 0 ≤ i ∧ i < 44) : Cp l yX1_startsWord cX1_startsWord 2 (some .boolean) 1 [vr h, vi i] w (fun z => (z = 0 ∨ z = 1) ∧ (z = 1 ↔ (B1.getD i.toNat 0 ≠ 26 ∧ B1.getD i.toNat 0 ≠ 27) ∧ (i = 0 ∨ ¬ (B1.getD (i - 1).toNat 0 ≠ 26 ∧ B1.getD (i - 1).toNat 0 ≠ 27)))) := by
  refine Cp.of (ml := [some (vr h), some (vi i)]) kyX1_startsWord rfl (Nat.le_of_ble_eq_true rfl) rfl ?_
  intro t n C hQ
  refine x_aload_n C dX1_startsWord_0 rfl ?_
  refine x_iload_n C dX1_startsWord_1 rfl ?_
  refine y_p1 C dX1_startsWord_2 kyX1_isOfWord knX1_isOfWord kmX1_110 hr.o (c_X1_isOfWord l hr i hi) (by decide) (Nat.zero_le _) (Nat.zero_le _) (Nat.le_of_ble_eq_true rfl) (fun z2 q2 => ?_)
  refine x_if_eq (tgt := 26) C dX1_startsWord_5 (by decide) (fun c5 => ?_) (fun c5 => ?_)
  · refine x_iconst C dX1_startsWord_26 ⟨by decide, by decide⟩ ?_
    refine x_zret C hQ dX1_startsWord_27 (by first | exact Or.inl rfl | exact Or.inr rfl | omega) (Nat.le_refl _) (Nat.le_refl _) ?_
    exact ⟨rfl, rfl, _, rfl, by omega⟩
  · refine x_iload_n C dX1_startsWord_8 rfl ?_
    refine x_if_eq (tgt := 22) C dX1_startsWord_9 (by decide) (fun c9 => ?_) (fun c9 => ?_)
    · refine x_iconst C dX1_startsWord_22 ⟨by decide, by decide⟩ ?_
      refine x_goto (tgt := 27) C dX1_startsWord_23 (by decide) ?_
      refine x_zret C hQ dX1_startsWord_27 (by first | exact Or.inl rfl | exact Or.inr rfl | omega) (Nat.le_refl _) (Nat.le_refl _) ?_
      exact ⟨rfl, rfl, _, rfl, by omega⟩
    · refine x_aload_n C dX1_startsWord_12 rfl ?_
      refine x_iload_n C dX1_startsWord_13 rfl ?_
      refine x_iconst C dX1_startsWord_14 ⟨by decide, by decide⟩ ?_
      refine x_isub C dX1_startsWord_15 (by first | (unfold iR; omega) | exact ⟨by omega, by omega⟩) ?_
      refine y_p1 C dX1_startsWord_16 kyX1_isOfWord knX1_isOfWord kmX1_110 hr.o (c_X1_isOfWord l hr (i - 1) (by omega)) (by decide) (Nat.zero_le _) (Nat.zero_le _) (Nat.le_of_ble_eq_true rfl) (fun z16 q16 => ?_)
      refine x_if_ne (tgt := 26) C dX1_startsWord_19 (by decide) (fun c19 => ?_) (fun c19 => ?_)
      · refine x_iconst C dX1_startsWord_26 ⟨by decide, by decide⟩ ?_
        refine x_zret C hQ dX1_startsWord_27 (by first | exact Or.inl rfl | exact Or.inr rfl | omega) (Nat.le_refl _) (Nat.le_refl _) ?_
        exact ⟨rfl, rfl, _, rfl, by omega⟩
      · refine x_iconst C dX1_startsWord_22 ⟨by decide, by decide⟩ ?_
        refine x_goto (tgt := 27) C dX1_startsWord_23 (by decide) ?_
        refine x_zret C hQ dX1_startsWord_27 (by first | exact Or.inl rfl | exact Or.inr rfl | omega) (Nat.le_refl _) (Nat.le_refl _) ?_
        exact ⟨rfl, rfl, _, rfl, by omega⟩

set_option maxHeartbeats 1000000 in
set_option maxRecDepth 100000 in
theorem lp_X1_wordWidth {t : TX} {l : Launch} {n0 : Nat} {w : mW} {h : Nat} {ic rc lc : Int} {B1 B2 B3 B4 B5 B6 B7 : List Int} (hr : rC w h ic rc lc B1 B2 B3 B4 B5 B6 B7) (a : Int) {J1 J5 : List Int} (C : Cb t l cX1_wordWidth RX1 4 (some .int) 1 0 0) {Q : Int → Prop} (hQ : RQ t 0 0 (fun r n' w' => n' = n0 ∧ w' = w ∧ ∃ z : Int, r = some (vi z) ∧ Q z)) : ∀ (R : List mI) (P1 P5 : List Int) (s k : Int), B1 = P1 ++ (R.map (fun q => q.1) ++ J1) → B5 = P5 ++ (R.map (fun q => q.2.2) ++ J5) → k = P1.length → k = P5.length → ic = k + R.length → (∀ q ∈ R, 0 ≤ q.2.2 ∧ q.2.2 ≤ 5) → (0 ≤ s ∧ s + 5 * R.length ≤ 1000) → Q (s + wordW R) → J t 0 0 4 [some (vr h), some (vi a), some (vi s), some (vi k)] [] n0 w := by
  intro R
  induction R with
  | nil =>
    intro P1 P5 s k h1 h5 e1 e5 ei hb hs hq
    simp only [List.length_nil] at ei
    refine x_iload_n C dX1_wordWidth_4 rfl ?_
    refine x_aload_n C dX1_wordWidth_5 rfl ?_
    refine x_get C dX1_wordWidth_6 kfX1_45 hr.o rfl ?_
    refine x_icmp_ge (tgt := 35) C dX1_wordWidth_9 (by decide) (fun c9 => ?_) (fun c9 => ?_)
    · refine x_iload_n C dX1_wordWidth_35 rfl ?_
      refine x_iret C hQ dX1_wordWidth_36 (Nat.le_refl _) (Nat.le_refl _) ?_
      exact ⟨rfl, rfl, _, rfl, by simpa [wordW] using hq⟩
    · omega
  | cons r R ih =>
    intro P1 P5 s k h1 h5 e1 e5 ei hb hs hq
    have hbr := hb r List.mem_cons_self
    simp only [List.length_cons] at ei hs
    have lB := hr.l1
    have v1 : B1.getD k.toNat 0 = r.1 := by rw [h1]; exact gd_mid P1 r.1 _ (by omega)
    have v5 : B5.getD k.toNat 0 = r.2.2 := by rw [h5]; exact gd_mid P5 r.2.2 _ (by omega)
    have lB2 : P1.length + (R.length + 1 + J1.length) = 44 := by rw [h1] at lB; simp at lB; omega
    unfold wordW at hq
    refine x_iload_n C dX1_wordWidth_4 rfl ?_
    refine x_aload_n C dX1_wordWidth_5 rfl ?_
    refine x_get C dX1_wordWidth_6 kfX1_45 hr.o rfl ?_
    refine x_icmp_ge (tgt := 35) C dX1_wordWidth_9 (by decide) (fun c9 => ?_) (fun c9 => ?_)
    · refine x_iload_n C dX1_wordWidth_35 rfl ?_
      refine x_iret C hQ dX1_wordWidth_36 (Nat.le_refl _) (Nat.le_refl _) ?_
      first | omega | (refine ⟨rfl, rfl, _, rfl, ?_⟩; rw [if_neg (by omega)] at hq; simpa using hq)
    · refine x_aload_n C dX1_wordWidth_12 rfl ?_
      refine x_iload_n C dX1_wordWidth_13 rfl ?_
      refine y_p1 C dX1_wordWidth_14 kyX1_isOfWord knX1_isOfWord kmX1_110 hr.o (c_X1_isOfWord l hr k (by omega)) (by decide) (Nat.zero_le _) (Nat.zero_le _) (Nat.le_of_ble_eq_true rfl) (fun z14 q14 => ?_)
      rw [v1] at q14
      refine x_if_eq (tgt := 35) C dX1_wordWidth_17 (by decide) (fun c17 => ?_) (fun c17 => ?_)
      · refine x_iload_n C dX1_wordWidth_35 rfl ?_
        refine x_iret C hQ dX1_wordWidth_36 (Nat.le_refl _) (Nat.le_refl _) ?_
        first | omega | (refine ⟨rfl, rfl, _, rfl, ?_⟩; rw [if_neg (by omega)] at hq; simpa using hq)
      · refine x_iload_n C dX1_wordWidth_20 rfl ?_
        refine x_aload_n C dX1_wordWidth_21 rfl ?_
        refine x_get C dX1_wordWidth_22 kfX1_24 hr.o rfl ?_
        refine x_iload_n C dX1_wordWidth_25 rfl ?_
        refine x_iald C dX1_wordWidth_26 hr.a5 (by omega) (by rw [hr.l5]; omega) ?_
        rw [v5]
        refine x_iadd C dX1_wordWidth_27 (by first | (unfold iR; omega) | exact ⟨by omega, by omega⟩) ?_
        refine s_ist4_2 C dX1_wordWidth_28 rfl ?_
        refine s_inc4_3 C dX1_wordWidth_29 rfl (by first | (unfold iR; omega) | exact ⟨by omega, by omega⟩) ?_
        refine x_goto (tgt := 4) C dX1_wordWidth_32 (by decide) ?_
        refine ih (P1 ++ [r.1]) (P5 ++ [r.2.2]) (s + r.2.2) (k + 1) (by rw [h1]; simp) (by rw [h5]; simp) (by simp; omega) (by simp; omega) (by omega) (fun q hq => hb q (List.mem_cons_of_mem _ hq)) (by omega) ?_
        rw [if_pos (by omega)] at hq
        rw [Int.add_assoc]
        exact hq

set_option maxHeartbeats 1000000 in
set_option maxRecDepth 100000 in
theorem c_X1_wordWidth (l : Launch) {w : mW} {h : Nat} {ic rc lc : Int} {B1 B2 B3 B4 B5 B6 B7 : List Int} (hr : rC w h ic rc lc B1 B2 B3 B4 B5 B6 B7) (i : Int) {P1 P5 J1 J5 : List Int} {R : List mI} (h1 : B1 = P1 ++ (R.map (fun q => q.1) ++ J1)) (h5 : B5 = P5 ++ (R.map (fun q => q.2.2) ++ J5)) (e1 : i = P1.length) (e5 : i = P5.length) (ei : ic = i + R.length) (hb : ∀ x ∈ R, 0 ≤ x.2.2 ∧ x.2.2 ≤ 5) : Cp l yX1_wordWidth cX1_wordWidth 4 (some .int) 1 [vr h, vi i] w (fun z => z = wordW R) := by
  refine Cp.of (ml := [some (vr h), some (vi i), none, none]) kyX1_wordWidth rfl (Nat.le_of_ble_eq_true rfl) rfl ?_
  intro t n C hQ
  have lB := hr.l1
  have lB2 : P1.length + (R.length + J1.length) = 44 := by rw [h1] at lB; simp at lB; omega
  refine x_iconst C dX1_wordWidth_0 ⟨by decide, by decide⟩ ?_
  refine s_ist4_2 C dX1_wordWidth_1 rfl ?_
  refine x_iload_n C dX1_wordWidth_2 rfl ?_
  refine s_ist4_3 C dX1_wordWidth_3 rfl ?_
  exact lp_X1_wordWidth hr i C hQ R P1 P5 0 i h1 h5 e1 e5 ei hb (by omega) (by simp)

theorem wordW_bd : ∀ (R : List mI), (∀ q ∈ R, 0 ≤ q.2.2 ∧ q.2.2 ≤ 5) → 0 ≤ wordW R ∧ wordW R ≤ 5 * R.length
  | [], _ => by simp [wordW]
  | q :: R, h => by
    have ih := wordW_bd R (fun x hx => h x (List.mem_cons_of_mem _ hx))
    have hq := h q List.mem_cons_self
    unfold wordW
    simp only [List.length_cons]
    split <;> omega
theorem widF_bd {tb col c v : Int} (htb : 1 ≤ tb ∧ tb ≤ 8) (hc : 0 ≤ col) (hv : 0 ≤ v ∧ v ≤ 5) : 0 ≤ widF tb col c v ∧ widF tb col c v ≤ 8 := by
  have h1 := Int.emod_lt_of_pos col (show 0 < tb by omega)
  have h2 := Int.emod_nonneg col (show tb ≠ 0 by omega)
  unfold widF
  split
  · omega
  · split <;> omega

set_option maxHeartbeats 1000000 in
set_option maxRecDepth 100000 in
theorem c_X1_goesOn (l : Launch) {w : mW} {h : Nat} {ic rc lc : Int} {B1 B2 B3 B4 B5 B6 B7 : List Int} (hr : rC w h ic rc lc B1 B2 B3 B4 B5 B6 B7) {u : Nat} {n fc hc mo wi nd tb : Int} {A1 A2 A3 A4 A5 A6 : List Int} (hs : rS w u n fc hc mo wi nd tb A1 A2 A3 A4 A5 A6) (i : Int) (pw : Bool) {q : mI} {P1 P5 J1 J5 : List Int} {R : List mI} (h1 : B1 = P1 ++ ((q :: R).map (fun q => q.1) ++ J1)) (h5 : B5 = P5 ++ ((q :: R).map (fun q => q.2.2) ++ J5)) (e1 : i = P1.length) (e5 : i = P5.length) (ei : ic = i + (q :: R).length) (hb : ∀ x ∈ q :: R, 0 ≤ x.2.2 ∧ x.2.2 ≤ 5) (hpw : pw = true ↔ 0 < i ∧ B1.getD (i - 1).toNat 0 ≠ 26 ∧ B1.getD (i - 1).toNat 0 ≠ 27) (hlc : 0 ≤ lc ∧ lc ≤ 100000) (htb : 1 ≤ tb ∧ tb ≤ 8) (hwi : 0 ≤ wi ∧ wi ≤ 100) (hnd : 0 ≤ nd ∧ nd ≤ 100) : Cp l yX1_goesOn cX1_goesOn 4 (some .boolean) 2 [vr h, vr u, vi i] w (fun z => (z = 0 ∨ z = 1) ∧ (z = 1 ↔ goesF mo wi nd tb pw lc (q :: R) = true)) := by
  refine Cp.of (ml := [some (vr h), some (vr u), some (vi i), none]) kyX1_goesOn rfl (Nat.le_of_ble_eq_true rfl) rfl ?_
  intro t n C hQ
  have lB := hr.l1
  have lB2 : P1.length + (R.length + 1 + J1.length) = 44 := by rw [h1] at lB; simp at lB; omega
  simp only [List.length_cons] at ei
  have v1 : B1.getD i.toNat 0 = q.1 := by rw [h1]; exact gd_mid P1 q.1 _ (by omega)
  have v5 : B5.getD i.toNat 0 = q.2.2 := by rw [h5]; exact gd_mid P5 q.2.2 _ (by omega)
  have hww := wordW_bd (q :: R) hb
  simp only [List.length_cons] at hww
  have hwf := widF_bd (c := q.1) htb hlc.1 (hb q List.mem_cons_self)
  generalize hW9 : widF tb lc q.1 q.2.2 = W9 at hwf
  generalize hW8 : wordW (q :: R) = W8 at hww
  refine x_aload_n C dX1_goesOn_0 rfl ?_
  refine x_get C dX1_goesOn_1 kfX1_95 hs.o rfl ?_
  refine x_iconst C dX1_goesOn_4 ⟨by decide, by decide⟩ ?_
  refine x_icmp_eq (tgt := 16) C dX1_goesOn_5 (by decide) (fun c5 => ?_) (fun c5 => ?_)
  · refine x_aload_n C dX1_goesOn_16 rfl ?_
    refine x_get C dX1_goesOn_17 kfX1_9 hr.o rfl ?_
    refine x_iload_n C dX1_goesOn_20 rfl ?_
    refine x_iald C dX1_goesOn_21 hr.a1 (by omega) (by rw [hr.l1]; omega) ?_
    rw [v1]
    refine x_bipush C dX1_goesOn_22 ⟨by decide, by decide⟩ ?_
    refine x_icmp_ne (tgt := 29) C dX1_goesOn_24 (by decide) (fun c24 => ?_) (fun c24 => ?_)
    · refine x_aload_n C dX1_goesOn_29 rfl ?_
      refine x_get C dX1_goesOn_30 kfX1_85 hr.o rfl ?_
      refine x_aload_n C dX1_goesOn_33 rfl ?_
      refine x_aload_n C dX1_goesOn_34 rfl ?_
      refine x_iload_n C dX1_goesOn_35 rfl ?_
      refine y_p2 C dX1_goesOn_36 kyX1_widthOf knX1_widthOf kmX1_88 hr.o (c_X1_widthOf l hr hs i (by omega) hlc htb) (by decide) (Nat.zero_le _) (Nat.zero_le _) (Nat.le_of_ble_eq_true rfl) (fun z36 q36 => ?_)
      rw [v1, v5, hW9] at q36
      refine x_iadd C dX1_goesOn_39 (by first | (unfold iR; omega) | exact ⟨by omega, by omega⟩) ?_
      refine x_aload_n C dX1_goesOn_40 rfl ?_
      refine x_get C dX1_goesOn_41 kfX1_98 hs.o rfl ?_
      refine x_icmp_le (tgt := 49) C dX1_goesOn_44 (by decide) (fun c44 => ?_) (fun c44 => ?_)
      · refine x_aload_n C dX1_goesOn_49 rfl ?_
        refine x_get C dX1_goesOn_50 kfX1_95 hs.o rfl ?_
        refine x_iconst C dX1_goesOn_53 ⟨by decide, by decide⟩ ?_
        refine x_icmp_ne (tgt := 65) C dX1_goesOn_54 (by decide) (fun c54 => ?_) (fun c54 => ?_)
        · refine x_iconst C dX1_goesOn_65 ⟨by decide, by decide⟩ ?_
          refine x_zret C hQ dX1_goesOn_66 (by first | exact Or.inl rfl | exact Or.inr rfl | omega) (Nat.le_refl _) (Nat.le_refl _) ?_
          refine ⟨rfl, rfl, _, rfl, by omega, ?_⟩
          rw [goesF, decide_eq_true_iff, hW9, hW8]
          cases pw <;> simp only [Bool.false_eq_true, false_iff, true_iff, reduceCtorEq, and_true, true_and, false_and, and_false, or_false] at hpw ⊢ <;> omega
        · refine x_aload_n C dX1_goesOn_57 rfl ?_
          refine x_iload_n C dX1_goesOn_58 rfl ?_
          refine y_p1 C dX1_goesOn_59 kyX1_startsWord knX1_startsWord kmX1_101 hr.o (c_X1_startsWord l hr i (by omega)) (by decide) (Nat.zero_le _) (Nat.zero_le _) (Nat.le_of_ble_eq_true rfl) (fun z59 q59 => ?_)
          rw [v1] at q59
          refine x_if_ne (tgt := 67) C dX1_goesOn_62 (by decide) (fun c62 => ?_) (fun c62 => ?_)
          · refine x_aload_n C dX1_goesOn_67 rfl ?_
            refine x_iload_n C dX1_goesOn_68 rfl ?_
            refine y_p1 C dX1_goesOn_69 kyX1_wordWidth knX1_wordWidth kmX1_104 hr.o (c_X1_wordWidth l hr i h1 h5 e1 e5 (by simp only [List.length_cons]; omega) hb) (by decide) (Nat.zero_le _) (Nat.zero_le _) (Nat.le_of_ble_eq_true rfl) (fun z69 q69 => ?_)
            rw [hW8] at q69
            refine s_ist4_3 C dX1_goesOn_72 rfl ?_
            refine x_aload_n C dX1_goesOn_73 rfl ?_
            refine x_get C dX1_goesOn_74 kfX1_85 hr.o rfl ?_
            refine x_iload_n C dX1_goesOn_77 rfl ?_
            refine x_iadd C dX1_goesOn_78 (by first | (unfold iR; omega) | exact ⟨by omega, by omega⟩) ?_
            refine x_aload_n C dX1_goesOn_79 rfl ?_
            refine x_get C dX1_goesOn_80 kfX1_98 hs.o rfl ?_
            refine x_icmp_le (tgt := 103) C dX1_goesOn_83 (by decide) (fun c83 => ?_) (fun c83 => ?_)
            · refine x_iconst C dX1_goesOn_103 ⟨by decide, by decide⟩ ?_
              refine x_zret C hQ dX1_goesOn_104 (by first | exact Or.inl rfl | exact Or.inr rfl | omega) (Nat.le_refl _) (Nat.le_refl _) ?_
              refine ⟨rfl, rfl, _, rfl, by omega, ?_⟩
              rw [goesF, decide_eq_true_iff, hW9, hW8]
              cases pw <;> simp only [Bool.false_eq_true, false_iff, true_iff, reduceCtorEq, and_true, true_and, false_and, and_false, or_false] at hpw ⊢ <;> omega
            · refine x_iload_n C dX1_goesOn_86 rfl ?_
              refine x_aload_n C dX1_goesOn_87 rfl ?_
              refine x_get C dX1_goesOn_88 kfX1_98 hs.o rfl ?_
              refine x_aload_n C dX1_goesOn_91 rfl ?_
              refine x_get C dX1_goesOn_92 kfX1_82 hs.o rfl ?_
              refine x_isub C dX1_goesOn_95 (by first | (unfold iR; omega) | exact ⟨by omega, by omega⟩) ?_
              refine x_icmp_gt (tgt := 103) C dX1_goesOn_96 (by decide) (fun c96 => ?_) (fun c96 => ?_)
              · refine x_iconst C dX1_goesOn_103 ⟨by decide, by decide⟩ ?_
                refine x_zret C hQ dX1_goesOn_104 (by first | exact Or.inl rfl | exact Or.inr rfl | omega) (Nat.le_refl _) (Nat.le_refl _) ?_
                refine ⟨rfl, rfl, _, rfl, by omega, ?_⟩
                rw [goesF, decide_eq_true_iff, hW9, hW8]
                cases pw <;> simp only [Bool.false_eq_true, false_iff, true_iff, reduceCtorEq, and_true, true_and, false_and, and_false, or_false] at hpw ⊢ <;> omega
              · refine x_iconst C dX1_goesOn_99 ⟨by decide, by decide⟩ ?_
                refine x_goto (tgt := 104) C dX1_goesOn_100 (by decide) ?_
                refine x_zret C hQ dX1_goesOn_104 (by first | exact Or.inl rfl | exact Or.inr rfl | omega) (Nat.le_refl _) (Nat.le_refl _) ?_
                refine ⟨rfl, rfl, _, rfl, by omega, ?_⟩
                rw [goesF, decide_eq_true_iff, hW9, hW8]
                cases pw <;> simp only [Bool.false_eq_true, false_iff, true_iff, reduceCtorEq, and_true, true_and, false_and, and_false, or_false] at hpw ⊢ <;> omega
          · refine x_iconst C dX1_goesOn_65 ⟨by decide, by decide⟩ ?_
            refine x_zret C hQ dX1_goesOn_66 (by first | exact Or.inl rfl | exact Or.inr rfl | omega) (Nat.le_refl _) (Nat.le_refl _) ?_
            refine ⟨rfl, rfl, _, rfl, by omega, ?_⟩
            rw [goesF, decide_eq_true_iff, hW9, hW8]
            cases pw <;> simp only [Bool.false_eq_true, false_iff, true_iff, reduceCtorEq, and_true, true_and, false_and, and_false, or_false] at hpw ⊢ <;> omega
      · refine x_iconst C dX1_goesOn_47 ⟨by decide, by decide⟩ ?_
        refine x_zret C hQ dX1_goesOn_48 (by first | exact Or.inl rfl | exact Or.inr rfl | omega) (Nat.le_refl _) (Nat.le_refl _) ?_
        refine ⟨rfl, rfl, _, rfl, by omega, ?_⟩
        rw [goesF, decide_eq_true_iff, hW9, hW8]
        cases pw <;> simp only [Bool.false_eq_true, false_iff, true_iff, reduceCtorEq, and_true, true_and, false_and, and_false, or_false] at hpw ⊢ <;> omega
    · refine x_iconst C dX1_goesOn_27 ⟨by decide, by decide⟩ ?_
      refine x_zret C hQ dX1_goesOn_28 (by first | exact Or.inl rfl | exact Or.inr rfl | omega) (Nat.le_refl _) (Nat.le_refl _) ?_
      refine ⟨rfl, rfl, _, rfl, by omega, ?_⟩
      rw [goesF, decide_eq_true_iff, hW9, hW8]
      cases pw <;> simp only [Bool.false_eq_true, false_iff, true_iff, reduceCtorEq, and_true, true_and, false_and, and_false, or_false] at hpw ⊢ <;> omega
  · refine x_aload_n C dX1_goesOn_8 rfl ?_
    refine x_get C dX1_goesOn_9 kfX1_95 hs.o rfl ?_
    refine x_iconst C dX1_goesOn_12 ⟨by decide, by decide⟩ ?_
    refine x_icmp_ne (tgt := 27) C dX1_goesOn_13 (by decide) (fun c13 => ?_) (fun c13 => ?_)
    · refine x_iconst C dX1_goesOn_27 ⟨by decide, by decide⟩ ?_
      refine x_zret C hQ dX1_goesOn_28 (by first | exact Or.inl rfl | exact Or.inr rfl | omega) (Nat.le_refl _) (Nat.le_refl _) ?_
      refine ⟨rfl, rfl, _, rfl, by omega, ?_⟩
      rw [goesF, decide_eq_true_iff, hW9, hW8]
      cases pw <;> simp only [Bool.false_eq_true, false_iff, true_iff, reduceCtorEq, and_true, true_and, false_and, and_false, or_false] at hpw ⊢ <;> omega
    · refine x_aload_n C dX1_goesOn_16 rfl ?_
      refine x_get C dX1_goesOn_17 kfX1_9 hr.o rfl ?_
      refine x_iload_n C dX1_goesOn_20 rfl ?_
      refine x_iald C dX1_goesOn_21 hr.a1 (by omega) (by rw [hr.l1]; omega) ?_
      rw [v1]
      refine x_bipush C dX1_goesOn_22 ⟨by decide, by decide⟩ ?_
      refine x_icmp_ne (tgt := 29) C dX1_goesOn_24 (by decide) (fun c24 => ?_) (fun c24 => ?_)
      · refine x_aload_n C dX1_goesOn_29 rfl ?_
        refine x_get C dX1_goesOn_30 kfX1_85 hr.o rfl ?_
        refine x_aload_n C dX1_goesOn_33 rfl ?_
        refine x_aload_n C dX1_goesOn_34 rfl ?_
        refine x_iload_n C dX1_goesOn_35 rfl ?_
        refine y_p2 C dX1_goesOn_36 kyX1_widthOf knX1_widthOf kmX1_88 hr.o (c_X1_widthOf l hr hs i (by omega) hlc htb) (by decide) (Nat.zero_le _) (Nat.zero_le _) (Nat.le_of_ble_eq_true rfl) (fun z36 q36 => ?_)
        rw [v1, v5, hW9] at q36
        refine x_iadd C dX1_goesOn_39 (by first | (unfold iR; omega) | exact ⟨by omega, by omega⟩) ?_
        refine x_aload_n C dX1_goesOn_40 rfl ?_
        refine x_get C dX1_goesOn_41 kfX1_98 hs.o rfl ?_
        refine x_icmp_le (tgt := 49) C dX1_goesOn_44 (by decide) (fun c44 => ?_) (fun c44 => ?_)
        · refine x_aload_n C dX1_goesOn_49 rfl ?_
          refine x_get C dX1_goesOn_50 kfX1_95 hs.o rfl ?_
          refine x_iconst C dX1_goesOn_53 ⟨by decide, by decide⟩ ?_
          refine x_icmp_ne (tgt := 65) C dX1_goesOn_54 (by decide) (fun c54 => ?_) (fun c54 => ?_)
          · refine x_iconst C dX1_goesOn_65 ⟨by decide, by decide⟩ ?_
            refine x_zret C hQ dX1_goesOn_66 (by first | exact Or.inl rfl | exact Or.inr rfl | omega) (Nat.le_refl _) (Nat.le_refl _) ?_
            refine ⟨rfl, rfl, _, rfl, by omega, ?_⟩
            rw [goesF, decide_eq_true_iff, hW9, hW8]
            cases pw <;> simp only [Bool.false_eq_true, false_iff, true_iff, reduceCtorEq, and_true, true_and, false_and, and_false, or_false] at hpw ⊢ <;> omega
          · refine x_aload_n C dX1_goesOn_57 rfl ?_
            refine x_iload_n C dX1_goesOn_58 rfl ?_
            refine y_p1 C dX1_goesOn_59 kyX1_startsWord knX1_startsWord kmX1_101 hr.o (c_X1_startsWord l hr i (by omega)) (by decide) (Nat.zero_le _) (Nat.zero_le _) (Nat.le_of_ble_eq_true rfl) (fun z59 q59 => ?_)
            rw [v1] at q59
            refine x_if_ne (tgt := 67) C dX1_goesOn_62 (by decide) (fun c62 => ?_) (fun c62 => ?_)
            · refine x_aload_n C dX1_goesOn_67 rfl ?_
              refine x_iload_n C dX1_goesOn_68 rfl ?_
              refine y_p1 C dX1_goesOn_69 kyX1_wordWidth knX1_wordWidth kmX1_104 hr.o (c_X1_wordWidth l hr i h1 h5 e1 e5 (by simp only [List.length_cons]; omega) hb) (by decide) (Nat.zero_le _) (Nat.zero_le _) (Nat.le_of_ble_eq_true rfl) (fun z69 q69 => ?_)
              rw [hW8] at q69
              refine s_ist4_3 C dX1_goesOn_72 rfl ?_
              refine x_aload_n C dX1_goesOn_73 rfl ?_
              refine x_get C dX1_goesOn_74 kfX1_85 hr.o rfl ?_
              refine x_iload_n C dX1_goesOn_77 rfl ?_
              refine x_iadd C dX1_goesOn_78 (by first | (unfold iR; omega) | exact ⟨by omega, by omega⟩) ?_
              refine x_aload_n C dX1_goesOn_79 rfl ?_
              refine x_get C dX1_goesOn_80 kfX1_98 hs.o rfl ?_
              refine x_icmp_le (tgt := 103) C dX1_goesOn_83 (by decide) (fun c83 => ?_) (fun c83 => ?_)
              · refine x_iconst C dX1_goesOn_103 ⟨by decide, by decide⟩ ?_
                refine x_zret C hQ dX1_goesOn_104 (by first | exact Or.inl rfl | exact Or.inr rfl | omega) (Nat.le_refl _) (Nat.le_refl _) ?_
                refine ⟨rfl, rfl, _, rfl, by omega, ?_⟩
                rw [goesF, decide_eq_true_iff, hW9, hW8]
                cases pw <;> simp only [Bool.false_eq_true, false_iff, true_iff, reduceCtorEq, and_true, true_and, false_and, and_false, or_false] at hpw ⊢ <;> omega
              · refine x_iload_n C dX1_goesOn_86 rfl ?_
                refine x_aload_n C dX1_goesOn_87 rfl ?_
                refine x_get C dX1_goesOn_88 kfX1_98 hs.o rfl ?_
                refine x_aload_n C dX1_goesOn_91 rfl ?_
                refine x_get C dX1_goesOn_92 kfX1_82 hs.o rfl ?_
                refine x_isub C dX1_goesOn_95 (by first | (unfold iR; omega) | exact ⟨by omega, by omega⟩) ?_
                refine x_icmp_gt (tgt := 103) C dX1_goesOn_96 (by decide) (fun c96 => ?_) (fun c96 => ?_)
                · refine x_iconst C dX1_goesOn_103 ⟨by decide, by decide⟩ ?_
                  refine x_zret C hQ dX1_goesOn_104 (by first | exact Or.inl rfl | exact Or.inr rfl | omega) (Nat.le_refl _) (Nat.le_refl _) ?_
                  refine ⟨rfl, rfl, _, rfl, by omega, ?_⟩
                  rw [goesF, decide_eq_true_iff, hW9, hW8]
                  cases pw <;> simp only [Bool.false_eq_true, false_iff, true_iff, reduceCtorEq, and_true, true_and, false_and, and_false, or_false] at hpw ⊢ <;> omega
                · refine x_iconst C dX1_goesOn_99 ⟨by decide, by decide⟩ ?_
                  refine x_goto (tgt := 104) C dX1_goesOn_100 (by decide) ?_
                  refine x_zret C hQ dX1_goesOn_104 (by first | exact Or.inl rfl | exact Or.inr rfl | omega) (Nat.le_refl _) (Nat.le_refl _) ?_
                  refine ⟨rfl, rfl, _, rfl, by omega, ?_⟩
                  rw [goesF, decide_eq_true_iff, hW9, hW8]
                  cases pw <;> simp only [Bool.false_eq_true, false_iff, true_iff, reduceCtorEq, and_true, true_and, false_and, and_false, or_false] at hpw ⊢ <;> omega
            · refine x_iconst C dX1_goesOn_65 ⟨by decide, by decide⟩ ?_
              refine x_zret C hQ dX1_goesOn_66 (by first | exact Or.inl rfl | exact Or.inr rfl | omega) (Nat.le_refl _) (Nat.le_refl _) ?_
              refine ⟨rfl, rfl, _, rfl, by omega, ?_⟩
              rw [goesF, decide_eq_true_iff, hW9, hW8]
              cases pw <;> simp only [Bool.false_eq_true, false_iff, true_iff, reduceCtorEq, and_true, true_and, false_and, and_false, or_false] at hpw ⊢ <;> omega
        · refine x_iconst C dX1_goesOn_47 ⟨by decide, by decide⟩ ?_
          refine x_zret C hQ dX1_goesOn_48 (by first | exact Or.inl rfl | exact Or.inr rfl | omega) (Nat.le_refl _) (Nat.le_refl _) ?_
          refine ⟨rfl, rfl, _, rfl, by omega, ?_⟩
          rw [goesF, decide_eq_true_iff, hW9, hW8]
          cases pw <;> simp only [Bool.false_eq_true, false_iff, true_iff, reduceCtorEq, and_true, true_and, false_and, and_false, or_false] at hpw ⊢ <;> omega
      · refine x_iconst C dX1_goesOn_27 ⟨by decide, by decide⟩ ?_
        refine x_zret C hQ dX1_goesOn_28 (by first | exact Or.inl rfl | exact Or.inr rfl | omega) (Nat.le_refl _) (Nat.le_refl _) ?_
        refine ⟨rfl, rfl, _, rfl, by omega, ?_⟩
        rw [goesF, decide_eq_true_iff, hW9, hW8]
        cases pw <;> simp only [Bool.false_eq_true, false_iff, true_iff, reduceCtorEq, and_true, true_and, false_and, and_false, or_false] at hpw ⊢ <;> omega

set_option maxHeartbeats 1000000 in
set_option maxRecDepth 100000 in
theorem c_X1_hasRow (l : Launch) {w : mW} {h : Nat} {ic rc lc : Int} {B1 B2 B3 B4 B5 B6 B7 : List Int} (hr : rC w h ic rc lc B1 B2 B3 B4 B5 B6 B7) (a : Int) : Cp l yX1_hasRow cX1_hasRow 2 (some .boolean) 0 [vr h, vi a] w (fun z => (z = 0 ∨ z = 1) ∧ (z = 1 ↔ 0 ≤ a ∧ a < rc)) := by
  refine Cp.of (ml := [some (vr h), some (vi a)]) kyX1_hasRow rfl (Nat.le_of_ble_eq_true rfl) rfl ?_
  intro t n C hQ
  refine x_iload_n C dX1_hasRow_0 rfl ?_
  refine x_if_lt (tgt := 16) C dX1_hasRow_1 (by decide) (fun c1 => ?_) (fun c1 => ?_)
  · refine x_iconst C dX1_hasRow_16 ⟨by decide, by decide⟩ ?_
    refine x_zret C hQ dX1_hasRow_17 (by first | exact Or.inl rfl | exact Or.inr rfl | omega) (Nat.le_refl _) (Nat.le_refl _) ?_
    exact ⟨rfl, rfl, _, rfl, by omega⟩
  · refine x_iload_n C dX1_hasRow_4 rfl ?_
    refine x_aload_n C dX1_hasRow_5 rfl ?_
    refine x_get C dX1_hasRow_6 kfX1_41 hr.o rfl ?_
    refine x_icmp_ge (tgt := 16) C dX1_hasRow_9 (by decide) (fun c9 => ?_) (fun c9 => ?_)
    · refine x_iconst C dX1_hasRow_16 ⟨by decide, by decide⟩ ?_
      refine x_zret C hQ dX1_hasRow_17 (by first | exact Or.inl rfl | exact Or.inr rfl | omega) (Nat.le_refl _) (Nat.le_refl _) ?_
      exact ⟨rfl, rfl, _, rfl, by omega⟩
    · refine x_iconst C dX1_hasRow_12 ⟨by decide, by decide⟩ ?_
      refine x_goto (tgt := 17) C dX1_hasRow_13 (by decide) ?_
      refine x_zret C hQ dX1_hasRow_17 (by first | exact Or.inl rfl | exact Or.inr rfl | omega) (Nat.le_refl _) (Nat.le_refl _) ?_
      exact ⟨rfl, rfl, _, rfl, by omega⟩
