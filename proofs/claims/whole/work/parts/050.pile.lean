/-! ===== DisplayMap.Pile ===== -/
abbrev mF : Type := mS × Int × Int × Int × Int
def isF (w : mW) (h : Nat) (F : mF) : Prop := isSh w h F.1.1 F.1.2.1 F.1.2.2 F.2.1 F.2.2.1 F.2.2.2.1 F.2.2.2.2
def anySh (w : mW) (h : Nat) : Prop := ∃ (n fc hc mo wi nd tb : Int) (A1 A2 A3 A4 A5 A6 : List Int), rS w h n fc hc mo wi nd tb A1 A2 A3 A4 A5 A6
theorem isF.any {w : mW} {h : Nat} {F : mF} (hF : isF w h F) : anySh w h := by
  obtain ⟨j1, j2, j3, j4, j5, j6, hr⟩ := hF
  exact ⟨_, _, _, _, _, _, _, _, _, _, _, _, _, hr⟩
theorem anySh.fr {w w' : mW} {h lo up : Nat} (hS : anySh w h) (hf : frR w w' lo up) (hd : h + 6 < lo ∨ up < h) : anySh w' h := by
  obtain ⟨_, _, _, _, _, _, _, _, _, _, _, _, _, hr⟩ := hS
  exact ⟨_, _, _, _, _, _, _, _, _, _, _, _, _, hr.fr hf hd⟩
theorem isF.fr {w w' : mW} {h lo up : Nat} {F : mF} (hS : isF w h F) (hf : frR w w' lo up) (hd : h + 6 < lo ∨ up < h) : isF w' h F := isSh.fr hS hf hd
/-- the sheets' addresses: each once, each of the pile's own -/
def pilH (h cap : Nat) (hs : List Nat) : Prop := hs.length = cap ∧ hs.Nodup ∧ ∀ x ∈ hs, ∃ i, i < cap ∧ x = h + 2 + 7 * i
def isPi (w : mW) (h cap : Nat) (L : List mF) : Prop := ∃ hs : List Nat, pilH h cap hs ∧ w h = some (co 0 [vr (h + 1), vi L.length]) ∧ w (h + 1) = some (cq (hs.map some)) ∧ L.length ≤ cap ∧ (∀ x ∈ hs, anySh w x) ∧ ∀ (i : Nat) (F : mF), L[i]? = some F → ∃ x, hs[i]? = some x ∧ isF w x F
theorem pilH.lt {h cap : Nat} {hs : List Nat} (hp : pilH h cap hs) {x : Nat} (hx : x ∈ hs) : h + 2 ≤ x ∧ x + 6 ≤ h + 1 + 7 * cap := by
  obtain ⟨i, h1, h2⟩ := hp.2.2 x hx
  omega
theorem pilH.apart {h cap : Nat} {hs : List Nat} (hp : pilH h cap hs) {x y : Nat} (hx : x ∈ hs) (hy : y ∈ hs) (hxy : x ≠ y) : x + 6 < y ∨ y + 6 < x := by
  obtain ⟨i, h1, h2⟩ := hp.2.2 x hx
  obtain ⟨j, h3, h4⟩ := hp.2.2 y hy
  omega
theorem isPi.fr {w w' : mW} {h cap lo up : Nat} {L : List mF} (hP : isPi w h cap L) (hf : frR w w' lo up) (hd : h + 1 + 7 * cap < lo ∨ up < h) : isPi w' h cap L := by
  obtain ⟨hs, h1, h2, h3, h4, h5, h6⟩ := hP
  refine ⟨hs, h1, (hf _ (by omega)).trans h2, (hf _ (by omega)).trans h3, h4, fun x hx => (h5 x hx).fr hf (by have := h1.lt hx; omega), fun i F hF => ?_⟩
  obtain ⟨x, e1, e2⟩ := h6 i F hF
  exact ⟨x, e1, e2.fr hf (by have := h1.lt (List.mem_of_getElem? e1); omega)⟩
theorem mset_some (P R : List Nat) (x y : Nat) {i : Int} (hi : i = P.length) : ((P ++ x :: R).map some).set i.toNat (some y) = (P ++ y :: R).map some := by
  subst hi
  simp
theorem gd_some (P R : List Nat) (x : Nat) {i : Int} (hi : i = P.length) : ((P ++ x :: R).map some).getD i.toNat none = some x := by
  subst hi
  simp [List.getD]

set_option maxHeartbeats 1000000 in
set_option maxRecDepth 100000 in
theorem c_X0_isFull (l : Launch) {w : mW} {h : Nat} {c : Int} {hs : List Nat} (p0 : w h = some (co 0 [vr (h + 1), vi c])) (p1 : w (h + 1) = some (cq (hs.map some))) (hl : hs.length ≤ 1000) : Cp l yX0_isFull cX0_isFull 1 (some .boolean) 0 [vr h] w (fun z => (z = 0 ∨ z = 1) ∧ (z = 1 ↔ hs.length ≤ c)) := by
  refine Cp.of (ml := [some (vr h)]) kyX0_isFull rfl (Nat.le_of_ble_eq_true rfl) rfl ?_
  intro t n C hQ
  refine x_aload_n C dX0_isFull_0 rfl ?_
  refine x_get C dX0_isFull_1 kfX0_22 (p0) rfl ?_
  refine x_aload_n C dX0_isFull_4 rfl ?_
  refine x_get C dX0_isFull_5 kfX0_15 (p0) rfl ?_
  refine x_alenQ C dX0_isFull_8 (p1) (by simp only [List.length_map]; omega) ?_
  rw [List.length_map]
  refine x_icmp_lt (tgt := 16) C dX0_isFull_9 (by decide) (fun c9 => ?_) (fun c9 => ?_)
  · refine x_iconst C dX0_isFull_16 ⟨by decide, by decide⟩ ?_
    refine x_zret C hQ dX0_isFull_17 (by first | exact Or.inl rfl | exact Or.inr rfl | omega) (Nat.le_refl _) (Nat.le_refl _) ?_
    exact ⟨rfl, rfl, _, rfl, by omega⟩
  · refine x_iconst C dX0_isFull_12 ⟨by decide, by decide⟩ ?_
    refine x_goto (tgt := 17) C dX0_isFull_13 (by decide) ?_
    refine x_zret C hQ dX0_isFull_17 (by first | exact Or.inl rfl | exact Or.inr rfl | omega) (Nat.le_refl _) (Nat.le_refl _) ?_
    exact ⟨rfl, rfl, _, rfl, by omega⟩

set_option maxHeartbeats 1000000 in
set_option maxRecDepth 100000 in
theorem lp_X0_dropLowest {t : TX} {l : Launch} {n0 : Nat} {w : mW} {h x0 : Nat} {cn : Int} {G Z : List Nat} (p0 : w h = some (co 0 [vr (h + 1), vi cn])) (C : Cb t l cX0_dropLowest RX0 3 none 0 0 0) (hcn : cn ≤ 1000) (kx : ∀ (Q : List Nat) (c : Nat), Q = G → cn = Q.length + 1 → ∀ i : Int, J t 0 0 58 [some (vr h), some (vr x0), some (vi i)] [] n0 (mu w (h + 1) (cq ((Q ++ c :: Z).map some)))) : ∀ (R Q : List Nat) (c : Nat) (i : Int), i = Q.length + 1 → cn = Q.length + 1 + R.length → Q ++ R = G → (∀ x ∈ R, ∃ fs, w x = some (co 2 fs)) → (∀ x ∈ R, x ≠ h + 1) → J t 0 0 30 [some (vr h), some (vr x0), some (vi i)] [] n0 (mu w (h + 1) (cq ((Q ++ c :: (R ++ Z)).map some))) := by
  intro R
  induction R with
  | nil =>
    intro Q c i hi hc hG hob hne
    refine x_iload_n C dX0_dropLowest_30 rfl ?_
    refine x_aload_n C dX0_dropLowest_31 rfl ?_
    refine x_get C dX0_dropLowest_32 kfX0_22 ((mu_ne _ _ (by omega)).trans p0) rfl ?_
    refine x_icmp_ge (tgt := 58) C dX0_dropLowest_35 (by decide) (fun c35 => ?_) (fun c35 => ?_)
    · exact kx Q c (by rw [← hG]; simp) (by simpa using hc) i
    · simp only [List.length_append, List.length_cons, List.length_nil] at *
      omega
  | cons r R ih =>
    intro Q c i hi hc hG hob hne
    simp only [List.length_cons] at hc
    obtain ⟨fs, hfs⟩ := hob r List.mem_cons_self
    have hob8 : mu w (h + 1) (cq ((Q ++ c :: (r :: R ++ Z)).map some)) r = some (co 2 fs) := (mu_ne _ _ (by have := hne r List.mem_cons_self; omega)).trans hfs
    have e1 : ((Q ++ c :: (r :: R ++ Z)).map some).getD i.toNat none = some r := by
      have h9 := gd_some (Q ++ [c]) (R ++ Z) r (i := i) (by simp; omega)
      simpa using h9
    refine x_iload_n C dX0_dropLowest_30 rfl ?_
    refine x_aload_n C dX0_dropLowest_31 rfl ?_
    refine x_get C dX0_dropLowest_32 kfX0_22 ((mu_ne _ _ (by omega)).trans p0) rfl ?_
    refine x_icmp_ge (tgt := 58) C dX0_dropLowest_35 (by decide) (fun c35 => ?_) (fun c35 => ?_)
    · omega
    · refine x_aload_n C dX0_dropLowest_38 rfl ?_
      refine x_get C dX0_dropLowest_39 kfX0_15 ((mu_ne _ _ (by omega)).trans p0) rfl ?_
      refine x_iload_n C dX0_dropLowest_42 rfl ?_
      refine x_iconst C dX0_dropLowest_43 ⟨by decide, by decide⟩ ?_
      refine x_isub C dX0_dropLowest_44 (by first | (unfold iR; omega) | exact ⟨by omega, by omega⟩) ?_
      refine x_aload_n C dX0_dropLowest_45 rfl ?_
      refine x_get C dX0_dropLowest_46 kfX0_15 ((mu_ne _ _ (by omega)).trans p0) rfl ?_
      refine x_iload_n C dX0_dropLowest_49 rfl ?_
      refine x_aald C dX0_dropLowest_50 (mu_eq _ _ _) (by omega) (by first | omega | (simp only [List.length_map, List.length_append, List.length_cons]; omega)) e1 ?_
      refine x_aast C dX0_dropLowest_51 (mu_eq _ _ _) (by omega) (by first | omega | (simp only [List.length_map, List.length_append, List.length_cons]; omega)) (hob8) ?_
      refine s_inc3_2 C dX0_dropLowest_52 rfl (by first | (unfold iR; omega) | exact ⟨by omega, by omega⟩) ?_
      refine x_goto (tgt := 30) C dX0_dropLowest_55 (by decide) ?_
      rw [mu_mu, mset_some Q (r :: R ++ Z) c r (by omega)]
      have h9 := ih (Q ++ [r]) r (i + 1) (by simp; omega) (by simp; omega) (by rw [← hG]; simp) (fun x hx => hob x (List.mem_cons_of_mem _ hx)) (fun x hx => hne x (List.mem_cons_of_mem _ hx))
      simpa using h9

set_option maxHeartbeats 1000000 in
set_option maxRecDepth 100000 in
theorem c_X0_dropLowest (l : Launch) {w : mW} {h x0 : Nat} {T Z : List Nat} (p0 : w h = some (co 0 [vr (h + 1), vi (T.length + 1)])) (p1 : w (h + 1) = some (cq ((x0 :: (T ++ Z)).map some))) (hob : ∀ x ∈ x0 :: (T ++ Z), x ≠ h ∧ x ≠ h + 1 ∧ ∃ fs, w x = some (co 2 fs)) (hl : T.length + Z.length ≤ 900) : Cv l yX0_dropLowest cX0_dropLowest 3 0 [vr h] w (fun w' => w' = mu (mu w (h + 1) (cq ((T ++ x0 :: Z).map some))) h (co 0 [vr (h + 1), vi T.length])) := by
  refine Cv.of (ml := [some (vr h), none, none]) kyX0_dropLowest rfl (Nat.le_of_ble_eq_true rfl) rfl ?_
  intro t n C hQ
  refine x_aload_n C dX0_dropLowest_0 rfl ?_
  refine x_get C dX0_dropLowest_1 kfX0_22 (p0) rfl ?_
  refine x_iconst C dX0_dropLowest_4 ⟨by decide, by decide⟩ ?_
  refine x_icmp_lt (tgt := 20) C dX0_dropLowest_5 (by decide) (fun c5 => ?_) (fun c5 => ?_)
  · first | omega | (simp only [List.length_map, List.length_cons, List.length_append] at *; omega)
  · refine x_aload_n C dX0_dropLowest_8 rfl ?_
    refine x_get C dX0_dropLowest_9 kfX0_22 (p0) rfl ?_
    refine x_aload_n C dX0_dropLowest_12 rfl ?_
    refine x_get C dX0_dropLowest_13 kfX0_15 (p0) rfl ?_
    refine x_alenQ C dX0_dropLowest_16 (p1) (by first | omega | (simp only [List.length_map, List.length_cons, List.length_append]; omega)) ?_
    refine x_icmp_le (tgt := 21) C dX0_dropLowest_17 (by decide) (fun c17 => ?_) (fun c17 => ?_)
    · refine x_aload_n C dX0_dropLowest_21 rfl ?_
      refine x_get C dX0_dropLowest_22 kfX0_15 (p0) rfl ?_
      refine x_iconst C dX0_dropLowest_25 ⟨by decide, by decide⟩ ?_
      refine x_aald C dX0_dropLowest_26 (p1) (by omega) (by first | omega | (simp only [List.length_map, List.length_append, List.length_cons]; omega)) rfl ?_
      refine s_ast3_1 C dX0_dropLowest_27 rfl ?_
      refine x_iconst C dX0_dropLowest_28 ⟨by decide, by decide⟩ ?_
      refine s_ist3_2 C dX0_dropLowest_29 rfl ?_
      rw [show w = mu w (h + 1) (cq ((x0 :: (T ++ Z)).map some)) from (mu_self p1).symm]
      refine lp_X0_dropLowest (cn := T.length + 1) (G := T) (Z := Z) p0 C (by omega) (fun Q c hQG hc i => ?_) T [] x0 1 rfl (by simp; omega) rfl (fun x hx => (hob x (by simp [hx])).2.2) (fun x hx => (hob x (by simp [hx])).2.1)
      subst hQG
      obtain ⟨fs, hfs⟩ := (hob x0 (by simp)).2.2
      have hob9 : mu w (h + 1) (cq ((Q ++ c :: Z).map some)) x0 = some (co 2 fs) := (mu_ne _ _ (hob x0 (by simp)).2.1).trans hfs
      refine x_aload_n C dX0_dropLowest_58 rfl ?_
      refine x_get C dX0_dropLowest_59 kfX0_15 ((mu_ne _ _ (by omega)).trans p0) rfl ?_
      refine x_aload_n C dX0_dropLowest_62 rfl ?_
      refine x_get C dX0_dropLowest_63 kfX0_22 ((mu_ne _ _ (by omega)).trans p0) rfl ?_
      refine x_iconst C dX0_dropLowest_66 ⟨by decide, by decide⟩ ?_
      refine x_isub C dX0_dropLowest_67 (by first | (unfold iR; omega) | exact ⟨by omega, by omega⟩) ?_
      refine x_aload_n C dX0_dropLowest_68 rfl ?_
      refine x_aast C dX0_dropLowest_69 (mu_eq _ _ _) (by omega) (by first | omega | (simp only [List.length_map, List.length_append, List.length_cons]; omega)) (hob9) ?_
      refine x_aload_n C dX0_dropLowest_70 rfl ?_
      refine x_dup C dX0_dropLowest_71 rfl ?_
      refine x_get C dX0_dropLowest_72 kfX0_22 ((mu_ne _ _ (by omega)).trans ((mu_ne _ _ (by omega)).trans p0)) rfl ?_
      refine x_iconst C dX0_dropLowest_75 ⟨by decide, by decide⟩ ?_
      refine x_isub C dX0_dropLowest_76 (by first | (unfold iR; omega) | exact ⟨by omega, by omega⟩) ?_
      refine x_put C dX0_dropLowest_77 kfX0_22 kw_0_1 rfl rfl ((mu_ne _ _ (by omega)).trans ((mu_ne _ _ (by omega)).trans p0)) (Nat.le_of_ble_eq_true rfl) ?_
      refine x_vret C hQ dX0_dropLowest_80 (Nat.le_refl _) (Nat.le_refl _) ?_
      refine ⟨rfl, rfl, ?_⟩
      rw [mu_mu, mset_some Q Z c x0 (by omega), show ((Q.length : Int) + 1 - 1) = Q.length by omega]
      rfl
    · first | omega | (simp only [List.length_map, List.length_cons, List.length_append] at *; omega)


theorem isF.o {w : mW} {h : Nat} {F : mF} (hF : isF w h F) : ∃ fs, w h = some (co 2 fs) := by
  obtain ⟨j1, j2, j3, j4, j5, j6, hr⟩ := hF
  exact ⟨_, hr.o⟩
theorem anySh.o {w : mW} {h : Nat} (hF : anySh w h) : ∃ fs, w h = some (co 2 fs) := by
  obtain ⟨_, _, _, _, _, _, _, _, _, _, _, _, _, hr⟩ := hF
  exact ⟨_, hr.o⟩
theorem pilH.rot {h cap x0 : Nat} {T Z : List Nat} (hp : pilH h cap (x0 :: (T ++ Z))) : pilH h cap (T ++ x0 :: Z) := by
  have hperm : (T ++ x0 :: Z).Perm (x0 :: (T ++ Z)) := List.perm_middle
  refine ⟨hperm.length_eq.trans hp.1, hperm.nodup_iff.mpr hp.2.1, fun x hx => hp.2.2 x (hperm.mem_iff.mp hx)⟩
/-- what a push leaves -/
def pushL (cap : Nat) (L : List mF) (F : mF) : List mF := if L.length < cap then L ++ [F] else L.tail ++ [F]
