/-! ===== the abstract state, and what each call answers ===== -/
abbrev mD : Type := List Int × mF × List mF × List mF × Option mF
abbrev mD.tx (D : mD) : List Int := D.1
abbrev mD.F (D : mD) : mF := D.2.1
abbrev mD.U (D : mD) : List mF := D.2.2.1
abbrev mD.K (D : mD) : List mF := D.2.2.2.1
abbrev mD.O (D : mD) : Option mF := D.2.2.2.2
def anySc (w : mW) (h : Nat) : Prop := ∃ (ic rc lc : Int) (B1 B2 B3 B4 B5 B6 B7 : List Int), rC w h ic rc lc B1 B2 B3 B4 B5 B6 B7
def isScr (w : mW) (h : Nat) (S : mScr) : Prop := isSc w h S.1 S.2
theorem isScr.any {w : mW} {h : Nat} {S : mScr} (hS : isScr w h S) : anySc w h := by
  obtain ⟨_, _, _, _, _, _, _, hr⟩ := hS
  exact ⟨_, _, _, _, _, _, _, _, _, _, hr⟩
theorem anySc.fr {w w' : mW} {h lo up : Nat} (hS : anySc w h) (hf : frR w w' lo up) (hd : h + 7 < lo ∨ up < h) : anySc w' h := by
  obtain ⟨_, _, _, _, _, _, _, _, _, _, hr⟩ := hS
  exact ⟨_, _, _, _, _, _, _, _, _, _, hr.fr hf hd⟩
theorem isScr.fr {w w' : mW} {h lo up : Nat} {S : mScr} (hS : isScr w h S) (hf : frR w w' lo up) (hd : h + 7 < lo ∨ up < h) : isScr w' h S := isSc.fr hS hf hd
def fmr (w : mW) (b : Nat) (ac : Int) (O : Option mF) : Prop := match O with
  | none => ac = 0 ∧ anySc w b
  | some G => ac = 1 ∧ isScr w b (scr G)
theorem fmr.any {w : mW} {b : Nat} {ac : Int} {O : Option mF} (h : fmr w b ac O) : anySc w b := by
  cases O with
  | none => exact h.2
  | some G => exact h.2.any
theorem fmr.fr {w w' : mW} {b lo up : Nat} {ac : Int} {O : Option mF} (h : fmr w b ac O) (hf : frR w w' lo up) (hd : b + 7 < lo ∨ up < b) : fmr w' b ac O := by
  cases O with
  | none => exact ⟨h.1, h.2.fr hf hd⟩
  | some G => exact ⟨h.1, h.2.fr hf hd⟩
theorem isPi.o0 {w : mW} {h cap : Nat} {L : List mF} (hP : isPi w h cap L) : w h = some (co 0 [vr (h + 1), vi L.length]) := by
  obtain ⟨hs, h1, h2, h3⟩ := hP
  exact h2
theorem isPi.len {w : mW} {h cap : Nat} {L : List mF} (hP : isPi w h cap L) : L.length ≤ cap := by
  obtain ⟨hs, h1, h2, h3, h4, h5⟩ := hP
  exact h4
theorem isPi.zero {w : mW} {h cap : Nat} {L : List mF} (hP : isPi w h cap L) : isPi (mu w h (co 0 [vr (h + 1), vi 0])) h cap [] := by
  obtain ⟨hs, h1, h2, h3, h4, h5, h6⟩ := hP
  have hf : frR w (mu w h (co 0 [vr (h + 1), vi 0])) h h := fun a ha => mu_ne _ _ (by omega)
  refine ⟨hs, h1, mu_eq _ _ _, (mu_ne _ _ (by omega)).trans h3, by simp, fun x hx => (h5 x hx).fr hf (by have := h1.lt hx; omega), fun i F hF => by simp at hF⟩
theorem fr2.split {w w' : mW} {h u : Nat} (hf : fr2 w w' h u) : ∃ w1, frR w w1 h (h + 2) ∧ frR w1 w' u (u + 6) := by
  refine ⟨fun a => if h ≤ a ∧ a ≤ h + 2 then w' a else w a, fun a ha => ?_, fun a ha => ?_⟩
  · show (if h ≤ a ∧ a ≤ h + 2 then w' a else w a) = w a
    rw [if_neg (by omega)]
  · show w' a = (if h ≤ a ∧ a ≤ h + 2 then w' a else w a)
    by_cases h1 : h ≤ a ∧ a ≤ h + 2
    · rw [if_pos h1]
    · rw [if_neg h1]; exact hf a (by omega) ha
def wfD (D : mD) : Prop := (∀ c ∈ D.tx, 32 ≤ c ∧ c ≤ 126) ∧ wfF D.F ∧ (∀ G ∈ D.U, wfF G) ∧ (∀ G ∈ D.K, wfF G) ∧ ∀ G, D.O = some G → wfF G
/-- the object's own cell -/
def xX (w : mW) (h a b : Nat) (ac : Int) : Prop := w h = some (co 4 [vr (h + 1), vr (h + 4), vr (h + 11), vr (h + 69), vr a, vr b, vi ac, vr (h + 101), vr (h + 108)])
def xab (h a b : Nat) : Prop := (a = h + 85 ∧ b = h + 93) ∨ (a = h + 93 ∧ b = h + 85)
/-- ahead of a redraw: the screen shows S, no matter what -/
def isY (w : mW) (h : Nat) (tx : List Int) (F : mF) (U K : List mF) (S : mScr) : Prop := ∃ (a b : Nat) (ac : Int), ((a = h + 85 ∧ b = h + 93) ∨ (a = h + 93 ∧ b = h + 85)) ∧ w h = some (co 4 [vr (h + 1), vr (h + 4), vr (h + 11), vr (h + 69), vr a, vr b, vi ac, vr (h + 101), vr (h + 108)]) ∧ isTx w (h + 1) tx ∧ isF w (h + 4) F ∧ isPi w (h + 11) 8 U ∧ isPi w (h + 69) 2 K ∧ isScr w a S ∧ anySc w b ∧ anySh w (h + 101) ∧ anySc w (h + 108)
def isXo (w : mW) (h : Nat) (D : mD) : Prop := ∃ (a b : Nat) (ac : Int), ((a = h + 85 ∧ b = h + 93) ∨ (a = h + 93 ∧ b = h + 85)) ∧ w h = some (co 4 [vr (h + 1), vr (h + 4), vr (h + 11), vr (h + 69), vr a, vr b, vi ac, vr (h + 101), vr (h + 108)]) ∧ isTx w (h + 1) D.tx ∧ isF w (h + 4) D.F ∧ isPi w (h + 11) 8 D.U ∧ isPi w (h + 69) 2 D.K ∧ isScr w a (scr D.F) ∧ fmr w b ac D.O ∧ anySh w (h + 101) ∧ anySc w (h + 108)
def isX (w : mW) (h : Nat) (D : mD) : Prop := wfD D ∧ isXo w h D
def act (D : mD) (F' : mF) : mD := (D.tx, F', pushL 8 D.U D.F, D.K, some D.F)
theorem pushL_mem {cap : Nat} {L : List mF} {F G : mF} (h : G ∈ pushL cap L F) : G ∈ L ∨ G = F := by
  unfold pushL at h
  split at h
  · simpa using h
  · rcases List.mem_append.mp h with h1 | h1
    · exact Or.inl (List.mem_of_mem_tail h1)
    · exact Or.inr (by simpa using h1)
theorem wfD.act {D : mD} (h : wfD D) {F' : mF} (hF : wfF F') : wfD (act D F') := by
  obtain ⟨h1, h2, h3, h4, h5⟩ := h
  refine ⟨h1, hF, fun G hG => ?_, h4, fun G hG => ?_⟩
  · rcases pushL_mem hG with h6 | h6
    · exact h3 G h6
    · rw [h6]; exact h2
  · have : D.F = G := Option.some.inj hG
    rw [← this]; exact h2
def itmP (F : mF) (p : Int) : Int := fIdx (fun q : mP => decide (q.2.1 = hold F.1.2.1 p ∧ q.1 ≠ 29)) (scr F).1 0
def rowP (F : mF) (p : Int) : Int := if itmP F p < 0 then ((scr F).2.length : Int) - 1 else ((scr F).1.map (fun q => q.2.2.1)).getD (itmP F p).toNat 0
def colP (F : mF) (p : Int) : Int := if itmP F p < 0 then lastC (scr F).2 else ((scr F).1.map (fun q => q.2.2.2.1)).getD (itmP F p).toNat 0
def acrP (F : mF) (r c : Int) : Int := if 0 ≤ r ∧ r < (scr F).2.length then plcF r c F.1.1.length (scr F).2.length (scr F).1 F.1.1.length else -4
def cN (p : Nat → Bool) : Nat → Int
  | 0 => 0
  | m + 1 => cN p m + if p m = true then 1 else 0
def fN (p : Nat → Bool) : Nat → Int
  | 0 => -4
  | m + 1 => if fN p m = -4 ∧ p m = true then (m : Int) else fN p m
def nthN (p : Nat → Bool) (k : Int) : Nat → Int
  | 0 => -4
  | m + 1 => if p m = true ∧ cN p m = k then (m : Int) else nthN p k m
theorem cN_nn (p : Nat → Bool) : ∀ m, 0 ≤ cN p m ∧ cN p m ≤ m
  | 0 => by simp [cN]
  | m + 1 => by have := cN_nn p m; rw [cN]; split <;> omega
theorem cN_mono (p : Nat → Bool) (m : Nat) : ∀ d, cN p m ≤ cN p (m + d)
  | 0 => Int.le_refl _
  | d + 1 => by have := cN_mono p m d; rw [← Nat.add_assoc, cN]; split <;> omega
theorem fN_keep (p : Nat → Bool) {m : Nat} (h : fN p m ≠ -4) : ∀ d, fN p (m + d) = fN p m
  | 0 => rfl
  | d + 1 => by
    have := fN_keep p h d
    rw [← Nat.add_assoc, fN, this, if_neg (fun h1 => h h1.1)]
theorem nthN_keep (p : Nat → Bool) {k : Int} {m : Nat} (h : k < cN p m) : ∀ d, nthN p k (m + d) = nthN p k m
  | 0 => rfl
  | d + 1 => by
    have := nthN_keep p h d
    have h2 := cN_mono p m d
    rw [← Nat.add_assoc, nthN, this, if_neg (fun h1 => by omega)]
def chg (S O : mScr) (r : Nat) : Bool := !decide (r < S.2.length ∧ r < O.2.length ∧ rowL r S.1 = rowL r O.1)
def chM (D : mD) : Nat := match D.O with
  | none => 0
  | some G => max (scr D.F).2.length (scr G).2.length
def chP (D : mD) (r : Nat) : Bool := match D.O with
  | none => false
  | some G => chg (scr D.F) (scr G) r
def rowsF (F : mF) : Int := ((scr F).2.length : Int)
def putF (F : mF) (a s : Int) : mF := (putS F.1 a s, F.2)
def tgtF (F : mF) (p : Nat) : Bool := decide (F.1.1.length < 40 ∧ rowsF F < rowsF (putF F p 0))
def widW (F : mF) (v : Int) : mF := (F.1, F.2.1, v, F.2.2.2)
def turF (F : mF) (a : Int) : mF := ((F.1.1, turnF F.1.2.1 a, F.1.2.2), F.2)
def savN (F : mF) : Nat → Int × Int
  | 0 => (-4, -4)
  | m + 1 => if (F.1.2.1.map (fun q => q.2.2)).getD m 0 ≠ 0 then savN F m else if (savN F m).1 = -4 ∨ rowsF (turF F m) < (savN F m).2 then ((m : Int), rowsF (turF F m)) else savN F m
def drw (z k : Int) : Int := (7919 * z + 6151 * k + 1) * (7919 * z + 6151 * k + 1) % 65521
def livN (T : mS) (z : Int) : Nat → mS
  | 0 => T
  | m + 1 => liveS (livN T z m) (drw z m)
def f_write (D : mD) (p : Int) : Int × mD := if p < 32 ∨ 126 < p then (-1, D) else if D.tx.length < 200 then ((D.tx.length : Int) + 1, (D.tx ++ [p], D.F, D.U, D.K, D.O)) else (-3, D)
def f_wipe (D : mD) : Int × mD := ((D.tx.length : Int), ([], D.F, D.U, D.K, D.O))
def rdD (D : mD) : Int × mF := rdT (D.tx.length + 1) 0 D.tx F00
def f_lay (D : mD) : Int × mD := if (rdD D).1 ≠ -4 then (-2, D) else (((rdD D).2.1.1.length : Int), (D.tx, (rdD D).2, [], [], none))
def q_sign (F : mF) (p : Int) : Int := if ¬ (0 ≤ p ∧ p ≤ F.1.1.length) then -1 else if p < F.1.1.length then F.1.1.getD p.toNat 0 else -4
def q_fold (F : mF) (p q : Int) : Int := if ¬ (0 ≤ p ∧ p < F.1.2.1.length) then -1 else if q = 0 then (F.1.2.1.map (fun q => q.1)).getD p.toNat 0 else if q = 1 then (F.1.2.1.map (fun q => q.2.1)).getD p.toNat 0 else if q = 2 then (F.1.2.1.map (fun q => q.2.2)).getD p.toNat 0 else -1
def q_hint (F : mF) (p q : Int) : Int := if ¬ (0 ≤ p ∧ p < F.1.2.2.length) then -1 else if q = 0 then (F.1.2.2.map (fun q => q.1)).getD p.toNat 0 else if q = 1 then (F.1.2.2.map (fun q => q.2)).getD p.toNat 0 else if q = 2 then (if hold F.1.2.1 ((F.1.2.2.map (fun q => q.1)).getD p.toNat 0) = (F.1.2.2.map (fun q => q.1)).getD p.toNat 0 then 1 else 0) else -1
def f_insert (D : mD) (p q : Int) : Int × mD := if ¬ ((0 ≤ p ∧ p ≤ D.F.1.1.length) ∧ 0 ≤ q ∧ q ≤ 27) then (-1, D) else if 40 ≤ D.F.1.1.length then (-3, D) else ((D.F.1.1.length : Int) + 1, act D (putF D.F p q))
def f_erase (D : mD) (p : Int) : Int × mD := if ¬ (0 ≤ p ∧ p < D.F.1.1.length) then (-1, D) else (D.F.1.1.getD p.toNat 0, act D (delS D.F.1 p, D.F.2))
def f_toggle (D : mD) (p : Int) : Int × mD := if ¬ (0 ≤ p ∧ p < D.F.1.2.1.length) then (-1, D) else (1 - (D.F.1.2.1.map (fun q => q.2.2)).getD p.toNat 0, act D (turF D.F p))
def f_make (D : mD) (p q : Int) : Int × mD := if refF D.F.1.1.length D.F.1.2.1 p q ≠ 0 then (refF D.F.1.1.length D.F.1.2.1 p q, D) else (insZ (fun q => q.1) (p, q, 1) D.F.1.2.1, act D ((D.F.1.1, insL (fun q => q.1) (p, q, 1) D.F.1.2.1, D.F.1.2.2), D.F.2))
def f_unfold (D : mD) (p : Int) : Int × mD := if ¬ (0 ≤ p ∧ p < D.F.1.2.1.length) then (-1, D) else ((D.F.1.2.1.length : Int) - 1, act D ((D.F.1.1, dropI D.F.1.2.1 p, D.F.1.2.2), D.F.2))
def f_set (D : mD) (p q : Int) : Int × mD := if refH D.F.1.1.length D.F.1.2.2 p q ≠ 0 then (refH D.F.1.1.length D.F.1.2.2 p q, D) else (insZ (fun q => q.1) (p, q) D.F.1.2.2, act D ((D.F.1.1, D.F.1.2.1, insL (fun q => q.1) (p, q) D.F.1.2.2), D.F.2))
def f_unset (D : mD) (p : Int) : Int × mD := if ¬ (0 ≤ p ∧ p < D.F.1.2.2.length) then (-1, D) else ((D.F.1.2.2.map (fun q => q.2)).getD p.toNat 0, act D ((D.F.1.1, D.F.1.2.1, dropI D.F.1.2.2 p), D.F.2))
def f_wide (D : mD) (p q r : Int) : Int × mD := if ¬ ((0 ≤ p ∧ p ≤ 2) ∧ (4 ≤ q ∧ q ≤ 20) ∧ (0 ≤ r ∧ r ≤ 3)) then (-1, D) else if D.F.2.1 = p ∧ D.F.2.2.1 = q ∧ D.F.2.2.2.1 = r then (-2, D) else (1, act D (D.F.1, p, q, r, D.F.2.2.2.2))
def f_tabs (D : mD) (p : Int) : Int × mD := if ¬ (1 ≤ p ∧ p ≤ 8) then (-1, D) else if D.F.2.2.2.2 = p then (-2, D) else (D.F.2.2.2.2, act D (D.F.1, D.F.2.1, D.F.2.2.1, D.F.2.2.2.1, p))
def f_undo (D : mD) : Int × mD := match D.U.getLast? with
  | none => (-2, D)
  | some G => ((D.U.length : Int) - 1, (D.tx, G, D.U.dropLast, D.K, some D.F))
def q_stands (F : mF) (p q : Int) : Int := if ¬ (0 ≤ p ∧ p ≤ F.1.1.length) then -1 else if q = 0 then rowP F p else if q = 1 then colP F p else if q = 2 then (if hold F.1.2.1 p = p then 1 else 0) else -1
def q_place (F : mF) (p q : Int) : Int := if ¬ ((0 ≤ p ∧ p < (scr F).2.length) ∧ 0 ≤ q ∧ q ≤ 99) then -1 else plcF p q F.1.1.length (scr F).2.length (scr F).1 F.1.1.length
def q_screen (F : mF) (p q : Int) : Int := if ¬ ((0 ≤ p ∧ p < (scr F).2.length) ∧ 0 ≤ q ∧ q ≤ 99) then -1 else codeF p q (scr F).1
def q_go (F : mF) (p q z : Int) : Prop := (¬ (0 ≤ p ∧ p ≤ F.1.1.length) → z = -1) ∧ ((0 ≤ p ∧ p ≤ F.1.1.length) → (q = 0 → isNext F.1.2.1 F.1.1.length p z) ∧ (q = 1 → isPrev F.1.2.1 p z) ∧ (q = 2 → z = acrP F (rowP F p - 1) (colP F p)) ∧ (q = 3 → z = acrP F (rowP F p + 1) (colP F p)) ∧ (q < 0 ∨ 3 < q → z = -1))
def q_row (F : mF) (p q : Int) : Int := if ¬ (0 ≤ p ∧ p < (scr F).2.length) then -1 else if q = 0 then ((scr F).2.map (fun q => q.1)).getD p.toNat 0 else if q = 1 then ((scr F).2.map (fun q => q.2)).getD p.toNat 0 else -1
def q_changed (D : mD) (p : Int) : Int := if p = 0 then fN (chP D) (chM D) else if p = 1 then cN (chP D) (chM D) else -1
def fitP (F : mF) (k : Int) (i : Nat) : Bool := decide (rowsF (widW F (4 + (i : Int))) ≤ k)
def q_fit (F : mF) (p : Int) : Int := if p < 1 ∨ 40 < p then -1 else if fN (fitP F p) 17 = -4 then -4 else 4 + fN (fitP F p) 17
def q_saves (F : mF) (p : Int) : Int := if p = 0 then (savN F F.1.2.1.length).1 else if p = 1 then (savN F F.1.2.1.length).2 else -1
def q_tight (F : mF) (p : Int) : Int := if p < -1 then -1 else if p = -1 then cN (tgtF F) (F.1.1.length + 1) else nthN (tgtF F) p (F.1.1.length + 1)
def q_day (F : mF) (p q r : Int) : Int := if (p < 0 ∨ 9999 < p ∨ q < 1 ∨ 40 < q) ∨ r < 0 ∨ 2 < r then -1 else if r = 0 then ((livN F.1 p q.toNat).1.length : Int) else if r = 1 then rowsF (livN F.1 p q.toNat, F.2) else maxE (scr (livN F.1 p q.toNat, F.2)).2 0
def f_keep (D : mD) : Int × mD := if 2 ≤ D.K.length then (-3, D) else ((D.K.length : Int) + 1, (D.tx, D.F, D.U, D.K ++ [D.F], D.O))
def f_back (D : mD) : Int × mD := match D.K.getLast? with
  | none => (-2, D)
  | some G => ((D.K.length : Int) - 1, (D.tx, G, [], D.K.dropLast, none))
def q_count (D : mD) (p : Int) : Int := if p = 0 then (D.F.1.1.length : Int) else if p = 1 then (D.F.1.2.1.length : Int) else if p = 2 then (D.F.1.2.2.length : Int) else if p = 3 then rowsF D.F else if p = 4 then maxE (scr D.F).2 0 else if p = 5 then D.F.2.1 else if p = 6 then D.F.2.2.1 else if p = 7 then D.F.2.2.2.1 else if p = 8 then D.F.2.2.2.2 else if p = 9 then (D.U.length : Int) else if p = 10 then (D.K.length : Int) else if p = 11 then (D.tx.length : Int) else -1
theorem isXo.frX {w w' : mW} {h lo up : Nat} {D : mD} (hX : isXo w h D) (hf : frR w w' lo up) (hd : h + 115 < lo ∨ up < h) : isXo w' h D := by
  obtain ⟨a, b, ac, hab, x0, hT, hF, hU, hK, hA, hB, hR, hZ⟩ := hX
  exact ⟨a, b, ac, hab, (hf _ (by omega)).trans x0, hT.fr hf (by omega), hF.fr hf (by omega), hU.fr hf (by omega), hK.fr hf (by omega), hA.fr hf (by omega), hB.fr hf (by omega), hR.fr hf (by omega), hZ.fr hf (by omega)⟩
theorem isX.frX {w w' : mW} {h lo up : Nat} {D : mD} (hX : isX w h D) (hf : frR w w' lo up) (hd : h + 115 < lo ∨ up < h) : isX w' h D := ⟨hX.1, hX.2.frX hf hd⟩
theorem isNext_u {fo : List (Int × Int × Int)} {n a z z' : Int} (ha : 0 ≤ a) (h : isNext fo n a z) (h' : isNext fo n a z') : z = z' := by
  rcases h with ⟨h1, h2, h3, h4⟩ | ⟨h1, h2⟩ <;> rcases h' with ⟨g1, g2, g3, g4⟩ | ⟨g1, g2⟩
  · rcases Int.lt_trichotomy z z' with h5 | h5 | h5
    · exact absurd h3 (g4 z h1 h5)
    · exact h5
    · exact absurd g3 (h4 z' g1 h5)
  · exact absurd h3 (g2 z h1 h2)
  · exact absurd g3 (h2 z' g1 g2)
  · omega
theorem isPrev_u {fo : List (Int × Int × Int)} {a z z' : Int} (h : isPrev fo a z) (h' : isPrev fo a z') : z = z' := by
  rcases h with ⟨h1, h2, h3, h4⟩ | ⟨h1, h2⟩ <;> rcases h' with ⟨g1, g2, g3, g4⟩ | ⟨g1, g2⟩
  · rcases Int.lt_trichotomy z z' with h5 | h5 | h5
    · exact absurd g3 (h4 z' h5 g2)
    · exact h5
    · exact absurd h3 (g4 z h5 h2)
  · exact absurd h3 (g2 z h1 h2)
  · exact absurd g3 (h2 z' g1 g2)
  · omega
theorem q_go_u {F : mF} {p q z z' : Int} (h : q_go F p q z) (h' : q_go F p q z') : z = z' := by
  by_cases hp : 0 ≤ p ∧ p ≤ F.1.1.length
  · obtain ⟨a0, a1, a2, a3, a4⟩ := h.2 hp
    obtain ⟨b0, b1, b2, b3, b4⟩ := h'.2 hp
    rcases (show q = 0 ∨ q = 1 ∨ q = 2 ∨ q = 3 ∨ (q < 0 ∨ 3 < q) by omega) with h1 | h1 | h1 | h1 | h1
    · exact isNext_u hp.1 (a0 h1) (b0 h1)
    · exact isPrev_u (a1 h1) (b1 h1)
    · rw [a2 h1, b2 h1]
    · rw [a3 h1, b3 h1]
    · rw [a4 h1, b4 h1]
  · rw [h.1 hp, h'.1 hp]
