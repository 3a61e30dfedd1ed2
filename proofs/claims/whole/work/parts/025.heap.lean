/-! ===== fields and arrays ===== -/
section JH
variable {t : TX} {l : Launch} {cc : ByteArray} {own : String} {nL : Nat} {ret : Option FieldType} {fr mc ms kc ks pc n : Nat} {ml : List (Option mV)} {st : List mV} {w : mW}
theorem getD_mem {xs : List Int} {i : Nat} (h : i < xs.length) : xs.getD i 0 ∈ xs := by
  rw [List.getD, List.getElem?_eq_getElem h]
  exact List.getElem_mem h
theorem va_one {D : va_G} {H : Heap} {q : Nat × va_E} (h : va_at D vwCl q H) : va_P D vwCl [q] H := by
  intro k x hk
  cases k with
  | zero => simp at hk; subst hk; exact h
  | succ k => simp at hk
theorem x_get (C : Cb t l cc own nL ret fr mc ms) {idx ci k a : Nat} {fs : List mV} {v : mV} (hd : decode cc pc = .ok (.getfield idx, 3)) (hf : kF kNf own idx ci k) (hw : w a = some (co ci fs)) (hv : fs[k]? = some v) (kk : J t kc ks (pc + 3) ml (v :: st) n w) : J t kc ks pc ml (vr a :: st) n w := by
  obtain ⟨p, l1, e, R, s, m, args, below, meth, c, Q, D, tI, tZ, tQ, A⟩ := t
  obtain ⟨-, hx, hb, -, -, hown, hts, -, ⟨hK, hN1, -⟩, -⟩ := C
  intro H locs ls hR hS hl ho hs
  obtain ⟨C, T, N, hc, hk, hin, hlk⟩ := hf
  obtain ⟨hok, hA, hat⟩ := hR.2 a _ hw
  have hv2 : (fs.map mT)[k]? = some (mT v) := by simp [hv]
  have kk2 := kk H locs ls hR hS hl ho (stOk_c.mpr ⟨hok v (List.mem_of_getElem? hv), (stOk_c.mp hs).2⟩)
  rcases hlk with h1 | h1
  · exact va_get (D := D) (cl := vwCl) (ws := [(a, .inr (ci, fs.map mT))]) (ci := ci) (v := mT v) (C := C) (T := T) (N := N) hx hb hts hin hown hK (va_one hat) 0 rfl hc k hk (hts _ h1) (fun _ h9 => h9) hv2 hd kk2
  · exact va_getN (D := D) (cl := vwCl) (ws := [(a, .inr (ci, fs.map mT))]) (ci := ci) (v := mT v) (C := C) (T := T) (N := N) hx hb hts hin hown hK (va_one hat) 0 rfl hc k hk (va_Nw.use rfl (hN1 _ h1)) (fun _ h9 => h9) hv2 hd kk2
theorem map_set_mT (fs : List mV) (k : Nat) (v : mV) : (fs.set k v).map mT = (fs.map mT).set k (mT v) := by rw [List.map_set]
/-- a field is written -/
theorem x_put (C : Cb t l cc own nL ret fr mc ms) {idx ci k a : Nat} {fs : List mV} {v : mV} {ty : FieldType} (hd : decode cc pc = .ok (.putfield idx, 3)) (hf : kF kNf own idx ci k) (hwr : kW ci k ty) (hn : narrow ty (mT v) = mT v) (hfit : fits ty (mT v) = true) (hw : w a = some (co ci fs)) (hlen : k < fs.length) (kk : J t kc ks (pc + 3) ml st n (mu w a (co ci (fs.set k v)))) : J t kc ks pc ml (v :: vr a :: st) n w := by
  obtain ⟨p, l1, e, R, s, m, args, below, meth, c, Q, D, tI, tZ, tQ, A⟩ := t
  obtain ⟨-, hx, hb, -, -, hown, hts, -, ⟨hK, hN1, -⟩, -⟩ := C
  intro H locs ls hR hS hl ho hs
  obtain ⟨C, T, N, hc, hk, hin, hlk⟩ := hf
  obtain ⟨C', T', N', ty0, hc', hty, hnm, hfin, hdd⟩ := hwr
  cases hc.symm.trans hc'
  obtain ⟨hok, hA, hat⟩ := hR.2 a _ hw
  obtain ⟨ov, hs1⟩ := stOk_c.mp hs
  have hs2 := (stOk_c.mp hs1).2
  have hap := va_apart (own := own) hts hin ty0 hty hnm hK hc
  have hat0 := hat
  obtain ⟨r, h1, cell, q1, q2, q3, q4⟩ := hat
  have hr : r = (C, T, N) := Option.some.inj (h1.symm.trans hc)
  subst hr
  obtain ⟨hSl, hfc, kC, hkC, hkind⟩ := hK.1 ci _ hc
  obtain ⟨cf, kf, fi, f, hi, hsl⟩ := hSl k hk
  have hlay := hts _ (hin _ (u_in_lay hk))
  unfold u_lay at hlay
  rw [if_neg (by rw [hfin]; decide)] at hlay
  have hst := (u_facts hfc hkC (u_lays hts hin hk) hi).1
  have h6 := u_store hfc hkC hkind hlay hi hdd hn hfit
  have hcok : cOk (co ci (fs.set k v)) := by
    intro u hu
    rcases List.mem_or_eq_of_mem_set hu with h7 | h7
    · exact hok u h7
    · rw [h7]; exact ov
  have fin : ∀ H' : Heap, H'[a]? = some (cell.setSlot f.slot (mT v)) → H'.size = H.size → (∀ q, q ≠ a → H'[q]? = H[q]?) → W p l1 e R s m args below meth c H' (locs ++ [⟨a, f.slot⟩]) kc ks Q (F0 m (pc + 3) ls (st.map mT)) := by
    intro H' e1 e2 e3
    rw [hsl] at e1 ⊢
    refine kk H' _ ls (hR.set e2 e3 hA hcok ?_) (hS.put e2 e3 hA) hl ho hs2
    refine ⟨_, hc, t_OB.to (V := updV (vp_V (fs.map mT)) k (mT v)) ⟨_, e1, q2, q3, t_set q4 hap hk (mT v)⟩ (fun j _ => ?_)⟩
    rw [map_set_mT]
    exact vp_updV_set (by simpa using hlen) (mT v) j
  rcases hlk with h8 | h8
  · exact W.putK hx hb (f := f) ⟨hown, hts _ h8, ⟨_, _, _, hi⟩, hst⟩ (by rw [q2]; exact h6) q1 q3 (by rw [hsl]; exact k2_hasslot (q4 k hk)) rfl rfl hd fin
  · exact va_WputK hx hb (f := f) hown (va_Nw.use rfl (hN1 _ h8)) hi hst (by rw [q2]; exact h6) q1 q3 (by rw [hsl]; exact k2_hasslot (q4 k hk)) rfl rfl hd fin
def tN (t : TX) : String := match t with
  | (p, l, e, R, s, m, args, below, meth, c, Q, D, tI, tZ, tQ, A) => meth.name
/-- a final field is written, in a constructor -/
theorem x_putF (C : Cb t l cc own nL ret fr mc ms) (hinit : tN t = "<init>") {idx ci k a : Nat} {fs : List mV} {v : mV} {ty : FieldType} (hd : decode cc pc = .ok (.putfield idx, 3)) (hf : kF kNf own idx ci k) (hwr : kX own ci k ty) (hnest : ∀ q ∈ kNf, ¬ (q.1 = own ∧ q.2.1 = idx)) (hn : narrow ty (mT v) = mT v) (hfit : fits ty (mT v) = true) (hw : w a = some (co ci fs)) (hlen : k < fs.length) (kk : J t kc ks (pc + 3) ml st n (mu w a (co ci (fs.set k v)))) : J t kc ks pc ml (v :: vr a :: st) n w := by
  obtain ⟨p, l1, e, R, s, m, args, below, meth, c, Q, D, tI, tZ, tQ, A⟩ := t
  obtain ⟨-, hx, hb, -, -, hown, hts, -, ⟨hK, hN1, -⟩, -⟩ := C
  intro H locs ls hR hS hl ho hs
  obtain ⟨C, T, N, hc, hk, hin, hlk⟩ := hf
  obtain ⟨C', T', N', ty0, hc', hty, hnm, hfin, hdecl, hdd⟩ := hwr
  cases hc.symm.trans hc'
  obtain ⟨hok, hA, hat⟩ := hR.2 a _ hw
  obtain ⟨ov, hs1⟩ := stOk_c.mp hs
  have hs2 := (stOk_c.mp hs1).2
  have hap := va_apart (own := own) hts hin ty0 hty hnm hK hc
  obtain ⟨r, h1, cell, q1, q2, q3, q4⟩ := hat
  have hr : r = (C, T, N) := Option.some.inj (h1.symm.trans hc)
  subst hr
  obtain ⟨hSl, hfc, kC, hkC, hkind⟩ := hK.1 ci _ hc
  obtain ⟨cf, kf, fi, f, hi, hsl⟩ := hSl k hk
  have hst := (u_facts hfc hkC (u_lays hts hin hk) hi).1
  have h6 := u_fits hfc hkC hkind (u_lays hts hin hk) hi hdd hn hfit
  have hlay := hts _ (hin _ (u_in_lay hk))
  unfold u_lay at hlay
  rw [if_pos hfin] at hlay
  have hcf : m.cls = cf := by
    obtain ⟨_, _, c', _, _, _, -, -, hf', -, -, -, hown2, -⟩ := Cond.laysFinal_spec hlay
    have e1 : c' = cf := by have := hi.symm.trans hf'; simp at this; exact this.1.symm
    rw [hdecl] at hown2
    rw [← e1]; exact Option.some.inj (hown.symm.trans hown2)
  have hcok : cOk (co ci (fs.set k v)) := by
    intro u hu
    rcases List.mem_or_eq_of_mem_set hu with h7 | h7
    · exact hok u h7
    · rw [h7]; exact ov
  rcases hlk with h8 | h8
  · refine W.putFinK hx hb hown (hts _ h8) hi hst hcf hinit (by rw [q2]; exact h6) q1 q3 (by rw [hsl]; exact k2_hasslot (q4 k hk)) rfl rfl hd fun H' e1 e2 e3 => ?_
    rw [hsl] at e1 ⊢
    refine kk H' _ ls (hR.set e2 e3 hA hcok ?_) (hS.put e2 e3 hA) hl ho hs2
    refine ⟨_, hc, t_OB.to (V := updV (vp_V (fs.map mT)) k (mT v)) ⟨_, e1, q2, q3, t_set q4 hap hk (mT v)⟩ (fun j _ => ?_)⟩
    rw [map_set_mT]
    exact vp_updV_set (by simpa using hlen) (mT v) j
  · exact absurd ⟨rfl, rfl⟩ (hnest _ h8)
/-- int arrays -/
theorem x_iald (C : Cb t l cc own nL ret fr mc ms) {a : Nat} {xs : List Int} {i : Int} (hd : decode cc pc = .ok (.iaload, 1)) (hw : w a = some (ca xs)) (h0 : 0 ≤ i) (h1 : i < xs.length) (kk : J t kc ks (pc + 1) ml (vi (xs.getD i.toNat 0) :: st) n w) : J t kc ks pc ml (vi i :: vr a :: st) n w := by
  obtain ⟨p, l1, e, R, s, m, args, below, meth, c, Q, D, tI, tZ, tQ, A⟩ := t
  obtain ⟨-, hx, hb, -, -, hown, hts, -, ⟨hK, -⟩, -⟩ := C
  intro H locs ls hR hS hl ho hs
  obtain ⟨oi, hs1⟩ := stOk_c.mp hs
  have hs2 := (stOk_c.mp hs1).2
  obtain ⟨hok, hA, hat⟩ := hR.2 a _ hw
  have hlt : i.toNat < xs.length := by omega
  have ov : iR (xs.getD i.toNat 0) := hok.1 rfl _ (getD_mem hlt)
  have kk2 := kk H locs ls hR hS hl ho (stOk_c.mpr ⟨ov, hs2⟩)
  refine va_iald (D := D) (cl := vwCl) (ws := [(a, mE tI tZ tQ (ca xs))]) (n := xs.length) (f := fun j => Int32.ofInt (xs.getD j 0)) hx hb hK (va_one hat) 0 0 rfl rfl (iR_in oi h0 h1) hd ?_
  rw [iR_clamp oi]
  exact kk2
theorem x_zald (C : Cb t l cc own nL ret fr mc ms) {a : Nat} {xs : List Int} {i : Int} (hd : decode cc pc = .ok (.baload, 1)) (hw : w a = some (cz xs)) (h0 : 0 ≤ i) (h1 : i < xs.length) (kk : J t kc ks (pc + 1) ml (vi (xs.getD i.toNat 0) :: st) n w) : J t kc ks pc ml (vi i :: vr a :: st) n w := by
  obtain ⟨p, l1, e, R, s, m, args, below, meth, c, Q, D, tI, tZ, tQ, A⟩ := t
  obtain ⟨-, hx, hb, -, -, hown, hts, -, ⟨hK, -⟩, -⟩ := C
  intro H locs ls hR hS hl ho hs
  obtain ⟨oi, hs1⟩ := stOk_c.mp hs
  have hs2 := (stOk_c.mp hs1).2
  obtain ⟨hok, hA, hat⟩ := hR.2 a _ hw
  have hlt : i.toNat < xs.length := by omega
  have ov : iR (xs.getD i.toNat 0) := by
    rcases hok.2 (by decide) _ (getD_mem hlt) with h | h <;> rw [h] <;> exact ⟨by decide, by decide⟩
  have kk2 := kk H locs ls hR hS hl ho (stOk_c.mpr ⟨ov, hs2⟩)
  refine va_zald (D := D) (cl := vwCl) (ws := [(a, mE tI tZ tQ (cz xs))]) (n := xs.length) (f := fun j => Int32.ofInt (xs.getD j 0)) hx hb hK (va_one hat) 0 1 rfl rfl (iR_in oi h0 h1) hd ?_
  rw [iR_clamp oi]
  exact kk2
theorem x_aald (C : Cb t l cc own nL ret fr mc ms) {a b : Nat} {rs : List (Option Nat)} {i : Int} (hd : decode cc pc = .ok (.aaload, 1)) (hw : w a = some (cq rs)) (h0 : 0 ≤ i) (h1 : i < rs.length) (hv : rs.getD i.toNat none = some b) (kk : J t kc ks (pc + 1) ml (vr b :: st) n w) : J t kc ks pc ml (vi i :: vr a :: st) n w := by
  obtain ⟨p, l1, e, R, s, m, args, below, meth, c, Q, D, tI, tZ, tQ, A⟩ := t
  obtain ⟨-, hx, hb, -, -, hown, hts, -, ⟨hK, -⟩, -⟩ := C
  intro H locs ls hR hS hl ho hs
  obtain ⟨oi, hs1⟩ := stOk_c.mp hs
  have hs2 := (stOk_c.mp hs1).2
  obtain ⟨hok, hA, hat⟩ := hR.2 a _ hw
  have kk2 := kk H locs ls hR hS hl ho (stOk_c.mpr ⟨trivial, hs2⟩)
  refine va_aldq (D := D) (cl := vwCl) (ws := [(a, mE tI tZ tQ (cq rs))]) (n := rs.length) (f := fun j => rs.getD j none) hx hb hK (va_one hat) 0 2 rfl rfl (iR_in oi h0 h1) hd ?_
  rw [iR_clamp oi, hv]
  exact kk2
theorem x_alenI (C : Cb t l cc own nL ret fr mc ms) {a : Nat} {xs : List Int} (hd : decode cc pc = .ok (.arraylength, 1)) (hw : w a = some (ca xs)) (hn : xs.length < 2147483648) (kk : J t kc ks (pc + 1) ml (vi xs.length :: st) n w) : J t kc ks pc ml (vr a :: st) n w := by
  obtain ⟨p, l1, e, R, s, m, args, below, meth, c, Q, D, tI, tZ, tQ, A⟩ := t
  obtain ⟨-, hx, hb, -, -, hown, hts, -, ⟨hK, -⟩, -⟩ := C
  intro H locs ls hR hS hl ho hs
  have hs2 := (stOk_c.mp hs).2
  obtain ⟨hok, hA, hat⟩ := hR.2 a _ hw
  have kk2 := kk H locs ls hR hS hl ho (stOk_c.mpr ⟨⟨by omega, by omega⟩, hs2⟩)
  exact va_alen (D := D) (cl := vwCl) (ws := [(a, mE tI tZ tQ (ca xs))]) (x := (xs.length, .inl (fun j => Int32.ofInt (xs.getD j 0)))) hx hb hK (va_one hat) 0 0 rfl rfl Int32.ofInt_eq_ofNat.symm hd kk2
theorem x_alenQ (C : Cb t l cc own nL ret fr mc ms) {a : Nat} {rs : List (Option Nat)} (hd : decode cc pc = .ok (.arraylength, 1)) (hw : w a = some (cq rs)) (hn : rs.length < 2147483648) (kk : J t kc ks (pc + 1) ml (vi rs.length :: st) n w) : J t kc ks pc ml (vr a :: st) n w := by
  obtain ⟨p, l1, e, R, s, m, args, below, meth, c, Q, D, tI, tZ, tQ, A⟩ := t
  obtain ⟨-, hx, hb, -, -, hown, hts, -, ⟨hK, -⟩, -⟩ := C
  intro H locs ls hR hS hl ho hs
  have hs2 := (stOk_c.mp hs).2
  obtain ⟨hok, hA, hat⟩ := hR.2 a _ hw
  have kk2 := kk H locs ls hR hS hl ho (stOk_c.mpr ⟨⟨by omega, by omega⟩, hs2⟩)
  exact va_alen (D := D) (cl := vwCl) (ws := [(a, mE tI tZ tQ (cq rs))]) (x := (rs.length, .inr (.inr (.inr (.inr (fun j => rs.getD j none)))))) hx hb hK (va_one hat) 0 2 rfl rfl Int32.ofInt_eq_ofNat.symm hd kk2
theorem getD_set_fn {α β : Type} (g : α → β) (xs : List α) (i : Nat) (x d : α) (hi : i < xs.length) : (fun j => g ((xs.set i x).getD j d)) = fun j => if j = i then g x else g (xs.getD j d) := by
  funext j
  by_cases hj : j = i
  · subst hj
    simp [List.getD, hi]
  · simp [List.getD, List.getElem?_set_ne (Ne.symm hj), hj]
theorem x_iast (C : Cb t l cc own nL ret fr mc ms) {a : Nat} {xs : List Int} {i x : Int} (hd : decode cc pc = .ok (.iastore, 1)) (hw : w a = some (ca xs)) (h0 : 0 ≤ i) (h1 : i < xs.length) (kk : J t kc ks (pc + 1) ml st n (mu w a (ca (xs.set i.toNat x)))) : J t kc ks pc ml (vi x :: vi i :: vr a :: st) n w := by
  obtain ⟨p, l1, e, R, s, m, args, below, meth, c, Q, D, tI, tZ, tQ, A⟩ := t
  obtain ⟨-, hx, hb, -, -, hown, hts, -, ⟨hK, -⟩, -⟩ := C
  intro H locs ls hR hS hl ho hs
  obtain ⟨ox, hs0⟩ := stOk_c.mp hs
  obtain ⟨oi, hs1⟩ := stOk_c.mp hs0
  have hs2 := (stOk_c.mp hs1).2
  obtain ⟨hok, hA, hat⟩ := hR.2 a _ hw
  have hlt : i.toNat < xs.length := by omega
  have hin := iR_in oi h0 h1
  have hat2 : H[a]? = some (arrV tI xs.length (fun j => .int (Int32.ofInt (xs.getD j 0)))) := hat
  refine W.iast hx hb hat2 ((hK.2 0 _ rfl).1 xs.length (fun j => .int (Int32.ofInt (xs.getD j 0)))) (fun q => by cases q) (by rw [arrV_size]; exact hin) rfl rfl hd fun H1 e1 z1 oq => ?_
  have hcok : cOk (ca (xs.set i.toNat x)) := ⟨fun _ u hu => by
    rcases List.mem_or_eq_of_mem_set hu with h7 | h7
    · exact hok.1 rfl u h7
    · rw [h7]; exact ox, fun h => absurd rfl h⟩
  refine kk H1 _ ls (hR.set z1 oq hA hcok ?_) (hS.put z1 oq hA) hl ho hs2
  show H1[a]? = some (arrV tI (xs.set i.toNat x).length (fun j => .int (Int32.ofInt ((xs.set i.toNat x).getD j 0))))
  rw [e1, arrV_store, iR_clamp oi, List.length_set]
  congr 2
  rw [getD_set_fn (fun z => Value.int (Int32.ofInt z)) xs i.toNat x 0 hlt]
  funext j
  rfl
theorem nar_z {z : Int} (h : z = 0 ∨ z = 1) : narrow .boolean (.int (Int32.ofInt z)) = .int (Int32.ofInt z) ∧ fits .boolean (.int (Int32.ofInt z)) = true := by
  rcases h with h | h <;> subst h <;> decide
theorem x_zast (C : Cb t l cc own nL ret fr mc ms) {a : Nat} {xs : List Int} {i x : Int} (hd : decode cc pc = .ok (.bastore, 1)) (hw : w a = some (cz xs)) (h0 : 0 ≤ i) (h1 : i < xs.length) (hxz : x = 0 ∨ x = 1) (kk : J t kc ks (pc + 1) ml st n (mu w a (cz (xs.set i.toNat x)))) : J t kc ks pc ml (vi x :: vi i :: vr a :: st) n w := by
  obtain ⟨p, l1, e, R, s, m, args, below, meth, c, Q, D, tI, tZ, tQ, A⟩ := t
  obtain ⟨-, hx, hb, -, -, hown, hts, -, ⟨hK, -⟩, -⟩ := C
  intro H locs ls hR hS hl ho hs
  obtain ⟨ox, hs0⟩ := stOk_c.mp hs
  obtain ⟨oi, hs1⟩ := stOk_c.mp hs0
  have hs2 := (stOk_c.mp hs1).2
  obtain ⟨hok, hA, hat⟩ := hR.2 a _ hw
  have hlt : i.toNat < xs.length := by omega
  have hin := iR_in oi h0 h1
  have hat2 : H[a]? = some (arrV tZ xs.length (fun j => .int (Int32.ofInt (xs.getD j 0)))) := hat
  refine W.zast hx hb hat2 ((hK.2 1 _ rfl).1 xs.length (fun j => .int (Int32.ofInt (xs.getD j 0)))) (fun q => by cases q) (by rw [arrV_size]; exact hin) rfl rfl hd fun H1 e1 z1 oq => ?_
  have hcok : cOk (cz (xs.set i.toNat x)) := ⟨fun h => absurd h (by decide), fun _ u hu => by
    rcases List.mem_or_eq_of_mem_set hu with h7 | h7
    · exact hok.2 (by decide) u h7
    · rw [h7]; exact hxz⟩
  refine kk H1 _ ls (hR.set z1 oq hA hcok ?_) (hS.put z1 oq hA) hl ho hs2
  show H1[a]? = some (arrV tZ (xs.set i.toNat x).length (fun j => .int (Int32.ofInt ((xs.set i.toNat x).getD j 0))))
  rw [e1, arrV_store, iR_clamp oi, List.length_set, (nar_z hxz).1]
  congr 2
  rw [getD_set_fn (fun z => Value.int (Int32.ofInt z)) xs i.toNat x 0 hlt]
  funext j
  rfl
theorem x_aast (C : Cb t l cc own nL ret fr mc ms) {a b : Nat} {rs : List (Option Nat)} {i : Int} {fs : List mV} (hd : decode cc pc = .ok (.aastore, 1)) (hw : w a = some (cq rs)) (h0 : 0 ≤ i) (h1 : i < rs.length) (hb9 : w b = some (co 2 fs)) (kk : J t kc ks (pc + 1) ml st n (mu w a (cq (rs.set i.toNat (some b))))) : J t kc ks pc ml (vr b :: vi i :: vr a :: st) n w := by
  obtain ⟨p, l1, e, R, s, m, args, below, meth, c, Q, D, tI, tZ, tQ, A⟩ := t
  obtain ⟨-, hx, hb, -, -, hown, hts, -, ⟨hK, -⟩, -⟩ := C
  intro H locs ls hR hS hl ho hs
  obtain ⟨ox, hs0⟩ := stOk_c.mp hs
  obtain ⟨oi, hs1⟩ := stOk_c.mp hs0
  have hs2 := (stOk_c.mp hs1).2
  obtain ⟨hok, hA, hat⟩ := hR.2 a _ hw
  obtain ⟨hokb, hAb, hatb⟩ := hR.2 b _ hb9
  have hlt : i.toNat < rs.length := by omega
  have hin := iR_in oi h0 h1
  have hat2 : H[a]? = some (arrV tQ rs.length (fun j => va_rf (rs.getD j none))) := hat
  obtain ⟨r', hr', cellV, g1, g2, g3, -⟩ := hatb
  have hcls := (hK.1 2 _ rfl).2
  obtain ⟨kA, comp, k1, k2, k3, -⟩ := (hK.2 2 _ rfl).2
  have hcomp : comp = D.1 2 := Option.some.inj (k3.symm.trans hcls.1)
  subst hcomp
  obtain ⟨kC, hkC, -⟩ := hcls.2
  have hlt2 : (Int32.ofInt i).toNatClampNeg < rs.length := by rw [iR_clamp oi]; exact hlt
  have h02 : ¬ Int32.ofInt i < 0 := fun q => hin (Or.inl q)
  refine W.aast hx hb hat2 (fun q h => by cases h) (fun h => by cases h) k1 k2 rfl hkC ⟨h02, by rw [arrV_size]; exact hlt2⟩ g1 (fun q h => by rw [g3] at h; cases h) (by rw [g2]; exact hkC) (by rw [g2]; exact va_assign hcls) rfl rfl hd fun H1 e1 z1 oq => ?_
  refine kk H1 _ ls (hR.set z1 oq hA trivial ?_) (hS.put z1 oq hA) hl ho hs2
  show H1[a]? = some (arrV tQ (rs.set i.toNat (some b)).length (fun j => va_rf ((rs.set i.toNat (some b)).getD j none)))
  rw [e1, arrV_store, iR_clamp oi, List.length_set]
  congr 2
  rw [getD_set_fn va_rf rs i.toNat (some b) none hlt]
  funext j
  rfl
end JH
