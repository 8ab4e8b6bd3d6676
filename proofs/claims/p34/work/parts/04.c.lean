-- ===== fields, arrays, new things =====
def FLk (own : String) (ix ci kf : Nat) (ty : FieldType) (fin : Bool) : Prop := ∃ (Cn : String) (T : u_T) (N : Nat) (ty0 : Nat → FieldType), vwCl[ci]? = some (Cn, T, N) ∧ kf < N ∧ (∀ w ∈ u_ws Cn T N, w ∈ gT) ∧ (∀ k, k < N → parseFieldDescriptor (T k).2.2.1 = some (ty0 k)) ∧ (∀ a, a < N → ∀ b, b < N → a ≠ b → (T a).2.1 ≠ (T b).2.1) ∧ ty0 kf = ty ∧ (T kf).2.2.2 = fin ∧ (fin = true → (T kf).1 = own) ∧
  (Cond.fieldLink own ix (T kf).1 (T kf).2.1 (T kf).2.2.1 ∈ gT ∨ ∃ host, Cond.fieldLinkNest own ix (T kf).1 (T kf).2.1 (T kf).2.2.1 host ∈ gN)
def FLf (own : String) (ix ci kf : Nat) (ty : FieldType) : Prop := FLk own ix ci kf ty true ∧ ∃ (Cn : String) (T : u_T) (N : Nat), vwCl[ci]? = some (Cn, T, N) ∧ Cond.fieldLink own ix (T kf).1 (T kf).2.1 (T kf).2.2.1 ∈ gT
def FLr (own : String) (ix ci kf : Nat) : Prop := ∃ (Cn : String) (T : u_T) (N : Nat), vwCl[ci]? = some (Cn, T, N) ∧ kf < N ∧ (∀ w ∈ u_ws Cn T N, w ∈ gT) ∧ (Cond.fieldLink own ix (T kf).1 (T kf).2.1 (T kf).2.2.1 ∈ gT ∨ ∃ host, Cond.fieldLinkNest own ix (T kf).1 (T kf).2.1 (T kf).2.2.1 host ∈ gN)
theorem FLk.r {own : String} {ix ci kf : Nat} {ty : FieldType} {fin : Bool} (h : FLk own ix ci kf ty fin) : FLr own ix ci kf := by
  obtain ⟨Cn, T, N, ty0, hc, hk, hT, -, -, -, -, -, hlink⟩ := h
  exact ⟨Cn, T, N, hc, hk, hT, hlink⟩
section IH
variable {l : Launch} {D : gD} {own : String} {cc : ByteArray} {nL : Nat} {R : Room} {rt : Option FieldType} {ini : Bool} {hh : Option (List (Nat × Nat × Nat × Nat))} {Rp : Option Value → wW → Prop} {Xp : String → wW → Prop} {G : gG} {n k : Nat} {w : wW} {L : List (Option Value)} {pc : Nat} {st : List Value}
theorem i_getf (C : Cx l D own cc nL R rt ini hh Rp Xp G) {ix ci kf a : Nat} {fs : List Value} {v : Value} (fl : FLr own ix ci kf) (d : decode cc pc = .ok (.getfield ix, 3)) (hw : w a = some (.inr (ci, fs)) := by assumption) (hv : fs[kf]? = some v := by rfl) (kk : G n k w L (pc + 3) (v :: st)) : G n k w L pc (.ref a :: st) := by
  obtain ⟨p, e, s, m, args, below, meth, c, A, Q, rfl, hx, hb, hml, hown, hts, hKX, hST, hAA, hlo, hr, hin, hst, htab, habs, hthr⟩ := C
  obtain ⟨Cn, T, N, hc, hk, hT, hlink⟩ := fl
  intro H locs ls hH hA hS hl
  have hP : va_P D.1 vwCl [(a, .inr (ci, fs))] H := fun i q hq => by
    have hz : i < 1 := (List.getElem?_eq_some_iff.mp hq).1
    rw [show i = 0 by omega] at hq
    cases hq
    exact hH _ _ hw
  rcases hlink with hlk | ⟨host, hlk⟩
  · exact va_get hx hb hts hT hown hKX.2.1 hP 0 rfl hc kf hk (hts _ hlk) (fun _ h => h) hv d (kk H locs ls hH hA hS hl)
  · exact va_getN hx hb hts hT hown hKX.2.1 hP 0 rfl hc kf hk (va_Nw.use (gN_tab hlk) (hKX.1 _ hlk)) (fun _ h => h) hv d (kk H locs ls hH hA hS hl)
theorem i_putf (C : Cx l D own cc nL R rt ini hh Rp Xp G) {ix ci kf a : Nat} {ty : FieldType} {fs : List Value} {v : Value} {fs' : List Value} (fl : FLk own ix ci kf ty false) (d : decode cc pc = .ok (.putfield ix, 3)) (hw : w a = some (.inr (ci, fs)) := by assumption) (hl9 : kf < fs.length := by exact Nat.lt_of_sub_eq_succ rfl) (hn : narrow ty v = v := by rfl) (hfit : fits ty v = true := by rfl) (hfs : fs.set kf v = fs' := by rfl) (kk : G n k (wset w a (.inr (ci, fs'))) L (pc + 3) st) : G n k w L pc (v :: .ref a :: st) := by
  subst hfs
  obtain ⟨p, e, s, m, args, below, meth, c, A, Q, rfl, hx, hb, hml, hown, hts, hKX, hST, hAA, hlo, hr, hin, hst, htab, habs, hthr⟩ := C
  obtain ⟨Cn, T, N, ty0, hc, hk, hT, hty, hnm, h1, h2, h3, hlink⟩ := fl
  intro H locs ls hH hA hS hl
  have hap := va_apart (own := own) hts hT ty0 hty hnm hKX.2.1 hc
  obtain ⟨r, hr1, cell, q1, q2, q3, q4⟩ := hH _ _ hw
  have hr2 : r = (Cn, T, N) := Option.some.inj (hr1.symm.trans hc)
  subst hr2
  obtain ⟨hSl, hfc, kC, hkC, hkind⟩ := hKX.2.1.1 ci _ hc
  obtain ⟨cf, kf2, fi, f, hi, hsl⟩ := hSl kf hk
  have hlay := hts _ (hT _ (u_in_lay hk))
  unfold u_lay at hlay
  rw [if_neg (by rw [h2]; decide)] at hlay
  have hst9 := (u_facts hfc hkC (u_lays hts hT hk) hi).1
  have h6 := u_store hfc hkC hkind hlay hi ((hty kf hk).trans (by rw [h1])) hn hfit
  have fin : ∀ H' : Heap, H'[a]? = some (cell.setSlot f.slot v) → H'.size = H.size → (∀ q, q ≠ a → H'[q]? = H[q]?) → W p l e R s m args below meth c H' (locs ++ [⟨a, f.slot⟩]) n k Q (F0 m (pc + 3) ls st) := by
    intro H' e1 e2 e3
    rw [hsl] at e1
    refine kk H' _ ls (hH.set ⟨_, hc, t_OB.to (V := updV (vp_V fs) kf v) ⟨_, e1, q2, q3, t_set q4 hap hk v⟩ (fun j _ => vp_updV_set hl9 v j)⟩ e3) ?_ (hS.put e2 e3 (hA _ _ hw)) hl
    intro b x hbx
    by_cases hba : b = a
    · subst hba; exact hA _ _ hw
    · rw [wset_ne hba] at hbx; exact hA _ _ hbx
  rcases hlink with hlk | ⟨host, hlk⟩
  · exact W.putK hx hb (f := f) ⟨hown, hts _ hlk, ⟨_, _, _, hi⟩, hst9⟩ (by rw [q2]; exact h6) q1 q3 (by rw [hsl]; exact k2_hasslot (q4 kf hk)) rfl rfl d fin
  · exact va_WputK hx hb (f := f) hown (va_Nw.use (gN_tab hlk) (hKX.1 _ hlk)) hi hst9 (by rw [q2]; exact h6) q1 q3 (by rw [hsl]; exact k2_hasslot (q4 kf hk)) rfl rfl d fin
theorem i_putF (C : Cx l D own cc nL R rt true hh Rp Xp G) {ix ci kf a : Nat} {ty : FieldType} {fs : List Value} {v : Value} {fs' : List Value} (fl : FLf own ix ci kf ty) (d : decode cc pc = .ok (.putfield ix, 3)) (hw : w a = some (.inr (ci, fs)) := by assumption) (hl9 : kf < fs.length := by exact Nat.lt_of_sub_eq_succ rfl) (hn : narrow ty v = v := by rfl) (hfit : fits ty v = true := by rfl) (hfs : fs.set kf v = fs' := by rfl) (kk : G n k (wset w a (.inr (ci, fs'))) L (pc + 3) st) : G n k w L pc (v :: .ref a :: st) := by
  subst hfs
  obtain ⟨p, e, s, m, args, below, meth, c, A, Q, rfl, hx, hb, hml, hown, hts, hKX, hST, hAA, hlo, hr, hin, hst, htab, habs, hthr⟩ := C
  obtain ⟨⟨Cn, T, N, ty0, hc, hk, hT, hty, hnm, h1, h2, h3, -⟩, C9, T9, N9, hc9, hnest⟩ := fl
  cases hc.symm.trans hc9
  intro H locs ls hH hA hS hl
  have hap := va_apart (own := own) hts hT ty0 hty hnm hKX.2.1 hc
  obtain ⟨r, hr1, cell, q1, q2, q3, q4⟩ := hH _ _ hw
  have hr2 : r = (Cn, T, N) := Option.some.inj (hr1.symm.trans hc)
  subst hr2
  obtain ⟨hSl, hfc, kC, hkC, hkind⟩ := hKX.2.1.1 ci _ hc
  obtain ⟨cf, kf2, fi, f, hi, hsl⟩ := hSl kf hk
  have hlay := hts _ (hT _ (u_in_lay hk))
  unfold u_lay at hlay
  rw [if_pos h2] at hlay
  have hst9 := (u_facts hfc hkC (u_lays hts hT hk) hi).1
  have hcf : m.cls = cf := by
    obtain ⟨_, _, c', _, _, _, -, -, hf', -, -, -, hown2, -⟩ := Cond.laysFinal_spec hlay
    have e1 : c' = cf := by have := hi.symm.trans hf'; simp at this; exact this.1.symm
    rw [h3 rfl] at hown2
    rw [← e1]; exact Option.some.inj (hown.symm.trans hown2)
  have h6 := u_fits hfc hkC hkind (Or.inr hlay) hi ((hty kf hk).trans (by rw [h1])) hn hfit
  refine W.putFinK hx hb hown (hts _ hnest) hi hst9 hcf (hin rfl) (by rw [q2]; exact h6) q1 q3 (by rw [hsl]; exact k2_hasslot (q4 kf hk)) rfl rfl d fun H' e1 e2 e3 => ?_
  rw [hsl] at e1 ⊢
  refine kk H' _ ls (hH.set ⟨_, hc, t_OB.to (V := updV (vp_V fs) kf v) ⟨_, e1, q2, q3, t_set q4 hap hk v⟩ (fun j _ => vp_updV_set hl9 v j)⟩ e3) ?_ (hS.put e2 e3 (hA _ _ hw)) hl
  intro b x hbx
  by_cases hba : b = a
  · subst hba; exact hA _ _ hw
  · rw [wset_ne hba] at hbx; exact hA _ _ hbx
theorem i_iaload (C : Cx l D own cc nL R rt ini hh Rp Xp G) {a N : Nat} {i : Int} {f : Nat → Int} (d : decode cc pc = .ok (.iaload, 1)) (hw : w a = some (iar D N f) := by assumption) (h0 : 0 ≤ i := by omega) (h1 : i < N := by omega) (h2 : i < 2147483648 := by omega) (kk : G n k w L (pc + 1) (.int (Z32 (f i.toNat)) :: st)) : G n k w L pc (.int (Z32 i) :: .ref a :: st) := by
  obtain ⟨p, e, s, m, args, below, meth, c, A, Q, rfl, hx, hb, hml, hown, hts, hKX, hST, hAA, hlo, hr, hin, hst, htab, habs, hthr⟩ := C
  intro H locs ls hH hA hS hl
  have hlt : (Z32 i).toNatClampNeg < N := by rw [Z32_cl h0 h2]; omega
  have e9 : Z32 (f i.toNat) = Z32 (f (Z32 i).toNatClampNeg) := by rw [Z32_cl h0 h2]
  rw [e9] at kk
  exact W.iald (v := .int (Z32 (f (Z32 i).toNatClampNeg))) hx hb (hH _ _ hw) ((hKX.2.1.2 0 _ rfl).1 N (fun j => .int (Z32 (f j)))) (fun q => by cases q) (by show ¬ (Z32 i < 0 ∨ (arrV _ _ _).slots.size ≤ _); rw [arrV_size]; exact Z32_in h0 h1 h2) (by show (arrV _ _ _).slots[_]? = _; rw [arrV_read _ _ hlt]) rfl rfl d (kk H locs ls hH hA hS hl)
theorem i_iastore (C : Cx l D own cc nL R rt ini hh Rp Xp G) {a N : Nat} {i x : Int} {f : Nat → Int} (d : decode cc pc = .ok (.iastore, 1)) (hw : w a = some (iar D N f) := by assumption) (h0 : 0 ≤ i := by omega) (h1 : i < N := by omega) (h2 : i < 2147483648 := by omega) (kk : G n k (wset w a (iar D N (upz f i.toNat x))) L (pc + 1) st) : G n k w L pc (.int (Z32 x) :: .int (Z32 i) :: .ref a :: st) := by
  obtain ⟨p, e, s, m, args, below, meth, c, A, Q, rfl, hx, hb, hml, hown, hts, hKX, hST, hAA, hlo, hr, hin, hst, htab, habs, hthr⟩ := C
  intro H locs ls hH hA hS hl
  refine W.iast hx hb (hH _ _ hw) ((hKX.2.1.2 0 _ rfl).1 N (fun j => .int (Z32 (f j)))) (fun q => by cases q) (by show ¬ (Z32 i < 0 ∨ (arrV _ _ _).slots.size ≤ _); rw [arrV_size]; exact Z32_in h0 h1 h2) rfl rfl d fun H1 e1 z oq => ?_
  refine kk H1 _ ls (hH.set ?_ oq) ?_ (hS.put z oq (hA _ _ hw)) hl
  · show H1[a]? = some (vp_cell _ _)
    rw [e1]
    show some (Cell.setSlot (vp_cell D.2.1 (N, .inl (fun j => Z32 (f j)))) _ _) = some (vp_cell D.2.1 (N, .inl (fun j => Z32 (upz f i.toNat x j))))
    rw [vp_cell_i, vp_cell_i, arrV_store, Z32_cl h0 h2]
    congr 2
    funext q
    by_cases hq : q = i.toNat
    · subst hq
      simp [updV, upz]
    · simp [updV, upz, hq]
  · intro b x hbx
    by_cases hba : b = a
    · subst hba; exact hA _ _ hw
    · rw [wset_ne hba] at hbx; exact hA _ _ hbx
theorem i_laload (C : Cx l D own cc nL R rt ini hh Rp Xp G) {a N : Nat} {i : Int} {f : Nat → Int64} (d : decode cc pc = .ok (.laload, 1)) (hw : w a = some (lar D N f) := by assumption) (h0 : 0 ≤ i := by omega) (h1 : i < N := by omega) (h2 : i < 2147483648 := by omega) (kk : G n k w L (pc + 1) (.long (f i.toNat) :: st)) : G n k w L pc (.int (Z32 i) :: .ref a :: st) := by
  obtain ⟨p, e, s, m, args, below, meth, c, A, Q, rfl, hx, hb, hml, hown, hts, hKX, hST, hAA, hlo, hr, hin, hst, htab, habs, hthr⟩ := C
  intro H locs ls hH hA hS hl
  have hlt : (Z32 i).toNatClampNeg < N := by rw [Z32_cl h0 h2]; omega
  have hP : va_P D.1 vwCl [(a, lar D N f)] H := fun j q hq => by
    have hz : j < 1 := (List.getElem?_eq_some_iff.mp hq).1
    rw [show j = 0 by omega] at hq
    cases hq
    exact hH _ _ hw
  have e9 : f i.toNat = f (Z32 i).toNatClampNeg := by rw [Z32_cl h0 h2]
  rw [e9] at kk
  exact va_lald hx hb hKX.2.1 hP 0 1 rfl rfl (Z32_in h0 h1 h2) d (kk H locs ls hH hA hS hl)
theorem i_lastore (C : Cx l D own cc nL R rt ini hh Rp Xp G) {a N : Nat} {i : Int} {x : Int64} {f : Nat → Int64} (d : decode cc pc = .ok (.lastore, 1)) (hw : w a = some (lar D N f) := by assumption) (h0 : 0 ≤ i := by omega) (h1 : i < N := by omega) (h2 : i < 2147483648 := by omega) (kk : G n k (wset w a (lar D N (upz f i.toNat x))) L (pc + 1) st) : G n k w L pc (.long x :: .int (Z32 i) :: .ref a :: st) := by
  obtain ⟨p, e, s, m, args, below, meth, c, A, Q, rfl, hx, hb, hml, hown, hts, hKX, hST, hAA, hlo, hr, hin, hst, htab, habs, hthr⟩ := C
  intro H locs ls hH hA hS hl
  refine W.last hx hb (hH _ _ hw) ((hKX.2.1.2 1 _ rfl).1 N (fun j => .long (f j))) (fun q => by cases q) (by show ¬ (Z32 i < 0 ∨ (arrV _ _ _).slots.size ≤ _); rw [arrV_size]; exact Z32_in h0 h1 h2) rfl rfl d fun H1 e1 z oq => ?_
  refine kk H1 _ ls (hH.set ?_ oq) ?_ (hS.put z oq (hA _ _ hw)) hl
  · show H1[a]? = some (vp_cell _ _)
    rw [e1]
    show some (Cell.setSlot (vp_cell D.2.2.1 (N, .inr (.inl f))) _ _) = some (vp_cell D.2.2.1 (N, .inr (.inl (upz f i.toNat x))))
    rw [vp_cell_l, vp_cell_l, arrV_store, Z32_cl h0 h2]
    congr 2
    funext q
    by_cases hq : q = i.toNat
    · subst hq
      simp [updV, upz]
    · simp [updV, upz, hq]
  · intro b x hbx
    by_cases hba : b = a
    · subst hba; exact hA _ _ hw
    · rw [wset_ne hba] at hbx; exact hA _ _ hbx
theorem i_aaload (C : Cx l D own cc nL R rt ini hh Rp Xp G) {a N : Nat} {i : Int} {f : Nat → Option Nat} (d : decode cc pc = .ok (.aaload, 1)) (hw : w a = some (par D N f) := by assumption) (h0 : 0 ≤ i := by omega) (h1 : i < N := by omega) (h2 : i < 2147483648 := by omega) {v : Value} (hv : va_rf (f i.toNat) = v) (kk : G n k w L (pc + 1) (v :: st)) : G n k w L pc (.int (Z32 i) :: .ref a :: st) := by
  subst hv
  obtain ⟨p, e, s, m, args, below, meth, c, A, Q, rfl, hx, hb, hml, hown, hts, hKX, hST, hAA, hlo, hr, hin, hst, htab, habs, hthr⟩ := C
  intro H locs ls hH hA hS hl
  have hP : va_P D.1 vwCl [(a, par D N f)] H := fun j q hq => by
    have hz : j < 1 := (List.getElem?_eq_some_iff.mp hq).1
    rw [show j = 0 by omega] at hq
    cases hq
    exact hH _ _ hw
  have e9 : f i.toNat = f (Z32 i).toNatClampNeg := by rw [Z32_cl h0 h2]
  rw [e9] at kk
  exact va_aldq hx hb hKX.2.1 hP 0 2 rfl rfl (Z32_in h0 h1 h2) d (kk H locs ls hH hA hS hl)
theorem i_aastore (C : Cx l D own cc nL R rt ini hh Rp Xp G) {a N v : Nat} {i : Int} {f : Nat → Option Nat} {vs : List Value} (d : decode cc pc = .ok (.aastore, 1)) (hw : w a = some (par D N f) := by assumption) (hv : w v = some (.inr (1, vs)) := by assumption) (h0 : 0 ≤ i := by omega) (h1 : i < N := by omega) (h2 : i < 2147483648 := by omega) (kk : G n k (wset w a (par D N (upz f i.toNat (some v)))) L (pc + 1) st) : G n k w L pc (.ref v :: .int (Z32 i) :: .ref a :: st) := by
  obtain ⟨p, e, s, m, args, below, meth, c, A, Q, rfl, hx, hb, hml, hown, hts, hKX, hST, hAA, hlo, hr, hin, hst, htab, habs, hthr⟩ := C
  intro H locs ls hH hA hS hl
  have hlt : (Z32 i).toNatClampNeg < N := by rw [Z32_cl h0 h2]; omega
  have h00 : ¬ Z32 i < 0 := fun q => (Z32_in h0 h1 h2) (Or.inl q)
  obtain ⟨r', hr', cellV, g1, g2, g3, -⟩ := hH _ _ hv
  have hcls := (hKX.2.1.1 1 _ rfl).2
  obtain ⟨kA, comp, k1, k2, k3, -⟩ := (hKX.2.1.2 2 _ rfl).2
  have hcomp : comp = D.1.1 1 := Option.some.inj (k3.symm.trans hcls.1)
  subst hcomp
  obtain ⟨kC, hkC, -⟩ := hcls.2
  refine W.aast hx hb (hH _ _ hw) (fun q h => by cases h) (fun h => by cases h) k1 k2 rfl hkC ⟨h00, by show _ < (arrV _ _ _).slots.size; rw [arrV_size]; exact hlt⟩ g1 (fun q h => by rw [g3] at h; cases h) (by rw [g2]; exact hkC) (by rw [g2]; exact va_assign hcls) rfl rfl d fun H1 e1 z oq => ?_
  refine kk H1 _ ls (hH.set ?_ oq) ?_ (hS.put z oq (hA _ _ hw)) hl
  · show H1[a]? = some (vp_cell _ _)
    rw [e1]
    show some (Cell.setSlot (vp_cell D.2.2.2.1 (N, .inr (.inr (.inr (.inr f))))) _ _) = some (vp_cell D.2.2.2.1 (N, .inr (.inr (.inr (.inr (upz f i.toNat (some v)))))))
    rw [vp_cell_q, vp_cell_q, arrV_store, Z32_cl h0 h2]
    congr 2
    funext q
    by_cases hq : q = i.toNat
    · subst hq
      simp [updV, upz, va_rf]
    · simp [updV, upz, hq]
  · intro b x hbx
    by_cases hba : b = a
    · subst hba; exact hA _ _ hw
    · rw [wset_ne hba] at hbx; exact hA _ _ hbx
theorem i_alen (C : Cx l D own cc nL R rt ini hh Rp Xp G) {a N : Nat} {f : Nat → Int} (d : decode cc pc = .ok (.arraylength, 1)) (hw : w a = some (iar D N f) := by assumption) (kk : G n k w L (pc + 1) (.int (Z32 (N : Int)) :: st)) : G n k w L pc (.ref a :: st) := by
  obtain ⟨p, e, s, m, args, below, meth, c, A, Q, rfl, hx, hb, hml, hown, hts, hKX, hST, hAA, hlo, hr, hin, hst, htab, habs, hthr⟩ := C
  intro H locs ls hH hA hS hl
  have hP : va_P D.1 vwCl [(a, iar D N f)] H := fun j q hq => by
    have hz : j < 1 := (List.getElem?_eq_some_iff.mp hq).1
    rw [show j = 0 by omega] at hq
    cases hq
    exact hH _ _ hw
  exact va_alen hx hb hKX.2.1 hP 0 0 rfl rfl rfl d (kk H locs ls hH hA hS hl)
theorem i_alenP (C : Cx l D own cc nL R rt ini hh Rp Xp G) {a N : Nat} {f : Nat → Option Nat} (d : decode cc pc = .ok (.arraylength, 1)) (hw : w a = some (par D N f) := by assumption) (kk : G n k w L (pc + 1) (.int (Z32 (N : Int)) :: st)) : G n k w L pc (.ref a :: st) := by
  obtain ⟨p, e, s, m, args, below, meth, c, A, Q, rfl, hx, hb, hml, hown, hts, hKX, hST, hAA, hlo, hr, hin, hst, htab, habs, hthr⟩ := C
  intro H locs ls hH hA hS hl
  have hP : va_P D.1 vwCl [(a, par D N f)] H := fun j q hq => by
    have hz : j < 1 := (List.getElem?_eq_some_iff.mp hq).1
    rw [show j = 0 by omega] at hq
    cases hq
    exact hH _ _ hw
  exact va_alen hx hb hKX.2.1 hP 0 2 rfl rfl rfl d (kk H locs ls hH hA hS hl)
theorem i_newint (C : Cx l D own cc nL R rt ini hh Rp Xp G) {N : Nat} {x : Int} (hx9 : x = (N : Int) := by rfl) (hN : N ≤ 8388608 := by decide) (harr : Cond.arrayClass .int ∈ gT) (d : decode cc pc = .ok (.newarray .int, 2)) (hcells : n + 1 ≤ R.cells := by exact Nat.le_of_ble_eq_true rfl) (hslots : k + N ≤ R.slots := by exact Nat.le_of_ble_eq_true rfl) (kk : ∀ q : Nat, w q = none → G (n + 1) (k + N) (wset w q (iar D N (fun _ => 0))) L (pc + 2) (.ref q :: st)) : G n k w L pc (.int (Z32 x) :: st) := by
  subst hx9
  obtain ⟨p, e, s, m, args, below, meth, c, A, Q, rfl, hx, hb, hml, hown, hts, hKX, hST, hAA, hlo, hr, hin, hst, htab, habs, hthr⟩ := C
  intro H locs ls hH hA hS hl
  have hcl : (Z32 (N : Int)).toNatClampNeg = N := by rw [Z32_cl (by omega) (by omega)]; rfl
  refine va_newaK (cc := cc) (atype := .int) hx hb (hts _ harr) (g := F0 m pc ls (.int (Z32 (N : Int)) :: st)) rfl d (rest := st) rfl (n := Z32 (N : Int)) (N := N) (by rw [← Z32_0, Z32_lt ⟨by omega, by omega⟩ ⟨by omega, by omega⟩]; omega) hcl (by show N * 4 ≤ 536870912; omega) hcells hslots rfl fun H1 cA e1 z1 o1 hAr hNm => ?_
  have hcA : cA = D.2.1 := Option.some.inj ((show s.vm.findClass _ = some cA from hNm).symm.trans (hKX.2.1.2 0 _ rfl).2)
  subst hcA
  refine kk H.size hH.none H1 locs ls (hH.push ?_ o1) ?_ ⟨Nat.le_trans hS.1 (by omega), fun x h1 h2 => (o1 x (Nat.lt_of_lt_of_le h1 hS.1)).trans (hS.2.1 x h1 h2), hS.2.2⟩ hl
  · show H1[H.size]? = some (vp_cell _ _)
    exact e1
  · intro b x hbx
    by_cases hba : b = H.size
    · subst hba; exact hAA _ hS.1
    · rw [wset_ne hba] at hbx; exact hA _ _ hbx
theorem i_newlong (C : Cx l D own cc nL R rt ini hh Rp Xp G) {N : Nat} {x : Int} (hx9 : x = (N : Int) := by rfl) (hN : N ≤ 8388608 := by decide) (harr : Cond.arrayClass .long ∈ gT) (d : decode cc pc = .ok (.newarray .long, 2)) (hcells : n + 1 ≤ R.cells := by exact Nat.le_of_ble_eq_true rfl) (hslots : k + N ≤ R.slots := by exact Nat.le_of_ble_eq_true rfl) (kk : ∀ q : Nat, w q = none → G (n + 1) (k + N) (wset w q (lar D N (fun _ => 0))) L (pc + 2) (.ref q :: st)) : G n k w L pc (.int (Z32 x) :: st) := by
  subst hx9
  obtain ⟨p, e, s, m, args, below, meth, c, A, Q, rfl, hx, hb, hml, hown, hts, hKX, hST, hAA, hlo, hr, hin, hst, htab, habs, hthr⟩ := C
  intro H locs ls hH hA hS hl
  have hcl : (Z32 (N : Int)).toNatClampNeg = N := by rw [Z32_cl (by omega) (by omega)]; rfl
  refine va_newaK (cc := cc) (atype := .long) hx hb (hts _ harr) (g := F0 m pc ls (.int (Z32 (N : Int)) :: st)) rfl d (rest := st) rfl (n := Z32 (N : Int)) (N := N) (by rw [← Z32_0, Z32_lt ⟨by omega, by omega⟩ ⟨by omega, by omega⟩]; omega) hcl (by show N * 8 ≤ 536870912; omega) hcells hslots rfl fun H1 cA e1 z1 o1 hAr hNm => ?_
  have hcA : cA = D.2.2.1 := Option.some.inj ((show s.vm.findClass _ = some cA from hNm).symm.trans (hKX.2.1.2 1 _ rfl).2)
  subst hcA
  refine kk H.size hH.none H1 locs ls (hH.push ?_ o1) ?_ ⟨Nat.le_trans hS.1 (by omega), fun x h1 h2 => (o1 x (Nat.lt_of_lt_of_le h1 hS.1)).trans (hS.2.1 x h1 h2), hS.2.2⟩ hl
  · show H1[H.size]? = some (vp_cell _ _)
    exact e1
  · intro b x hbx
    by_cases hba : b = H.size
    · subst hba; exact hAA _ hS.1
    · rw [wset_ne hba] at hbx; exact hA _ _ hbx
theorem i_newpages (C : Cx l D own cc nL R rt ini hh Rp Xp G) {ix N : Nat} {x : Int} (hx9 : x = (N : Int) := by rfl) (hN : N ≤ 8388608 := by decide) (hlk : Cond.classLink own ix "MacroWiki$Page" ∈ gT) (d : decode cc pc = .ok (.anewarray ix, 3)) (hcells : n + 1 ≤ R.cells := by exact Nat.le_of_ble_eq_true rfl) (hslots : k + N ≤ R.slots := by exact Nat.le_of_ble_eq_true rfl) (kk : ∀ q : Nat, w q = none → G (n + 1) (k + N) (wset w q (par D N (fun _ => none))) L (pc + 3) (.ref q :: st)) : G n k w L pc (.int (Z32 x) :: st) := by
  subst hx9
  obtain ⟨p, e, s, m, args, below, meth, c, A, Q, rfl, hx, hb, hml, hown, hts, hKX, hST, hAA, hlo, hr, hin, hst, htab, habs, hthr⟩ := C
  intro H locs ls hH hA hS hl
  have hcl : (Z32 (N : Int)).toNatClampNeg = N := by rw [Z32_cl (by omega) (by omega)]; rfl
  refine W.anew hx hb hown (hts _ hlk) (va_AO.use hKX.2.2.1) (g := F0 m pc ls (.int (Z32 (N : Int)) :: st)) rfl d (rest := st) rfl (n := Z32 (N : Int)) (by rw [← Z32_0, Z32_lt ⟨by omega, by omega⟩ ⟨by omega, by omega⟩]; omega) (by rw [hcl]; omega) hcells (by rw [hcl]; exact hslots) fun cA kA comp f1 f2 f3 f4 => ?_
  rw [hcl]
  obtain ⟨kA9, comp9, k1, k2, k3, k4⟩ := (hKX.2.1.2 2 _ rfl).2
  have hcA : cA = D.2.2.2.1 := Option.some.inj (f1.symm.trans k4)
  subst hcA
  generalize hH1 : H.push ({ cls := D.2.2.2.1, slots := Array.replicate N .null, vm := .none } : Cell) = H1
  have z1 : H1.size = H.size + 1 := by rw [← hH1, Array.size_push]
  have e1 : H1[H.size]? = some (arrV D.2.2.2.1 N (fun _ => .null)) := by rw [← hH1, Array.getElem?_push_size, ← arrV_new]
  have o1 : ∀ q : Nat, q < H.size → H1[q]? = H[q]? := fun q hq => by rw [← hH1, Array.getElem?_push, if_neg (Nat.ne_of_lt hq)]
  refine kk H.size hH.none H1 locs ls (hH.push ?_ o1) ?_ ⟨Nat.le_trans hS.1 (by omega), fun x h1 h2 => (o1 x (Nat.lt_of_lt_of_le h1 hS.1)).trans (hS.2.1 x h1 h2), hS.2.2⟩ hl
  · show H1[H.size]? = some (vp_cell _ _)
    exact e1
  · intro b x hbx
    by_cases hba : b = H.size
    · subst hba; exact hAA _ hS.1
    · rw [wset_ne hba] at hbx; exact hA _ _ hbx
def NWk (own : String) (ix ci : Nat) (fs : List Value) : Prop := ∃ (Cn : String) (T : u_T) (N : Nat) (ty0 : Nat → FieldType), vwCl[ci]? = some (Cn, T, N) ∧ fs.length = N ∧ (∀ w ∈ u_ws Cn T N, w ∈ gT) ∧ (∀ k, k < N → parseFieldDescriptor (T k).2.2.1 = some (ty0 k)) ∧ (∀ j, j < N → defaultValue (ty0 j) = vp_V fs j) ∧ Cond.classLink own ix Cn ∈ gT ∧ Cond.instantiable Cn N ∈ gT ∧ Cond.initialized Cn ∈ gT
theorem i_new (C : Cx l D own cc nL R rt ini hh Rp Xp G) {ix ci : Nat} {fs : List Value} (nw : NWk own ix ci fs) (d : decode cc pc = .ok (.new ix, 3)) (hcells : n + 1 ≤ R.cells := by exact Nat.le_of_ble_eq_true rfl) (hslots : k + fs.length ≤ R.slots := by exact Nat.le_of_ble_eq_true rfl) (kk : ∀ q : Nat, w q = none → G (n + 1) (k + fs.length) (wset w q (.inr (ci, fs))) L (pc + 3) (.ref q :: st)) : G n k w L pc st := by
  obtain ⟨p, e, s, m, args, below, meth, c, A, Q, rfl, hx, hb, hml, hown, hts, hKX, hST, hAA, hlo, hr, hin, hst, htab, habs, hthr⟩ := C
  obtain ⟨Cn, T, N, ty0, hc, hlen, hT, hty, hdef, hlk, hinst, hini⟩ := nw
  subst hlen
  intro H locs ls hH hA hS hl
  have hKn := hKX.2.1.1 ci _ hc
  refine W.newcK hx hb hown (hts _ hlk) (hts _ hinst) (hts _ hini) rfl d hcells hslots hKn.2.1 rfl fun H1 kC hkC e1 z1 o1 => ?_
  refine kk H.size hH.none H1 locs ls (hH.push ⟨_, hc, (u_born ty0 hts hT hKn hkC e1 hty).to hdef⟩ o1) ?_ ⟨Nat.le_trans hS.1 (by omega), fun x h1 h2 => (o1 x (Nat.lt_of_lt_of_le h1 hS.1)).trans (hS.2.1 x h1 h2), hS.2.2⟩ hl
  intro b x hbx
  by_cases hba : b = H.size
  · subst hba; exact hAA _ hS.1
  · rw [wset_ne hba] at hbx; exact hA _ _ hbx
end IH
