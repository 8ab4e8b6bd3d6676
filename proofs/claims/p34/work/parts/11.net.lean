/-- rows of natural numbers -/
def cz (f : Nat → Nat) : Nat → Int := fun j => (f j : Int)
theorem cz_up {f : Nat → Nat} {i n : Nat} : upz (cz f) i (n : Int) = cz (upz f i n) := by
  funext j
  by_cases h : j = i
  · subst h; rw [upz_eq]; unfold cz; rw [upz_eq]
  · rw [upz_ne h]; unfold cz; rw [upz_ne h]
theorem cz_at (f : Nat → Nat) (j : Nat) : cz f j = (f j : Int) := rfl
def ntO (c o e d x : Nat) : va_E := .inr (0, [.ref c, .ref o, .ref e, .ref d, .ref x])
/-- a net at the roles r .. r + 5 -/
def NtT (D : gD) (w : wW) (τ : Nat → Nat) (r a c o e d x : Nat) (fc fo fr fd fx : Nat → Nat) : Prop := τ a = r ∧ τ c = r + 1 ∧ τ o = r + 2 ∧ τ e = r + 3 ∧ τ d = r + 4 ∧ τ x = r + 5 ∧ w a = some (ntO c o e d x) ∧ w c = some (iar D 144 (cz fc)) ∧ w o = some (iar D 12 (cz fo)) ∧ w e = some (iar D 12 (cz fr)) ∧ w d = some (iar D 12 (cz fd)) ∧ w x = some (iar D 12 (cz fx)) ∧ (∀ j, fc j ≤ 30) ∧ (∀ j, fo j ≤ 30) ∧ (∀ j, fr j < 4096) ∧ (∀ j, fd j ≤ 200) ∧ (∀ j, fx j ≤ 101)
theorem NtT.kept {D : gD} {w w1 : wW} {τ : Nat → Nat} {r a c o e d x : Nat} {fc fo fr fd fx : Nat → Nat} (h : NtT D w τ r a c o e d x fc fo fr fd fx) (hk : ∀ q, r ≤ τ q → τ q < r + 6 → w1 q = w q) : NtT D w1 τ r a c o e d x fc fo fr fd fx := by
  obtain ⟨t1, t2, t3, t4, t5, t6, k1, k2, k3, k4, k5, k6, b⟩ := h
  exact ⟨t1, t2, t3, t4, t5, t6, by rw [hk _ (by omega) (by omega)]; exact k1, by rw [hk _ (by omega) (by omega)]; exact k2, by rw [hk _ (by omega) (by omega)]; exact k3, by rw [hk _ (by omega) (by omega)]; exact k4, by rw [hk _ (by omega) (by omega)]; exact k5, by rw [hk _ (by omega) (by omega)]; exact k6, b⟩
theorem NtT.off {D : gD} {w w1 : wW} {τ : Nat → Nat} {r a c o e d x lo hi : Nat} {fc fo fr fd fx : Nat → Nat} (h : NtT D w τ r a c o e d x fc fo fr fd fx) (hk : offR τ w w1 lo hi) (hr : hi ≤ r ∨ r + 6 ≤ lo) : NtT D w1 τ r a c o e d x fc fo fr fd fx := h.kept (fun q h1 h2 => hk q (by omega))
section NT
variable {D : gD} {w : wW} {τ : Nat → Nat} {r a c o e d x : Nat} {fc fo fr fd fx : Nat → Nat}
theorem upz_all {P : Nat → Prop} {f : Nat → Nat} {i n : Nat} (h : ∀ j, P (f j)) (hn : P n) : ∀ j, P (upz f i n j) := fun j => by
  by_cases q : j = i
  · subst q; rw [upz_eq]; exact hn
  · rw [upz_ne q]; exact h j
theorem NtT.setC (h : NtT D w τ r a c o e d x fc fo fr fd fx) (i n : Nat) (hn : n ≤ 30) : NtT D (wset w c (iar D 144 (cz (upz fc i n)))) τ r a c o e d x (upz fc i n) fo fr fd fx := by
  obtain ⟨t1, t2, t3, t4, t5, t6, k1, k2, k3, k4, k5, k6, b1, b2, b3, b4, b5⟩ := h
  refine ⟨t1, t2, t3, t4, t5, t6, ?_, wset_eq, ?_, ?_, ?_, ?_, upz_all (P := fun z => z ≤ 30) b1 hn, b2, b3, b4, b5⟩ <;> (rw [wset_ne (tne (τ := τ) (by omega))]; assumption)
theorem NtT.setO (h : NtT D w τ r a c o e d x fc fo fr fd fx) (i n : Nat) (hn : n ≤ 30) : NtT D (wset w o (iar D 12 (cz (upz fo i n)))) τ r a c o e d x fc (upz fo i n) fr fd fx := by
  obtain ⟨t1, t2, t3, t4, t5, t6, k1, k2, k3, k4, k5, k6, b1, b2, b3, b4, b5⟩ := h
  refine ⟨t1, t2, t3, t4, t5, t6, ?_, ?_, wset_eq, ?_, ?_, ?_, b1, upz_all (P := fun z => z ≤ 30) b2 hn, b3, b4, b5⟩ <;> (rw [wset_ne (tne (τ := τ) (by omega))]; assumption)
theorem NtT.setR (h : NtT D w τ r a c o e d x fc fo fr fd fx) (i n : Nat) (hn : n < 4096) : NtT D (wset w e (iar D 12 (cz (upz fr i n)))) τ r a c o e d x fc fo (upz fr i n) fd fx := by
  obtain ⟨t1, t2, t3, t4, t5, t6, k1, k2, k3, k4, k5, k6, b1, b2, b3, b4, b5⟩ := h
  refine ⟨t1, t2, t3, t4, t5, t6, ?_, ?_, ?_, wset_eq, ?_, ?_, b1, b2, upz_all (P := fun z => z < 4096) b3 hn, b4, b5⟩ <;> (rw [wset_ne (tne (τ := τ) (by omega))]; assumption)
theorem NtT.setD (h : NtT D w τ r a c o e d x fc fo fr fd fx) (i n : Nat) (hn : n ≤ 200) : NtT D (wset w d (iar D 12 (cz (upz fd i n)))) τ r a c o e d x fc fo fr (upz fd i n) fx := by
  obtain ⟨t1, t2, t3, t4, t5, t6, k1, k2, k3, k4, k5, k6, b1, b2, b3, b4, b5⟩ := h
  refine ⟨t1, t2, t3, t4, t5, t6, ?_, ?_, ?_, ?_, wset_eq, ?_, b1, b2, b3, upz_all (P := fun z => z ≤ 200) b4 hn, b5⟩ <;> (rw [wset_ne (tne (τ := τ) (by omega))]; assumption)
theorem NtT.setX (h : NtT D w τ r a c o e d x fc fo fr fd fx) (i n : Nat) (hn : n ≤ 101) : NtT D (wset w x (iar D 12 (cz (upz fx i n)))) τ r a c o e d x fc fo fr fd (upz fx i n) := by
  obtain ⟨t1, t2, t3, t4, t5, t6, k1, k2, k3, k4, k5, k6, b1, b2, b3, b4, b5⟩ := h
  refine ⟨t1, t2, t3, t4, t5, t6, ?_, ?_, ?_, ?_, ?_, wset_eq, b1, b2, b3, b4, upz_all (P := fun z => z ≤ 101) b5 hn⟩ <;> (rw [wset_ne (tne (τ := τ) (by omega))]; assumption)
end NT
-- what the net's methods lay, as they lay it
def dOC (fc fd : Nat → Nat) (p : Nat) : Nat → Nat
  | 0 => 0
  | n + 1 => if 0 < fc (12 * p + n) then max (dOC fc fd p n) (fd n + 1) else dOC fc fd p n
def dRow (fc fd : Nat → Nat) : Nat → Nat → Nat
  | 0 => fd
  | n + 1 => upz (dRow fc fd n) n (dOC fc (dRow fc fd n) n 12)
def dRnd (fc fd : Nat → Nat) : Nat → Nat → Nat
  | 0 => fd
  | k + 1 => dRow fc (dRnd fc fd k) 12
def eOC (fc fo fx : Nat → Nat) (p : Nat) : Nat → Nat
  | 0 => fo p
  | n + 1 => eOC fc fo fx p n + fc (12 * p + n) * fx n
def eRow (fc fo fd fx : Nat → Nat) (dd : Nat) : Nat → Nat → Nat
  | 0 => fx
  | n + 1 => if fd n = dd then upz (eRow fc fo fd fx dd n) n (min (eOC fc fo (eRow fc fo fd fx dd n) n 12) 101) else eRow fc fo fd fx dd n
def eRnd (fc fo fd fx : Nat → Nat) : Nat → Nat → Nat
  | 0 => fx
  | k + 1 => eRow fc fo fd (eRnd fc fo fd fx k) k 12
def sE (fc : Nat → Nat) (p : Nat) : Nat → Nat
  | 0 => 0
  | n + 1 => sE fc p n ||| (if 0 < fc (12 * p + n) then 2 ^ n else 0)
def sRow (fc fr : Nat → Nat) : Nat → Nat → Nat
  | 0 => fr
  | n + 1 => upz (sRow fc fr n) n (sE fc n 12)
def wRow (fr : Nat → Nat) (ov : Nat) : Nat → Nat → Nat
  | 0 => fr
  | n + 1 => if (wRow fr ov n n).testBit ov then upz (wRow fr ov n) n (wRow fr ov n n ||| wRow fr ov n ov) else wRow fr ov n
def wRnd (fr : Nat → Nat) : Nat → Nat → Nat
  | 0 => fr
  | k + 1 => wRow (wRnd fr k) k 12
theorem dOC_le {fc fd : Nat → Nat} {p b : Nat} (h : ∀ j, j < 12 → fd j ≤ b) : ∀ n, n ≤ 12 → dOC fc fd p n ≤ b + 1
  | 0, _ => Nat.zero_le _
  | n + 1, hn => by
    have h1 := dOC_le (fc := fc) (p := p) h n (by omega)
    have h2 := h n (by omega)
    unfold dOC
    split <;> omega
theorem dOC_cong {fc f g : Nat → Nat} {p : Nat} (h : ∀ j, j < 12 → f j = g j) : ∀ n, n ≤ 12 → dOC fc f p n = dOC fc g p n
  | 0, _ => rfl
  | n + 1, hn => by
    have h1 := dOC_cong (fc := fc) (p := p) h n (by omega)
    have h2 := h n (by omega)
    unfold dOC
    rw [h1, h2]
theorem eOC_cong {fc fo f g : Nat → Nat} {p : Nat} (h : ∀ j, j < 12 → f j = g j) : ∀ n, n ≤ 12 → eOC fc fo f p n = eOC fc fo g p n
  | 0, _ => rfl
  | n + 1, hn => by
    have h1 := eOC_cong (fc := fc) (fo := fo) (p := p) h n (by omega)
    have h2 := h n (by omega)
    unfold eOC
    rw [h1, h2]
theorem upz_agree {f g : Nat → Nat} {i x : Nat} {N : Nat} (h : ∀ j, j < N → f j = g j) : ∀ j, j < N → upz f i x j = upz g i x j := fun j hj => by
  by_cases q : j = i
  · subst q; rw [upz_eq, upz_eq]
  · rw [upz_ne q, upz_ne q]; exact h j hj
theorem upz_below {f : Nat → Nat} {i x N b : Nat} (h : ∀ j, j < N → f j ≤ b) (hx : x ≤ b + 1) : ∀ j, j < N → upz f i x j ≤ b + 1 := fun j hj => by
  by_cases q : j = i
  · subst q; rw [upz_eq]; exact hx
  · rw [upz_ne q]; exact Nat.le_succ_of_le (h j hj)
theorem eOC_le {fc fo fx : Nat → Nat} {p : Nat} (h1 : ∀ j, fc j ≤ 30) (h2 : ∀ j, fo j ≤ 30) (h3 : ∀ j, fx j ≤ 101) : ∀ n, eOC fc fo fx p n ≤ 30 + n * 3030
  | 0 => by show fo p ≤ _; have := h2 p; omega
  | n + 1 => by
    have i1 := eOC_le (p := p) h1 h2 h3 n
    have i2 : fc (12 * p + n) * fx n ≤ 30 * 101 := Nat.mul_le_mul (h1 _) (h3 _)
    show eOC fc fo fx p n + fc (12 * p + n) * fx n ≤ _
    omega
theorem sE_lt {fc : Nat → Nat} {p : Nat} : ∀ n, sE fc p n < 2 ^ n
  | 0 => Nat.one_pos
  | n + 1 => by
    have h := sE_lt (fc := fc) (p := p) n
    have h3 : 2 ^ (n + 1) = 2 ^ n * 2 := Nat.pow_succ 2 n
    refine Nat.or_lt_two_pow (by omega) ?_
    split
    · omega
    · exact Nat.two_pow_pos _
def ccn (q : Nat) : List Pc3 → Nat
  | [] => 0
  | p :: ps => (if (p.1 = 4 ∨ p.1 = 5) ∧ p.2.1 = q then 1 else 0) + ccn q ps
def oxn : List Pc3 → Nat
  | [] => 0
  | p :: ps => (if p.1 < 4 then 1 else 0) + oxn ps
theorem ccn_app (q : Nat) : ∀ (ps qs : List Pc3), ccn q (ps ++ qs) = ccn q ps + ccn q qs
  | [], qs => (Nat.zero_add _).symm
  | p :: ps, qs => by
    show _ + ccn q (ps ++ qs) = _ + ccn q ps + ccn q qs
    rw [ccn_app q ps qs, Nat.add_assoc]
theorem oxn_app : ∀ (ps qs : List Pc3), oxn (ps ++ qs) = oxn ps + oxn qs
  | [], qs => (Nat.zero_add _).symm
  | p :: ps, qs => by
    show _ + oxn (ps ++ qs) = _ + oxn ps + oxn qs
    rw [oxn_app ps qs, Nat.add_assoc]
theorem ccn_le (q : Nat) : ∀ (ps : List Pc3), ccn q ps ≤ ps.length
  | [] => Nat.le_refl 0
  | p :: ps => by
    have h := ccn_le q ps
    show (if (p.1 = 4 ∨ p.1 = 5) ∧ p.2.1 = q then 1 else 0) + ccn q ps ≤ ps.length + 1
    split <;> omega
theorem oxn_le : ∀ (ps : List Pc3), oxn ps ≤ ps.length
  | [] => Nat.le_refl 0
  | p :: ps => by
    have h := oxn_le ps
    show (if p.1 < 4 then 1 else 0) + oxn ps ≤ ps.length + 1
    split <;> omega
theorem ccn_take {ps : List Pc3} {i : Nat} (q : Nat) (h : i < ps.length) : ccn q (ps.take (i + 1)) = ccn q (ps.take i) + (if ((pcs ps i).1 = 4 ∨ (pcs ps i).1 = 5) ∧ (pcs ps i).2.1 = q then 1 else 0) := by
  rw [pcs_take h, ccn_app]; rfl
theorem oxn_take {ps : List Pc3} {i : Nat} (h : i < ps.length) : oxn (ps.take (i + 1)) = oxn (ps.take i) + (if (pcs ps i).1 < 4 then 1 else 0) := by
  rw [pcs_take h, oxn_app]; rfl
theorem oxn_takele (ps : List Pc3) (i : Nat) : oxn (ps.take i) ≤ i := Nat.le_trans (oxn_le _) (by rw [List.length_take]; omega)
theorem ccn_takele (q : Nat) (ps : List Pc3) (i : Nat) : ccn q (ps.take i) ≤ i := Nat.le_trans (ccn_le q _) (by rw [List.length_take]; omega)
