def uDr (σ : Sg) (d : List Pc3) : Sg := (d, σ.2)
def rdr (ps : List Pc3) : Prop := ps.length = 1 ∧ (pcs ps 0).1 = 8
def rdrb (ps : List Pc3) : Bool := ps.length == 1 && (pcs ps 0).1 == 8
theorem rdrb_iff {ps : List Pc3} : rdrb ps = true ↔ (ps.length = 1 ∧ (pcs ps 0).1 = 8) := by simp [rdrb]
/-- for which page a page stands, with so many looks -/
def stN (T : Nat → List Pc3) : Nat → Nat → Int
  | 0, _ => -1
  | n + 1, p => if rdrb (T p) = true then stN T n (pcs (T p) 0).2.1.toNat else p
def stT (T : Nat → List Pc3) (p : Nat) : Int := stN T 4 p
def ancb (x : Int) (its : List It4) : Bool := its.any (fun p => shwb (-1) p && isrt p == 1 && iwth p (-1) == x)
def goodb (T : Nat → List Pc3) (k : Int) : Bool := if stT T (k / 10).toNat = -1 then false else ancb (k % 10) (sprT T (stT T (k / 10).toNat).toNat)
def cnb (f : It4 → Bool) : List It4 → Nat
  | [] => 0
  | p :: ps => (if f p = true then 1 else 0) + cnb f ps
theorem cnb_app (f : It4 → Bool) : ∀ (ps qs : List It4), cnb f (ps ++ qs) = cnb f ps + cnb f qs
  | [], qs => (Nat.zero_add _).symm
  | p :: ps, qs => by
    show _ + cnb f (ps ++ qs) = _ + cnb f ps + cnb f qs
    rw [cnb_app f ps qs, Nat.add_assoc]
theorem cnb_take {ps : List It4} {i : Nat} (f : It4 → Bool) (h : i < ps.length) : cnb f (ps.take (i + 1)) = cnb f (ps.take i) + (if f (it4 ps i) = true then 1 else 0) := by
  rw [it4_take h, cnb_app]; rfl
theorem cnb_le (f : It4 → Bool) : ∀ (ps : List It4), cnb f ps ≤ ps.length
  | [] => Nat.le_refl 0
  | p :: ps => by
    have h := cnb_le f ps
    show (if f p = true then 1 else 0) + cnb f ps ≤ ps.length + 1
    split <;> omega
theorem cnb_takele (f : It4 → Bool) (ps : List It4) (i : Nat) : cnb f (ps.take i) ≤ i := Nat.le_trans (cnb_le f _) (by rw [List.length_take]; omega)
def isl (p : It4) : Bool := shwb (-1) p && isrt p == 2
theorem isl_iff {p : It4} : isl p = true ↔ (shw p (-1) ∧ isrt p = 2) := by unfold isl; rw [Bool.and_eq_true, shwb_iff, beq_iff_eq]
def badb (T : Nat → List Pc3) (p : It4) : Bool := isl p && !goodb T (iwth p (-1))
def fbk (T : Nat → List Pc3) : List It4 → Int
  | [] => -1
  | p :: ps => if badb T p = true then iwth p (-1) else fbk T ps
theorem it4_cons {p : It4} {ps : List It4} {i : Nat} : it4 (p :: ps) (i + 1) = it4 ps i := by
  unfold it4
  rw [List.getD_eq_getElem?_getD, List.getD_eq_getElem?_getD, List.getElem?_cons_succ]
theorem fbk_at {T : Nat → List Pc3} : ∀ (ps : List It4) (i : Nat), i < ps.length → badb T (it4 ps i) = true → (∀ j, j < i → ¬ badb T (it4 ps j) = true) → fbk T ps = iwth (it4 ps i) (-1)
  | [], i, h, _, _ => absurd h (Nat.not_lt_zero _)
  | p :: ps, 0, _, h, _ => if_pos h
  | p :: ps, i + 1, h, hb, hn => by
    have h0 : ¬ badb T p = true := hn 0 (by omega)
    have ih := fbk_at ps i (by simpa using h) (by rw [← it4_cons (p := p)]; exact hb) (fun j hj => by rw [← it4_cons (p := p)]; exact hn (j + 1) (by omega))
    show (if badb T p = true then _ else fbk T ps) = _
    rw [if_neg h0, ih, it4_cons]
theorem fbk_no {T : Nat → List Pc3} : ∀ (ps : List It4), (∀ j, j < ps.length → ¬ badb T (it4 ps j) = true) → fbk T ps = -1
  | [], _ => rfl
  | p :: ps, hn => by
    have h0 : ¬ badb T p = true := hn 0 (by simp)
    show (if badb T p = true then _ else fbk T ps) = _
    rw [if_neg h0]
    exact fbk_no ps (fun j hj => by rw [← it4_cons (p := p)]; exact hn (j + 1) (by simpa using hj))
theorem any_it4 {f : It4 → Bool} {ps : List It4} : ps.any f = true ↔ ∃ i, i < ps.length ∧ f (it4 ps i) = true := by
  rw [List.any_eq_true]
  constructor
  · rintro ⟨p, hp, h⟩
    obtain ⟨i, hi, rfl⟩ := List.mem_iff_getElem.mp hp
    refine ⟨i, hi, ?_⟩
    unfold it4
    rw [List.getD_eq_getElem?_getD, List.getElem?_eq_getElem hi]
    exact h
  · rintro ⟨i, hi, h⟩
    exact ⟨_, it4_mem hi, h⟩
theorem ancb_iff {x : Int} {its : List It4} : ancb x its = true ↔ ∃ i, i < its.length ∧ (shw (it4 its i) (-1) ∧ isrt (it4 its i) = 1) ∧ iwth (it4 its i) (-1) = x := by
  unfold ancb
  rw [any_it4]
  constructor
  · rintro ⟨i, hi, h⟩
    rw [Bool.and_eq_true, Bool.and_eq_true, shwb_iff, beq_iff_eq, beq_iff_eq] at h
    exact ⟨i, hi, h⟩
  · rintro ⟨i, hi, h⟩
    exact ⟨i, hi, by rw [Bool.and_eq_true, Bool.and_eq_true, shwb_iff, beq_iff_eq, beq_iff_eq]; exact h⟩
def leadb (T : Nat → List Pc3) (p : Nat) (k : Int) : Bool := k / 10 == (p : Int) || stT T (k / 10).toNat == (p : Int)
def lfb (T : Nat → List Pc3) (p f : Nat) : Bool := (sprT T f).any (fun q => isl q && leadb T p (iwth q (-1)) && goodb T (iwth q (-1)))
def lfs (T : Nat → List Pc3) (p : Nat) : Nat → Nat
  | 0 => 0
  | n + 1 => if lfb T p n = true then lfs T p n ||| 2 ^ n else lfs T p n
theorem lfs_lt {T : Nat → List Pc3} {p : Nat} : ∀ n, lfs T p n < 2 ^ n
  | 0 => Nat.one_pos
  | n + 1 => by
    have h := lfs_lt (T := T) (p := p) n
    have h3 : 2 ^ (n + 1) = 2 ^ n * 2 := Nat.pow_succ 2 n
    have h4 := Nat.two_pow_pos n
    unfold lfs
    split
    · exact Nat.or_lt_two_pow (by omega) (by omega)
    · omega
def brb (σ : Sg) (p : Nat) (q : It4) : Bool := shwb (-1) q && decide (sRk σ q.2.2.2.toNat (sNv σ q.2.2.2.toNat) < sLk σ p)
def brc (σ : Sg) (p : Nat) : Nat := cnb (brb σ p) (sprT (sT σ) p)
def brs (σ : Sg) : Nat → Nat
  | 0 => 0
  | n + 1 => if 0 < brc σ n then brs σ n + 1 else brs σ n
theorem brs_le (σ : Sg) : ∀ n, brs σ n ≤ n
  | 0 => Nat.le_refl 0
  | n + 1 => by
    have h := brs_le σ n
    unfold brs
    split <;> omega
theorem txOK_push {d : List Pc3} {p : Pc3} (h : txOK d) (hp : PV p) (hl : d.length < 30) (ho : 0 ≤ owc d + dow p.1) : txOK (d ++ [p]) := by
  obtain ⟨h1, h2, h3⟩ := h
  refine ⟨fun q hq => ?_, h2.app ho, ?_⟩
  · rcases List.mem_append.mp hq with z | z
    · exact h1 q z
    · rw [List.mem_singleton.mp z]; exact hp
  · rw [List.length_append]; show d.length + 1 ≤ 30; omega
theorem WkI.draft {D : gD} {w w1 : wW} {τ ad : Nat → Nat} {nb tb : Nat} {σ : Sg} {d : List Pc3} (h : WkI D w τ ad nb tb σ) (hT : TxD D w1 τ ad 3 d) (hd : txOK d) (ho : offR τ w w1 3 7) : WkI D w1 τ ad nb tb (uDr σ d) := by
  obtain ⟨⟨s1, s2, s3⟩, hn, ha, hp, hs, hv⟩ := h
  have ha0 := ha.1
  refine ⟨⟨hd, s2, s3⟩, hn.kept ha0 (fun q hq => ho q (by omega)), ?_, hp.kept (fun q h1 h2 => ho q (by omega)), hs.kept (fun q h1 h2 => ho q (by omega)), hv.kept (fun p hp => (s2 p hp).1) (fun q h1 h2 => ho q (by omega))⟩
  obtain ⟨a0, a1, a2, ⟨pf, b1, b2⟩, ⟨uf, c1, c2⟩, d1⟩ := ha
  exact ⟨a0, a1, a2, ⟨pf, by rw [ho _ (by omega)]; exact b1, b2⟩, ⟨uf, by rw [ho _ (by omega)]; exact c1, c2⟩, hT⟩
