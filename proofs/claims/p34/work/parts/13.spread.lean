/-- an item that a page can show: what it needs, its sort, its value, its source -/
abbrev It4 : Type := Int × Int × Int × Int
def ItV (p : It4) : Prop := (-1 ≤ p.1 ∧ p.1 ≤ 25) ∧ ((0 ≤ p.2.1 ∧ p.2.1 ≤ 2 ∧ 0 ≤ p.2.2.1 ∧ p.2.2.1 ≤ 119 ∧ (p.2.1 ≠ 1 ∨ p.2.2.1 ≤ 9)) ∨ (p.2.1 = 3 ∧ p.2.2.1 = -1)) ∧ 0 ≤ p.2.2.2 ∧ p.2.2.2 ≤ 11
def it4 (ps : List It4) (i : Nat) : It4 := ps.getD i (0, 0, 0, 0)
theorem it4_mem {ps : List It4} {i : Nat} (h : i < ps.length) : it4 ps i ∈ ps := by
  unfold it4
  rw [List.getD_eq_getElem?_getD, List.getElem?_eq_getElem h]
  exact List.getElem_mem h
theorem it4_app_lo {ps qs : List It4} {i : Nat} (h : i < ps.length) : it4 (ps ++ qs) i = it4 ps i := by
  unfold it4
  rw [List.getD_eq_getElem?_getD, List.getD_eq_getElem?_getD, List.getElem?_append_left h]
theorem it4_app_at {ps : List It4} {p : It4} : it4 (ps ++ [p]) ps.length = p := by
  unfold it4
  rw [List.getD_eq_getElem?_getD, List.getElem?_append_right (Nat.le_refl _), Nat.sub_self]
  rfl
theorem it4_take {ps : List It4} {i : Nat} (h : i < ps.length) : ps.take (i + 1) = ps.take i ++ [it4 ps i] := by
  rw [List.take_succ, List.getElem?_eq_getElem h]
  unfold it4
  rw [List.getD_eq_getElem?_getD, List.getElem?_eq_getElem h]
  rfl
abbrev shw (p : It4) (arg : Int) : Prop := (p.1 = -1 ∨ p.1 = arg) ∧ (arg ≠ -1 ∨ p.2.1 ≠ 3)
def shwb (arg : Int) (p : It4) : Bool := (p.1 == -1 || p.1 == arg) && (arg != -1 || p.2.1 != 3)
theorem shwb_iff {p : It4} {arg : Int} : shwb arg p = true ↔ shw p arg := by simp [shwb, shw]
def isrt (p : It4) : Int := if p.2.1 = 3 then 0 else p.2.1
def iwth (p : It4) (arg : Int) : Int := if p.2.1 = 3 then arg else p.2.2.1
def tog (a b : Int) : Int := if a = -1 ∨ a = b then b else if b = -1 then a else -2
def ndo (os : List Int) : Int := os.getLastD (-1)
def sadd (its : List It4) (p : It4) : List It4 := if p.1 = -2 ∨ 100 ≤ its.length then its else its ++ [p]
theorem ndo_app (os : List Int) (x : Int) : ndo (os ++ [x]) = x := by simp [ndo, List.getLastD_eq_getLast?]
theorem ndo_nil : ndo [] = -1 := rfl
theorem ndo_at {os : List Int} (h : 0 < os.length) : ndo os = os.getD (os.length - 1) 0 := by
  obtain ⟨x, hx⟩ : ∃ x, os[os.length - 1]? = some x := ⟨_, List.getElem?_eq_getElem (by omega)⟩
  unfold ndo
  rw [List.getLastD_eq_getLast?, List.getLast?_eq_getElem?, hx, List.getD_eq_getElem?_getD, hx]
  rfl
theorem tog_R {a b : Int} (ha : -2 ≤ a ∧ a ≤ 25) (hb : -2 ≤ b ∧ b ≤ 25) : -2 ≤ tog a b ∧ tog a b ≤ 25 := by
  unfold tog
  split
  · exact hb
  · split
    · exact ha
    · decide
/-- the set of the anchors that are shown with no argument, as a number -/
def anb (p : It4) : Nat := if p.1 = -1 ∧ p.2.1 = 1 then 2 ^ p.2.2.1.toNat else 0
def anv (its : List It4) : Nat := its.foldl (fun m p => m ||| anb p) 0
theorem anv_app (its : List It4) (p : It4) : anv (its ++ [p]) = anv its ||| anb p := by
  unfold anv
  rw [List.foldl_append]; rfl
theorem anb_no {x1 x2 x3 x4 : Int} (h : ¬ (x1 = -1 ∧ x2 = 1)) : anb (x1, x2, x3, x4) = 0 := if_neg h
theorem anb_yes {x1 x2 x4 : Int} {n : Nat} (h1 : x1 = -1) (h2 : x2 = 1) : anb (x1, x2, (n : Int), x4) = 2 ^ n := if_pos ⟨h1, h2⟩
theorem anb_lt {p : It4} (h : ItV p) : anb p < 2 ^ 10 := by
  unfold anb ItV at *
  split
  · exact Nat.pow_lt_pow_right (by decide) (by omega)
  · decide
theorem anv_lt0 : ∀ (its : List It4) (m : Nat), m < 2 ^ 10 → (∀ p ∈ its, ItV p) → its.foldl (fun m p => m ||| anb p) m < 2 ^ 10
  | [], m, h, _ => h
  | p :: ps, m, h, hv => anv_lt0 ps (m ||| anb p) (Nat.or_lt_two_pow h (anb_lt (hv p List.mem_cons_self))) (fun q hq => hv q (List.mem_cons_of_mem _ hq))
theorem anv_lt {its : List It4} (h : ∀ p ∈ its, ItV p) : anv its < 2 ^ 10 := anv_lt0 its 0 (by decide) h
theorem anv_bit0 (g : Nat) : ∀ (its : List It4) (m : Nat), (its.foldl (fun m p => m ||| anb p) m).testBit g = true ↔ m.testBit g = true ∨ ∃ p ∈ its, (anb p).testBit g = true
  | [], m => by simp
  | p :: ps, m => by
    show (ps.foldl (fun m p => m ||| anb p) (m ||| anb p)).testBit g = true ↔ _
    rw [anv_bit0 g ps, Nat.testBit_or, Bool.or_eq_true]
    simp only [List.mem_cons, exists_eq_or_imp, or_assoc]
theorem anb_bit {p : It4} {g : Nat} : (anb p).testBit g = true ↔ (p.1 = -1 ∧ p.2.1 = 1) ∧ p.2.2.1.toNat = g := by
  unfold anb
  split
  · rename_i h
    rw [Nat.testBit_two_pow]
    simp [h]
  · rename_i h
    simp [h]
theorem anv_bit {its : List It4} (h : ∀ p ∈ its, ItV p) {g : Int} (hg : 0 ≤ g) : (anv its).testBit g.toNat = true ↔ ∃ i, i < its.length ∧ (shw (it4 its i) (-1) ∧ isrt (it4 its i) = 1) ∧ iwth (it4 its i) (-1) = g := by
  unfold anv
  rw [anv_bit0]
  constructor
  · rintro (q | ⟨p, hp, q⟩)
    · rw [Nat.zero_testBit] at q; cases q
    · obtain ⟨⟨q1, q2⟩, q3⟩ := anb_bit.mp q
      obtain ⟨i, hi, e⟩ := List.mem_iff_getElem.mp hp
      have hv := h p hp
      have e2 : it4 its i = p := by unfold it4; rw [List.getD_eq_getElem?_getD, List.getElem?_eq_getElem hi]; exact e
      unfold ItV at hv
      refine ⟨i, hi, ?_⟩
      rw [e2]
      unfold isrt iwth
      rw [if_neg (by omega), if_neg (by omega)]
      exact ⟨⟨⟨Or.inl q1, Or.inr (by omega)⟩, q2⟩, by omega⟩
  · rintro ⟨i, hi, ⟨⟨q1, q2⟩, q3⟩, q4⟩
    refine Or.inr ⟨it4 its i, it4_mem hi, anb_bit.mpr ?_⟩
    unfold isrt at q3
    unfold iwth at q4
    split at q3
    · omega
    · rename_i z
      rw [if_neg z] at q4
      exact ⟨⟨by omega, q3⟩, by omega⟩
def spO (n s v c o : Nat) (k b m : Int) : va_E := .inr (2, [.ref n, .ref s, .ref v, .ref c, .int (Z32 k), .int (Z32 b), .ref o, .int (Z32 m)])
/-- a spread at the roles r .. r + 5 -/
def SpT (D : gD) (w : wW) (τ : Nat → Nat) (r a n s v c o : Nat) (its : List It4) (os : List Int) : Prop := τ a = r ∧ τ n = r + 1 ∧ τ s = r + 2 ∧ τ v = r + 3 ∧ τ c = r + 4 ∧ τ o = r + 5 ∧ w a = some (spO n s v c o its.length (anv its) os.length) ∧ its.length ≤ 100 ∧ os.length ≤ 30 ∧ (∀ p ∈ its, ItV p) ∧ (∀ x ∈ os, -2 ≤ x ∧ x ≤ 25) ∧ ∃ fn fs fv fc fo : Nat → Int, w n = some (iar D 100 fn) ∧ w s = some (iar D 100 fs) ∧ w v = some (iar D 100 fv) ∧ w c = some (iar D 100 fc) ∧ w o = some (iar D 30 fo) ∧ (∀ i, i < its.length → (fn i, fs i, fv i, fc i) = it4 its i) ∧ ∀ i, i < os.length → fo i = os.getD i 0
theorem SpT.kept {D : gD} {w w1 : wW} {τ : Nat → Nat} {r a n s v c o : Nat} {its : List It4} {os : List Int} (h : SpT D w τ r a n s v c o its os) (hk : ∀ q, r ≤ τ q → τ q < r + 6 → w1 q = w q) : SpT D w1 τ r a n s v c o its os := by
  obtain ⟨t1, t2, t3, t4, t5, t6, k1, b1, b2, b3, b4, fn, fs, fv, fc, fo, k2, k3, k4, k5, k6, z1, z2⟩ := h
  exact ⟨t1, t2, t3, t4, t5, t6, by rw [hk _ (by omega) (by omega)]; exact k1, b1, b2, b3, b4, fn, fs, fv, fc, fo, by rw [hk _ (by omega) (by omega)]; exact k2, by rw [hk _ (by omega) (by omega)]; exact k3, by rw [hk _ (by omega) (by omega)]; exact k4, by rw [hk _ (by omega) (by omega)]; exact k5, by rw [hk _ (by omega) (by omega)]; exact k6, z1, z2⟩
theorem SpT.off {D : gD} {w w1 : wW} {τ : Nat → Nat} {r a n s v c o lo hi : Nat} {its : List It4} {os : List Int} (h : SpT D w τ r a n s v c o its os) (hk : offR τ w w1 lo hi) (hr : hi ≤ r ∨ r + 6 ≤ lo) : SpT D w1 τ r a n s v c o its os := h.kept (fun q h1 h2 => hk q (by omega))
theorem SpT.nd {D : gD} {w : wW} {τ : Nat → Nat} {r a n s v c o : Nat} {its : List It4} {os : List Int} (h : SpT D w τ r a n s v c o its os) : -2 ≤ ndo os ∧ ndo os ≤ 25 := by
  by_cases q : 0 < os.length
  · rw [ndo_at q]
    refine h.2.2.2.2.2.2.2.2.2.2.1 _ ?_
    rw [List.getD_eq_getElem?_getD, List.getElem?_eq_getElem (by omega)]
    exact List.getElem_mem _
  · have : os = [] := List.length_eq_zero_iff.mp (by omega)
    subst this
    decide
theorem SpT_add {D : gD} {w w1 : wW} {τ : Nat → Nat} {r a n s v c o : Nat} {its : List It4} {os : List Int} {fn fs fv fc fo : Nat → Int} {x1 x2 x3 x4 : Int} (t1 : τ a = r) (t2 : τ n = r + 1) (t3 : τ s = r + 2) (t4 : τ v = r + 3) (t5 : τ c = r + 4) (t6 : τ o = r + 5) (b2 : os.length ≤ 30) (b3 : ∀ p ∈ its, ItV p) (b4 : ∀ x ∈ os, -2 ≤ x ∧ x ≤ 25) (z1 : ∀ i, i < its.length → (fn i, fs i, fv i, fc i) = it4 its i) (z2 : ∀ i, i < os.length → fo i = os.getD i 0)
    (hlen : its.length < 100) (h2 : x1 ≠ -2) (hv : ItV (x1, x2, x3, x4)) {mm : Nat} (hmm : mm = anv its ||| anb (x1, x2, x3, x4)) (k1 : w1 a = some (spO n s v c o (its.length + 1) mm os.length)) (k2 : w1 n = some (iar D 100 (upz fn its.length x1))) (k3 : w1 s = some (iar D 100 (upz fs its.length x2))) (k4 : w1 v = some (iar D 100 (upz fv its.length x3))) (k5 : w1 c = some (iar D 100 (upz fc its.length x4))) (k6 : w1 o = some (iar D 30 fo)) (ko : offR τ w w1 r (r + 6)) : (none : Option Value) = none ∧ SpT D w1 τ r a n s v c o (sadd its (x1, x2, x3, x4)) os ∧ offR τ w w1 r (r + 6) := by
  have e : sadd its (x1, x2, x3, x4) = its ++ [(x1, x2, x3, x4)] := if_neg (by rintro (q | q); exact h2 q; omega)
  rw [e]
  refine ⟨rfl, ⟨t1, t2, t3, t4, t5, t6, ?_, ?_, b2, ?_, b4, _, _, _, _, fo, k2, k3, k4, k5, k6, ?_, z2⟩, ko⟩
  · rw [k1, List.length_append, anv_app, ← hmm]; rfl
  · rw [List.length_append]; show its.length + 1 ≤ 100; omega
  · intro p hp
    rcases List.mem_append.mp hp with h | h
    · exact b3 p h
    · rw [List.mem_singleton.mp h]; exact hv
  · intro i hi
    rw [List.length_append] at hi
    by_cases hq : i = its.length
    · subst hq
      rw [upz_eq, upz_eq, upz_eq, upz_eq, it4_app_at]
    · have hi2 : i < its.length := by simp at hi; omega
      rw [upz_ne hq, upz_ne hq, upz_ne hq, upz_ne hq, it4_app_lo hi2]
      exact z1 i hi2
def shc (arg : Int) : List It4 → Nat
  | [] => 0
  | p :: ps => (if shw p arg then 1 else 0) + shc arg ps
theorem shc_app (arg : Int) : ∀ (ps qs : List It4), shc arg (ps ++ qs) = shc arg ps + shc arg qs
  | [], qs => (Nat.zero_add _).symm
  | p :: ps, qs => by
    show _ + shc arg (ps ++ qs) = _ + shc arg ps + shc arg qs
    rw [shc_app arg ps qs, Nat.add_assoc]
theorem shc_take {ps : List It4} {i : Nat} (arg : Int) (h : i < ps.length) : shc arg (ps.take (i + 1)) = shc arg (ps.take i) + (if shw (it4 ps i) arg then 1 else 0) := by
  rw [it4_take h, shc_app]; rfl
theorem shc_le (arg : Int) : ∀ (ps : List It4), shc arg ps ≤ ps.length
  | [] => Nat.le_refl 0
  | p :: ps => by
    have h := shc_le arg ps
    show (if shw p arg then 1 else 0) + shc arg ps ≤ ps.length + 1
    split <;> omega
def tkC (nd arg : Int) (its : List It4) (qs : List It4) : List It4 := qs.foldl (fun acc p => if shw p arg then sadd acc (nd, isrt p, iwth p arg, p.2.2.2) else acc) its
def tkO (nd : Int) (its : List It4) (qs : List It4) : List It4 := qs.foldl (fun acc p => sadd acc (tog nd p.1, p.2.1, p.2.2.1, p.2.2.2)) its
theorem tkC_take {nd arg : Int} {its qs : List It4} {i : Nat} (h : i < qs.length) : tkC nd arg its (qs.take (i + 1)) = if shw (it4 qs i) arg then sadd (tkC nd arg its (qs.take i)) (nd, isrt (it4 qs i), iwth (it4 qs i) arg, (it4 qs i).2.2.2) else tkC nd arg its (qs.take i) := by
  unfold tkC
  rw [it4_take h, List.foldl_append]; rfl
theorem tkO_take {nd : Int} {its qs : List It4} {i : Nat} (h : i < qs.length) : tkO nd its (qs.take (i + 1)) = sadd (tkO nd its (qs.take i)) (tog nd (it4 qs i).1, (it4 qs i).2.1, (it4 qs i).2.2.1, (it4 qs i).2.2.2) := by
  unfold tkO
  rw [it4_take h, List.foldl_append]; rfl
