/-- a piece: its sort, its page, its sign -/
abbrev Pc3 : Type := Int × Int × Int
def PV (p : Pc3) : Prop := (p.1 = 0 ∧ p.2.1 = -1 ∧ 0 ≤ p.2.2 ∧ p.2.2 ≤ 25) ∨ (p.1 = 1 ∧ p.2.1 = -1 ∧ 0 ≤ p.2.2 ∧ p.2.2 ≤ 9) ∨ (p.1 = 2 ∧ 0 ≤ p.2.1 ∧ p.2.1 ≤ 11 ∧ 0 ≤ p.2.2 ∧ p.2.2 ≤ 9) ∨ (p.1 = 3 ∧ p.2.1 = -1 ∧ p.2.2 = -1) ∨ (p.1 = 4 ∧ 0 ≤ p.2.1 ∧ p.2.1 ≤ 11 ∧ -1 ≤ p.2.2 ∧ p.2.2 ≤ 25) ∨ (p.1 = 5 ∧ 0 ≤ p.2.1 ∧ p.2.1 ≤ 11 ∧ p.2.2 = -1) ∨ (p.1 = 6 ∧ p.2.1 = -1 ∧ 0 ≤ p.2.2 ∧ p.2.2 ≤ 25) ∨ (p.1 = 7 ∧ p.2.1 = -1 ∧ p.2.2 = -1) ∨ (p.1 = 8 ∧ 0 ≤ p.2.1 ∧ p.2.1 ≤ 11 ∧ p.2.2 = -1)
theorem PV.R {p : Pc3} (h : PV p) : 0 ≤ p.1 ∧ p.1 ≤ 8 ∧ -1 ≤ p.2.1 ∧ p.2.1 ≤ 11 ∧ -1 ≤ p.2.2 ∧ p.2.2 ≤ 25 := by unfold PV at h; omega
def pcs (ps : List Pc3) (i : Nat) : Pc3 := ps.getD i (0, 0, 0)
def dow (s : Int) : Int := if s = 6 then 1 else if s = 7 then -1 else 0
theorem pcs_mem {ps : List Pc3} {i : Nat} (h : i < ps.length) : pcs ps i ∈ ps := by
  unfold pcs
  rw [List.getD_eq_getElem?_getD, List.getElem?_eq_getElem h]
  exact List.getElem_mem h
theorem pcs_app_lo {ps qs : List Pc3} {i : Nat} (h : i < ps.length) : pcs (ps ++ qs) i = pcs ps i := by
  unfold pcs
  rw [List.getD_eq_getElem?_getD, List.getD_eq_getElem?_getD, List.getElem?_append_left h]
theorem pcs_app_at {ps : List Pc3} {p : Pc3} : pcs (ps ++ [p]) ps.length = p := by
  unfold pcs
  rw [List.getD_eq_getElem?_getD, List.getElem?_append_right (Nat.le_refl _), Nat.sub_self]
  rfl
def owc : List Pc3 → Int
  | [] => 0
  | p :: ps => dow p.1 + owc ps
theorem owc_app : ∀ (ps qs : List Pc3), owc (ps ++ qs) = owc ps + owc qs
  | [], qs => (Int.zero_add _).symm
  | p :: ps, qs => by
    show dow p.1 + owc (ps ++ qs) = dow p.1 + owc ps + owc qs
    rw [owc_app ps qs, Int.add_assoc]
theorem dow_le (s : Int) : -1 ≤ dow s ∧ dow s ≤ 1 := by
  unfold dow
  split
  · decide
  · split <;> decide
theorem owc_le : ∀ (ps : List Pc3), owc ps ≤ ps.length
  | [] => Int.le_refl 0
  | p :: ps => by
    have h := owc_le ps
    have h1 := dow_le p.1
    show dow p.1 + owc ps ≤ ((ps.length + 1 : Nat) : Int)
    omega
/-- no END ahead of its WHEN -/
def OWp (ps : List Pc3) : Prop := ∀ k, 0 ≤ owc (ps.take k)
theorem OWp.all {ps : List Pc3} (h : OWp ps) : 0 ≤ owc ps := by
  have := h ps.length
  rwa [List.take_length] at this
theorem OWp.nil : OWp [] := fun k => by rw [List.take_nil]; exact Int.le_refl 0
theorem OWp.app {ps : List Pc3} (h : OWp ps) {p : Pc3} (h2 : 0 ≤ owc ps + dow p.1) : OWp (ps ++ [p]) := fun k => by
  by_cases hk : k ≤ ps.length
  · rw [List.take_append_of_le_length hk]; exact h k
  · rw [List.take_of_length_le (by rw [List.length_append]; show ps.length + 1 ≤ k; omega), owc_app]
    show 0 ≤ owc ps + (dow p.1 + 0)
    omega
theorem OWp.take {ps : List Pc3} (h : OWp ps) (i : Nat) : OWp (ps.take i) := fun k => by rw [List.take_take]; exact h _
theorem pcs_take {ps : List Pc3} {i : Nat} (h : i < ps.length) : ps.take (i + 1) = ps.take i ++ [pcs ps i] := by
  rw [List.take_succ, List.getElem?_eq_getElem h]
  unfold pcs
  rw [List.getD_eq_getElem?_getD, List.getElem?_eq_getElem h]
  rfl
theorem owc_take {ps : List Pc3} {i : Nat} (h : i < ps.length) : owc (ps.take (i + 1)) = owc (ps.take i) + dow (pcs ps i).1 := by
  rw [pcs_take h, owc_app]
  show owc (ps.take i) + (dow (pcs ps i).1 + 0) = _
  omega
theorem wset_none {w : wW} {a q : Nat} {e : va_E} (h : wset w a e q = none) : q ≠ a ∧ w q = none := by
  by_cases hq : q = a
  · subst hq; rw [wset_eq] at h; cases h
  · exact ⟨hq, by rwa [wset_ne hq] at h⟩
/-- a text at the roles r .. r + 3: the thing, its three rows -/
def txO (a b c : Nat) (sz ow : Int) : va_E := .inr (3, [.ref a, .ref b, .ref c, .int (Z32 sz), .int (Z32 ow)])
def TxT (D : gD) (w : wW) (τ : Nat → Nat) (r t a b c : Nat) (ps : List Pc3) : Prop := τ t = r ∧ τ a = r + 1 ∧ τ b = r + 2 ∧ τ c = r + 3 ∧ w t = some (txO a b c ps.length (owc ps)) ∧ ps.length ≤ 30 ∧ OWp ps ∧ (∀ p ∈ ps, PV p) ∧ ∃ fs fp fg : Nat → Int, w a = some (iar D 30 fs) ∧ w b = some (iar D 30 fp) ∧ w c = some (iar D 30 fg) ∧ ∀ i, i < ps.length → (fs i, fp i, fg i) = pcs ps i
/-- the roles lo .. hi - 1 alone may have changed -/
def offR (τ : Nat → Nat) (w w1 : wW) (lo hi : Nat) : Prop := ∀ q, (τ q < lo ∨ hi ≤ τ q) → w1 q = w q
theorem offR.rf {τ : Nat → Nat} {w : wW} {lo hi : Nat} : offR τ w w lo hi := fun _ _ => rfl
theorem offR.trans {τ : Nat → Nat} {w w1 w2 : wW} {lo hi : Nat} (h : offR τ w w1 lo hi) (h2 : offR τ w1 w2 lo hi) : offR τ w w2 lo hi := fun q hq => (h2 q hq).trans (h q hq)
theorem offR.wide {τ : Nat → Nat} {w w1 : wW} {lo hi lo' hi' : Nat} (h : offR τ w w1 lo hi) (h1 : lo' ≤ lo) (h2 : hi ≤ hi') : offR τ w w1 lo' hi' := fun q hq => h q (by omega)
theorem offR.put {τ : Nat → Nat} {w w1 : wW} {lo hi a : Nat} {x : va_E} (h : offR τ w w1 lo hi) (h1 : lo ≤ τ a) (h2 : τ a < hi) : offR τ w (wset w1 a x) lo hi := fun q hq => by
  rw [wset_ne (fun e => by subst e; omega)]
  exact h q hq
theorem TxT.kept {D : gD} {w w1 : wW} {τ : Nat → Nat} {r t a b c : Nat} {ps : List Pc3} (h : TxT D w τ r t a b c ps) (hk : ∀ q, r ≤ τ q → τ q < r + 4 → w1 q = w q) : TxT D w1 τ r t a b c ps := by
  obtain ⟨h1, h2, h3, h4, h5, h6, h7, h8, fs, fp, fg, g1, g2, g3, g4⟩ := h
  exact ⟨h1, h2, h3, h4, by rw [hk t (by omega) (by omega)]; exact h5, h6, h7, h8, fs, fp, fg, by rw [hk a (by omega) (by omega)]; exact g1, by rw [hk b (by omega) (by omega)]; exact g2, by rw [hk c (by omega) (by omega)]; exact g3, g4⟩
theorem TxT.off {D : gD} {w w1 : wW} {τ : Nat → Nat} {r t a b c lo hi : Nat} {ps : List Pc3} (h : TxT D w τ r t a b c ps) (hk : offR τ w w1 lo hi) (hr : hi ≤ r ∨ r + 4 ≤ lo) : TxT D w1 τ r t a b c ps := h.kept (fun q h1 h2 => hk q (by omega))
theorem tne {τ : Nat → Nat} {a b : Nat} (h : τ a ≠ τ b) : a ≠ b := fun e => h (by rw [e])
theorem TxT_add {D : gD} {w w1 : wW} {τ : Nat → Nat} {r t a b c : Nat} {ps : List Pc3} {fs fp fg : Nat → Int} {s g x : Int} (h1 : τ t = r) (h2 : τ a = r + 1) (h3 : τ b = r + 2) (h4 : τ c = r + 3) (h7 : OWp ps) (h8 : ∀ p ∈ ps, PV p) (g4 : ∀ i, i < ps.length → (fs i, fp i, fg i) = pcs ps i) (hp9 : PV (s, g, x)) (hlen : ps.length < 30) (how : 0 ≤ owc ps + dow s)
    (k1 : w1 t = some (txO a b c (ps.length + 1) (owc ps + dow s))) (k2 : w1 a = some (iar D 30 (upz fs ps.length s))) (k3 : w1 b = some (iar D 30 (upz fp ps.length g))) (k4 : w1 c = some (iar D 30 (upz fg ps.length x))) (k5 : offR τ w w1 r (r + 4)) : (none : Option Value) = none ∧ TxT D w1 τ r t a b c (ps ++ [(s, g, x)]) ∧ offR τ w w1 r (r + 4) := by
  refine ⟨rfl, ⟨h1, h2, h3, h4, ?_, ?_, h7.app how, ?_, _, _, _, k2, k3, k4, ?_⟩, k5⟩
  · rw [k1, List.length_append, owc_app]
    show _ = some (txO a b c _ (owc ps + (dow s + 0)))
    rw [Int.add_zero]
    rfl
  · rw [List.length_append]; show ps.length + 1 ≤ 30; omega
  · intro p hp
    rcases List.mem_append.mp hp with h | h
    · exact h8 p h
    · rw [List.mem_singleton.mp h]; exact hp9
  · intro i hi
    rw [List.length_append] at hi
    by_cases hq : i = ps.length
    · subst hq
      rw [upz_eq, upz_eq, upz_eq, pcs_app_at]
    · have hi2 : i < ps.length := by simp at hi; omega
      rw [upz_ne hq, upz_ne hq, upz_ne hq, pcs_app_lo hi2]
      exact g4 i hi2
