-- ===== how long a spread may be =====
theorem sadd_len (its : List It4) (p : It4) : (sadd its p).length ≤ its.length + 1 := by
  unfold sadd
  split
  · omega
  · rw [List.length_append]; exact Nat.le_refl _
theorem tkC_len {nd arg : Int} : ∀ (qs its : List It4), (tkC nd arg its qs).length ≤ its.length + qs.length
  | [], its => Nat.le_refl _
  | q :: qs, its => by
    have h : (tkC nd arg its (q :: qs)) = tkC nd arg (if shw q arg then sadd its (nd, isrt q, iwth q arg, q.2.2.2) else its) qs := rfl
    have h1 := tkC_len (nd := nd) (arg := arg) qs (if shw q arg then sadd its (nd, isrt q, iwth q arg, q.2.2.2) else its)
    have h2 : (if shw q arg then sadd its (nd, isrt q, iwth q arg, q.2.2.2) else its).length ≤ its.length + 1 := by
      split
      · exact sadd_len _ _
      · omega
    rw [h, List.length_cons]
    omega
theorem tkO_len {nd : Int} : ∀ (qs its : List It4), (tkO nd its qs).length ≤ its.length + qs.length
  | [], its => Nat.le_refl _
  | q :: qs, its => by
    have h : (tkO nd its (q :: qs)) = tkO nd (sadd its (tog nd q.1, q.2.1, q.2.2.1, q.2.2.2)) qs := rfl
    have h1 := tkO_len (nd := nd) qs (sadd its (tog nd q.1, q.2.1, q.2.2.1, q.2.2.2))
    have h2 := sadd_len its (tog nd q.1, q.2.1, q.2.2.1, q.2.2.2)
    rw [h, List.length_cons]
    omega
def cSum (rec : Nat → List It4) : List Pc3 → Nat
  | [] => 0
  | pc :: ps => (if pc.1 = 4 ∨ pc.1 = 5 then (rec pc.2.1.toNat).length else 0) + cSum rec ps
theorem spStep_len {rec : Nat → List It4} {p : Nat} {st : List It4 × List Int} {pc : Pc3} : (spStep rec p st pc).1.length ≤ st.1.length + ((if pc.1 < 4 then 1 else 0) + (if pc.1 = 4 ∨ pc.1 = 5 then (rec pc.2.1.toNat).length else 0)) := by
  unfold spStep
  by_cases z6 : pc.1 = 6
  · rw [if_pos z6]; exact Nat.le_add_right _ _
  · by_cases z7 : pc.1 = 7
    · rw [if_neg z6, if_pos z7]; exact Nat.le_add_right _ _
    · by_cases z4 : pc.1 = 4
      · rw [if_neg z6, if_neg z7, if_pos z4, if_pos (Or.inl z4), if_neg (by omega)]
        have := tkC_len (nd := ndo st.2) (arg := pc.2.2) (rec pc.2.1.toNat) st.1
        show (tkC (ndo st.2) pc.2.2 st.1 (rec pc.2.1.toNat)).length ≤ _
        omega
      · by_cases z5 : pc.1 = 5
        · rw [if_neg z6, if_neg z7, if_neg z4, if_pos z5, if_pos (Or.inr z5), if_neg (by omega)]
          have := tkO_len (nd := ndo st.2) (rec pc.2.1.toNat) st.1
          show (tkO (ndo st.2) st.1 (rec pc.2.1.toNat)).length ≤ _
          omega
        · by_cases z3 : pc.1 < 4
          · rw [if_neg z6, if_neg z7, if_neg z4, if_neg z5, if_pos z3, if_pos z3]
            have := sadd_len st.1 (ndo st.2, pc.1, pItem pc, (p : Int))
            show (sadd st.1 (ndo st.2, pc.1, pItem pc, (p : Int))).length ≤ _
            omega
          · rw [if_neg z6, if_neg z7, if_neg z4, if_neg z5, if_neg z3]; exact Nat.le_add_right _ _
theorem spText_len {rec : Nat → List It4} {p : Nat} (ps : List Pc3) : (spText rec p ps).1.length ≤ oxn ps + cSum rec ps := by
  have : ∀ (ps : List Pc3) (st : List It4 × List Int), (ps.foldl (spStep rec p) st).1.length ≤ st.1.length + (oxn ps + cSum rec ps) := by
    intro ps
    induction ps with
    | nil => intro st; exact Nat.le_refl _
    | cons a ps ih =>
      intro st
      have h1 := ih (spStep rec p st a)
      have h2 := spStep_len (rec := rec) (p := p) (st := st) (pc := a)
      show (ps.foldl (spStep rec p) (spStep rec p st a)).1.length ≤ st.1.length + (((if a.1 < 4 then 1 else 0) + oxn ps) + ((if a.1 = 4 ∨ a.1 = 5 then (rec a.2.1.toNat).length else 0) + cSum rec ps))
      omega
  have h := this ps ([], [])
  have e : (([] : List It4), ([] : List Int)).1.length = 0 := rfl
  unfold spText
  omega
