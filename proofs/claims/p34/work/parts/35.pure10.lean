-- ===== an item anew: the pieces met one after another =====
def wmt (g : Int) (st : Int × Int) : Int × Int := (st.1 - 1, if st.1 = 0 then g else st.2)
def wpc (rec : Nat → Int → Int × Int → Int × Int) (arg : Int) (st : Int × Int) (pc : Pc3) : Int × Int :=
  if pc.1 = 4 then rec pc.2.1.toNat pc.2.2 st
  else if pc.1 = 5 then rec pc.2.1.toNat arg st
  else if pc.1 = 3 then (if arg = -1 then st else wmt arg st)
  else if pc.1 < 3 then wmt (pItem pc) st
  else st
def wst (rec : Nat → Int → Int × Int → Int × Int) (arg : Int) (s : Nat × (Int × Int)) (pc : Pc3) : Nat × (Int × Int) :=
  if s.2.1 < 0 then s
  else if pc.1 = 6 ∧ (0 < s.1 ∨ pc.2.2 ≠ arg) then (s.1 + 1, s.2)
  else if pc.1 = 7 ∧ 0 < s.1 then (s.1 - 1, s.2)
  else if s.1 = 0 then (s.1, wpc rec arg s.2 pc)
  else s
def wtx (rec : Nat → Int → Int × Int → Int × Int) (arg : Int) (st : Int × Int) (ps : List Pc3) : Nat × (Int × Int) := ps.foldl (wst rec arg) (0, st)
def wpN (T : Nat → List Pc3) : Nat → Nat → Int → Int × Int → Int × Int
  | 0, _, _, st => st
  | n + 1, p, arg, st => if extT T p = 0 then st else (wtx (wpN T n) arg st (T p)).2
theorem wpc_R {rec : Nat → Int → Int × Int → Int × Int} {arg : Int} {st : Int × Int} {pc : Pc3} {B : Int} (hr : ∀ p a (s : Int × Int), -1 ≤ s.1 ∧ s.1 ≤ B → -1 ≤ (rec p a s).1 ∧ (rec p a s).1 ≤ B) (h : 0 ≤ st.1 ∧ st.1 ≤ B) : -1 ≤ (wpc rec arg st pc).1 ∧ (wpc rec arg st pc).1 ≤ B := by
  have hm : ∀ g, -1 ≤ (wmt g st).1 ∧ (wmt g st).1 ≤ B := fun g => by show -1 ≤ st.1 - 1 ∧ st.1 - 1 ≤ B; omega
  unfold wpc
  split
  · exact hr _ _ _ ⟨by omega, h.2⟩
  · split
    · exact hr _ _ _ ⟨by omega, h.2⟩
    · split
      · split
        · exact ⟨by omega, h.2⟩
        · exact hm _
      · split
        · exact hm _
        · exact ⟨by omega, h.2⟩
theorem wst_R {rec : Nat → Int → Int × Int → Int × Int} {arg : Int} {s : Nat × (Int × Int)} {pc : Pc3} {B : Int} (hr : ∀ p a (s : Int × Int), -1 ≤ s.1 ∧ s.1 ≤ B → -1 ≤ (rec p a s).1 ∧ (rec p a s).1 ≤ B) (h : -1 ≤ s.2.1 ∧ s.2.1 ≤ B) : -1 ≤ (wst rec arg s pc).2.1 ∧ (wst rec arg s pc).2.1 ≤ B := by
  unfold wst
  split
  · exact h
  · split
    · exact h
    · split
      · exact h
      · split
        · exact wpc_R hr ⟨by omega, h.2⟩
        · exact h
theorem wtx_R {rec : Nat → Int → Int × Int → Int × Int} {arg : Int} {st : Int × Int} {B : Int} (hr : ∀ p a (s : Int × Int), -1 ≤ s.1 ∧ s.1 ≤ B → -1 ≤ (rec p a s).1 ∧ (rec p a s).1 ≤ B) (h : -1 ≤ st.1 ∧ st.1 ≤ B) (ps : List Pc3) : -1 ≤ (wtx rec arg st ps).2.1 ∧ (wtx rec arg st ps).2.1 ≤ B := by
  unfold wtx
  have : ∀ (ps : List Pc3) (s : Nat × (Int × Int)), (-1 ≤ s.2.1 ∧ s.2.1 ≤ B) → -1 ≤ (ps.foldl (wst rec arg) s).2.1 ∧ (ps.foldl (wst rec arg) s).2.1 ≤ B := by
    intro ps
    induction ps with
    | nil => intro s h; exact h
    | cons a ps ih => intro s h; exact ih _ (wst_R hr h)
  exact this ps _ h
theorem wpN_R {T : Nat → List Pc3} {B : Int} : ∀ (n p : Nat) (a : Int) (s : Int × Int), -1 ≤ s.1 ∧ s.1 ≤ B → -1 ≤ (wpN T n p a s).1 ∧ (wpN T n p a s).1 ≤ B
  | 0, _, _, _, h => h
  | n + 1, p, a, s, h => by
    show -1 ≤ (if extT T p = 0 then s else (wtx (wpN T n) a s (T p)).2).1 ∧ (if extT T p = 0 then s else (wtx (wpN T n) a s (T p)).2).1 ≤ B
    split
    · exact h
    · exact wtx_R (wpN_R n) h _
theorem wtx_take {rec : Nat → Int → Int × Int → Int × Int} {arg : Int} {st : Int × Int} {ps : List Pc3} {i : Nat} (h : i < ps.length) : wtx rec arg st (ps.take (i + 1)) = wst rec arg (wtx rec arg st (ps.take i)) (pcs ps i) := by
  unfold wtx
  rw [pcs_take h, List.foldl_append]
  rfl
/-- where the walk is over, the rest of the text changes nothing -/
theorem wtx_over {rec : Nat → Int → Int × Int → Int × Int} {arg : Int} {st : Int × Int} {ps : List Pc3} {i : Nat} (h : (wtx rec arg st (ps.take i)).2.1 < 0) : wtx rec arg st ps = wtx rec arg st (ps.take i) := by
  have h9 : ∀ (qs : List Pc3) (s : Nat × (Int × Int)), s.2.1 < 0 → qs.foldl (wst rec arg) s = s := by
    intro qs
    induction qs with
    | nil => intro s _; rfl
    | cons a qs ih =>
      intro s hs
      have e : wst rec arg s a = s := if_pos hs
      rw [List.foldl_cons, e]
      exact ih s hs
  have e : wtx rec arg st ps = (ps.drop i).foldl (wst rec arg) (wtx rec arg st (ps.take i)) := by
    unfold wtx
    rw [← List.foldl_append, List.take_append_drop]
  rw [e]
  exact h9 _ _ h
theorem WkI.far {D : gD} {w w1 : wW} {τ ad : Nat → Nat} {nb tb lo hi : Nat} {σ : Sg} (h : WkI D w τ ad nb tb σ) (hk : offR τ w w1 lo hi) (hlo : 2260 ≤ lo) : WkI D w1 τ ad nb tb σ := by
  obtain ⟨hs, hn, ha, hP, hsp, hv⟩ := h
  have ha0 := ha.1
  exact ⟨hs, hn.kept ha0 (fun q h1 => hk q (by omega)), ha.kept (fun q h1 h2 => hk q (by omega)), hP.kept (fun q h1 h2 => hk q (by omega)), hsp.kept (fun q h1 h2 => hk q (by omega)), hv.kept (fun p hp => (hs.2.1 p hp).1) (fun q h1 h2 => hk q (by omega))⟩
def wkO (st : Int × Int) : va_E := .inr (5, [.int (Z32 st.1), .int (Z32 st.2)])
