-- ===== what the reference lays out =====
theorem pcs_drop {ps : List Pc3} {i : Nat} (h : i < ps.length) : ps.drop i = pcs ps i :: ps.drop (i + 1) := by
  rw [List.drop_eq_getElem_cons h]
  unfold pcs
  rw [List.getD_eq_getElem?_getD, List.getElem?_eq_getElem h]
  rfl
/-- what is left of a page's text from a place on, with an argument -/
def RS (T : Nat → List Pc3) (p : Nat) (g : Int) (i : Nat) : List Sh3 := shR (fun q a => shl a (sprT T q)) p g 0 ((T p).drop i)
theorem RS_end {T : Nat → List Pc3} {p i : Nat} {g : Int} (h : (T p).length ≤ i) : RS T p g i = [] := by
  unfold RS
  rw [List.drop_of_length_le h]
  rfl
theorem RS_at {T : Nat → List Pc3} {p i : Nat} {g : Int} (h : i < (T p).length) : RS T p g i = if (pcs (T p) i).1 = 6 ∧ (pcs (T p) i).2.2 ≠ g then shR (fun q a => shl a (sprT T q)) p g 1 ((T p).drop (i + 1)) else shPc (fun q a => shl a (sprT T q)) p g (pcs (T p) i) ++ RS T p g (i + 1) := by
  unfold RS
  rw [pcs_drop h]
  show (if (pcs (T p) i).1 = 6 ∧ (0 < 0 ∨ (pcs (T p) i).2.2 ≠ g) then _ else if (pcs (T p) i).1 = 7 ∧ 0 < 0 then _ else if 0 = 0 then _ else _) = _
  by_cases z : (pcs (T p) i).1 = 6 ∧ (pcs (T p) i).2.2 ≠ g
  · rw [if_pos z, if_pos ⟨z.1, Or.inr z.2⟩]
  · rw [if_neg z, if_neg (fun y => z ⟨y.1, by omega⟩), if_neg (by omega), if_pos rfl]
theorem RS_one {T : Nat → List Pc3} {p i : Nat} {g : Int} (h : i < (T p).length) (h3 : (pcs (T p) i).1 = 0 ∨ (pcs (T p) i).1 = 1 ∨ (pcs (T p) i).1 = 2) : RS T p g i = ((pcs (T p) i).1, pItem (pcs (T p) i), (p : Int)) :: RS T p g (i + 1) := by
  rw [RS_at h, if_neg (by omega)]
  unfold shPc
  rw [if_neg (by omega), if_neg (by omega), if_neg (by omega), if_pos (by omega)]
  rfl
theorem RS_arg {T : Nat → List Pc3} {p i : Nat} {g : Int} (h : i < (T p).length) (h3 : (pcs (T p) i).1 = 3) (hg : g ≠ -1) : RS T p g i = (0, g, (p : Int)) :: RS T p g (i + 1) := by
  rw [RS_at h, if_neg (by omega)]
  unfold shPc
  rw [if_neg (by omega), if_neg (by omega), if_pos h3, if_neg hg]
  rfl
theorem RS_no {T : Nat → List Pc3} {p i : Nat} {g : Int} (h : i < (T p).length) (h3 : ((pcs (T p) i).1 = 3 ∧ g = -1) ∨ (pcs (T p) i).1 = 7 ∨ (pcs (T p) i).1 = 8 ∨ ((pcs (T p) i).1 = 6 ∧ (pcs (T p) i).2.2 = g)) : RS T p g i = RS T p g (i + 1) := by
  rw [RS_at h, if_neg (by omega)]
  unfold shPc
  rcases h3 with ⟨z, y⟩ | z | z | ⟨z, y⟩
  · rw [if_neg (by omega), if_neg (by omega), if_pos z, if_pos y]; rfl
  · rw [if_neg (by omega), if_neg (by omega), if_neg (by omega), if_neg (by omega)]; rfl
  · rw [if_neg (by omega), if_neg (by omega), if_neg (by omega), if_neg (by omega)]; rfl
  · rw [if_neg (by omega), if_neg (by omega), if_neg (by omega), if_neg (by omega)]; rfl
theorem RS_call {T : Nat → List Pc3} {p i q : Nat} {g : Int} (h : i < (T p).length) (hq : (pcs (T p) i).2.1 = (q : Int)) (a : Int) (h3 : ((pcs (T p) i).1 = 4 ∧ (pcs (T p) i).2.2 = a) ∨ ((pcs (T p) i).1 = 5 ∧ g = a)) : RS T p g i = shl a (sprT T q) ++ RS T p g (i + 1) := by
  rw [RS_at h, if_neg (by omega)]
  unfold shPc
  rw [hq, Int.toNat_natCast]
  rcases h3 with ⟨z, y⟩ | ⟨z, y⟩
  · rw [if_pos z, y]
  · rw [if_neg (by omega), if_pos z, y]
/-- the rows hold what is shown -/
def shown (L : List Sh3) (F : Nat → Nat → Int) : Prop := ∀ (i : Nat) (x : Sh3), L[i]? = some x → F 14 i = x.1 ∧ F 15 i = x.2.1 ∧ F 16 i = x.2.2
theorem shown.nil {F : Nat → Nat → Int} : shown [] F := fun i x h => by simp at h
theorem shown.push {L : List Sh3} {F F' : Nat → Nat → Int} {x : Sh3} (h : shown L F) (e1 : F' 14 = upz (F 14) L.length x.1) (e2 : F' 15 = upz (F 15) L.length x.2.1) (e3 : F' 16 = upz (F 16) L.length x.2.2) : shown (L ++ [x]) F' := fun i y hy => by
  rw [e1, e2, e3]
  by_cases z : i < L.length
  · rw [List.getElem?_append_left z] at hy
    rw [upz_ne (by omega), upz_ne (by omega), upz_ne (by omega)]
    exact h i y hy
  · have hi := (List.getElem?_eq_some_iff.mp hy).1
    rw [List.length_append] at hi
    have e : i = L.length := by simp at hi; omega
    subst e
    rw [List.getElem?_append_right (Nat.le_refl _), Nat.sub_self] at hy
    cases hy
    rw [upz_eq, upz_eq, upz_eq]
    exact ⟨rfl, rfl, rfl⟩
theorem shown.congr {L : List Sh3} {F F' : Nat → Nat → Int} (h : shown L F) (e1 : F' 14 = F 14) (e2 : F' 15 = F 15) (e3 : F' 16 = F 16) : shown L F' := fun i x hx => by rw [e1, e2, e3]; exact h i x hx
theorem take_snoc {α : Type} {L : List α} {k : Nat} {x : α} (h : L[k]? = some x) : L.take (k + 1) = L.take k ++ [x] := by rw [List.take_succ, h]; rfl
theorem get_lt {α : Type} {L : List α} {k : Nat} (h : k < L.length) : ∃ x, L[k]? = some x := ⟨_, List.getElem?_eq_getElem h⟩
-- ===== links and breaches, of what is shown =====
def lkL (L : List Sh3) : List Int := (L.filter (fun x => x.1 == 2)).map (fun x => x.2.1)
theorem lkL_app (a b : List Sh3) : lkL (a ++ b) = lkL a ++ lkL b := by unfold lkL; rw [List.filter_append, List.map_append]
theorem lkL_yes {x : Sh3} (h : x.1 = 2) : lkL [x] = [x.2.1] := by unfold lkL; rw [List.filter_cons_of_pos (by simpa using h)]; rfl
theorem lkL_no {x : Sh3} (h : x.1 ≠ 2) : lkL [x] = [] := by unfold lkL; rw [List.filter_cons_of_neg (by simpa using h)]; rfl
theorem lkL_shl {q : It4} {qs : List It4} : lkL (shl (-1) (q :: qs)) = (if isl q = true then [iwth q (-1)] else []) ++ lkL (shl (-1) qs) := by
  rw [shl_cons, lkL_app]
  congr 1
  by_cases h : shw q (-1)
  · rw [if_pos h]
    by_cases z : isrt q = 2
    · rw [if_pos (isl_iff.mpr ⟨h, z⟩), lkL_yes z]
    · rw [if_neg (fun y => z (isl_iff.mp y).2), lkL_no z]
  · rw [if_neg h, if_neg (fun y => h (isl_iff.mp y).1)]; rfl
theorem lkL_cnt : ∀ (its : List It4), cnb isl its = (lkL (shl (-1) its)).length
  | [] => rfl
  | q :: qs => by
    rw [lkL_shl, List.length_append, ← lkL_cnt qs]
    show (if isl q = true then 1 else 0) + cnb isl qs = _
    split <;> rfl
def badN (T : Nat → List Pc3) (M : List Int) : Nat := (M.filter (fun k => !goodb T k)).length
theorem badN_app {T : Nat → List Pc3} (a b : List Int) : badN T (a ++ b) = badN T a + badN T b := by unfold badN; rw [List.filter_append, List.length_append]
theorem badN_one {T : Nat → List Pc3} {k : Int} : badN T [k] = if goodb T k = true then 0 else 1 := by
  unfold badN
  by_cases h : goodb T k = true
  · rw [if_pos h, List.filter_cons_of_neg (by simp [h])]; rfl
  · rw [if_neg h, List.filter_cons_of_pos (by simp [h])]; rfl
theorem badN_cnt {T : Nat → List Pc3} : ∀ (its : List It4), cnb (badb T) its = badN T (lkL (shl (-1) its))
  | [] => rfl
  | q :: qs => by
    rw [lkL_shl, badN_app, ← badN_cnt qs]
    show (if badb T q = true then 1 else 0) + cnb (badb T) qs = _
    congr 1
    unfold badb
    by_cases h : isl q = true
    · rw [if_pos h, badN_one, h]
      by_cases z : goodb T (iwth q (-1)) = true
      · rw [if_pos z, z]; rfl
      · rw [if_neg z]; simp [z]
    · rw [if_neg h]; simp [h, badN]
/-- the first link that is no good -/
def fbL (T : Nat → List Pc3) : List Int → Int
  | [] => -1
  | k :: M => if goodb T k = true then fbL T M else k
theorem fbL_app {T : Nat → List Pc3} {b : List Int} : ∀ (a : List Int), (∀ k ∈ a, goodb T k = true) → fbL T (a ++ b) = fbL T b
  | [], _ => rfl
  | k :: a, h => by
    show (if goodb T k = true then fbL T (a ++ b) else k) = _
    rw [if_pos (h k List.mem_cons_self)]
    exact fbL_app a (fun x hx => h x (List.mem_cons_of_mem _ hx))
theorem fbL_fbk {T : Nat → List Pc3} : ∀ (its : List It4), fbk T its = fbL T (lkL (shl (-1) its))
  | [] => rfl
  | q :: qs => by
    rw [lkL_shl]
    show (if badb T q = true then iwth q (-1) else fbk T qs) = _
    rw [fbL_fbk qs]
    unfold badb
    by_cases h : isl q = true
    · rw [if_pos h, h]
      show _ = if goodb T (iwth q (-1)) = true then _ else _
      by_cases z : goodb T (iwth q (-1)) = true
      · rw [if_pos z, z]; rfl
      · rw [if_neg z]; simp [z]
    · rw [if_neg h]; simp [h]
theorem lfb_lkL {T : Nat → List Pc3} {p : Nat} : ∀ (its : List It4), its.any (fun q => isl q && leadb T p (iwth q (-1)) && goodb T (iwth q (-1))) = (lkL (shl (-1) its)).any (fun k => leadb T p k && goodb T k)
  | [] => rfl
  | q :: qs => by
    rw [lkL_shl, List.any_append, ← lfb_lkL qs, List.any_cons]
    congr 1
    by_cases h : isl q = true
    · rw [if_pos h, h]; simp
    · rw [if_neg h]; simp [h]
def brL (σ : Sg) (p : Nat) (L : List Sh3) : Nat := (L.filter (fun x => decide (sRk σ x.2.2.toNat (sNv σ x.2.2.toNat) < sLk σ p))).length
theorem brL_app {σ : Sg} {p : Nat} (a b : List Sh3) : brL σ p (a ++ b) = brL σ p a + brL σ p b := by unfold brL; rw [List.filter_append, List.length_append]
theorem brL_one {σ : Sg} {p : Nat} {x : Sh3} : brL σ p [x] = if sRk σ x.2.2.toNat (sNv σ x.2.2.toNat) < sLk σ p then 1 else 0 := by
  unfold brL
  by_cases h : sRk σ x.2.2.toNat (sNv σ x.2.2.toNat) < sLk σ p
  · rw [if_pos h, List.filter_cons_of_pos (by simpa using h)]; rfl
  · rw [if_neg h, List.filter_cons_of_neg (by simpa using h)]; rfl
theorem brL_le {σ : Sg} {p : Nat} (L : List Sh3) : brL σ p L ≤ L.length := List.length_filter_le _ _
theorem brL_cnt {σ : Sg} {p : Nat} : ∀ (its : List It4), cnb (brb σ p) its = brL σ p (shl (-1) its)
  | [] => rfl
  | q :: qs => by
    rw [shl_cons, brL_app, ← brL_cnt qs]
    show (if brb σ p q = true then 1 else 0) + cnb (brb σ p) qs = _
    congr 1
    unfold brb
    by_cases h : shw q (-1)
    · rw [if_pos h, brL_one, shwb_iff.mpr h]
      by_cases z : sRk σ q.2.2.2.toNat (sNv σ q.2.2.2.toNat) < sLk σ p
      · rw [if_pos z]; simp [z]
      · rw [if_neg z]; simp [z]
    · have h2 : ¬ shwb (-1) q = true := fun y => h (shwb_iff.mp y)
      rw [if_neg h]; simp [h2, brL]
def anL (x : Int) (L : List Sh3) : Bool := L.any (fun q => q.1 == 1 && q.2.1 == x)
theorem anL_anc {x : Int} : ∀ (its : List It4), ancb x its = anL x (shl (-1) its)
  | [] => rfl
  | q :: qs => by
    unfold anL
    rw [shl_cons, List.any_append]
    have ih := anL_anc (x := x) qs
    unfold anL at ih
    rw [← ih]
    unfold ancb
    rw [List.any_cons]
    congr 1
    by_cases h : shw q (-1)
    · rw [if_pos h, shwb_iff.mpr h]; simp
    · have h2 : ¬ shwb (-1) q = true := fun y => h (shwb_iff.mp y)
      rw [if_neg h]; simp [h2]
theorem sprT_V {D : gD} {w : wW} {τ ad : Nat → Nat} {nb tb : Nat} {σ : Sg} (h : WkI D w τ ad nb tb σ) {p : Nat} (hp : p < 12) : ∀ q ∈ sprT (sT σ) p, ItV q := by
  obtain ⟨os, kS⟩ := h.spr hp
  exact kS.2.2.2.2.2.2.2.2.2.1
