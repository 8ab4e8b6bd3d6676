-- ===== what is shown with an argument, and the same by a walk over the texts =====
abbrev Sh3 : Type := Int × Int × Int
def shl (arg : Int) (its : List It4) : List Sh3 := (its.filter (shwb arg)).map (fun q => (isrt q, iwth q arg, q.2.2.2))
def shPc (rec : Nat → Int → List Sh3) (p : Nat) (arg : Int) (pc : Pc3) : List Sh3 :=
  if pc.1 = 4 then rec pc.2.1.toNat pc.2.2
  else if pc.1 = 5 then rec pc.2.1.toNat arg
  else if pc.1 = 3 then (if arg = -1 then [] else [(0, arg, (p : Int))])
  else if pc.1 < 3 then [(pc.1, pItem pc, (p : Int))]
  else []
def shR (rec : Nat → Int → List Sh3) (p : Nat) (arg : Int) : Nat → List Pc3 → List Sh3
  | _, [] => []
  | s, pc :: ps => if pc.1 = 6 ∧ (0 < s ∨ pc.2.2 ≠ arg) then shR rec p arg (s + 1) ps
    else if pc.1 = 7 ∧ 0 < s then shR rec p arg (s - 1) ps
    else if s = 0 then shPc rec p arg pc ++ shR rec p arg 0 ps
    else shR rec p arg s ps
theorem shl_app {arg : Int} (a b : List It4) : shl arg (a ++ b) = shl arg a ++ shl arg b := by unfold shl; rw [List.filter_append, List.map_append]
theorem shl_cons {arg : Int} (q : It4) (qs : List It4) : shl arg (q :: qs) = (if shw q arg then [(isrt q, iwth q arg, q.2.2.2)] else []) ++ shl arg qs := by
  unfold shl
  by_cases h : shw q arg
  · rw [if_pos h, List.filter_cons_of_pos (shwb_iff.mpr h)]; rfl
  · rw [if_neg h, List.filter_cons_of_neg (fun z => h (shwb_iff.mp z))]; rfl
theorem shl_sadd {arg : Int} (ha : -1 ≤ arg) {its : List It4} {x : It4} (h : its.length < 100) : shl arg (sadd its x) = shl arg its ++ (if shw x arg then [(isrt x, iwth x arg, x.2.2.2)] else []) := by
  unfold sadd
  by_cases h2 : x.1 = -2
  · rw [if_pos (Or.inl h2), if_neg (by unfold shw; omega), List.append_nil]
  · rw [if_neg (by omega), shl_app, shl_cons]
    show _ ++ (_ ++ []) = _
    rw [List.append_nil]
theorem isrt_ne (q : It4) : isrt q ≠ 3 := by
  unfold isrt
  split
  · decide
  · assumption
theorem shl_tkC {arg g nd : Int} (ha : -1 ≤ arg) : ∀ (qs its : List It4), its.length + qs.length ≤ 100 → shl arg (tkC nd g its qs) = shl arg its ++ (if nd = -1 ∨ nd = arg then shl g qs else [])
  | [], its, _ => by
    show shl arg its = _
    split <;> exact (List.append_nil _).symm
  | q :: qs, its, h => by
    have e : tkC nd g its (q :: qs) = tkC nd g (if shw q g then sadd its (nd, isrt q, iwth q g, q.2.2.2) else its) qs := rfl
    have h1 : its.length + (qs.length + 1) ≤ 100 := h
    have hne := isrt_ne q
    rw [e, shl_cons]
    by_cases hs : shw q g
    · have hl := sadd_len its (nd, isrt q, iwth q g, q.2.2.2)
      rw [if_pos hs, shl_tkC ha qs _ (by omega), shl_sadd ha (by omega), if_pos hs]
      have e1 : isrt ((nd, isrt q, iwth q g, q.2.2.2) : It4) = isrt q := if_neg hne
      have e2 : iwth ((nd, isrt q, iwth q g, q.2.2.2) : It4) arg = iwth q g := if_neg hne
      rw [e1, e2]
      by_cases hn : nd = -1 ∨ nd = arg
      · rw [if_pos hn, if_pos hn, if_pos (show shw ((nd, isrt q, iwth q g, q.2.2.2) : It4) arg from ⟨hn, Or.inr hne⟩), List.append_assoc]
      · rw [if_neg hn, if_neg hn, if_neg (fun z => hn (show shw ((nd, isrt q, iwth q g, q.2.2.2) : It4) arg from z).1), List.append_nil, List.append_nil]
    · rw [if_neg hs, shl_tkC ha qs _ (by omega), if_neg hs]
      rfl
theorem tog_shown {a b arg : Int} (ha : -1 ≤ arg) : (tog a b = -1 ∨ tog a b = arg) ↔ ((a = -1 ∨ a = arg) ∧ (b = -1 ∨ b = arg)) := by
  unfold tog
  split
  · omega
  · split <;> omega
theorem shl_tkO {arg nd : Int} (ha : -1 ≤ arg) : ∀ (qs its : List It4), its.length + qs.length ≤ 100 → shl arg (tkO nd its qs) = shl arg its ++ (if nd = -1 ∨ nd = arg then shl arg qs else [])
  | [], its, _ => by
    show shl arg its = _
    split <;> exact (List.append_nil _).symm
  | q :: qs, its, h => by
    have e : tkO nd its (q :: qs) = tkO nd (sadd its (tog nd q.1, q.2.1, q.2.2.1, q.2.2.2)) qs := rfl
    have h1 : its.length + (qs.length + 1) ≤ 100 := h
    have hl := sadd_len its (tog nd q.1, q.2.1, q.2.2.1, q.2.2.2)
    have hi : shw ((tog nd q.1, q.2.1, q.2.2.1, q.2.2.2) : It4) arg ↔ ((nd = -1 ∨ nd = arg) ∧ shw q arg) := by
      have ht := tog_shown (a := nd) (b := q.1) ha
      exact ⟨fun z => ⟨(ht.mp z.1).1, (ht.mp z.1).2, z.2⟩, fun z => ⟨ht.mpr ⟨z.1, z.2.1⟩, z.2.2⟩⟩
    rw [e, shl_cons, shl_tkO ha qs _ (by omega), shl_sadd ha (by omega)]
    have e1 : isrt ((tog nd q.1, q.2.1, q.2.2.1, q.2.2.2) : It4) = isrt q := rfl
    have e2 : iwth ((tog nd q.1, q.2.1, q.2.2.1, q.2.2.2) : It4) arg = iwth q arg := rfl
    rw [e1, e2]
    by_cases hn : nd = -1 ∨ nd = arg
    · rw [if_pos hn, if_pos hn]
      by_cases hs : shw q arg
      · rw [if_pos hs, if_pos (hi.mpr ⟨hn, hs⟩), List.append_assoc]
      · rw [if_neg hs, if_neg (fun z => hs (hi.mp z).2), List.append_assoc]
    · rw [if_neg hn, if_neg hn, if_neg (fun z => hn (hi.mp z).1), List.append_nil, List.append_nil]
/-- what the open WHENs need, against how many of them are shut -/
def osR (arg : Int) (os : List Int) (s : Nat) : Prop := ∃ o1 o2 : List Int, os = o1 ++ o2 ∧ o2.length = s ∧ (∀ x ∈ o1, x = arg ∧ 0 ≤ arg) ∧ ∀ x ∈ o2, x ≠ -1 ∧ x ≠ arg
theorem osR_nd {arg : Int} {os : List Int} {s : Nat} (h : osR arg os s) : (ndo os = -1 ∨ ndo os = arg) ↔ s = 0 := by
  obtain ⟨o1, o2, rfl, rfl, h1, h2⟩ := h
  rcases List.eq_nil_or_concat o2 with rfl | ⟨o3, x, rfl⟩
  · rw [List.append_nil]
    rcases List.eq_nil_or_concat o1 with rfl | ⟨o3, x, rfl⟩
    · exact ⟨fun _ => rfl, fun _ => Or.inl ndo_nil⟩
    · rw [List.concat_eq_append, ndo_app]
      exact ⟨fun _ => rfl, fun _ => Or.inr (h1 x (by simp)).1⟩
  · rw [List.concat_eq_append, ← List.append_assoc, ndo_app, List.length_append]
    have h3 := h2 x (by simp)
    constructor
    · intro z; omega
    · intro z; simp at z
theorem osR_nil {arg : Int} : osR arg [] 0 := ⟨[], [], rfl, rfl, (fun _ h => nomatch h), (fun _ h => nomatch h)⟩
theorem osR_in {arg : Int} {os : List Int} (h : osR arg os 0) (h0 : 0 ≤ arg) : osR arg (os ++ [tog (ndo os) arg]) 0 := by
  have hn := (osR_nd h).mpr rfl
  obtain ⟨o1, o2, rfl, h9, h1, -⟩ := h
  have h9 := List.length_eq_zero_iff.mp h9
  subst h9
  have e : tog (ndo (o1 ++ [])) arg = arg := by unfold tog; rw [if_pos hn]
  rw [e, List.append_nil]
  refine ⟨o1 ++ [arg], [], (List.append_nil _).symm, rfl, fun x hx => ?_, fun _ h => nomatch h⟩
  rcases List.mem_append.mp hx with z | z
  · exact h1 x z
  · exact ⟨List.mem_singleton.mp z, h0⟩
theorem osR_out {arg c : Int} {os : List Int} {s : Nat} (ha : -1 ≤ arg) (h : osR arg os s) (hc : 0 ≤ c) (h0 : 0 < s ∨ c ≠ arg) : osR arg (os ++ [tog (ndo os) c]) (s + 1) := by
  have hn := osR_nd h
  have ht := tog_shown (a := ndo os) (b := c) ha
  have hx : tog (ndo os) c ≠ -1 ∧ tog (ndo os) c ≠ arg := by
    have : ¬ (tog (ndo os) c = -1 ∨ tog (ndo os) c = arg) := fun z => by
      have z2 := ht.mp z
      have z3 := hn.mp z2.1
      omega
    omega
  obtain ⟨o1, o2, h9, h8, h1, h2⟩ := h
  refine ⟨o1, o2 ++ [tog (ndo os) c], by rw [← List.append_assoc, ← h9], by rw [List.length_append, h8]; rfl, h1, fun x hx2 => ?_⟩
  rcases List.mem_append.mp hx2 with z | z
  · exact h2 x z
  · rw [List.mem_singleton.mp z]; exact hx
theorem osR_pop {arg : Int} {os : List Int} {s : Nat} (h : osR arg os (s + 1)) : osR arg os.dropLast s := by
  obtain ⟨o1, o2, rfl, h8, h1, h2⟩ := h
  rcases List.eq_nil_or_concat o2 with rfl | ⟨o3, x, rfl⟩
  · cases h8
  · rw [List.concat_eq_append, ← List.append_assoc, List.dropLast_concat]
    refine ⟨o1, o3, rfl, ?_, h1, fun y hy => h2 y (by simp [hy])⟩
    simp at h8
    exact h8
theorem osR_pop0 {arg : Int} {os : List Int} (h : osR arg os 0) : osR arg os.dropLast 0 := by
  obtain ⟨o1, o2, rfl, h8, h1, h2⟩ := h
  have h9 := List.length_eq_zero_iff.mp h8
  subst h9
  rw [List.append_nil]
  exact ⟨o1.dropLast, [], (List.append_nil _).symm, rfl, fun x hx => h1 x (List.dropLast_subset _ hx), h2⟩
theorem spl_sh {rec : Nat → List It4} {p : Nat} {arg : Int} (ha : -1 ≤ arg) : ∀ (ps : List Pc3) (its : List It4) (os : List Int) (s : Nat), (∀ q ∈ ps, PV q) → osR arg os s → its.length + (oxn ps + cSum rec ps) ≤ 100 → shl arg (ps.foldl (spStep rec p) (its, os)).1 = shl arg its ++ shR (fun q a => shl a (rec q)) p arg s ps
  | [], its, os, s, _, _, _ => (List.append_nil _).symm
  | a :: ps, its, os, s, hv, ho, hl => by
    have hva := hv a List.mem_cons_self
    have ih := fun its os s => spl_sh ha ps its os s (rec := rec) (p := p) (fun q hq => hv q (List.mem_cons_of_mem _ hq))
    have hn := osR_nd ho
    have hl2 : its.length + (((if a.1 < 4 then 1 else 0) + oxn ps) + ((if a.1 = 4 ∨ a.1 = 5 then (rec a.2.1.toNat).length else 0) + cSum rec ps)) ≤ 100 := hl
    show shl arg (ps.foldl (spStep rec p) (spStep rec p (its, os) a)).1 = shl arg its ++ (if a.1 = 6 ∧ (0 < s ∨ a.2.2 ≠ arg) then shR (fun q a => shl a (rec q)) p arg (s + 1) ps else if a.1 = 7 ∧ 0 < s then shR (fun q a => shl a (rec q)) p arg (s - 1) ps else if s = 0 then shPc (fun q a => shl a (rec q)) p arg a ++ shR (fun q a => shl a (rec q)) p arg 0 ps else shR (fun q a => shl a (rec q)) p arg s ps)
    by_cases z6 : a.1 = 6
    · have e1 : spStep rec p (its, os) a = (its, os ++ [tog (ndo os) a.2.2]) := if_pos z6
      rw [if_neg (by omega), if_neg (by omega)] at hl2
      rw [e1]
      by_cases z : 0 < s ∨ a.2.2 ≠ arg
      · rw [if_pos ⟨z6, z⟩]
        exact ih _ _ _ (osR_out ha ho (by unfold PV at hva; omega) z) (by omega)
      · have z1 : a.2.2 = arg := by omega
        have z2 : s = 0 := by omega
        subst z2
        have e2 : shPc (fun q a => shl a (rec q)) p arg a = [] := by unfold shPc; rw [if_neg (by omega), if_neg (by omega), if_neg (by omega), if_neg (by omega)]
        rw [if_neg (fun y => z y.2), if_neg (by omega), if_pos rfl, e2, z1]
        exact ih _ _ _ (osR_in ho (by unfold PV at hva; omega)) (by omega)
    · by_cases z7 : a.1 = 7
      · have e1 : spStep rec p (its, os) a = (its, os.dropLast) := (if_neg z6).trans (if_pos z7)
        rw [if_neg (by omega), if_neg (by omega)] at hl2
        rw [e1, if_neg (fun y => z6 y.1)]
        by_cases z : 0 < s
        · rw [if_pos ⟨z7, z⟩]
          obtain ⟨s, rfl⟩ : ∃ k, s = k + 1 := ⟨s - 1, by omega⟩
          exact ih _ _ _ (osR_pop ho) (by omega)
        · have z2 : s = 0 := by omega
          subst z2
          have e2 : shPc (fun q a => shl a (rec q)) p arg a = [] := by unfold shPc; rw [if_neg (by omega), if_neg (by omega), if_neg (by omega), if_neg (by omega)]
          rw [if_neg (fun y => z y.2), if_pos rfl, e2]
          exact ih _ _ _ (osR_pop0 ho) (by omega)
      · rw [if_neg (fun y => z6 y.1), if_neg (fun y => z7 y.1)]
        have fin : ∀ its2, spStep rec p (its, os) a = (its2, os) → shl arg its2 = shl arg its ++ (if s = 0 then shPc (fun q a => shl a (rec q)) p arg a else []) → its2.length + (oxn ps + cSum rec ps) ≤ 100 → shl arg (ps.foldl (spStep rec p) (spStep rec p (its, os) a)).1 = shl arg its ++ (if s = 0 then shPc (fun q a => shl a (rec q)) p arg a ++ shR (fun q a => shl a (rec q)) p arg 0 ps else shR (fun q a => shl a (rec q)) p arg s ps) := fun its2 e1 e2 e3 => by
          rw [e1, ih _ _ _ ho e3, e2]
          by_cases z : s = 0
          · rw [if_pos z, if_pos z, List.append_assoc, z]
          · rw [if_neg z, if_neg z, List.append_nil]
        have hcnd : (if ndo os = -1 ∨ ndo os = arg then (1 : Nat) else 0) = if s = 0 then 1 else 0 := by
          by_cases z : s = 0
          · rw [if_pos z, if_pos (hn.mpr z)]
          · rw [if_neg z, if_neg (fun y => z (hn.mp y))]
        have cnd : ∀ (X Y : List Sh3), (if ndo os = -1 ∨ ndo os = arg then X else Y) = if s = 0 then X else Y := fun X Y => by
          by_cases z : s = 0
          · rw [if_pos z, if_pos (hn.mpr z)]
          · rw [if_neg z, if_neg (fun y => z (hn.mp y))]
        by_cases z4 : a.1 = 4
        · rw [if_neg (by omega), if_pos (Or.inl z4)] at hl2
          have hlen := tkC_len (nd := ndo os) (arg := a.2.2) (rec a.2.1.toNat) its
          refine fin (tkC (ndo os) a.2.2 its (rec a.2.1.toNat)) ?_ ?_ (by omega)
          · exact (if_neg z6).trans ((if_neg z7).trans (if_pos z4))
          · rw [shl_tkC ha _ _ (by omega), cnd]
            have e2 : shPc (fun q a => shl a (rec q)) p arg a = shl a.2.2 (rec a.2.1.toNat) := if_pos z4
            rw [e2]
        · by_cases z5 : a.1 = 5
          · rw [if_neg (by omega), if_pos (Or.inr z5)] at hl2
            have hlen := tkO_len (nd := ndo os) (rec a.2.1.toNat) its
            refine fin (tkO (ndo os) its (rec a.2.1.toNat)) ?_ ?_ (by omega)
            · exact (if_neg z6).trans ((if_neg z7).trans ((if_neg z4).trans (if_pos z5)))
            · rw [shl_tkO ha _ _ (by omega), cnd]
              have e2 : shPc (fun q a => shl a (rec q)) p arg a = shl arg (rec a.2.1.toNat) := (if_neg z4).trans (if_pos z5)
              rw [e2]
          · by_cases z3 : a.1 < 4
            · rw [if_pos z3, if_neg (by omega)] at hl2
              have hlen := sadd_len its (ndo os, a.1, pItem a, (p : Int))
              refine fin (sadd its (ndo os, a.1, pItem a, (p : Int))) ?_ ?_ (by omega)
              · exact (if_neg z6).trans ((if_neg z7).trans ((if_neg z4).trans ((if_neg z5).trans (if_pos z3))))
              · rw [shl_sadd ha (by omega)]
                congr 1
                have e2 : shPc (fun q a => shl a (rec q)) p arg a = if a.1 = 3 then (if arg = -1 then [] else [(0, arg, (p : Int))]) else if a.1 < 3 then [(a.1, pItem a, (p : Int))] else [] := (if_neg z4).trans (if_neg z5)
                rw [e2]
                by_cases y3 : a.1 = 3
                · rw [if_pos y3]
                  have i1 : isrt ((ndo os, a.1, pItem a, (p : Int)) : It4) = 0 := if_pos y3
                  have i2 : iwth ((ndo os, a.1, pItem a, (p : Int)) : It4) arg = arg := if_pos y3
                  rw [i1, i2]
                  by_cases z : s = 0
                  · rw [if_pos z]
                    by_cases y : arg = -1
                    · rw [if_pos y, if_neg (by rintro ⟨-, q⟩; rcases q with q | q; exact q y; exact q y3)]
                    · rw [if_neg y, if_pos ⟨hn.mpr z, Or.inl y⟩]
                  · rw [if_neg z, if_neg (fun y => z (hn.mp y.1))]
                · have y2 : a.1 < 3 := by omega
                  rw [if_neg y3, if_pos y2]
                  have i1 : isrt ((ndo os, a.1, pItem a, (p : Int)) : It4) = a.1 := if_neg y3
                  have i2 : iwth ((ndo os, a.1, pItem a, (p : Int)) : It4) arg = pItem a := if_neg y3
                  rw [i1, i2]
                  by_cases z : s = 0
                  · rw [if_pos z, if_pos ⟨hn.mpr z, Or.inr y3⟩]
                  · rw [if_neg z, if_neg (fun y => z (hn.mp y.1))]
            · rw [if_neg z3, if_neg (by omega)] at hl2
              refine fin its ?_ ?_ (by omega)
              · exact (if_neg z6).trans ((if_neg z7).trans ((if_neg z4).trans ((if_neg z5).trans (if_neg z3))))
              · have e2 : shPc (fun q a => shl a (rec q)) p arg a = [] := by unfold shPc; rw [if_neg z4, if_neg z5, if_neg (by omega), if_neg (by omega)]
                rw [e2]
                split <;> exact (List.append_nil _).symm
/-- what a page shows, by its own text and what the called pages show -/
theorem shl_fix {T : Nat → List Pc3} (hT : ∀ q, q < 12 → txOK (T q)) (ha : gAcy (fcT T)) (hd : ∀ q, q < 12 → depT T q ≤ 5) {p : Nat} (hp : p < 12) (hx : extT T p ≤ 100) {arg : Int} (h1 : -1 ≤ arg) : shl arg (sprT T p) = shR (fun q a => shl a (sprT T q)) p arg 0 (T p) := by
  have e := sprT_fix hT ha hp (hd p hp)
  have h2 : oxn (T p) + cSum (sprT T) (T p) ≤ extT T p := by
    have h3 := cSum_le (rec := sprT T) (g := extT T) (fun q hq => sprT_len hT ha hq (hd q hq)) (ps := T p) (hT p hp).1
    have h4 := eOC_cS2 (T := T) (g := extT T) (p := p) 12 (Nat.le_refl _)
    have h5 := exN_fix (fc := fcT T) (fo := foT T) ha hp
    have h6 : eOC (fcT T) (foT T) (extT T) p 12 = extT T p := h5
    omega
  have h7 := spl_sh (rec := sprT T) (p := p) h1 (T p) [] [] 0 (hT p hp).1 osR_nil (by show 0 + _ ≤ 100; omega)
  rw [e]
  exact h7
theorem shl_len {arg : Int} : ∀ (its : List It4), (shl arg its).length = shc arg its
  | [] => rfl
  | q :: qs => by
    rw [shl_cons, List.length_append, shl_len qs]
    show _ = (if shw q arg then 1 else 0) + shc arg qs
    split <;> rfl
theorem shl_at {arg : Int} {its : List It4} {i : Nat} (hi : i < its.length) (hs : shw (it4 its i) arg) : (shl arg its)[shc arg (its.take i)]? = some (isrt (it4 its i), iwth (it4 its i) arg, (it4 its i).2.2.2) := by
  have e : its = its.take i ++ (it4 its i :: its.drop (i + 1)) := by
    have h := List.take_append_drop (i + 1) its
    rw [it4_take hi, List.append_assoc] at h
    exact h.symm
  have h2 : shl arg its = shl arg (its.take i) ++ ((isrt (it4 its i), iwth (it4 its i) arg, (it4 its i).2.2.2) :: shl arg (its.drop (i + 1))) := by
    conv => lhs; rw [e]
    rw [shl_app, shl_cons, if_pos hs]
    rfl
  rw [h2, List.getElem?_append_right (by rw [shl_len]; exact Nat.le_refl _), shl_len, Nat.sub_self]
  rfl
theorem shc_get {arg : Int} : ∀ (its : List It4) (n : Nat), n < shc arg its → ∃ i, i < its.length ∧ shw (it4 its i) arg ∧ shc arg (its.take i) = n
  | [], n, h => absurd h (Nat.not_lt_zero _)
  | q :: qs, n, h => by
    have h1 : n < (if shw q arg then 1 else 0) + shc arg qs := h
    by_cases hs : shw q arg
    · rw [if_pos hs] at h1
      cases n with
      | zero => exact ⟨0, Nat.zero_lt_succ _, hs, rfl⟩
      | succ n =>
        obtain ⟨i, a1, a2, a3⟩ := shc_get (arg := arg) qs n (by omega)
        refine ⟨i + 1, Nat.succ_lt_succ a1, by rw [it4_cons]; exact a2, ?_⟩
        show (if shw q arg then 1 else 0) + shc arg (qs.take i) = n + 1
        rw [if_pos hs, a3]; omega
    · rw [if_neg hs] at h1
      obtain ⟨i, a1, a2, a3⟩ := shc_get (arg := arg) qs n (by omega)
      refine ⟨i + 1, Nat.succ_lt_succ a1, by rw [it4_cons]; exact a2, ?_⟩
      show (if shw q arg then 1 else 0) + shc arg (qs.take i) = n
      rw [if_neg hs, a3]; omega
/-- the values that are shown are no NONE -/
theorem shl_val {arg : Int} {its : List It4} (hv : ∀ q ∈ its, ItV q) (ha : -1 ≤ arg) (hb : arg ≤ 25) {x : Sh3} (hx : x ∈ shl arg its) : (0 ≤ x.1 ∧ x.1 ≤ 2) ∧ 0 ≤ x.2.1 ∧ x.2.1 ≤ 119 ∧ 0 ≤ x.2.2 ∧ x.2.2 ≤ 11 := by
  unfold shl at hx
  obtain ⟨q, hq, rfl⟩ := List.mem_map.mp hx
  obtain ⟨h1, h2⟩ := List.mem_filter.mp hq
  have h3 := shwb_iff.mp h2
  have h4 := hv q h1
  unfold ItV at h4
  unfold isrt iwth
  obtain ⟨h5, h6⟩ := h3
  by_cases z : q.2.1 = 3
  · rw [if_pos z, if_pos z]
    show (0 ≤ (0 : Int) ∧ (0 : Int) ≤ 2) ∧ 0 ≤ arg ∧ arg ≤ 119 ∧ 0 ≤ q.2.2.2 ∧ q.2.2.2 ≤ 11
    omega
  · rw [if_neg z, if_neg z]
    show (0 ≤ q.2.1 ∧ q.2.1 ≤ 2) ∧ 0 ≤ q.2.2.1 ∧ q.2.2.1 ≤ 119 ∧ 0 ≤ q.2.2.2 ∧ q.2.2.2 ≤ 11
    omega
-- ===== the walk that looks for one item meets just what is shown =====
def mtL (L : List Sh3) (st : Int × Int) : Int × Int := L.foldl (fun st q => if st.1 < 0 then st else wmt q.2.1 st) st
theorem mtL_over : ∀ (L : List Sh3) {st : Int × Int}, st.1 < 0 → mtL L st = st
  | [], _, _ => rfl
  | q :: L, st, h => by
    show mtL L (if st.1 < 0 then st else wmt q.2.1 st) = st
    rw [if_pos h]
    exact mtL_over L h
theorem mtL_app (a b : List Sh3) (st : Int × Int) : mtL (a ++ b) st = mtL b (mtL a st) := List.foldl_append
theorem wst_over {rec : Nat → Int → Int × Int → Int × Int} {arg : Int} : ∀ (ps : List Pc3) {s : Nat × (Int × Int)}, s.2.1 < 0 → ps.foldl (wst rec arg) s = s
  | [], _, _ => rfl
  | q :: ps, s, h => by
    show ps.foldl (wst rec arg) (wst rec arg s q) = s
    have e : wst rec arg s q = s := if_pos h
    rw [e]
    exact wst_over ps h
theorem wtx_sh {rec : Nat → Int → Int × Int → Int × Int} {rec2 : Nat → Int → List Sh3} {p : Nat} {arg : Int} : ∀ (ps : List Pc3) (s : Nat) (st : Int × Int), (∀ q ∈ ps, (q.1 = 4 → ∀ st, rec q.2.1.toNat q.2.2 st = mtL (rec2 q.2.1.toNat q.2.2) st) ∧ (q.1 = 5 → ∀ st, rec q.2.1.toNat arg st = mtL (rec2 q.2.1.toNat arg) st)) → (ps.foldl (wst rec arg) (s, st)).2 = mtL (shR rec2 p arg s ps) st
  | [], s, st, _ => rfl
  | a :: ps, s, st, hr => by
    have ih := fun s st => wtx_sh (rec := rec) (rec2 := rec2) (p := p) (arg := arg) ps s st (fun q hq => hr q (List.mem_cons_of_mem _ hq))
    have hra := hr a List.mem_cons_self
    by_cases h0 : st.1 < 0
    · rw [wst_over (a :: ps) (s := (s, st)) h0, mtL_over _ h0]
    · show (ps.foldl (wst rec arg) (wst rec arg (s, st) a)).2 = mtL (if a.1 = 6 ∧ (0 < s ∨ a.2.2 ≠ arg) then shR rec2 p arg (s + 1) ps else if a.1 = 7 ∧ 0 < s then shR rec2 p arg (s - 1) ps else if s = 0 then shPc rec2 p arg a ++ shR rec2 p arg 0 ps else shR rec2 p arg s ps) st
      have e0 : wst rec arg (s, st) a = if a.1 = 6 ∧ (0 < s ∨ a.2.2 ≠ arg) then (s + 1, st) else if a.1 = 7 ∧ 0 < s then (s - 1, st) else if s = 0 then (s, wpc rec arg st a) else (s, st) := if_neg h0
      rw [e0]
      by_cases z6 : a.1 = 6 ∧ (0 < s ∨ a.2.2 ≠ arg)
      · rw [if_pos z6, if_pos z6]; exact ih _ _
      · rw [if_neg z6, if_neg z6]
        by_cases z7 : a.1 = 7 ∧ 0 < s
        · rw [if_pos z7, if_pos z7]; exact ih _ _
        · rw [if_neg z7, if_neg z7]
          by_cases z : s = 0
          · subst z
            rw [if_pos rfl, if_pos rfl, mtL_app]
            have e1 : wpc rec arg st a = mtL (shPc rec2 p arg a) st := by
              unfold wpc shPc
              by_cases y4 : a.1 = 4
              · rw [if_pos y4, if_pos y4]; exact hra.1 y4 st
              · rw [if_neg y4, if_neg y4]
                by_cases y5 : a.1 = 5
                · rw [if_pos y5, if_pos y5]; exact hra.2 y5 st
                · rw [if_neg y5, if_neg y5]
                  by_cases y3 : a.1 = 3
                  · rw [if_pos y3, if_pos y3]
                    by_cases y : arg = -1
                    · rw [if_pos y, if_pos y]; rfl
                    · rw [if_neg y, if_neg y]
                      show _ = if st.1 < 0 then st else wmt arg st
                      rw [if_neg h0]
                  · rw [if_neg y3, if_neg y3]
                    by_cases y2 : a.1 < 3
                    · rw [if_pos y2, if_pos y2]
                      show _ = if st.1 < 0 then st else wmt (pItem a) st
                      rw [if_neg h0]
                    · rw [if_neg y2, if_neg y2]; rfl
            rw [e1]
            exact ih _ _
          · rw [if_neg z, if_neg z]; exact ih _ _
theorem wpN_sh {T : Nat → List Pc3} (hT : ∀ q, q < 12 → txOK (T q)) (ha : gAcy (fcT T)) (hd : ∀ q, q < 12 → depT T q ≤ 5) (hx : ∀ q, q < 12 → extT T q ≤ 100) : ∀ (n p : Nat) (arg : Int) (st : Int × Int), p < 12 → depT T p < n → -1 ≤ arg → wpN T n p arg st = mtL (shl arg (sprT T p)) st
  | 0, p, arg, st, _, h, _ => absurd h (Nat.not_lt_zero _)
  | n + 1, p, arg, st, hp, h, h1 => by
    show (if extT T p = 0 then st else (wtx (wpN T n) arg st (T p)).2) = _
    by_cases h0 : extT T p = 0
    · rw [if_pos h0]
      have h2 := sprT_len hT ha hp (hd p hp)
      have h3 : sprT T p = [] := List.length_eq_zero_iff.mp (by omega)
      rw [h3]; rfl
    · rw [if_neg h0, shl_fix hT ha hd hp (hx p hp) h1]
      refine wtx_sh (T p) 0 st (fun q hq => ⟨fun h4 st => ?_, fun h5 st => ?_⟩)
      · obtain ⟨q2, a1, a2, a3, -⟩ := dep_call hT ha hp hq (Or.inl h4)
        rw [a2, Int.toNat_natCast]
        have hv := ((hT p hp).1 q hq).R
        exact wpN_sh hT ha hd hx n q2 q.2.2 st a1 (by omega) (by omega)
      · obtain ⟨q2, a1, a2, a3, -⟩ := dep_call hT ha hp hq (Or.inr h5)
        rw [a2, Int.toNat_natCast]
        exact wpN_sh hT ha hd hx n q2 arg st a1 (by omega) h1
theorem mtL_found : ∀ (L : List Sh3) (k f : Int), (mtL L (k, f)).2 = match (if 0 ≤ k then L[k.toNat]? else none) with | some x => x.2.1 | none => f
  | [], k, f => by
    show f = _
    split
    · rename_i x hx
      split at hx <;> cases hx
    · rfl
  | q :: L, k, f => by
    show (mtL L (if k < 0 then (k, f) else (k - 1, if k = 0 then q.2.1 else f))).2 = _
    by_cases h0 : k < 0
    · rw [if_pos h0, mtL_over L (st := (k, f)) h0, if_neg (by omega)]
    · rw [if_neg h0, mtL_found L]
      by_cases h1 : k = 0
      · subst h1
        rw [if_pos rfl, if_neg (by omega), if_pos (by omega)]
        rfl
      · rw [if_neg h1, if_pos (by omega), if_pos (by omega)]
        obtain ⟨n, rfl⟩ : ∃ n : Nat, k = ((n + 1 : Nat) : Int) := ⟨(k - 1).toNat, by omega⟩
        rw [show (((n + 1 : Nat) : Int) - 1).toNat = n by omega, Int.toNat_natCast, List.getElem?_cons_succ]
