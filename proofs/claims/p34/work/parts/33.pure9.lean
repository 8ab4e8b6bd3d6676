section GR
variable {D : gD} {w w1 : wW} {τ ad : Nat → Nat} {nb tb p : Nat} {σ : Sg}
/-- a new text takes the roles of the next version's text -/
theorem WkI.grow1 {t a b c : Nat} (h : WkI D w τ ad nb tb σ) (hp : p < 12) (hn20 : sNv σ p < 20) (ft : w t = none) (fa : w a = none) (fb : w b = none) (fc : w c = none) (dta : a ≠ t) (dtb : b ≠ t) (dtc : c ≠ t) (dab : a ≠ b) (dac : a ≠ c) (dbc : b ≠ c) (k0 : w1 t = some (txO a b c 0 0)) (k1 : w1 a = some (iar D 30 (fun _ => 0))) (k2 : w1 b = some (iar D 30 (fun _ => 0))) (k3 : w1 c = some (iar D 30 (fun _ => 0))) (hk : ∀ q, q ≠ t → q ≠ a → q ≠ b → q ≠ c → w1 q = w q) :
    ∃ τ' ad' : Nat → Nat, (∀ q, w q ≠ none → τ' q = τ q) ∧ (∀ r, r < 1000 ∨ 5000 ≤ r → ad' r = ad r) ∧ WkI D w1 τ' ad' nb tb σ ∧ TxT D w1 τ' (vr p (sNv σ p + 1) + 1) t a b c [] ∧ (∀ T, TrOK D w τ ad tb T → TrOK D w1 τ' ad' tb T) ∧ ad' (vr p (sNv σ p + 1) + 1) = t ∧ ad' (vr p (sNv σ p + 1) + 2) = a ∧ ad' (vr p (sNv σ p + 1) + 3) = b ∧ ad' (vr p (sNv σ p + 1) + 4) = c := by
  obtain ⟨R, hR⟩ : ∃ R, R = vr p (sNv σ p + 1) := ⟨_, rfl⟩
  have hR1 : 1000 ≤ R ∧ R < 2260 := by rw [hR]; unfold vr; omega
  have hb := h.2.1.1
  refine ⟨fun q => if q = t then R + 1 else if q = a then R + 2 else if q = b then R + 3 else if q = c then R + 4 else τ q, fun r => if r = R + 1 then t else if r = R + 2 then a else if r = R + 3 then b else if r = R + 4 then c else ad r, ?_⟩
  obtain ⟨τ', hτ'⟩ : ∃ τ' : Nat → Nat, τ' = fun q => if q = t then R + 1 else if q = a then R + 2 else if q = b then R + 3 else if q = c then R + 4 else τ q := ⟨_, rfl⟩
  obtain ⟨ad', had'⟩ : ∃ ad' : Nat → Nat, ad' = fun r => if r = R + 1 then t else if r = R + 2 then a else if r = R + 3 then b else if r = R + 4 then c else ad r := ⟨_, rfl⟩
  rw [← hτ', ← had', ← hR]
  have et : τ' t = R + 1 := by rw [hτ']; exact if_pos rfl
  have ea : τ' a = R + 2 := by rw [hτ']; show (if a = t then _ else _) = _; rw [if_neg dta, if_pos rfl]
  have eb : τ' b = R + 3 := by rw [hτ']; show (if b = t then _ else _) = _; rw [if_neg dtb, if_neg (Ne.symm dab), if_pos rfl]
  have ec : τ' c = R + 4 := by rw [hτ']; show (if c = t then _ else _) = _; rw [if_neg dtc, if_neg (Ne.symm dac), if_neg (Ne.symm dbc), if_pos rfl]
  have eo : ∀ q, q ≠ t → q ≠ a → q ≠ b → q ≠ c → τ' q = τ q := fun q z1 z2 z3 z4 => by rw [hτ']; show (if q = t then _ else _) = _; rw [if_neg z1, if_neg z2, if_neg z3, if_neg z4]
  have e1 : ∀ q, w q ≠ none → τ' q = τ q := fun q hq => eo q (fun e => hq (by rw [e]; exact ft)) (fun e => hq (by rw [e]; exact fa)) (fun e => hq (by rw [e]; exact fb)) (fun e => hq (by rw [e]; exact fc))
  have e2 : ∀ r, ¬ (R + 1 ≤ r ∧ r < R + 5) → ad' r = ad r := fun r hr => by rw [had']; show (if r = R + 1 then _ else _) = _; rw [if_neg (by omega), if_neg (by omega), if_neg (by omega), if_neg (by omega)]
  have ho : offR τ' w w1 R (R + 5) := fun q hq => hk q (fun e => by subst e; omega) (fun e => by subst e; omega) (fun e => by subst e; omega) (fun e => by subst e; omega)
  have hx : ∀ q, q < 12 → ∀ x, x ≤ sNv σ q → ∀ y, y < 5 → ad' (vr q x + y) = ad (vr q x + y) := fun q hq x hx y hy => e2 _ (by
    have h20 := (h.1.2.1 q hq).1
    rw [hR]; unfold vr
    by_cases z : q = p
    · subst z; omega
    · omega)
  refine ⟨e1, fun r hr => e2 r (by omega), (h.retag e1 (fun r hr => e2 r (by omega)) hx).away hp hn20 (by rw [← hR]; exact ho), ⟨et, ea, eb, ec, k0, by decide, OWp.nil, (fun p hp => nomatch hp), _, _, _, k1, k2, k3, fun i hi => absurd hi (Nat.not_lt_zero i)⟩, fun T hT => (TrOK.retag hT e1 (fun x h1 h2 => e2 x (by omega))).off ho (by omega), ?_, ?_, ?_, ?_⟩
  · rw [had']; exact if_pos rfl
  · rw [had']; show (if R + 2 = R + 1 then _ else _) = _; rw [if_neg (by omega), if_pos rfl]
  · rw [had']; show (if R + 3 = R + 1 then _ else _) = _; rw [if_neg (by omega), if_neg (by omega), if_pos rfl]
  · rw [had']; show (if R + 4 = R + 1 then _ else _) = _; rw [if_neg (by omega), if_neg (by omega), if_neg (by omega), if_pos rfl]
/-- a new version takes the next version's role -/
theorem WkI.grow2 {V : Nat} (h : WkI D w τ ad nb tb σ) (hp : p < 12) (hn20 : sNv σ p < 20) (fV : w V = none) (hk : ∀ q, q ≠ V → w1 q = w q) :
    ∃ τ' ad' : Nat → Nat, (∀ q, w q ≠ none → τ' q = τ q) ∧ (∀ r, r ≠ vr p (sNv σ p + 1) → ad' r = ad r) ∧ WkI D w1 τ' ad' nb tb σ ∧ (∀ t a b c ps, TxT D w τ (vr p (sNv σ p + 1) + 1) t a b c ps → TxT D w1 τ' (vr p (sNv σ p + 1) + 1) t a b c ps) ∧ (∀ T, TrOK D w τ ad tb T → TrOK D w1 τ' ad' tb T) ∧ ad' (vr p (sNv σ p + 1)) = V ∧ τ' V = vr p (sNv σ p + 1) := by
  obtain ⟨R, hR⟩ : ∃ R, R = vr p (sNv σ p + 1) := ⟨_, rfl⟩
  have hR1 : 1000 ≤ R ∧ R < 2260 := by rw [hR]; unfold vr; omega
  have hb := h.2.1.1
  refine ⟨upz τ V R, upz ad R V, ?_⟩
  rw [← hR]
  have e1 : ∀ q, w q ≠ none → upz τ V R q = τ q := fun q hq => upz_ne (fun e => hq (by rw [e]; exact fV))
  have e2 : ∀ r, r ≠ R → upz ad R V r = ad r := fun r hr => upz_ne hr
  have ho : offR (upz τ V R) w w1 R (R + 1) := fun q hq => hk q (fun e => by subst e; rw [upz_eq] at hq; omega)
  have hx : ∀ q, q < 12 → ∀ x, x ≤ sNv σ q → ∀ y, y < 5 → upz ad R V (vr q x + y) = ad (vr q x + y) := fun q hq x hx y hy => e2 _ (by
    have h20 := (h.1.2.1 q hq).1
    rw [hR]; unfold vr
    by_cases z : q = p
    · subst z; omega
    · omega)
  exact ⟨e1, e2, (h.retag e1 (fun r hr => e2 r (by omega)) hx).away hp hn20 (by rw [← hR]; exact ho.wide (by omega) (by omega)), fun t a b c ps hT => (TxT.retag hT e1).off ho (by omega), fun T hT => (TrOK.retag hT e1 (fun x h1 h2 => e2 x (by omega))).off ho (by omega), upz_eq, upz_eq⟩
end GR
