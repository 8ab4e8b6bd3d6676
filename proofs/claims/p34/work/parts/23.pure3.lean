theorem stN_R {T : Nat → List Pc3} (h : ∀ q, q < 12 → txOK (T q)) : ∀ (n p : Nat), p < 12 → stN T n p = -1 ∨ (0 ≤ stN T n p ∧ stN T n p < 12)
  | 0, p, _ => Or.inl rfl
  | n + 1, p, hp => by
    unfold stN
    split
    · rename_i hr
      obtain ⟨h1, h2⟩ := rdrb_iff.mp hr
      have hv := (h p hp).1 _ (pcs_mem (ps := T p) (i := 0) (by omega))
      unfold PV at hv
      exact stN_R h n _ (by omega)
    · exact Or.inr ⟨by omega, by omega⟩
theorem stN_yes {T : Nat → List Pc3} {n p : Nat} (h : ((T p).length = 1 ∧ (pcs (T p) 0).1 = 8)) : stN T (n + 1) p = stN T n (pcs (T p) 0).2.1.toNat := if_pos (rdrb_iff.mpr h)
theorem stN_no {T : Nat → List Pc3} {n p : Nat} (h : ¬ ((T p).length = 1 ∧ (pcs (T p) 0).1 = 8)) : stN T (n + 1) p = p := if_neg (fun q => h (rdrb_iff.mp q))
theorem SgOK.txt {σ : Sg} (h : SgOK σ) : ∀ q, q < 12 → txOK (sT σ q) := fun q hq => ((h.2.1 q hq).2.2.2.2.2 _ (Nat.le_refl _)).1
theorem isl_R {its : List It4} (h : ∀ p ∈ its, ItV p) {i : Nat} (hi : i < its.length) (hl : shw (it4 its i) (-1) ∧ isrt (it4 its i) = 2) : 0 ≤ iwth (it4 its i) (-1) ∧ iwth (it4 its i) (-1) ≤ 119 := by
  have hv := h _ (it4_mem hi)
  have h2 := hl.2
  unfold ItV at hv
  unfold isrt at h2
  unfold iwth
  split at h2
  · omega
  · rename_i q; rw [if_neg q]; omega
theorem iwth_R {its : List It4} (h : ∀ p ∈ its, ItV p) {i : Nat} (hi : i < its.length) : -1 ≤ iwth (it4 its i) (-1) ∧ iwth (it4 its i) (-1) ≤ 119 := by
  have hv := h _ (it4_mem hi)
  unfold ItV at hv
  unfold iwth
  split <;> omega
theorem badb_iff {T : Nat → List Pc3} {p : It4} : badb T p = true ↔ ((shw p (-1) ∧ isrt p = 2) ∧ ¬ goodb T (iwth p (-1)) = true) := by
  unfold badb
  rw [Bool.and_eq_true, isl_iff]
  cases goodb T (iwth p (-1)) <;> simp
theorem leadb_iff {T : Nat → List Pc3} {p : Nat} {k : Int} : leadb T p k = true ↔ (k / 10 = (p : Int) ∨ stT T (k / 10).toNat = (p : Int)) := by
  unfold leadb
  rw [Bool.or_eq_true, beq_iff_eq, beq_iff_eq]
theorem lfb_iff {T : Nat → List Pc3} {p f : Nat} : lfb T p f = true ↔ ∃ i, i < (sprT T f).length ∧ ((shw (it4 (sprT T f) i) (-1) ∧ isrt (it4 (sprT T f) i) = 2) ∧ leadb T p (iwth (it4 (sprT T f) i) (-1)) = true) ∧ goodb T (iwth (it4 (sprT T f) i) (-1)) = true := by
  unfold lfb
  rw [any_it4]
  constructor
  · rintro ⟨i, hi, h⟩
    rw [Bool.and_eq_true, Bool.and_eq_true, isl_iff] at h
    exact ⟨i, hi, h⟩
  · rintro ⟨i, hi, h⟩
    exact ⟨i, hi, by rw [Bool.and_eq_true, Bool.and_eq_true, isl_iff]; exact h⟩
theorem goodb_no {T : Nat → List Pc3} {k : Int} (h : stT T (k / 10).toNat = -1) : goodb T k = false := if_pos h
theorem goodb_yes {T : Nat → List Pc3} {k : Int} (h : ¬ stT T (k / 10).toNat = -1) : goodb T k = ancb (k % 10) (sprT T (stT T (k / 10).toNat).toNat) := if_neg h
theorem brb_iff {σ : Sg} {p : Nat} {q : It4} : brb σ p q = true ↔ (shw q (-1) ∧ sRk σ q.2.2.2.toNat (sNv σ q.2.2.2.toNat) < sLk σ p) := by
  unfold brb
  rw [Bool.and_eq_true, shwb_iff, decide_eq_true_eq]
