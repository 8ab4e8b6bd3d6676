def frm (t : Nat) (F2 F1 : Nat → Nat → Int) : Prop := ∀ j, j < t → F2 18 j = F1 18 j ∧ F2 19 j = F1 19 j ∧ F2 20 j = F1 20 j
theorem frm.trans {t : Nat} {F1 F2 F3 : Nat → Nat → Int} (h : frm t F3 F2) (h2 : frm t F2 F1) : frm t F3 F1 := fun j hj => ⟨(h j hj).1.trans (h2 j hj).1, (h j hj).2.1.trans (h2 j hj).2.1, (h j hj).2.2.trans (h2 j hj).2.2⟩
theorem frm.mono {t t' : Nat} {F2 F1 : Nat → Nat → Int} (h : frm t F2 F1) (ht : t' ≤ t) : frm t' F2 F1 := fun j hj => h j (by omega)
theorem shR_step {rec : Nat → Int → List Sh3} {p : Nat} {arg : Int} {ps : List Pc3} {z d d' : Nat} (h : z < ps.length) (hd : 0 < d) (e : (d' : Int) = d + dow (pcs ps z).1) : shR rec p arg d (ps.drop z) = shR rec p arg d' (ps.drop (z + 1)) := by
  rw [pcs_drop h]
  show (if (pcs ps z).1 = 6 ∧ (0 < d ∨ (pcs ps z).2.2 ≠ arg) then shR rec p arg (d + 1) (ps.drop (z + 1)) else if (pcs ps z).1 = 7 ∧ 0 < d then shR rec p arg (d - 1) (ps.drop (z + 1)) else if d = 0 then _ else shR rec p arg d (ps.drop (z + 1))) = _
  unfold dow at e
  by_cases z6 : (pcs ps z).1 = 6
  · rw [if_pos ⟨z6, Or.inl hd⟩]
    rw [if_pos z6] at e
    rw [show d' = d + 1 by omega]
  · rw [if_neg (fun y => z6 y.1)]
    rw [if_neg z6] at e
    by_cases z7 : (pcs ps z).1 = 7
    · rw [if_pos ⟨z7, hd⟩]
      rw [if_pos z7] at e
      rw [show d' = d - 1 by omega]
    · rw [if_neg (fun y => z7 y.1), if_neg (by omega)]
      rw [if_neg z7] at e
      rw [show d' = d by omega]
theorem shl_le {σ : Sg} (hS : SgOK σ) {p : Nat} (hp : p < 12) (g : Int) : (shl g (sprT (sT σ) p)).length ≤ 100 := by
  obtain ⟨d1, d2, d3⟩ := hS.dx
  have h1 := sprT_len d1 hS.acy hp (d2 p hp)
  have h2 := d3 p hp
  rw [shl_len]
  have h3 := shc_le g (sprT (sT σ) p)
  omega
theorem shl_RS {σ : Sg} (hS : SgOK σ) {p : Nat} (hp : p < 12) {g : Int} (hg : -1 ≤ g) : shl g (sprT (sT σ) p) = RS (sT σ) p g 0 := by
  obtain ⟨d1, d2, d3⟩ := hS.dx
  rw [shl_fix d1 hS.acy d2 hp (d3 p hp) hg]
  rfl
