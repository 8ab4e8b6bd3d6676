-- ===== another version of a page becomes that of now =====
section IRN
variable {l : Launch} {D : gD} {own : String} {cc : ByteArray} {nL : Nat} {R : Room} {rt : Option FieldType} {ini : Bool} {hh : Option (List (Nat × Nat × Nat × Nat))} {Rp : Option Value → wW → Prop} {Xp : String → wW → Prop} {G : gG} {n k : Nat} {w : wW} {L : List (Option Value)} {pc : Nat} {st : List Value}
theorem i_aloadN (C : Cx l D own cc nL R rt ini hh Rp Xp G) {i : Nat} (d : decode cc pc = .ok (.aload i, 2)) (hi : L[i]? = some (some .null) := by rfl) (kk : G n k w L (pc + 2) (.null :: st)) : G n k w L pc st := by
  obtain ⟨p, e, s, m, args, below, meth, c, A, Q, rfl, hx, hb, F⟩ := C
  intro H locs ls hH hA hS hl
  exact lv_aloadN hx hb d (lw_at hl hi) (kk H locs ls hH hA hS hl)
theorem i_astoreN (C : Cx l D own cc nL R rt ini hh Rp Xp G) {i : Nat} {L' : List (Option Value)} (d : decode cc pc = .ok (.astore i, 2)) (hL : L.set i (some .null) = L' := by rfl) (hi : i < L.length := by exact Nat.lt_of_sub_eq_succ rfl) (kk : G n k w L' (pc + 2) st) : G n k w L pc (.null :: st) := by
  obtain ⟨p, e, s, m, args, below, meth, c, A, Q, rfl, hx, hb, F⟩ := C
  intro H locs ls hH hA hS hl
  exact lv_astoreN hx hb d (lw_to hl) hi rfl (fun ls' hl' => kk H locs ls' hH hA hS (hL ▸ lw_of hl hi rfl hl'))
end IRN
def uVn (σ : Sg) (p v : Nat) : Sg := (sDr σ, sTx σ, sRk σ, upz (sNv σ) p v, sLk σ, sUr σ)
theorem sT_uVn {σ : Sg} {p v : Nat} : sT (uVn σ p v) = upT (sT σ) p (sTx σ p v) := by
  funext q
  show sTx σ q (upz (sNv σ) p v q) = if q = p then sTx σ p v else sTx σ q (sNv σ q)
  by_cases z : q = p
  · subst z; rw [upz_eq, if_pos rfl]
  · rw [upz_ne z, if_neg z]
def WkPre (D : gD) (w : wW) (τ ad : Nat → Nat) (nb tb : Nat) (σ : Sg) : Prop := SgOK σ ∧ ((nb = 10 ∧ tb = 20) ∨ (nb = 20 ∧ tb = 10)) ∧ w (ad 0) = some (mwO (ad 3) (ad 1) (ad 2) (ad nb) (ad tb)) ∧ (∃ fc fo fr fd fx, NtD D w τ ad nb fc fo fr fd fx) ∧ (∃ fc fo fr fd fx, NtD D w τ ad tb fc fo fr fd fx ∧ NetOK (sT σ) fc fo fr fd fx) ∧ WkA D w τ ad σ ∧ WkP w τ ad σ ∧ (∀ p, p < 12 → ∃ its os, SpD D w τ ad (200 + 6 * p) its os) ∧ WkV D w τ ad σ
theorem WkI.to {D : gD} {w : wW} {τ ad : Nat → Nat} {nb tb : Nat} {σ : Sg} {p v : Nat} (h : WkI D w τ ad nb tb σ) (hT : TrOK D w τ ad tb (upT (sT σ) p (sTx σ p v))) (hp : p < 12) (h20 : v ≤ 20) (hsg : ∀ x, x ≤ v → txOK (sTx σ p x) ∧ owc (sTx σ p x) = 0 ∧ 0 ≤ sRk σ p x ∧ sRk σ p x ≤ 3) (hvs : ∀ x, x ≤ v → τ (ad (vr p x)) = vr p x ∧ w (ad (vr p x)) = some (vrO (if x = 0 then .null else .ref (ad (vr p (x - 1)))) x (ad (vr p x + 1)) (sRk σ p x)) ∧ TxD D w τ ad (vr p x + 1) (sTx σ p x)) : WkPre D (wset w (ad (100 + p)) (pgO (ad (vr p v)) (sLk σ p) (ad (200 + 6 * p)))) τ ad nb tb (uVn σ p v) := by
  obtain ⟨⟨s1, s2, s3⟩, ⟨hb, g1, ⟨fc, fo, fr, fd, fx, g2, g3⟩, -⟩, ha, hP, hs, hv⟩ := h
  obtain ⟨⟨gc, go, gr, gd, gx, g4, g5⟩, g6⟩ := hT
  have t1 := (hP p hp).1
  have ho : ∀ q, τ q ≠ 100 + p → wset w (ad (100 + p)) (pgO (ad (vr p v)) (sLk σ p) (ad (200 + 6 * p))) q = w q := fun q hq => wset_ne (fun e => hq (by rw [e]; exact t1))
  have ha0 := ha.1
  refine ⟨⟨s1, fun q hq => ?_, s3⟩, hb, by rw [ho _ (by omega)]; exact g1, ⟨fc, fo, fr, fd, fx, g2.kept (fun q h1 h2 => ho q (by omega))⟩, ⟨gc, go, gr, gd, gx, g4.kept (fun q h1 h2 => ho q (by omega)), by rw [sT_uVn]; exact g5⟩, ha.kept (fun q h1 h2 => ho q (by omega)), fun q hq => ⟨(hP q hq).1, ?_⟩, fun q hq => ?_, fun q hq x hx => ?_⟩
  · obtain ⟨z1, z2, z3, z4, z5, z6⟩ := s2 q hq
    obtain ⟨y1, y2, y3⟩ := g6 q hq
    rw [sT_uVn]
    refine ⟨?_, z2, y1, y2, y3, fun x hx => ?_⟩
    · show upz (sNv σ) p v q ≤ 20
      by_cases z : q = p
      · subst z; rw [upz_eq]; exact h20
      · rw [upz_ne z]; exact z1
    · have hx' : x ≤ upz (sNv σ) p v q := hx
      by_cases z : q = p
      · subst z; rw [upz_eq] at hx'; exact hsg x hx'
      · rw [upz_ne z] at hx'; exact z6 x hx'
  · show _ = some (pgO (ad (vr q (upz (sNv σ) p v q))) (sLk σ q) (ad (200 + 6 * q)))
    by_cases z : q = p
    · subst z; rw [upz_eq, wset_eq]
    · rw [upz_ne z, ho _ (by rw [(hP q hq).1]; omega)]; exact (hP q hq).2
  · obtain ⟨os, a⟩ := hs q hq
    exact ⟨_, os, a.kept (fun q h1 h2 => ho q (by omega))⟩
  · have hx' : x ≤ upz (sNv σ) p v q := hx
    have key : x ≤ 20 ∧ τ (ad (vr q x)) = vr q x ∧ w (ad (vr q x)) = some (vrO (if x = 0 then .null else .ref (ad (vr q (x - 1)))) x (ad (vr q x + 1)) (sRk σ q x)) ∧ TxD D w τ ad (vr q x + 1) (sTx σ q x) := by
      by_cases z : q = p
      · subst z; rw [upz_eq] at hx'; exact ⟨by omega, hvs x hx'⟩
      · rw [upz_ne z] at hx'; exact ⟨Nat.le_trans hx' (s2 q hq).1, hv q hq x hx'⟩
    obtain ⟨k0, k1, k2, k3⟩ := key
    exact ⟨k1, by rw [ho _ (by rw [k1]; unfold vr; omega)]; exact k2, k3.kept (fun q h1 h2 => ho q (by unfold vr at *; omega))⟩
def unS (σ : Sg) (k p : Nat) : Int := if sUr σ k < frcS σ p ∨ sRk σ p (sNv σ p - 1) < frcS σ p then -2 else refS σ p (sTx σ p (sNv σ p - 1))
theorem refS_neg {σ : Sg} {p : Nat} {ps : List Pc3} : -6 ≤ refS σ p ps ∧ refS σ p ps ≤ -1 := by
  unfold refS
  split
  · omega
  · split
    · omega
    · split
      · omega
      · split <;> omega
