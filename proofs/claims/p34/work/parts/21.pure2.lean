def rsT (T : Nat → List Pc3) (p : Nat) : Nat := wRnd (sRow (fcT T) (fun _ => 0) 12) 12 p
theorem rsT_bit {T : Nat → List Pc3} {p q : Nat} (hp : p < 12) (hq : q < 12) : (rsT T p).testBit q = true ↔ rchT T p q := by unfold rsT rchT; exact wRnd_full hp hq
theorem wRnd_lt {fr : Nat → Nat} (h : ∀ p, fr p < 2 ^ 12) : ∀ k p, wRnd fr k p < 2 ^ 12
  | 0, p => h p
  | k + 1, p => by
    have ih := wRnd_lt h k
    show wRow (wRnd fr k) k 12 p < 2 ^ 12
    rw [wRow_at]
    split
    · exact Nat.or_lt_two_pow (ih p) (ih k)
    · exact ih p
theorem rsT_lt {T : Nat → List Pc3} {p : Nat} : rsT T p < 4096 := by
  unfold rsT
  exact wRnd_lt (fun p => by
  rw [sRow_at]
  split
  · exact sE_lt 12
  · exact Nat.two_pow_pos 12) 12 p
theorem eq_bits {a b : Nat} (ha : a < 4096) (hb : b < 4096) (h : ∀ q, q < 12 → (a.testBit q = true ↔ b.testBit q = true)) : a = b := by
  apply Nat.eq_of_testBit_eq
  intro q
  by_cases hq : q < 12
  · have := h q hq
    cases ha9 : a.testBit q <;> cases hb9 : b.testBit q <;> simp [ha9, hb9] at this ⊢
  · have e : 2 ^ 12 ≤ 2 ^ q := Nat.pow_le_pow_right (by decide) (by omega)
    rw [Nat.testBit_lt_two_pow (Nat.lt_of_lt_of_le ha e), Nat.testBit_lt_two_pow (Nat.lt_of_lt_of_le hb e)]
theorem frcN_cong {lk : Nat → Int} {fr gr : Nat → Nat} {p : Nat} (h : ∀ n, n < 12 → fr n = gr n) : ∀ n, n ≤ 12 → frcN lk fr p n = frcN lk gr p n
  | 0, _ => rfl
  | n + 1, hn => by
    have ih := frcN_cong (lk := lk) (p := p) h n (by omega)
    show (if (fr n).testBit p = true then max (frcN lk fr p n) (lk n) else frcN lk fr p n) = (if (gr n).testBit p = true then max (frcN lk gr p n) (lk n) else frcN lk gr p n)
    rw [h n (by omega), ih]
def frcS (σ : Sg) (p : Nat) : Int := frcN (sLk σ) (rsT (sT σ)) p 12
theorem NetOK.fr {T : Nat → List Pc3} {fc fo fr fd fx : Nat → Nat} (h : NetOK T fc fo fr fd fx) (h2 : ∀ p, fr p < 4096) : ∀ p, p < 12 → fr p = rsT T p := fun p hp => eq_bits (h2 p) rsT_lt (fun q hq => ((h p hp).1 q hq).2.trans (rsT_bit hp hq).symm)
theorem frcS_R {σ : Sg} (h : SgOK σ) {p : Nat} (hp : p < 12) : 0 ≤ frcS σ p ∧ frcS σ p ≤ 3 := frcN_R (fun i hi => (h.2.1 i hi).2.1) hp 12 (Nat.le_refl _)
def uUr (σ : Sg) (k : Nat) (g : Int) : Sg := (sDr σ, sTx σ, sRk σ, sNv σ, sLk σ, upz (sUr σ) k g)
def uLk (σ : Sg) (p : Nat) (g : Int) : Sg := (sDr σ, sTx σ, sRk σ, sNv σ, upz (sLk σ) p g, sUr σ)
def uRk (σ : Sg) (p v : Nat) (g : Int) : Sg := (sDr σ, sTx σ, upz (sRk σ) p (upz (sRk σ p) v g), sNv σ, sLk σ, sUr σ)
section WU
variable {D : gD} {w : wW} {τ ad : Nat → Nat} {nb tb : Nat} {σ : Sg}
theorem WkI.setUr (h : WkI D w τ ad nb tb σ) {k : Nat} {g : Int} (hg : 0 ≤ g ∧ g ≤ 3) {f : Nat → Int} (hf : ∀ u, u < 6 → f u = sUr (uUr σ k g) u) : WkI D (wset w (ad 2) (iar D 6 f)) τ ad nb tb (uUr σ k g) := by
  obtain ⟨⟨s1, s2, s3⟩, hn, ha, hp, hs, hv⟩ := h
  have ha9 := ha
  obtain ⟨a0, a1, a2, ⟨pf, b1, b2⟩, ⟨uf, c1, c2⟩, d1⟩ := ha9
  have ho : ∀ q, τ q ≠ 2 → wset w (ad 2) (iar D 6 f) q = w q := fun q hq => wset_ne (fun e => hq (by rw [e]; exact a2))
  refine ⟨⟨s1, s2, fun u hu => ?_⟩, hn.kept a0 (fun q hq => ho q (by omega)), ⟨a0, a1, a2, ⟨pf, by rw [ho _ (by omega)]; exact b1, b2⟩, ⟨f, wset_eq, hf⟩, d1.kept (fun q h1 h2 => ho q (by omega))⟩, hp.kept (fun q h1 h2 => ho q (by omega)), hs.kept (fun q h1 h2 => ho q (by omega)), hv.kept (fun p hp => (s2 p hp).1) (fun q h1 h2 => ho q (by omega))⟩
  show 0 ≤ upz (sUr σ) k g u ∧ upz (sUr σ) k g u ≤ 3
  by_cases q : u = k
  · subst q; rw [upz_eq]; exact hg
  · rw [upz_ne q]; exact s3 u hu
theorem WkI.setLk (h : WkI D w τ ad nb tb σ) {p : Nat} (hp12 : p < 12) {g : Int} (hg : 0 ≤ g ∧ g ≤ 3) : WkI D (wset w (ad (100 + p)) (pgO (ad (vr p (sNv σ p))) g (ad (200 + 6 * p)))) τ ad nb tb (uLk σ p g) := by
  obtain ⟨⟨s1, s2, s3⟩, hn, ha, hp, hs, hv⟩ := h
  have t1 := (hp p hp12).1
  have ho : ∀ q, τ q ≠ 100 + p → wset w (ad (100 + p)) (pgO (ad (vr p (sNv σ p))) g (ad (200 + 6 * p))) q = w q := fun q hq => wset_ne (fun e => hq (by rw [e]; exact t1))
  have ha0 := ha.1
  refine ⟨⟨s1, fun i hi => ?_, s3⟩, hn.kept ha0 (fun q hq => ho q (by omega)), ha.kept (fun q h1 h2 => ho q (by omega)), fun i hi => ⟨(hp i hi).1, ?_⟩, hs.kept (fun q h1 h2 => ho q (by omega)), hv.kept (fun p hp => (s2 p hp).1) (fun q h1 h2 => ho q (by omega))⟩
  · refine ⟨(s2 i hi).1, ?_, (s2 i hi).2.2⟩
    show 0 ≤ upz (sLk σ) p g i ∧ upz (sLk σ) p g i ≤ 3
    by_cases q : i = p
    · subst q; rw [upz_eq]; exact hg
    · rw [upz_ne q]; exact (s2 i hi).2.1
  · show wset w _ _ _ = some (pgO (ad (vr i (sNv σ i))) (upz (sLk σ) p g i) (ad (200 + 6 * i)))
    by_cases q : i = p
    · subst q; rw [upz_eq, wset_eq]
    · rw [upz_ne q, ho _ (by rw [(hp i hi).1]; omega)]; exact (hp i hi).2
theorem WkI.setRk (h : WkI D w τ ad nb tb σ) {p : Nat} (hp12 : p < 12) {g : Int} (hg : 0 ≤ g ∧ g ≤ 3) : WkI D (wset w (ad (vr p (sNv σ p))) (vrO (if sNv σ p = 0 then .null else .ref (ad (vr p (sNv σ p - 1)))) (sNv σ p) (ad (vr p (sNv σ p) + 1)) g)) τ ad nb tb (uRk σ p (sNv σ p) g) := by
  obtain ⟨⟨s1, s2, s3⟩, hn, ha, hp, hs, hv⟩ := h
  have t1 := (hv p hp12 _ (Nat.le_refl _)).1
  have n20 := (s2 p hp12).1
  have ho : ∀ q, τ q ≠ vr p (sNv σ p) → wset w (ad (vr p (sNv σ p))) (vrO (if sNv σ p = 0 then .null else .ref (ad (vr p (sNv σ p - 1)))) (sNv σ p) (ad (vr p (sNv σ p) + 1)) g) q = w q := fun q hq => wset_ne (fun e => hq (by rw [e]; exact t1))
  have ha0 := ha.1
  have hlo : 1000 ≤ vr p (sNv σ p) := by unfold vr; omega
  refine ⟨⟨s1, fun i hi => ?_, s3⟩, hn.kept ha0 (fun q hq => ho q (by omega)), ha.kept (fun q h1 h2 => ho q (by omega)), hp.kept (fun q h1 h2 => ho q (by omega)), hs.kept (fun q h1 h2 => ho q (by omega)), fun i hi v hvi => ?_⟩
  · obtain ⟨z1, z2, z3, z4, z5, z6⟩ := s2 i hi
    refine ⟨z1, z2, z3, z4, z5, fun v hvi => ?_⟩
    obtain ⟨y1, y2, y3, y4⟩ := z6 v hvi
    refine ⟨y1, y2, ?_⟩
    show 0 ≤ upz (sRk σ) p (upz (sRk σ p) (sNv σ p) g) i v ∧ upz (sRk σ) p (upz (sRk σ p) (sNv σ p) g) i v ≤ 3
    by_cases q : i = p
    · subst q
      rw [upz_eq]
      by_cases q2 : v = sNv σ i
      · subst q2; rw [upz_eq]; exact hg
      · rw [upz_ne q2]; exact ⟨y3, y4⟩
    · rw [upz_ne q]; exact ⟨y3, y4⟩
  · obtain ⟨y1, y2, y3⟩ := hv i hi v hvi
    have m20 := (s2 i hi).1
    have hvi' : v ≤ sNv σ i := hvi
    refine ⟨y1, ?_, y3.kept (fun q h1 h2 => ho q (by unfold vr at *; omega))⟩
    show _ = some (vrO _ _ _ (upz (sRk σ) p (upz (sRk σ p) (sNv σ p) g) i v))
    by_cases q : i = p
    · subst q
      rw [upz_eq]
      by_cases q2 : v = sNv σ i
      · subst q2; rw [upz_eq, wset_eq]
      · rw [upz_ne q2, ho _ (by rw [y1]; unfold vr; omega)]; exact y2
    · rw [upz_ne q, ho _ (by rw [y1]; unfold vr; omega)]; exact y2
end WU
