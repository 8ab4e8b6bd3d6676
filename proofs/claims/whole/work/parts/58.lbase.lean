theorem xl_13 : Cond.classLink RL 13 "java/lang/IllegalArgumentException" ∈ gT := gT_of 301 (by decide +kernel) (by decide +kernel)
theorem xc_13 : Cond.castable "java/lang/IllegalArgumentException" "java/lang/IllegalArgumentException" ∈ gN := gN_of 271 (by decide +kernel) (by decide +kernel)
theorem xl_15 : Cond.classLink RL 15 "java/lang/IllegalStateException" ∈ gT := gT_of 302 (by decide +kernel) (by decide +kernel)
theorem xc_15 : Cond.castable "java/lang/IllegalStateException" "java/lang/IllegalStateException" ∈ gN := gN_of 291 (by decide +kernel) (by decide +kernel)
theorem xl_25 : Cond.classLink RL 25 "java/lang/IndexOutOfBoundsException" ∈ gT := gT_of 363 (by decide +kernel) (by decide +kernel)
theorem xc_25 : Cond.castable "java/lang/IndexOutOfBoundsException" "java/lang/IndexOutOfBoundsException" ∈ gN := gN_of 175 (by decide +kernel) (by decide +kernel)
theorem xl_83 : Cond.classLink RL 83 "java/util/NoSuchElementException" ∈ gT := gT_of 687 (by decide +kernel) (by decide +kernel)
theorem xc_83 : Cond.castable "java/util/NoSuchElementException" "java/util/NoSuchElementException" ∈ gN := gN_of 660 (by decide +kernel) (by decide +kernel)
theorem op3_t {a b c : Prop} [Decidable a] [Decidable b] [Decidable c] {σ : Sg} {X : Rs} (ha : a) (hb : b) (hc : c) : op3 a b c σ X = X := by unfold op3; rw [if_neg (fun q => q ha), if_neg (fun q => q hb), if_neg (fun q => q hc)]
theorem op3_e1 {a b c : Prop} [Decidable a] [Decidable b] [Decidable c] {σ : Sg} {X : Rs} (ha : ¬ a) : op3 a b c σ X = (1, 0, σ) := by unfold op3; rw [if_pos ha]
theorem op3_e2 {a b c : Prop} [Decidable a] [Decidable b] [Decidable c] {σ : Sg} {X : Rs} (ha : a) (hb : ¬ b) : op3 a b c σ X = (2, 0, σ) := by unfold op3; rw [if_neg (fun q => q ha), if_pos hb]
theorem op3_e3 {a b c : Prop} [Decidable a] [Decidable b] [Decidable c] {σ : Sg} {X : Rs} (ha : a) (hb : b) (hc : ¬ c) : op3 a b c σ X = (3, 0, σ) := by unfold op3; rw [if_neg (fun q => q ha), if_neg (fun q => q hb), if_pos hc]
-- ===== from call to call: the class's part and the reference's part =====
def KPc (D : gD) (w : wW) (τ ad : Nat → Nat) (σ : Sg) (w1 : wW) : Prop := ∃ (τ2 ad2 : Nat → Nat) (nb tb : Nat), WkI D w1 τ2 ad2 nb tb σ ∧ ad2 0 = ad 0 ∧ (∀ r, 5000 ≤ r → ad2 r = ad r) ∧ ∀ q, w q ≠ none → 5000 ≤ τ q → τ2 q = τ q ∧ w1 q = w q
def WKP (D : gD) (w : wW) (τ ad : Nat → Nat) (R : Rs) (w1 : wW) : Prop := ∃ (τ2 ad2 : Nat → Nat) (nb tb : Nat), WkI D w1 τ2 ad2 nb tb R.2.2 ∧ ad2 0 = ad 0 ∧ (∀ r, 5000 ≤ r → ad2 r = ad r) ∧ (∀ q, w q ≠ none → 5000 ≤ τ q → τ2 q = τ q ∧ (q ≠ ad 6000 → w1 q = w q)) ∧ ∃ g2 : Nat → Int64, w1 (ad 6000) = some (lar D 1 g2) ∧ (R.1 = 0 → g2 0 = (Z32 R.2.1).toInt64)
section KP
variable {D : gD} {w w1 : wW} {τ ad : Nat → Nat} {nb tb : Nat} {σ σ' : Sg}
theorem KPc.off (h : WkI D w1 τ ad nb tb σ') (ho : offR τ w w1 0 5000) : KPc D w τ ad σ' w1 := ⟨τ, ad, nb, tb, h, rfl, fun _ _ => rfl, fun q _ h5 => ⟨rfl, ho q (Or.inr h5)⟩⟩
theorem KPc.same (h : WkI D w τ ad nb tb σ) (e : w1 = w) : KPc D w τ ad σ w1 := by rw [e]; exact ⟨τ, ad, nb, tb, h, rfl, fun _ _ => rfl, fun q _ _ => ⟨rfl, rfl⟩⟩
theorem kpW.kp (h : kpW D w τ ad nb tb σ w1) : KPc D w τ ad σ w1 := by
  obtain ⟨τ2, h1, h2⟩ := h
  exact ⟨τ2, ad, nb, tb, h1, rfl, fun _ _ => rfl, h2⟩
theorem KPc.out {g : Nat → Int64} (h : KPc D w τ ad σ w1) (ht : τ (ad 6000) = 6000) (hO : w (ad 6000) = some (lar D 1 g)) : w1 (ad 6000) = some (lar D 1 g) := by
  obtain ⟨τ2, ad2, nb, tb, h1, h2, h3, h4⟩ := h
  rw [(h4 _ (by rw [hO]; exact nofun) (by omega)).2]; exact hO
theorem KPc.store {g : Nat → Int64} {R : Rs} {z : Int64} (h : KPc D w τ ad R.2.2 w1) (ht : τ (ad 6000) = 6000) (hO : w (ad 6000) = some (lar D 1 g)) (hz : z = (Z32 R.2.1).toInt64) : WKP D w τ ad R (wset w1 (ad 6000) (lar D 1 (upz g 0 z))) := by
  obtain ⟨τ2, ad2, nb, tb, h1, h2, h3, h4⟩ := h
  have h5 := h4 (ad 6000) (by rw [hO]; exact nofun) (by omega)
  refine ⟨τ2, ad2, nb, tb, h1.far (offR.rf.put (lo := 6000) (hi := 6001) (by omega) (by omega)) (by omega), h2, h3, fun q hq hq5 => ⟨(h4 q hq hq5).1, fun hne => by rw [wset_ne hne]; exact (h4 q hq hq5).2⟩, _, wset_eq, fun _ => by rw [upz_eq]; exact hz⟩
theorem KPc.thrown {g : Nat → Int64} {R : Rs} (h : KPc D w τ ad σ w1) (ht : τ (ad 6000) = 6000) (hO : w (ad 6000) = some (lar D 1 g)) (hR : R.1 ≠ 0) (hσ : R.2.2 = σ) : WKP D w τ ad R w1 := by
  have ho := h.out ht hO
  obtain ⟨τ2, ad2, nb, tb, h1, h2, h3, h4⟩ := h
  exact ⟨τ2, ad2, nb, tb, by rw [hσ]; exact h1, h2, h3, fun q hq hq5 => ⟨(h4 q hq hq5).1, fun _ => (h4 q hq hq5).2⟩, g, ho, fun z => absurd z hR⟩
theorem mK_lt {k : Nat} (hk : mK k = true) : 5001 + k < 5030 := by
  unfold mK at hk
  simp at hk
  omega
theorem MdJ.carry {w0 : wW} {τ2 ad2 : Nat → Nat} {la : Int} (h : MdJ D w0 w τ ad σ la) (had : ∀ r, 5000 ≤ r → ad2 r = ad r) (ht : τ (ad 6000) = 6000) (hk : ∀ q, w q ≠ none → 5000 ≤ τ q → τ2 q = τ q ∧ (q ≠ ad 6000 → w1 q = w q)) : MdJ D w1 w1 τ2 ad2 σ la := by
  obtain ⟨F, dn, op, sh, ⟨⟨a1, a2⟩, a3, -⟩, hV⟩ := h
  have k0 := hk (ad 5000) (by rw [a2]; exact nofun) (by omega)
  have e0 : w1 (ad 5000) = w (ad 5000) := k0.2 (fun z => by rw [z, ht] at a1; omega)
  have hobj : mdO ad2 dn op sh la = mdO ad dn op sh la := by
    unfold mdO
    rw [had 5001 (by omega), had 5004 (by omega), had 5005 (by omega), had 5006 (by omega), had 5007 (by omega), had 5008 (by omega), had 5009 (by omega), had 5010 (by omega), had 5011 (by omega), had 5012 (by omega), had 5013 (by omega), had 5014 (by omega), had 5015 (by omega), had 5016 (by omega), had 5017 (by omega), had 5019 (by omega), had 5020 (by omega), had 5021 (by omega)]
  refine ⟨F, dn, op, sh, ⟨⟨by rw [had 5000 (by omega), k0.1]; exact a1, by rw [had 5000 (by omega), e0, hobj]; exact a2⟩, fun k hk9 => ?_, offR.rf⟩, hV⟩
  obtain ⟨b1, b2⟩ := a3 k hk9
  have hlt := mK_lt hk9
  have kk := hk (ad (5001 + k)) (by rw [b2]; exact nofun) (by omega)
  rw [had (5001 + k) (by omega)]
  exact ⟨by rw [kk.1]; exact b1, by rw [kk.2 (fun z => by rw [z, ht] at b1; omega)]; exact b2⟩
theorem MdJ.reset {w0 : wW} {la : Int} (h : MdJ D w0 w τ ad σ la) : MdJ D w w τ ad σ la := by
  obtain ⟨F, dn, op, sh, ⟨a, b, -⟩, hV⟩ := h
  exact ⟨F, dn, op, sh, ⟨a, b, offR.rf⟩, hV⟩
theorem MdJ.off {w0 : wW} {la : Int} (h : MdJ D w0 w τ ad σ la) : offR τ w0 w 5000 5030 := by
  obtain ⟨F, dn, op, sh, ⟨-, -, c⟩, -⟩ := h
  exact c
theorem WkI.it (h : WkI D w τ ad nb tb σ) : itOK σ := fun p hp => sprT_V h hp
end KP