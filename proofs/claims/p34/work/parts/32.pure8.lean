-- ===== new objects: addresses that were free get roles of their own =====
section RT
variable {D : gD} {w : wW} {τ τ' ad ad' : Nat → Nat}
theorem TxT.retag {r t a b c : Nat} {ps : List Pc3} (h : TxT D w τ r t a b c ps) (hτ : ∀ q, w q ≠ none → τ' q = τ q) : TxT D w τ' r t a b c ps := by
  obtain ⟨t1, t2, t3, t4, k1, b1, b2, b3, fs, fp, fg, k2, k3, k4, k5⟩ := h
  exact ⟨by rw [hτ _ (by rw [k1]; exact nofun)]; exact t1, by rw [hτ _ (by rw [k2]; exact nofun)]; exact t2, by rw [hτ _ (by rw [k3]; exact nofun)]; exact t3, by rw [hτ _ (by rw [k4]; exact nofun)]; exact t4, k1, b1, b2, b3, fs, fp, fg, k2, k3, k4, k5⟩
theorem NtT.retag {r a c o e d x : Nat} {fc fo fr fd fx : Nat → Nat} (h : NtT D w τ r a c o e d x fc fo fr fd fx) (hτ : ∀ q, w q ≠ none → τ' q = τ q) : NtT D w τ' r a c o e d x fc fo fr fd fx := by
  obtain ⟨t1, t2, t3, t4, t5, t6, k1, k2, k3, k4, k5, k6, b⟩ := h
  exact ⟨by rw [hτ _ (by rw [k1]; exact nofun)]; exact t1, by rw [hτ _ (by rw [k2]; exact nofun)]; exact t2, by rw [hτ _ (by rw [k3]; exact nofun)]; exact t3, by rw [hτ _ (by rw [k4]; exact nofun)]; exact t4, by rw [hτ _ (by rw [k5]; exact nofun)]; exact t5, by rw [hτ _ (by rw [k6]; exact nofun)]; exact t6, k1, k2, k3, k4, k5, k6, b⟩
theorem SpT.retag {r a n s v c o : Nat} {its : List It4} {os : List Int} (h : SpT D w τ r a n s v c o its os) (hτ : ∀ q, w q ≠ none → τ' q = τ q) : SpT D w τ' r a n s v c o its os := by
  obtain ⟨t1, t2, t3, t4, t5, t6, k1, b1, b2, b3, b4, fn, fs, fv, fc, fo, k2, k3, k4, k5, k6, b5⟩ := h
  exact ⟨by rw [hτ _ (by rw [k1]; exact nofun)]; exact t1, by rw [hτ _ (by rw [k2]; exact nofun)]; exact t2, by rw [hτ _ (by rw [k3]; exact nofun)]; exact t3, by rw [hτ _ (by rw [k4]; exact nofun)]; exact t4, by rw [hτ _ (by rw [k5]; exact nofun)]; exact t5, by rw [hτ _ (by rw [k6]; exact nofun)]; exact t6, k1, b1, b2, b3, b4, fn, fs, fv, fc, fo, k2, k3, k4, k5, k6, b5⟩
theorem NtD.retag {r : Nat} {fc fo fr fd fx : Nat → Nat} (h : NtD D w τ ad r fc fo fr fd fx) (hτ : ∀ q, w q ≠ none → τ' q = τ q) (had : ∀ x, r ≤ x → x < r + 6 → ad' x = ad x) : NtD D w τ' ad' r fc fo fr fd fx := by
  unfold NtD
  rw [had r (by omega) (by omega), had (r + 1) (by omega) (by omega), had (r + 2) (by omega) (by omega), had (r + 3) (by omega) (by omega), had (r + 4) (by omega) (by omega), had (r + 5) (by omega) (by omega)]
  exact NtT.retag h hτ
theorem SpD.retag {r : Nat} {its : List It4} {os : List Int} (h : SpD D w τ ad r its os) (hτ : ∀ q, w q ≠ none → τ' q = τ q) (had : ∀ x, r ≤ x → x < r + 6 → ad' x = ad x) : SpD D w τ' ad' r its os := by
  unfold SpD
  rw [had r (by omega) (by omega), had (r + 1) (by omega) (by omega), had (r + 2) (by omega) (by omega), had (r + 3) (by omega) (by omega), had (r + 4) (by omega) (by omega), had (r + 5) (by omega) (by omega)]
  exact SpT.retag h hτ
theorem TxD.retag {r : Nat} {ps : List Pc3} (h : TxD D w τ ad r ps) (hτ : ∀ q, w q ≠ none → τ' q = τ q) (had : ∀ x, r ≤ x → x < r + 4 → ad' x = ad x) : TxD D w τ' ad' r ps := by
  unfold TxD
  rw [had r (by omega) (by omega), had (r + 1) (by omega) (by omega), had (r + 2) (by omega) (by omega), had (r + 3) (by omega) (by omega)]
  exact TxT.retag h hτ
theorem TrOK.retag {tb : Nat} {T : Nat → List Pc3} (h : TrOK D w τ ad tb T) (hτ : ∀ q, w q ≠ none → τ' q = τ q) (had : ∀ x, tb ≤ x → x < tb + 6 → ad' x = ad x) : TrOK D w τ' ad' tb T := by
  obtain ⟨⟨fc, fo, fr, fd, fx, k, k2⟩, k3⟩ := h
  exact ⟨⟨fc, fo, fr, fd, fx, NtD.retag k hτ had, k2⟩, k3⟩
theorem TrOK.off {w1 : wW} {tb lo hi : Nat} {T : Nat → List Pc3} (h : TrOK D w τ ad tb T) (hk : offR τ w w1 lo hi) (hr : hi ≤ tb ∨ tb + 6 ≤ lo) : TrOK D w1 τ ad tb T := by
  obtain ⟨⟨fc, fo, fr, fd, fx, k, k2⟩, k3⟩ := h
  exact ⟨⟨fc, fo, fr, fd, fx, k.off hk hr, k2⟩, k3⟩
theorem WkI.retag {nb tb : Nat} {σ : Sg} (h : WkI D w τ ad nb tb σ) (hτ : ∀ q, w q ≠ none → τ' q = τ q) (had : ∀ r, r < 1000 → ad' r = ad r) (had2 : ∀ q, q < 12 → ∀ x, x ≤ sNv σ q → ∀ y, y < 5 → ad' (vr q x + y) = ad (vr q x + y)) : WkI D w τ' ad' nb tb σ := by
  obtain ⟨hs, ⟨hb, g1, ⟨fc, fo, fr, fd, fx, g2, g3⟩, gc, go, gr, gd, gx, g4⟩, ⟨a0, a1, a2, ⟨pf, b1, b2⟩, ⟨uf, c1, c2⟩, d1⟩, hP, hsp, hv⟩ := h
  have hn : ∀ x : Nat, x < 1000 → ∀ y, w (ad x) = some y → τ' (ad' x) = τ (ad x) := fun x hx y hy => by rw [had x hx, hτ _ (by rw [hy]; exact nofun)]
  refine ⟨hs, ⟨hb, ?_, ⟨fc, fo, fr, fd, fx, NtD.retag g2 hτ (fun x h1 h2 => had x (by omega)), g3⟩, gc, go, gr, gd, gx, NtD.retag g4 hτ (fun x h1 h2 => had x (by omega))⟩, ⟨by rw [hn 0 (by omega) _ g1]; exact a0, by rw [hn 1 (by omega) _ b1]; exact a1, by rw [hn 2 (by omega) _ c1]; exact a2, ⟨pf, by rw [had 1 (by omega)]; exact b1, fun p hp => by rw [had _ (by omega)]; exact b2 p hp⟩, ⟨uf, by rw [had 2 (by omega)]; exact c1, c2⟩, TxD.retag d1 hτ (fun x h1 h2 => had x (by omega))⟩, fun p hp => ?_, fun p hp => ?_, fun p hp x hx => ?_⟩
  · rw [had 0 (by omega), had 1 (by omega), had 2 (by omega), had 3 (by omega), had nb (by omega), had tb (by omega)]; exact g1
  · obtain ⟨z1, z2⟩ := hP p hp
    have e := had2 p hp (sNv σ p) (Nat.le_refl _) 0 (by omega)
    rw [Nat.add_zero] at e
    exact ⟨by rw [hn (100 + p) (by omega) _ z2]; exact z1, by rw [had (100 + p) (by omega), had (200 + 6 * p) (by omega), e]; exact z2⟩
  · obtain ⟨os, a⟩ := hsp p hp
    exact ⟨os, SpD.retag a hτ (fun x h1 h2 => had x (by omega))⟩
  · obtain ⟨z1, z2, z3⟩ := hv p hp x hx
    have e0 := had2 p hp x hx 0 (by omega)
    have e1 := had2 p hp x hx 1 (by omega)
    rw [Nat.add_zero] at e0
    refine ⟨by rw [e0, hτ _ (by rw [z2]; exact nofun)]; exact z1, ?_, TxD.retag z3 hτ (fun y h1 h2 => ?_)⟩
    · rw [e0, e1]
      by_cases z : x = 0
      · rw [if_pos z] at z2 ⊢; exact z2
      · have e9 := had2 p hp (x - 1) (by omega) 0 (by omega)
        rw [Nat.add_zero] at e9
        rw [if_neg z, e9]; rw [if_neg z] at z2; exact z2
    · have e := had2 p hp x hx (y - vr p x) (by omega)
      rw [show vr p x + (y - vr p x) = y by omega] at e
      exact e
theorem WkI.away {w1 : wW} {nb tb p : Nat} {σ : Sg} (h : WkI D w τ ad nb tb σ) (hp : p < 12) (hn20 : sNv σ p < 20) (hk : offR τ w w1 (vr p (sNv σ p + 1)) (vr p (sNv σ p + 1) + 5)) : WkI D w1 τ ad nb tb σ := by
  obtain ⟨hs, hn, ha, hP, hsp, hv⟩ := h
  have ha0 := ha.1
  have hlo : 1000 ≤ vr p (sNv σ p + 1) := by unfold vr; omega
  refine ⟨hs, hn.kept ha0 (fun q h1 => hk q (by omega)), ha.kept (fun q h1 h2 => hk q (by omega)), hP.kept (fun q h1 h2 => hk q (by omega)), hsp.kept (fun q h1 h2 => hk q (by omega)), fun q hq x hx => ?_⟩
  obtain ⟨z1, z2, z3⟩ := hv q hq x hx
  have h20 := (hs.2.1 q hq).1
  have hp20 := (hs.2.1 p hp).1
  have hd : vr q x + 5 ≤ vr p (sNv σ p + 1) ∨ vr p (sNv σ p + 1) + 5 ≤ vr q x := by
    unfold vr
    by_cases z : q = p
    · subst z; omega
    · omega
  exact ⟨z1, by rw [hk _ (by omega)]; exact z2, z3.kept (fun y h1 h2 => hk y (by omega))⟩
end RT
def uTv (σ : Sg) (p v : Nat) (ps : List Pc3) (g : Int) : Sg := (sDr σ, upz (sTx σ) p (upz (sTx σ p) v ps), upz (sRk σ) p (upz (sRk σ p) v g), sNv σ, sLk σ, sUr σ)
section UTV
variable {σ : Sg} {p v : Nat} {ps : List Pc3} {g : Int}
theorem uTv_tx {q x : Nat} (h : q ≠ p ∨ x ≠ v) : sTx (uTv σ p v ps g) q x = sTx σ q x := by
  show upz (sTx σ) p (upz (sTx σ p) v ps) q x = _
  by_cases z : q = p
  · subst z; rw [upz_eq, upz_ne (by omega)]
  · rw [upz_ne z]
theorem uTv_rk {q x : Nat} (h : q ≠ p ∨ x ≠ v) : sRk (uTv σ p v ps g) q x = sRk σ q x := by
  show upz (sRk σ) p (upz (sRk σ p) v g) q x = _
  by_cases z : q = p
  · subst z; rw [upz_eq, upz_ne (by omega)]
  · rw [upz_ne z]
theorem uTv_txv : sTx (uTv σ p v ps g) p v = ps := by
  show upz (sTx σ) p (upz (sTx σ p) v ps) p v = _
  rw [upz_eq, upz_eq]
theorem uTv_rkv : sRk (uTv σ p v ps g) p v = g := by
  show upz (sRk σ) p (upz (sRk σ p) v g) p v = _
  rw [upz_eq, upz_eq]
theorem uTv_sT (h : sNv σ p < v) : sT (uTv σ p v ps g) = sT σ := by
  funext q
  exact uTv_tx (by by_cases z : q = p; (subst z; right; show sNv σ q ≠ v; omega); exact Or.inl z)
theorem WkI.uTv {D : gD} {w : wW} {τ ad : Nat → Nat} {nb tb : Nat} (h : WkI D w τ ad nb tb σ) (hv : sNv σ p < v) : WkI D w τ ad nb tb (uTv σ p v ps g) := by
  obtain ⟨⟨s1, s2, s3⟩, hn, ha, hP, hsp, hvv⟩ := h
  have hx9 : ∀ q x, x ≤ sNv σ q → (q ≠ p ∨ x ≠ v) := fun q x hx => by by_cases z : q = p; (subst z; right; omega); exact Or.inl z
  refine ⟨⟨s1, fun q hq => ?_, s3⟩, by rw [uTv_sT hv]; exact hn, ha, hP, by rw [uTv_sT hv]; exact hsp, fun q hq x hx => ?_⟩
  · rw [uTv_sT hv]
    obtain ⟨z1, z2, z3, z4, z5, z6⟩ := s2 q hq
    refine ⟨z1, z2, z3, z4, z5, fun x hx => ?_⟩
    rw [uTv_tx (hx9 q x hx), uTv_rk (hx9 q x hx)]
    exact z6 x hx
  · rw [uTv_tx (hx9 q x hx), uTv_rk (hx9 q x hx)]
    exact hvv q hq x hx
end UTV
def edS (σ : Sg) (k p : Nat) : Int := if sUr σ k < frcS σ p then -2 else refS σ p (sDr σ)
def uEd (σ : Sg) (k p : Nat) : Sg := uDr (uVn (uTv σ p (sNv σ p + 1) (sDr σ) (sUr σ k)) p (sNv σ p + 1)) []
