-- ===== what an edit would lay =====
def hrb (σ : Sg) (s : Nat) (f : Int) : Nat → Bool
  | 0 => false
  | n + 1 => hrb σ s f n || (s.testBit n && decide (sRk σ n (sNv σ n) < f))
theorem hrb_iff {σ : Sg} {s : Nat} {f : Int} : ∀ {n : Nat}, hrb σ s f n = true ↔ ∃ q, q < n ∧ s.testBit q = true ∧ sRk σ q (sNv σ q) < f
  | 0 => by simp [hrb]
  | n + 1 => by
    have ih := hrb_iff (σ := σ) (s := s) (f := f) (n := n)
    unfold hrb
    rw [Bool.or_eq_true, ih, Bool.and_eq_true, decide_eq_true_eq]
    constructor
    · rintro (⟨q, h1, h2⟩ | h)
      · exact ⟨q, by omega, h2⟩
      · exact ⟨n, by omega, h⟩
    · rintro ⟨q, h1, h2⟩
      by_cases z : q = n
      · subst z; exact Or.inr h2
      · exact Or.inl ⟨q, by omega, h2⟩
theorem Z32_andnot {a b : Nat} (ha : a < 4096) : Z32 (a : Int) &&& (Z32 (b : Int) ^^^ Z32 (-1)) = Z32 ((a &&& (b ^^^ 4095) : Nat) : Int) := by
  apply Int32.toBitVec_inj.1
  show BitVec.ofNat 32 a &&& (BitVec.ofNat 32 b ^^^ BitVec.ofInt 32 (-1)) = BitVec.ofNat 32 (a &&& (b ^^^ 4095))
  rw [show BitVec.ofInt 32 (-1) = BitVec.allOnes 32 by decide]
  apply BitVec.eq_of_getLsbD_eq
  intro i hi
  rw [BitVec.getLsbD_and, BitVec.getLsbD_xor, BitVec.getLsbD_ofNat, BitVec.getLsbD_ofNat, BitVec.getLsbD_ofNat, BitVec.getLsbD_allOnes, Nat.testBit_and, Nat.testBit_xor]
  simp only [hi, decide_true, Bool.true_and]
  by_cases z : i < 12
  · rw [show (4095 : Nat).testBit i = true by rw [show (4095 : Nat) = 2 ^ 12 - 1 by decide, Nat.testBit_two_pow_sub_one, decide_eq_true z]]
  · have e : 2 ^ 12 ≤ 2 ^ i := Nat.pow_le_pow_right (by decide) (by omega)
    rw [Nat.testBit_lt_two_pow (Nat.lt_of_lt_of_le ha e)]
    rfl
theorem andnot_lt {a b : Nat} (ha : a < 4096) : a &&& (b ^^^ 4095) < 4096 := Nat.lt_of_le_of_lt Nat.and_le_left ha
/-- the table with another text for page p -/
def upT (T : Nat → List Pc3) (p : Nat) (ps : List Pc3) : Nat → List Pc3 := fun q => if q = p then ps else T q
theorem upT_eq {T : Nat → List Pc3} {p : Nat} {ps : List Pc3} : upT T p ps p = ps := if_pos rfl
theorem upT_ne {T : Nat → List Pc3} {p q : Nat} {ps : List Pc3} (h : q ≠ p) : upT T p ps q = T q := if_neg h
/-- why an edit is refused, or -1 -/
def refS (σ : Sg) (p : Nat) (ps : List Pc3) : Int :=
  if (rsT (upT (sT σ) p ps) p).testBit p = true then -3
  else if 5 < gtz (cz (depT (upT (sT σ) p ps))) 12 then -4
  else if 100 < gtz (cz (extT (upT (sT σ) p ps))) 12 then -5
  else if hrb σ (rsT (upT (sT σ) p ps) p &&& (rsT (sT σ) p ^^^ 4095)) (frcS σ p) 12 = true then -6
  else -1
theorem WkI.trial {D : gD} {w w1 : wW} {τ ad : Nat → Nat} {nb tb : Nat} {σ : Sg} {fc fo fr fd fx : Nat → Nat} (h : WkI D w τ ad nb tb σ) (hN : NtD D w1 τ ad tb fc fo fr fd fx) (hk : offR τ w w1 tb (tb + 6)) : WkI D w1 τ ad nb tb σ := by
  obtain ⟨hs, ⟨hb, g1, ⟨gc, go, gr, gd, gx, g2, g3⟩, -⟩, ha, hp, hsp, hv⟩ := h
  have h0 := ha.1
  refine ⟨hs, ⟨hb, by rw [hk _ (by omega)]; exact g1, ⟨gc, go, gr, gd, gx, g2.kept (fun q h1 h2 => hk q (by omega)), g3⟩, fc, fo, fr, fd, fx, hN⟩, ha.kept (fun q h1 h2 => hk q (by omega)), hp.kept (fun q h1 h2 => hk q (by omega)), hsp.kept (fun q h1 h2 => hk q (by omega)), hv.kept (fun p hp => (hs.2.1 p hp).1) (fun q h1 h2 => hk q (by omega))⟩
theorem fcT_upT {T : Nat → List Pc3} {p m : Nat} {ps : List Pc3} : fcT (upT T p ps) m = if m / 12 = p then ccn (m % 12) ps else fcT T m := by
  unfold fcT upT
  split <;> rfl
theorem gtz_congF {f g : Nat → Int} (h : ∀ j, j < 12 → f j = g j) : gtz f 12 = gtz g 12 := by
  have : ∀ n, n ≤ 12 → gtz f n = gtz g n := by
    intro n
    induction n with
    | zero => intro _; rfl
    | succ n ih =>
      intro hn
      have h1 := ih (by omega)
      have h2 := h n (by omega)
      unfold gtz
      rw [h1, h2]
  exact this 12 (Nat.le_refl _)
theorem gtz_ge {f : Nat → Int} : ∀ {n j : Nat}, j < n → f j ≤ gtz f n
  | 0, _, h => absurd h (Nat.not_lt_zero _)
  | n + 1, j, h => by
    unfold gtz
    by_cases z : j = n
    · subst z; omega
    · have := gtz_ge (f := f) (n := n) (j := j) (by omega)
      omega
theorem gAcy_of {T : Nat → List Pc3} (h : ∀ p, p < 12 → ¬ rchT T p p) : gAcy (fcT T) := fun p hp => h p hp.lt.1 hp
/-- where the page of the new text is not reached from itself, no page is -/
theorem gAcy_upT {σ : Sg} (hS : SgOK σ) {p : Nat} {ps : List Pc3} (hp : p < 12) (h : ¬ (rsT (upT (sT σ) p ps) p).testBit p = true) : gAcy (fcT (upT (sT σ) p ps)) := fun q hq => by
  have h1 := gAcy_of (T := sT σ) (fun i hi => (hS.2.1 i hi).2.2.2.2.1) q
  have hc : gRc (gC12 (fcT (upT (sT σ) p ps))) p p ∨ gRc (gC12 (fcT (sT σ))) q q := by
    have hq2 : gRc (fun a b => if b < 12 then gC12 (fcT (upT (sT σ) p ps)) a b else gC12 (fcT (sT σ)) a b) q q := (gRc.congr (fun a b ha hb => if_pos hb)).mpr hq
    rcases gRc.new (c := gC12 (fcT (sT σ))) (p := p) (fun a b hab => by
      show (if b < 12 then gC12 (fcT (upT (sT σ) p ps)) a b else gC12 (fcT (sT σ)) a b) = _
      split
      · show fcT (upT (sT σ) p ps) (12 * a + b) = _
        rw [fcT_upT, if_neg (by omega)]; rfl
      · rfl) hq2 with h | h
    · exact Or.inl ((gRc.congr (fun a b ha hb => if_pos hb)).mp h)
    · exact Or.inr h
  rcases hc with hc | hc
  · exact h ((rsT_bit hp hp).mpr hc)
  · exact h1 hc
theorem net_fc {T : Nat → List Pc3} {p : Nat} {ps : List Pc3} {fc fo fr fd fx f1 f2 : Nat → Nat} (kO : NetOK T fc fo fr fd fx) (e1 : ∀ j, j < 144 → f1 j = fc j) (e3 : ∀ m, m < 144 → f2 m = if 12 * p ≤ m ∧ m < 12 * p + 12 then ccn (m - 12 * p) ps else f1 m) : ∀ m, m < 144 → f2 m = fcT (upT T p ps) m := fun m hm => by
  rw [fcT_upT, e3 m hm]
  by_cases z : m / 12 = p
  · rw [if_pos z, if_pos (by omega), show m - 12 * p = m % 12 by omega]
  · rw [if_neg z, if_neg (by omega), e1 m hm]
    have h := ((kO (m / 12) (by omega)).1 (m % 12) (by omega)).1
    rw [show 12 * (m / 12) + m % 12 = m by omega] at h
    exact h
theorem net_fo {T : Nat → List Pc3} {p : Nat} {ps : List Pc3} {fc fo fr fd fx g1 g2 : Nat → Nat} (kO : NetOK T fc fo fr fd fx) (e1 : ∀ j, j < 12 → g1 j = fo j) (e3 : ∀ j, j < 12 → g2 j = if j = p then oxn ps else g1 j) : ∀ j, j < 12 → g2 j = foT (upT T p ps) j := fun j hj => by
  rw [e3 j hj]
  unfold foT upT
  by_cases z : j = p
  · rw [if_pos z, if_pos z]
  · rw [if_neg z, if_neg z, e1 j hj]
    exact (kO j hj).2.1
theorem net_rc {T : Nat → List Pc3} {f2 : Nat → Nat} (hf : ∀ m, m < 144 → f2 m = fcT T m) {p q : Nat} : gRc (gC12 f2) p q ↔ rchT T p q := gRc.congr (fun a b ha hb => hf (12 * a + b) (by omega))
theorem net_fr {T : Nat → List Pc3} {f2 f0 f3 : Nat → Nat} (hf : ∀ m, m < 144 → f2 m = fcT T m) (e5 : ∀ j, j < 12 → f3 j = wRnd (sRow f2 f0 12) 12 j) (hb : ∀ j, f3 j < 4096) : ∀ q, q < 12 → f3 q = rsT T q := fun q hq => eq_bits (hb q) rsT_lt (fun x hx => by rw [e5 q hq, wRnd_full hq hx, rsT_bit hq hx]; exact net_rc hf)
theorem net_fd {T : Nat → List Pc3} {f2 f4 : Nat → Nat} (hf : ∀ m, m < 144 → f2 m = fcT T m) (ha : gAcy (fcT T)) (e6 : ∀ j, j < 12 → f4 j = dRnd f2 (fun _ => 0) 11 j ∧ f4 j ≤ 132) : ∀ q, q < 12 → f4 q = depT T q := fun q hq => by
  rw [(e6 q hq).1, dRnd_eq (gAcy_congF hf ha) hq, dpN_congF hf 11 q hq]
  rfl
theorem net_fx {T : Nat → List Pc3} {f2 g2 f4 f5 x0 : Nat → Nat} (hf : ∀ m, m < 144 → f2 m = fcT T m) (hg : ∀ j, j < 12 → g2 j = foT T j) (ha : gAcy (fcT T)) (hd : ∀ q, q < 12 → f4 q = depT T q) (h5 : gtz (cz (depT T)) 12 ≤ 5) (e7 : ∀ j, j < 12 → f5 j = eRnd f2 g2 f4 x0 6 j) : ∀ q, q < 12 → f5 q = min (extT T q) 101 := fun q hq => by
  have h6 := gtz_ge (f := cz (depT T)) hq
  have h7 : depT T q ≤ 5 := by have : ((depT T q : Nat) : Int) ≤ gtz (cz (depT T)) 12 := h6; omega
  rw [e7 q hq, eRnd_at (gAcy_congF hf ha) (fun x hx => by rw [hd x hx, dpN_congF hf 11 x hx]; rfl) 6 q hq (by rw [hd q hq]; omega), exN_congF hf hg 12 q hq]
  rfl
theorem gtz_min {f : Nat → Nat} {M : Nat} : ∀ n, gtz (cz (fun j => min (f j) M)) n = min (gtz (cz f) n) (M : Int)
  | 0 => by show (0 : Int) = min 0 (M : Int); omega
  | n + 1 => by
    have ih := gtz_min (f := f) (M := M) n
    show max (gtz (cz (fun j => min (f j) M)) n) (((min (f n) M : Nat) : Nat) : Int) = min (max (gtz (cz f) n) ((f n : Nat) : Int)) (M : Int)
    rw [ih]
    omega
def TrOK (D : gD) (w : wW) (τ ad : Nat → Nat) (tb : Nat) (T : Nat → List Pc3) : Prop := (∃ fc fo fr fd fx, NtD D w τ ad tb fc fo fr fd fx ∧ NetOK T fc fo fr fd fx) ∧ ∀ q, q < 12 → depT T q ≤ 5 ∧ extT T q ≤ 100 ∧ ¬ rchT T q q
