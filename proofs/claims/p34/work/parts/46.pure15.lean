-- ===== what is reached, by twelve rounds in place =====
def pw (c : Nat → Nat → Nat) (r p q : Nat) : Prop := ∃ L f, 0 < L ∧ L ≤ r ∧ gPf c L f p q
theorem pw.gR {c : Nat → Nat → Nat} {r p q : Nat} (h : pw c r p q) : gRc c p q := by
  obtain ⟨L, f, h1, -, h2⟩ := h
  exact ⟨L, f, h1, h2⟩
theorem pw.cut {c : Nat → Nat → Nat} {r p q : Nat} (h : pw c (r + 1) p q) : ∃ i, gE c p i ∧ (i = q ∨ pw c r i q) := by
  obtain ⟨L, f, h1, h2, h3, h4, h5⟩ := h
  refine ⟨f 1, by have := h5 0 h1; rwa [h3] at this, ?_⟩
  by_cases z : L = 1
  · subst z; exact Or.inl h4
  · refine Or.inr ⟨L - 1, fun x => f (x + 1), by omega, by omega, rfl, ?_, fun x hx => h5 (x + 1) (by omega)⟩
    show f (L - 1 + 1) = q
    rw [show L - 1 + 1 = L by omega]; exact h4
def ri (c : Nat → Nat → Nat) (r k j : Nat) (g : Nat → Nat) : Prop :=
  (∀ p q, p < 12 → pw c r p q → (g p).testBit q = true) ∧ (∀ p i, p < k → p < 12 → gE c p i → (g p).testBit i = true ∧ ∀ q, pw c r i q → (g p).testBit q = true) ∧ (∀ i, i < j → gE c k i → (g k).testBit i = true ∧ ∀ q, pw c r i q → (g k).testBit q = true) ∧ (∀ p q, p < 12 → (g p).testBit q = true → gRc c p q) ∧ ∀ p, g p < 4096
def rX (c : Nat → Nat → Nat) (g : Nat → Nat) (k j : Nat) : Nat := if 0 < c k j then g j ||| 2 ^ j else 0
theorem ri.zero {c : Nat → Nat → Nat} {g : Nat → Nat} (hg : ∀ p, g p = 0) : ri c 0 0 0 g := by
  refine ⟨fun p q _ ⟨L, f, h1, h2, _⟩ => by omega, fun p i h => absurd h (Nat.not_lt_zero _), fun i h => absurd h (Nat.not_lt_zero _), fun p q _ h => ?_, fun p => by rw [hg]; decide⟩
  rw [hg, Nat.zero_testBit] at h
  cases h
theorem ri.step {c : Nat → Nat → Nat} {r k j : Nat} {g : Nat → Nat} (h : ri c r k j g) (hk : k < 12) (hj : j < 12) : ri c r k (j + 1) (upz g k (g k ||| rX c g k j)) ∧ rX c g k j < 4096 := by
  obtain ⟨hA, hB, hC, hH, hb⟩ := h
  have hX : rX c g k j < 4096 := by
    unfold rX
    split
    · have h2 : (2 : Nat) ^ j < 2 ^ 12 := Nat.pow_lt_pow_right (by decide) hj
      exact Nat.or_lt_two_pow (n := 12) (hb j) h2
    · decide
  have hm : ∀ p q, (g p).testBit q = true → (upz g k (g k ||| rX c g k j) p).testBit q = true := fun p q h => by
    by_cases z : p = k
    · subst z; rw [upz_eq, Nat.testBit_or, h, Bool.true_or]
    · rw [upz_ne z]; exact h
  refine ⟨⟨fun p q hp h => hm p q (hA p q hp h), fun p i h1 h2 h3 => ⟨hm p i (hB p i h1 h2 h3).1, fun q hq => hm p q ((hB p i h1 h2 h3).2 q hq)⟩, fun i hi he => ?_, fun p q hp h => ?_, fun p => ?_⟩, hX⟩
  · by_cases z : i < j
    · exact ⟨hm k i (hC i z he).1, fun q hq => hm k q ((hC i z he).2 q hq)⟩
    · have e : i = j := by omega
      subst e
      have e2 : rX c g k i = g i ||| 2 ^ i := if_pos he.2.2
      rw [upz_eq, e2]
      refine ⟨by rw [Nat.testBit_or, Nat.testBit_or, Nat.testBit_two_pow_self]; simp, fun q hq => ?_⟩
      rw [Nat.testBit_or, Nat.testBit_or, hA i q hj hq]; simp
  · by_cases z : p = k
    · subst z
      rw [upz_eq, Nat.testBit_or, Bool.or_eq_true] at h
      rcases h with h | h
      · exact hH p q hp h
      · unfold rX at h
        by_cases y : 0 < c p j
        · rw [if_pos y, Nat.testBit_or, Bool.or_eq_true] at h
          have he : gE c p j := ⟨hp, hj, y⟩
          rcases h with h | h
          · exact (gRc.one he).trans (hH j q hj h)
          · rw [Nat.testBit_two_pow] at h
            have e : j = q := by simpa using h
            rw [← e]; exact gRc.one he
        · rw [if_neg y, Nat.zero_testBit] at h; cases h
    · rw [upz_ne z] at h; exact hH p q hp h
  · by_cases z : p = k
    · subst z; rw [upz_eq]; exact Nat.or_lt_two_pow (n := 12) (hb p) hX
    · rw [upz_ne z]; exact hb p
theorem ri.row {c : Nat → Nat → Nat} {r k : Nat} {g : Nat → Nat} (h : ri c r k 12 g) : ri c r (k + 1) 0 g := by
  obtain ⟨hA, hB, hC, hH, hb⟩ := h
  refine ⟨hA, fun p i h1 h2 h3 => ?_, fun i h => absurd h (Nat.not_lt_zero _), hH, hb⟩
  by_cases z : p = k
  · subst z; exact hC i h3.2.1 h3
  · exact hB p i (by omega) h2 h3
theorem ri.rnd {c : Nat → Nat → Nat} {r : Nat} {g : Nat → Nat} (h : ri c r 12 0 g) : ri c (r + 1) 0 0 g := by
  obtain ⟨hA, hB, hC, hH, hb⟩ := h
  refine ⟨fun p q hp h => ?_, fun p i h => absurd h (Nat.not_lt_zero _), fun i h => absurd h (Nat.not_lt_zero _), hH, hb⟩
  obtain ⟨i, he, hq⟩ := h.cut
  rcases hq with rfl | hq
  · exact (hB p i hp hp he).1
  · exact (hB p i hp hp he).2 q hq
theorem ri.done {c : Nat → Nat → Nat} {g : Nat → Nat} (h : ri c 12 0 0 g) {p q : Nat} (hp : p < 12) : (g p).testBit q = true ↔ gRc c p q := by
  refine ⟨h.2.2.2.1 p q hp, fun hr => h.1 p q hp ?_⟩
  obtain ⟨L, f, h1, h2, h3⟩ := hr.short
  exact ⟨L, f, h1, h2, h3⟩
-- ===== extents by twelve rounds in place, cut at 1000 =====
def xRow (fc fo fx : Nat → Nat) : Nat → Nat → Nat
  | 0 => fx
  | n + 1 => upz (xRow fc fo fx n) n (min (eOC fc fo (xRow fc fo fx n) n 12) 1000)
def xRnd (fc fo : Nat → Nat) : Nat → Nat → Nat
  | 0 => fun _ => 0
  | r + 1 => xRow fc fo (xRnd fc fo r) 12
theorem xRow_le {fc fo fx : Nat → Nat} (h : ∀ p, fx p ≤ 1000) : ∀ n p, xRow fc fo fx n p ≤ 1000
  | 0, p => h p
  | n + 1, p => by
    show upz (xRow fc fo fx n) n _ p ≤ 1000
    by_cases z : p = n
    · subst z; rw [upz_eq]; omega
    · rw [upz_ne z]; exact xRow_le h n p
theorem xRnd_le {fc fo : Nat → Nat} : ∀ r p, xRnd fc fo r p ≤ 1000
  | 0, _ => Nat.zero_le _
  | r + 1, p => xRow_le (fun p => xRnd_le r p) 12 p
theorem xRow_mid {fc fo fx : Nat → Nat} {r : Nat} (ha : gAcy fc) (h : ∀ p, p < 12 → dpN fc 11 p < r → fx p = min (exN fc fo 12 p) 1000) : ∀ n, n ≤ 12 → ∀ p, p < 12 → (dpN fc 11 p < r ∨ (p < n ∧ dpN fc 11 p < r + 1)) → xRow fc fo fx n p = min (exN fc fo 12 p) 1000
  | 0, _, p, hp, h1 => h p hp (by omega)
  | n + 1, hn, p, hp, h1 => by
    have ih := xRow_mid ha h n (by omega)
    show upz (xRow fc fo fx n) n _ p = _
    by_cases z : p = n
    · subst z
      rw [upz_eq, eOC_cap (g := exN fc fo 12) (M := 1000) (fun j hj hc => ih j hj (Or.inl (by have := dpN_lt ha hp hj hc; omega))) 12 (Nat.le_refl _), exN_fix ha hp]
    · rw [upz_ne z]; exact ih p hp (by omega)
theorem xRnd_at {fc fo : Nat → Nat} (ha : gAcy fc) : ∀ r p, p < 12 → dpN fc 11 p < r → xRnd fc fo r p = min (exN fc fo 12 p) 1000
  | 0, _, _, h => absurd h (Nat.not_lt_zero _)
  | r + 1, p, hp, h => xRow_mid ha (fun p hp h => xRnd_at ha r p hp h) 12 (Nat.le_refl _) p hp (Or.inr ⟨hp, h⟩)
theorem dRnd12 {fc : Nat → Nat} (ha : gAcy fc) {p : Nat} (hp : p < 12) : dRnd fc (fun _ => 0) 12 p = dpN fc 11 p := by
  have h := dRnd_mid ha 12 p hp
  have h2 : dpN fc 11 p ≤ dpN fc 12 p := dpN_mono (fc := fc) 11 p
  omega
theorem dRow_le {fc : Nat → Nat} (ha : gAcy fc) {r k : Nat} (hk : k ≤ 12) {p : Nat} (hp : p < 12) : dRow fc (dRnd fc (fun _ => 0) r) k p ≤ 11 := by
  have h := ((dRow_mid (g := dRnd fc (fun _ => 0) r) (k := r) ha (fun p hp => (dRnd_mid ha r p hp).1) (fun p hp => (dRnd_mid ha r p hp).2) k hk).1 p hp).2
  have h2 := dpN_top ha 11 p hp
  omega
theorem dOC_leF {fc fd : Nat → Nat} {p M : Nat} (h : ∀ j, j < 12 → fd j ≤ M) : ∀ n, n ≤ 12 → dOC fc fd p n ≤ M + 1
  | 0, _ => Nat.zero_le _
  | n + 1, hn => by
    have ih := dOC_leF (fc := fc) (p := p) h n (by omega)
    have h2 := h n (by omega)
    show (if 0 < fc (12 * p + n) then max (dOC fc fd p n) (fd n + 1) else dOC fc fd p n) ≤ M + 1
    split
    · exact Nat.max_le.mpr ⟨ih, by omega⟩
    · exact ih
theorem eOC_leF {fc fo fx : Nat → Nat} {p : Nat} (h1 : ∀ j, j < 12 → fc (12 * p + j) ≤ 30) (h2 : fo p ≤ 30) (h3 : ∀ j, fx j ≤ 1000) : ∀ n, n ≤ 12 → eOC fc fo fx p n ≤ 30 + n * 30000
  | 0, _ => by show fo p ≤ _; omega
  | n + 1, hn => by
    have ih := eOC_leF h1 h2 h3 n (by omega)
    have h4 := Nat.mul_le_mul (h1 n (by omega)) (h3 n)
    show eOC fc fo fx p n + fc (12 * p + n) * fx n ≤ _
    omega
-- ===== where a text lies for the reference =====
/-- the text of a version (or of the draft, if that is -1) -/
def Src (F : Nat → Nat → Int) (dn : Int) (ver : Int) (ps : List Pc3) : Prop := (∀ q ∈ ps, PV q) ∧ ps.length ≤ 30 ∧ ((ver = -1 ∧ dn = (ps.length : Int) ∧ ∀ i, i < ps.length → F 0 i = enc (pcs ps i)) ∨ ∃ v : Nat, ver = (v : Int) ∧ v < 252 ∧ F 4 v = (ps.length : Int) ∧ ∀ i, i < ps.length → F 3 (30 * v + i) = enc (pcs ps i))
theorem Src.congr {F F' : Nat → Nat → Int} {dn ver : Int} {ps : List Pc3} (h : Src F dn ver ps) (e : ∀ k, k ≤ 8 → F' k = F k) : Src F' dn ver ps := by
  obtain ⟨h1, h2, h3⟩ := h
  refine ⟨h1, h2, ?_⟩
  rw [e 0 (by omega), e 4 (by omega), e 3 (by omega)]
  exact h3
theorem MdV.src {σ : Sg} {F : Nat → Nat → Int} {dn op : Int} (hS : SgOK σ) (h : MdV σ F dn op) {p v : Nat} (hp : p < 12) (hv : v ≤ sNv σ p) : Src F dn ((21 * p + v : Nat) : Int) (sTx σ p v) := by
  have h1 := ((hS.2.1 p hp).2.2.2.2.2 v hv).1
  have h2 := (h.2.2.2.1 p hp).2.2 v hv
  have h20 := (hS.2.1 p hp).1
  exact ⟨h1.1, h1.2.2, Or.inr ⟨21 * p + v, rfl, by omega, h2.1, h2.2.2⟩⟩
theorem MdV.srcD {σ : Sg} {F : Nat → Nat → Int} {dn op : Int} (hS : SgOK σ) (h : MdV σ F dn op) : Src F dn (-1) (sDr σ) := ⟨hS.1.1, hS.1.2.2, Or.inl ⟨rfl, h.1, h.2.2.1⟩⟩
def cal (T : Nat → List Pc3) (F : Nat → Nat → Int) : Prop := (∀ m, m < 144 → F 9 m = (fcT T m : Int)) ∧ ∀ p, p < 12 → F 10 p = (foT T p : Int)
theorem fcT_le {T : Nat → List Pc3} (hT : ∀ p, p < 12 → (T p).length ≤ 30) {m : Nat} (hm : m < 144) : fcT T m ≤ 30 := Nat.le_trans (ccn_le _ _) (hT _ (by omega))
theorem foT_le {T : Nat → List Pc3} (hT : ∀ p, p < 12 → (T p).length ≤ 30) {p : Nat} (hp : p < 12) : foT T p ≤ 30 := Nat.le_trans (oxn_le _) (hT p hp)
