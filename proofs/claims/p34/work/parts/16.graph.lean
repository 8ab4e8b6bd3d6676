-- ===== calls among twelve pages: c p q is how often p calls q =====
def gE (c : Nat → Nat → Nat) (p q : Nat) : Prop := p < 12 ∧ q < 12 ∧ 0 < c p q
/-- a way of L calls from p to q -/
def gPf (c : Nat → Nat → Nat) (L : Nat) (f : Nat → Nat) (p q : Nat) : Prop := f 0 = p ∧ f L = q ∧ ∀ i, i < L → gE c (f i) (f (i + 1))
def gRc (c : Nat → Nat → Nat) (p q : Nat) : Prop := ∃ L f, 0 < L ∧ gPf c L f p q
theorem gRc.one {c : Nat → Nat → Nat} {p q : Nat} (h : gE c p q) : gRc c p q := by
  refine ⟨1, fun i => if i = 0 then p else q, Nat.one_pos, rfl, rfl, fun i hi => ?_⟩
  rw [show i = 0 by omega]
  exact h
theorem gRc.trans {c : Nat → Nat → Nat} {p q r : Nat} (h1 : gRc c p q) (h2 : gRc c q r) : gRc c p r := by
  obtain ⟨L, f, hL, a1, a2, a3⟩ := h1
  obtain ⟨M, g, hM, b1, b2, b3⟩ := h2
  refine ⟨L + M, fun i => if i ≤ L then f i else g (i - L), by omega, ?_, ?_, fun i hi => ?_⟩
  · show (if 0 ≤ L then f 0 else g (0 - L)) = p
    rw [if_pos (Nat.zero_le _), a1]
  · show (if L + M ≤ L then f (L + M) else g (L + M - L)) = r
    rw [if_neg (by omega), show L + M - L = M by omega, b2]
  · show gE c (if i ≤ L then f i else g (i - L)) (if i + 1 ≤ L then f (i + 1) else g (i + 1 - L))
    rcases Nat.lt_trichotomy i L with h | h | h
    · rw [if_pos (by omega), if_pos (by omega)]; exact a3 i h
    · subst h
      rw [if_pos (Nat.le_refl _), if_neg (by omega), a2, ← b1, show i + 1 - i = 0 + 1 by omega]
      exact b3 0 hM
    · rw [if_neg (by omega), if_neg (by omega), show i + 1 - L = (i - L) + 1 by omega]
      exact b3 _ (by omega)
theorem gRc.lt {c : Nat → Nat → Nat} {p q : Nat} (h : gRc c p q) : p < 12 ∧ q < 12 := by
  obtain ⟨L, f, hL, a1, a2, a3⟩ := h
  have h1 := a3 0 hL
  have h2 := a3 (L - 1) (by omega)
  rw [show L - 1 + 1 = L by omega] at h2
  rw [a1] at h1
  rw [a2] at h2
  exact ⟨h1.1, h2.2.1⟩
/-- two of more than m things below m are the same -/
theorem gTwice : ∀ (m : Nat) (n : Nat) (f : Nat → Nat), (∀ i, i < n → f i < m) → m < n → ∃ i j, i < j ∧ j < n ∧ f i = f j
  | 0, n, f, h, hn => absurd (h 0 hn) (Nat.not_lt_zero _)
  | m + 1, n, f, h, hn => by
    by_cases hk : ∃ i, i < n ∧ f i = m
    · obtain ⟨k, hk1, hk2⟩ := hk
      by_cases h2 : ∃ j, j < n ∧ j ≠ k ∧ f j = m
      · obtain ⟨j, hj1, hj2, hj3⟩ := h2
        rcases Nat.lt_or_gt_of_ne hj2 with q | q
        · exact ⟨j, k, q, hk1, by rw [hj3, hk2]⟩
        · exact ⟨k, j, q, hj1, by rw [hj3, hk2]⟩
      · obtain ⟨i, j, a1, a2, a3⟩ := gTwice m (n - 1) (fun i => f (if i < k then i else i + 1)) (fun i hi => by
          have hlt : (if i < k then i else i + 1) < n := by split <;> omega
          have hne : (if i < k then i else i + 1) ≠ k := by split <;> omega
          have h3 := h _ hlt
          have h4 : f (if i < k then i else i + 1) ≠ m := fun q => h2 ⟨_, hlt, hne, q⟩
          show f (if i < k then i else i + 1) < m
          omega) (by omega)
        refine ⟨_, _, ?_, ?_, a3⟩
        · by_cases q1 : i < k <;> by_cases q2 : j < k <;> simp only [q1, q2, if_true, if_false] <;> omega
        · split <;> omega
    · exact gTwice m n f (fun i hi => by
        have h3 := h i hi
        have h4 : f i ≠ m := fun q => hk ⟨i, hi, q⟩
        omega) (by omega)
/-- a way of more than twelve calls can be made shorter -/
theorem gPf.cut {c : Nat → Nat → Nat} {L : Nat} {f : Nat → Nat} {p q : Nat} (h : gPf c L f p q) (hL : 12 < L) : ∃ L' f', 0 < L' ∧ L' < L ∧ gPf c L' f' p q := by
  obtain ⟨a1, a2, a3⟩ := h
  obtain ⟨i, j, h1, h2, h3⟩ := gTwice 12 L (fun i => f (i + 1)) (fun i hi => (a3 i hi).2.1) hL
  refine ⟨L - (j - i), fun x => if x ≤ i + 1 then f x else f (x + (j - i)), by omega, by omega, ?_, ?_, fun x hx => ?_⟩
  · show (if 0 ≤ i + 1 then f 0 else _) = p
    rw [if_pos (by omega), a1]
  · show (if L - (j - i) ≤ i + 1 then f (L - (j - i)) else f (L - (j - i) + (j - i))) = q
    by_cases z : L - (j - i) ≤ i + 1
    · rw [if_pos z, show L - (j - i) = i + 1 by omega]
      have h3' : f (i + 1) = f (j + 1) := h3
      rw [h3', show j + 1 = L by omega, a2]
    · rw [if_neg z, show L - (j - i) + (j - i) = L by omega, a2]
  · show gE c (if x ≤ i + 1 then f x else f (x + (j - i))) (if x + 1 ≤ i + 1 then f (x + 1) else f (x + 1 + (j - i)))
    rcases Nat.lt_trichotomy x (i + 1) with z | z | z
    · rw [if_pos (by omega), if_pos (by omega)]; exact a3 x (by omega)
    · subst z
      rw [if_pos (Nat.le_refl _), if_neg (by omega)]
      have h3' : f (i + 1) = f (j + 1) := h3
      rw [h3', show i + 1 + 1 + (j - i) = (j + 1) + 1 by omega]
      exact a3 _ (by omega)
    · rw [if_neg (by omega), if_neg (by omega), show x + 1 + (j - i) = (x + (j - i)) + 1 by omega]
      exact a3 _ (by omega)
theorem gRc.short {c : Nat → Nat → Nat} {p q : Nat} (h : gRc c p q) : ∃ L f, 0 < L ∧ L ≤ 12 ∧ gPf c L f p q := by
  obtain ⟨L, f, hL, hp⟩ := h
  induction L using Nat.strongRecOn generalizing f with
  | ind L ih =>
    by_cases z : L ≤ 12
    · exact ⟨L, f, hL, z, hp⟩
    · obtain ⟨L', f', h1, h2, h3⟩ := hp.cut (by omega)
      exact ih L' h2 f' h1 h3
/-- the ways whose pages between are below k -/
def gPth (c : Nat → Nat → Nat) : Nat → Nat → Nat → Prop
  | 0, p, q => gE c p q
  | k + 1, p, q => gPth c k p q ∨ (gPth c k p k ∧ gPth c k k q)
theorem gPth.T {c : Nat → Nat → Nat} : ∀ (k m p q : Nat), m < k → gPth c k p m → gPth c k m q → gPth c k p q
  | 0, m, p, q, h, _, _ => absurd h (Nat.not_lt_zero _)
  | k + 1, m, p, q, h, h1, h2 => by
    have T := gPth.T (c := c) k
    by_cases z : m = k
    · subst z
      have g1 : gPth c m p m := by rcases h1 with h1 | h1; exact h1; exact h1.1
      have g2 : gPth c m m q := by rcases h2 with h2 | h2; exact h2; exact h2.2
      exact Or.inr ⟨g1, g2⟩
    · have hm : m < k := by omega
      rcases h1 with h1 | ⟨a1, a2⟩ <;> rcases h2 with h2 | ⟨b1, b2⟩
      · exact Or.inl (T m p q hm h1 h2)
      · exact Or.inr ⟨T m p k hm h1 b1, b2⟩
      · exact Or.inr ⟨a1, T m k q hm a2 h2⟩
      · exact Or.inr ⟨a1, b2⟩
theorem gPth.mono {c : Nat → Nat → Nat} {p q : Nat} (h : gE c p q) : ∀ k, gPth c k p q
  | 0 => h
  | k + 1 => Or.inl (gPth.mono h k)
theorem gPth.sound {c : Nat → Nat → Nat} : ∀ (k p q : Nat), gPth c k p q → gRc c p q
  | 0, _, _, h => gRc.one h
  | k + 1, p, q, h => by
    rcases h with h | ⟨h1, h2⟩
    · exact gPth.sound k p q h
    · exact (gPth.sound k p k h1).trans (gPth.sound k k q h2)
theorem gPth.full {c : Nat → Nat → Nat} {p q : Nat} : gPth c 12 p q ↔ gRc c p q := by
  refine ⟨gPth.sound 12 p q, ?_⟩
  rintro ⟨L, f, hL, hp⟩
  induction L generalizing p f with
  | zero => exact absurd hL (Nat.lt_irrefl 0)
  | succ L ih =>
    obtain ⟨a1, a2, a3⟩ := hp
    have h0 := a3 0 hL
    rw [a1] at h0
    by_cases z : L = 0
    · subst z
      rw [a2] at h0
      exact gPth.mono h0 12
    · have h1 := ih (p := f 1) (fun i => f (i + 1)) (by omega) ⟨rfl, a2, fun i hi => a3 (i + 1) (by omega)⟩
      exact gPth.T 12 (f 1) p q h0.2.1 (gPth.mono h0 12) h1
-- what the class's rounds lay
theorem sE_bit {fc : Nat → Nat} {p q : Nat} : ∀ n, (sE fc p n).testBit q = true ↔ q < n ∧ 0 < fc (12 * p + q)
  | 0 => by simp [sE]
  | n + 1 => by
    have ih := sE_bit (fc := fc) (p := p) (q := q) n
    show (sE fc p n ||| (if 0 < fc (12 * p + n) then 2 ^ n else 0)).testBit q = true ↔ _
    rw [Nat.testBit_or, Bool.or_eq_true, ih]
    by_cases z : 0 < fc (12 * p + n)
    · rw [if_pos z, Nat.testBit_two_pow, decide_eq_true_eq]
      constructor
      · rintro (h | h)
        · exact ⟨by omega, h.2⟩
        · subst h; exact ⟨by omega, z⟩
      · rintro ⟨h1, h2⟩
        by_cases y : n = q
        · exact Or.inr y
        · exact Or.inl ⟨by omega, h2⟩
    · rw [if_neg z, Nat.zero_testBit]
      constructor
      · rintro (h | h)
        · exact ⟨by omega, h.2⟩
        · cases h
      · rintro ⟨h1, h2⟩
        by_cases y : n = q
        · subst y; exact absurd h2 z
        · exact Or.inl ⟨by omega, h2⟩
theorem sRow_at {fc fr : Nat → Nat} : ∀ (n p : Nat), sRow fc fr n p = if p < n then sE fc p 12 else fr p
  | 0, p => by rw [if_neg (Nat.not_lt_zero _)]; rfl
  | n + 1, p => by
    show upz (sRow fc fr n) n (sE fc n 12) p = _
    by_cases z : p = n
    · subst z; rw [upz_eq, if_pos (by omega)]
    · rw [upz_ne z, sRow_at n p]
      by_cases y : p < n
      · rw [if_pos y, if_pos (by omega)]
      · rw [if_neg y, if_neg (by omega)]
theorem wRow_ov {fr : Nat → Nat} {ov : Nat} : ∀ n, wRow fr ov n ov = fr ov
  | 0 => rfl
  | n + 1 => by
    have ih := wRow_ov (fr := fr) (ov := ov) n
    show (if (wRow fr ov n n).testBit ov then upz (wRow fr ov n) n (wRow fr ov n n ||| wRow fr ov n ov) else wRow fr ov n) ov = fr ov
    split
    · by_cases z : ov = n
      · subst z; rw [upz_eq, Nat.or_self, ih]
      · rw [upz_ne z, ih]
    · exact ih
theorem wRow_at {fr : Nat → Nat} {ov : Nat} : ∀ (n p : Nat), wRow fr ov n p = if p < n ∧ (fr p).testBit ov = true then fr p ||| fr ov else fr p
  | 0, p => by rw [if_neg (fun h => Nat.not_lt_zero _ h.1)]; rfl
  | n + 1, p => by
    have ih := wRow_at (fr := fr) (ov := ov) n
    have e1 : wRow fr ov n n = fr n := by rw [ih, if_neg (fun h => Nat.lt_irrefl _ h.1)]
    show (if (wRow fr ov n n).testBit ov then upz (wRow fr ov n) n (wRow fr ov n n ||| wRow fr ov n ov) else wRow fr ov n) p = _
    rw [e1, wRow_ov]
    by_cases z : p = n
    · subst z
      by_cases y : (fr p).testBit ov = true
      · rw [if_pos y, upz_eq, if_pos ⟨by omega, y⟩]
      · rw [if_neg y, ih, if_neg (fun h => Nat.lt_irrefl _ h.1), if_neg (fun h => y h.2)]
    · have e2 : (if (fr n).testBit ov = true then upz (wRow fr ov n) n (fr n ||| fr ov) else wRow fr ov n) p = wRow fr ov n p := by
        split
        · rw [upz_ne z]
        · rfl
      rw [e2, ih]
      by_cases y : p < n ∧ (fr p).testBit ov = true
      · rw [if_pos y, if_pos ⟨by omega, y.2⟩]
      · rw [if_neg y, if_neg (fun h => y ⟨by omega, h.2⟩)]
def gC12 (fc : Nat → Nat) : Nat → Nat → Nat := fun p q => fc (12 * p + q)
theorem wRnd_bit {fc fr : Nat → Nat} : ∀ (k p q : Nat), k ≤ 12 → p < 12 → q < 12 → ((wRnd (sRow fc fr 12) k p).testBit q = true ↔ gPth (gC12 fc) k p q)
  | 0, p, q, _, hp, hq => by
    show (sRow fc fr 12 p).testBit q = true ↔ gE _ p q
    rw [sRow_at, if_pos hp, sE_bit]
    exact ⟨fun h => ⟨hp, hq, h.2⟩, fun h => ⟨hq, h.2.2⟩⟩
  | k + 1, p, q, hk, hp, hq => by
    have ih := fun p q hp hq => wRnd_bit (fc := fc) (fr := fr) k p q (by omega) hp hq
    show (wRow (wRnd (sRow fc fr 12) k) k 12 p).testBit q = true ↔ (gPth _ k p q ∨ (gPth _ k p k ∧ gPth _ k k q))
    rw [wRow_at, ← ih p q hp hq, ← ih p k hp (by omega), ← ih k q (by omega) hq]
    by_cases z : (wRnd (sRow fc fr 12) k p).testBit k = true
    · rw [if_pos ⟨hp, z⟩, Nat.testBit_or, Bool.or_eq_true]
      exact ⟨fun h => h.imp id (fun h => ⟨z, h⟩), fun h => h.imp id (fun h => h.2)⟩
    · rw [if_neg (fun h => z h.2)]
      exact ⟨Or.inl, fun h => h.elim id (fun h => absurd h.1 z)⟩
theorem wRnd_full {fc fr : Nat → Nat} {p q : Nat} (hp : p < 12) (hq : q < 12) : (wRnd (sRow fc fr 12) 12 p).testBit q = true ↔ gRc (gC12 fc) p q := (wRnd_bit 12 p q (Nat.le_refl _) hp hq).trans gPth.full
