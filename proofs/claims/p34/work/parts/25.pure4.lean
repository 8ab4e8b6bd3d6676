-- ===== depths and extents, of calls without a ring =====
def gAcy (fc : Nat → Nat) : Prop := ∀ p, ¬ gRc (gC12 fc) p p
theorem dOC_ge {fc f : Nat → Nat} {p q : Nat} : ∀ {n : Nat}, q < n → 0 < fc (12 * p + q) → f q + 1 ≤ dOC fc f p n
  | 0, h, _ => absurd h (Nat.not_lt_zero _)
  | n + 1, h, hc => by
    by_cases z : q = n
    · subst z
      unfold dOC
      rw [if_pos hc]
      omega
    · have ih := dOC_ge (f := f) (n := n) (by omega) hc
      unfold dOC
      split <;> omega
theorem dOC_get {fc f : Nat → Nat} {p m : Nat} : ∀ {n : Nat}, m + 1 ≤ dOC fc f p n → ∃ q, q < n ∧ 0 < fc (12 * p + q) ∧ m ≤ f q
  | 0, h => absurd h (Nat.not_succ_le_zero _)
  | n + 1, h => by
    by_cases z : m + 1 ≤ dOC fc f p n
    · obtain ⟨q, a, b, c⟩ := dOC_get z
      exact ⟨q, by omega, b, c⟩
    · unfold dOC at h
      split at h
      · rename_i y
        exact ⟨n, by omega, y, by omega⟩
      · exact absurd h z
theorem dOC_mono {fc f g : Nat → Nat} {p : Nat} (h : ∀ j, j < 12 → f j ≤ g j) : ∀ n, n ≤ 12 → dOC fc f p n ≤ dOC fc g p n
  | 0, _ => Nat.le_refl 0
  | n + 1, hn => by
    have ih := dOC_mono (fc := fc) (p := p) h n (by omega)
    have h2 := h n (by omega)
    unfold dOC
    split <;> omega
theorem dpN_path {fc : Nat → Nat} : ∀ (n m p : Nat), p < 12 → m ≤ dpN fc n p → ∃ f : Nat → Nat, f 0 = p ∧ ∀ i, i < m → gE (gC12 fc) (f i) (f (i + 1))
  | n, 0, p, _, _ => ⟨fun _ => p, rfl, fun i hi => absurd hi (Nat.not_lt_zero _)⟩
  | 0, m + 1, p, _, h => absurd h (Nat.not_succ_le_zero _)
  | n + 1, m + 1, p, hp, h => by
    obtain ⟨q, a, b, c⟩ := dOC_get (show m + 1 ≤ dOC fc (dpN fc n) p 12 from h)
    obtain ⟨f, f0, f1⟩ := dpN_path n m q a c
    refine ⟨fun i => if i = 0 then p else f (i - 1), rfl, fun i hi => ?_⟩
    show gE _ (if i = 0 then p else f (i - 1)) (if i + 1 = 0 then p else f (i + 1 - 1))
    rw [if_neg (Nat.succ_ne_zero i), show i + 1 - 1 = i by omega]
    by_cases z : i = 0
    · subst z
      rw [if_pos rfl, f0]
      exact ⟨hp, a, b⟩
    · rw [if_neg z]
      have := f1 (i - 1) (by omega)
      rw [show i - 1 + 1 = i by omega] at this
      exact this
theorem dpN_ge {fc : Nat → Nat} : ∀ (m n p : Nat) (f : Nat → Nat), m ≤ n → f 0 = p → (∀ i, i < m → gE (gC12 fc) (f i) (f (i + 1))) → m ≤ dpN fc n p
  | 0, _, _, _, _, _, _ => Nat.zero_le _
  | m + 1, 0, _, _, h, _, _ => absurd h (Nat.not_succ_le_zero _)
  | m + 1, n + 1, p, f, h, h0, h1 => by
    have ih := dpN_ge m n (f 1) (fun i => f (i + 1)) (by omega) rfl (fun i hi => h1 (i + 1) (by omega))
    have e := h1 0 (by omega)
    rw [h0] at e
    have := dOC_ge (fc := fc) (f := dpN fc n) (p := p) (q := f 1) (n := 12) e.2.1 e.2.2
    show m + 1 ≤ dOC fc (dpN fc n) p 12
    omega
theorem dpN_top {fc : Nat → Nat} (ha : gAcy fc) (n p : Nat) (hp : p < 12) : dpN fc n p ≤ 11 := by
  apply Decidable.byContradiction
  intro z
  obtain ⟨f, f0, f1⟩ := dpN_path (fc := fc) n 12 p hp (by omega)
  obtain ⟨i, j, h1, h2, h3⟩ := gTwice 12 13 f (fun i hi => by
    by_cases y : i < 12
    · exact (f1 i y).1
    · have := (f1 11 (by omega)).2.1
      rw [show i = 12 by omega]; exact this) (by omega)
  refine ha (f i) ⟨j - i, fun x => f (i + x), by omega, rfl, ?_, fun x hx => f1 (i + x) (by omega)⟩
  show f (i + (j - i)) = f i
  rw [show i + (j - i) = j by omega, h3]
theorem dpN_fix {fc : Nat → Nat} (ha : gAcy fc) {p : Nat} (hp : p < 12) : dOC fc (dpN fc 11) p 12 = dpN fc 11 p := by
  have h1 : dpN fc 12 p ≤ dpN fc 11 p := by
    have ht := dpN_top ha 12 p hp
    obtain ⟨f, f0, f1⟩ := dpN_path 12 (dpN fc 12 p) p hp (Nat.le_refl _)
    exact dpN_ge _ 11 p f ht f0 f1
  have h2 : dpN fc 11 p ≤ dpN fc 12 p := by
    obtain ⟨f, f0, f1⟩ := dpN_path 11 (dpN fc 11 p) p hp (Nat.le_refl _)
    have ht := dpN_top ha 11 p hp
    exact dpN_ge _ 12 p f (by omega) f0 f1
  exact Nat.le_antisymm h1 h2
theorem dpN_lt {fc : Nat → Nat} (ha : gAcy fc) {p q : Nat} (hp : p < 12) (hq : q < 12) (hc : 0 < fc (12 * p + q)) : dpN fc 11 q < dpN fc 11 p := by
  have := dOC_ge (fc := fc) (f := dpN fc 11) (p := p) (q := q) (n := 12) hq hc
  rw [dpN_fix ha hp] at this
  omega
theorem dpN_mono {fc : Nat → Nat} : ∀ (n p : Nat), dpN fc n p ≤ dpN fc (n + 1) p
  | 0, _ => Nat.zero_le _
  | n + 1, p => dOC_mono (fun j _ => dpN_mono n j) 12 (Nat.le_refl _)
theorem dRow_mid {fc g : Nat → Nat} {k : Nat} (ha : gAcy fc) (lo : ∀ p, p < 12 → dpN fc k p ≤ g p) (hi : ∀ p, p < 12 → g p ≤ dpN fc 11 p) : ∀ j, j ≤ 12 → (∀ p, p < 12 → dpN fc k p ≤ dRow fc g j p ∧ dRow fc g j p ≤ dpN fc 11 p) ∧ ∀ p, p < j → dpN fc (k + 1) p ≤ dRow fc g j p
  | 0, _ => ⟨fun p hp => ⟨lo p hp, hi p hp⟩, fun p hp => absurd hp (Nat.not_lt_zero _)⟩
  | j + 1, hj => by
    obtain ⟨a, b⟩ := dRow_mid ha lo hi j (by omega)
    have e1 : dpN fc (k + 1) j ≤ dOC fc (dRow fc g j) j 12 := dOC_mono (fun i h => (a i h).1) 12 (Nat.le_refl _)
    have e2 : dOC fc (dRow fc g j) j 12 ≤ dpN fc 11 j := by rw [← dpN_fix ha (p := j) (by omega)]; exact dOC_mono (fun i h => (a i h).2) 12 (Nat.le_refl _)
    have e3 := dpN_mono (fc := fc) k j
    refine ⟨fun p hp => ?_, fun p hp => ?_⟩
    · show dpN fc k p ≤ upz (dRow fc g j) j (dOC fc (dRow fc g j) j 12) p ∧ upz (dRow fc g j) j (dOC fc (dRow fc g j) j 12) p ≤ dpN fc 11 p
      by_cases z : p = j
      · subst z; rw [upz_eq]; omega
      · rw [upz_ne z]; exact a p hp
    · show dpN fc (k + 1) p ≤ upz (dRow fc g j) j (dOC fc (dRow fc g j) j 12) p
      by_cases z : p = j
      · subst z; rw [upz_eq]; exact e1
      · rw [upz_ne z]; exact b p (by omega)
theorem dRnd_mid {fc : Nat → Nat} (ha : gAcy fc) : ∀ k, ∀ p, p < 12 → dpN fc k p ≤ dRnd fc (fun _ => 0) k p ∧ dRnd fc (fun _ => 0) k p ≤ dpN fc 11 p
  | 0 => fun p hp => ⟨Nat.le_refl 0, Nat.zero_le _⟩
  | k + 1 => fun p hp => by
    have ih := dRnd_mid ha k
    obtain ⟨a, b⟩ := dRow_mid ha (fun p hp => (ih p hp).1) (fun p hp => (ih p hp).2) 12 (Nat.le_refl _)
    exact ⟨b p hp, (a p hp).2⟩
theorem dRnd_eq {fc : Nat → Nat} (ha : gAcy fc) {p : Nat} (hp : p < 12) : dRnd fc (fun _ => 0) 11 p = dpN fc 11 p := by
  have := dRnd_mid ha 11 p hp
  omega
theorem eOC_congC {fc fo f g : Nat → Nat} {p : Nat} (h : ∀ j, j < 12 → 0 < fc (12 * p + j) → f j = g j) : ∀ n, n ≤ 12 → eOC fc fo f p n = eOC fc fo g p n
  | 0, _ => rfl
  | n + 1, hn => by
    have h1 := eOC_congC (fc := fc) (fo := fo) (p := p) h n (by omega)
    unfold eOC
    rw [h1]
    by_cases z : 0 < fc (12 * p + n)
    · rw [h n (by omega) z]
    · rw [show fc (12 * p + n) = 0 by omega, Nat.zero_mul, Nat.zero_mul]
theorem exN_st {fc fo : Nat → Nat} (ha : gAcy fc) : ∀ (n p : Nat), p < 12 → dpN fc 11 p < n → exN fc fo n p = exN fc fo (n + 1) p
  | 0, _, _, h => absurd h (Nat.not_lt_zero _)
  | n + 1, p, hp, h => eOC_congC (fun j hj hc => exN_st ha n j hj (by have := dpN_lt ha hp hj hc; omega)) 12 (Nat.le_refl _)
theorem exN_fix {fc fo : Nat → Nat} (ha : gAcy fc) {p : Nat} (hp : p < 12) : eOC fc fo (exN fc fo 12) p 12 = exN fc fo 12 p := (exN_st ha 12 p hp (by have := dpN_top ha 11 p hp; omega)).symm
theorem cap_add {a b c x M : Nat} (h : min a M = min b M) : min (a + c * min x M) M = min (b + c * x) M := by
  by_cases hc : c = 0
  · subst hc; rw [Nat.zero_mul, Nat.zero_mul]; exact h
  · by_cases hx : x ≤ M
    · rw [Nat.min_eq_left hx]; omega
    · have e1 : M ≤ c * min x M := by
        rw [Nat.min_eq_right (by omega)]
        exact Nat.le_mul_of_pos_left M (by omega)
      have e2 : M ≤ c * x := Nat.le_trans (by omega) (Nat.le_mul_of_pos_left x (by omega))
      omega
theorem eOC_cap {fc fo f g : Nat → Nat} {p M : Nat} (h : ∀ j, j < 12 → 0 < fc (12 * p + j) → f j = min (g j) M) : ∀ n, n ≤ 12 → min (eOC fc fo f p n) M = min (eOC fc fo g p n) M
  | 0, _ => rfl
  | n + 1, hn => by
    have ih := eOC_cap (fc := fc) (fo := fo) (p := p) h n (by omega)
    unfold eOC
    by_cases z : 0 < fc (12 * p + n)
    · rw [h n (by omega) z]; exact cap_add ih
    · rw [show fc (12 * p + n) = 0 by omega, Nat.zero_mul, Nat.zero_mul]; exact ih
theorem eRow_at {fc fo fd fx : Nat → Nat} {k : Nat} (hn : ∀ p q, p < 12 → q < 12 → fd p = k → 0 < fc (12 * p + q) → fd q < k) : ∀ j, j ≤ 12 → ∀ p, p < 12 → eRow fc fo fd fx k j p = if p < j ∧ fd p = k then min (eOC fc fo fx p 12) 101 else fx p
  | 0, _, p, _ => by rw [if_neg (fun z => Nat.not_lt_zero _ z.1)]; rfl
  | j + 1, hj, p, hp => by
    have ih := eRow_at (fo := fo) (fx := fx) hn j (by omega)
    show (if fd j = k then upz (eRow fc fo fd fx k j) j (min (eOC fc fo (eRow fc fo fd fx k j) j 12) 101) else eRow fc fo fd fx k j) p = _
    by_cases y : fd j = k
    · rw [if_pos y]
      have e : eOC fc fo (eRow fc fo fd fx k j) j 12 = eOC fc fo fx j 12 := eOC_congC (fun q hq hc => by rw [ih q hq, if_neg (fun z => by have := hn j q (by omega) hq y hc; omega)]) 12 (Nat.le_refl _)
      by_cases z : p = j
      · subst z; rw [upz_eq, e, if_pos ⟨by omega, y⟩]
      · rw [upz_ne z, ih p hp]
        by_cases x : p < j ∧ fd p = k
        · rw [if_pos x, if_pos ⟨by omega, x.2⟩]
        · rw [if_neg x, if_neg (fun w => x ⟨by omega, w.2⟩)]
    · rw [if_neg y, ih p hp]
      by_cases x : p < j ∧ fd p = k
      · rw [if_pos x, if_pos ⟨by omega, x.2⟩]
      · rw [if_neg x, if_neg (fun w => x ⟨by (have : p ≠ j := fun q => y (by rw [← q]; exact w.2)); omega, w.2⟩)]
theorem eRnd_at {fc fo fd fx : Nat → Nat} (ha : gAcy fc) (hd : ∀ p, p < 12 → fd p = dpN fc 11 p) : ∀ k p, p < 12 → fd p < k → eRnd fc fo fd fx k p = min (exN fc fo 12 p) 101
  | 0, _, _, h => absurd h (Nat.not_lt_zero _)
  | k + 1, p, hp, h => by
    have ih := eRnd_at (fo := fo) (fx := fx) ha hd k
    show eRow fc fo fd (eRnd fc fo fd fx k) k 12 p = _
    rw [eRow_at (fun a b ha9 hb hk hc => by rw [hd b hb, ← hk, hd a ha9]; exact dpN_lt ha ha9 hb hc) 12 (Nat.le_refl _) p hp]
    by_cases z : fd p = k
    · rw [if_pos ⟨hp, z⟩, ← exN_fix ha hp]
      exact eOC_cap (fun q hq hc => ih q hq (by rw [hd q hq, ← z, hd p hp]; exact dpN_lt ha hp hq hc)) 12 (Nat.le_refl _)
    · rw [if_neg (fun w => z w.2)]
      exact ih p hp (by omega)
/-- another text for one page: a ring that was not there goes through that page -/
theorem gRc.new {c c' : Nat → Nat → Nat} {p q : Nat} (hc : ∀ a b, a ≠ p → c' a b = c a b) (h : gRc c' q q) : gRc c' p p ∨ gRc c q q := by
  obtain ⟨L, f, hL, a1, a2, a3⟩ := h
  by_cases z : ∃ i, i < L ∧ f i = p
  · obtain ⟨i, hi, hf⟩ := z
    have h1 : gRc c' p q := ⟨L - i, fun x => f (i + x), by omega, hf, by show f (i + (L - i)) = q; rw [show i + (L - i) = L by omega, a2], fun x hx => a3 (i + x) (by omega)⟩
    by_cases y : i = 0
    · subst y
      rw [a1] at hf
      subst hf
      exact Or.inl h1
    · have h2 : gRc c' q p := ⟨i, f, by omega, a1, hf, fun x hx => a3 x (by omega)⟩
      exact Or.inl (h1.trans h2)
  · refine Or.inr ⟨L, f, hL, a1, a2, fun x hx => ?_⟩
    obtain ⟨e1, e2, e3⟩ := a3 x hx
    rw [hc _ _ (fun y => z ⟨x, hx, y⟩)] at e3
    exact ⟨e1, e2, e3⟩
theorem gRc.congr {c c' : Nat → Nat → Nat} (hc : ∀ a b, a < 12 → b < 12 → c' a b = c a b) {p q : Nat} : gRc c' p q ↔ gRc c p q := by
  constructor <;> rintro ⟨L, f, hL, a1, a2, a3⟩ <;> refine ⟨L, f, hL, a1, a2, fun x hx => ?_⟩ <;> obtain ⟨e1, e2, e3⟩ := a3 x hx
  · rw [hc _ _ e1 e2] at e3; exact ⟨e1, e2, e3⟩
  · rw [← hc _ _ e1 e2] at e3; exact ⟨e1, e2, e3⟩
theorem dOC_congF {fc gc f g : Nat → Nat} {p : Nat} (hp : p < 12) (hc : ∀ j, j < 144 → fc j = gc j) (h : ∀ j, j < 12 → f j = g j) : ∀ n, n ≤ 12 → dOC fc f p n = dOC gc g p n
  | 0, _ => rfl
  | n + 1, hn => by
    have ih := dOC_congF hp hc h n (by omega)
    have h2 := h n (by omega)
    unfold dOC
    rw [ih, h2, hc (12 * p + n) (by omega)]
theorem dpN_congF {fc gc : Nat → Nat} (hc : ∀ j, j < 144 → fc j = gc j) : ∀ n p, p < 12 → dpN fc n p = dpN gc n p
  | 0, _, _ => rfl
  | n + 1, p, hp => dOC_congF hp hc (fun j hj => dpN_congF hc n j hj) 12 (Nat.le_refl _)
theorem eOC_congF {fc gc fo go f g : Nat → Nat} {p : Nat} (hp : p < 12) (hc : ∀ j, j < 144 → fc j = gc j) (ho : fo p = go p) (h : ∀ j, j < 12 → f j = g j) : ∀ n, n ≤ 12 → eOC fc fo f p n = eOC gc go g p n
  | 0, _ => ho
  | n + 1, hn => by
    have ih := eOC_congF hp hc ho h n (by omega)
    have h2 := h n (by omega)
    unfold eOC
    rw [ih, h2, hc (12 * p + n) (by omega)]
theorem exN_congF {fc gc fo go : Nat → Nat} (hc : ∀ j, j < 144 → fc j = gc j) (ho : ∀ p, p < 12 → fo p = go p) : ∀ n p, p < 12 → exN fc fo n p = exN gc go n p
  | 0, _, _ => rfl
  | n + 1, p, hp => eOC_congF hp hc (ho p hp) (fun j hj => exN_congF hc ho n j hj) 12 (Nat.le_refl _)
theorem gAcy_congF {fc gc : Nat → Nat} (hc : ∀ j, j < 144 → fc j = gc j) (h : gAcy gc) : gAcy fc := fun p hp => h p ((gRc.congr (fun a b ha hb => hc (12 * a + b) (by omega))).mp hp)
