def rmL (d mc ms : Nat) : Room := { frames := d, cells := mc, slots := ms, locals := 40 * d }
/-- what at(row, i) answers; what put(row, i, x) leaves; the greatest of a row, from 0 -/
def atz (N : Nat) (f : Nat → Int) (i : Int) : Int := if 0 ≤ i ∧ i < N then f i.toNat else 0
def putz (N : Nat) (f : Nat → Int) (i x : Int) : Nat → Int := if 0 ≤ i ∧ i < N then upz f i.toNat x else f
def gtz (f : Nat → Int) : Nat → Int
  | 0 => 0
  | n + 1 => max (gtz f n) (f n)
theorem atz_in {N : Nat} {f : Nat → Int} {i : Int} (h0 : 0 ≤ i) (h1 : i < N) : atz N f i = f i.toNat := if_pos ⟨h0, h1⟩
theorem atz_nat {N : Nat} {f : Nat → Int} {i : Nat} (h1 : i < N) : atz N f (i : Int) = f i := by rw [atz_in (by omega) (by omega)]; rfl
theorem putz_in {N : Nat} {f : Nat → Int} {i x : Int} (h0 : 0 ≤ i) (h1 : i < N) : putz N f i x = upz f i.toNat x := if_pos ⟨h0, h1⟩
theorem putz_nat {N : Nat} {f : Nat → Int} {i : Nat} {x : Int} (h1 : i < N) : putz N f (i : Int) x = upz f i x := by rw [putz_in (by omega) (by omega)]; rfl
theorem atz_R {N : Nat} {f : Nat → Int} (h : ∀ j, j < N → inR (f j)) (i : Int) : inR (atz N f i) := by
  unfold atz
  split
  · exact h _ (by omega)
  · exact ⟨by decide, by decide⟩
theorem gtz_0 (f : Nat → Int) : ∀ n, 0 ≤ gtz f n
  | 0 => Int.le_refl 0
  | n + 1 => by have := gtz_0 f n; show 0 ≤ max (gtz f n) (f n); omega
theorem gtz_R {f : Nat → Int} : ∀ {n : Nat}, (∀ j, j < n → inR (f j)) → inR (gtz f n)
  | 0, _ => (show inR 0 from ⟨by decide, by decide⟩)
  | n + 1, h => by
    have h1 := gtz_R (f := f) (n := n) (fun j hj => h j (by omega))
    have h2 := h n (by omega)
    show inR (max (gtz f n) (f n))
    omega
theorem gtz_le {f : Nat → Int} {c : Int} : ∀ {n : Nat}, gtz f n ≤ c ↔ 0 ≤ c ∧ ∀ j, j < n → f j ≤ c
  | 0 => ⟨fun h => ⟨h, fun j hj => absurd hj (Nat.not_lt_zero j)⟩, fun h => h.1⟩
  | n + 1 => by
    have ih := gtz_le (f := f) (c := c) (n := n)
    constructor
    · intro h
      have h' : max (gtz f n) (f n) ≤ c := h
      obtain ⟨h0, h1⟩ := ih.mp (by omega)
      refine ⟨h0, fun j hj => ?_⟩
      rcases Nat.lt_or_ge j n with q | q
      · exact h1 j q
      · rw [show j = n by omega]; omega
    · rintro ⟨h0, h1⟩
      have h2 := ih.mpr ⟨h0, fun j hj => h1 j (by omega)⟩
      have h3 := h1 n (by omega)
      show max (gtz f n) (f n) ≤ c
      omega
theorem wset_same {w : wW} {a : Nat} {e : va_E} (h : w a = some e) : wset w a e = w := by
  funext b
  by_cases q : b = a
  · subst q; rw [wset_eq, h]
  · rw [wset_ne q]
theorem wset_twice {w : wW} {a : Nat} {e e' : va_E} : wset (wset w a e) a e' = wset w a e' := by
  funext b
  by_cases q : b = a
  · subst q; rw [wset_eq, wset_eq]
  · rw [wset_ne q, wset_ne q, wset_ne q]
/-- shifts and bits -/
theorem sh_l : ∀ n, n < 32 → ((nI n &&& 31).toBitVec.smod 32).toNat = n := by decide +kernel
theorem Z32_shr {s p : Nat} (hs : s < 2 ^ 31) (hp : p < 32) : Z32 (s : Int) >>> (Z32 (p : Int) &&& 31) = Z32 ((s / 2 ^ p : Nat) : Int) := by
  rw [Z32_n, Z32_n, Z32_n]
  exact pk_shrN hs _ p (sh_l p hp)
theorem Z32_shl {p : Nat} (hp : p < 32) : Z32 1 <<< (Z32 (p : Int) &&& 31) = Z32 ((2 ^ p : Nat) : Int) := by
  have h := pk_shlN (n := 1) (nI p &&& 31) p (sh_l p hp) (by rw [Nat.one_mul]; exact Nat.pow_lt_pow_right (by decide) hp)
  rw [Nat.one_mul] at h
  exact h
theorem Z32_and1 (a : Nat) : Z32 (a : Int) &&& Z32 1 = Z32 ((a % 2 : Nat) : Int) := by
  have h := Z32_and a 1
  rw [Nat.and_one_is_mod] at h
  exact h
theorem bit_mod (s p : Nat) : s / 2 ^ p % 2 = if s.testBit p then 1 else 0 := by
  rw [Nat.testBit_eq_decide_div_mod_eq]
  by_cases h : s / 2 ^ p % 2 = 1
  · rw [if_pos (by simpa using h), h]
  · rw [if_neg (by simpa using h)]; omega
