def cS2 (g : Nat → Nat) (ps : List Pc3) : Nat → Nat
  | 0 => 0
  | n + 1 => cS2 g ps n + ccn n ps * g n
theorem cS2_nil {g : Nat → Nat} : ∀ n, cS2 g [] n = 0
  | 0 => rfl
  | n + 1 => by
    show cS2 g [] n + 0 * g n = 0
    rw [cS2_nil n, Nat.zero_mul]
theorem cS2_cons {g : Nat → Nat} {pc : Pc3} {ps : List Pc3} : ∀ n, cS2 g (pc :: ps) n = cS2 g ps n + (if (pc.1 = 4 ∨ pc.1 = 5) ∧ 0 ≤ pc.2.1 ∧ pc.2.1 < n then g pc.2.1.toNat else 0)
  | 0 => by rw [if_neg (by omega)]; rfl
  | n + 1 => by
    have ih := cS2_cons (g := g) (pc := pc) (ps := ps) n
    show cS2 g (pc :: ps) n + ((if (pc.1 = 4 ∨ pc.1 = 5) ∧ pc.2.1 = n then 1 else 0) + ccn n ps) * g n = cS2 g ps n + ccn n ps * g n + _
    rw [ih, Nat.add_mul]
    by_cases z : (pc.1 = 4 ∨ pc.1 = 5) ∧ pc.2.1 = n
    · rw [if_pos z, if_neg (by omega), if_pos (by omega), z.2, Int.toNat_natCast, Nat.one_mul]
      omega
    · rw [if_neg z, Nat.zero_mul]
      by_cases y : (pc.1 = 4 ∨ pc.1 = 5) ∧ 0 ≤ pc.2.1 ∧ pc.2.1 < n
      · rw [if_pos y, if_pos (by omega)]; omega
      · rw [if_neg y, if_neg (by omega)]; omega
theorem cSum_le {rec : Nat → List It4} {g : Nat → Nat} (hg : ∀ q, q < 12 → (rec q).length ≤ g q) : ∀ {ps : List Pc3}, (∀ q ∈ ps, PV q) → cSum rec ps ≤ cS2 g ps 12
  | [], _ => Nat.zero_le _
  | pc :: ps, h => by
    have ih := cSum_le hg (ps := ps) (fun q hq => h q (List.mem_cons_of_mem _ hq))
    have hv := h pc (List.mem_cons_self ..)
    rw [cS2_cons]
    show (if pc.1 = 4 ∨ pc.1 = 5 then (rec pc.2.1.toNat).length else 0) + cSum rec ps ≤ _
    by_cases z : pc.1 = 4 ∨ pc.1 = 5
    · have hr : 0 ≤ pc.2.1 ∧ pc.2.1 < 12 := by unfold PV at hv; omega
      have h1 := hg pc.2.1.toNat (by omega)
      rw [if_pos z, if_pos ⟨z, hr.1, by omega⟩]
      omega
    · rw [if_neg z, if_neg (fun y => z y.1)]
      omega
theorem eOC_cS2 {T : Nat → List Pc3} {g : Nat → Nat} {p : Nat} : ∀ n, n ≤ 12 → eOC (fcT T) (foT T) g p n = oxn (T p) + cS2 g (T p) n
  | 0, _ => rfl
  | n + 1, hn => by
    have ih := eOC_cS2 (T := T) (g := g) (p := p) n (by omega)
    show eOC (fcT T) (foT T) g p n + fcT T (12 * p + n) * g n = oxn (T p) + (cS2 g (T p) n + ccn n (T p) * g n)
    rw [ih, fcT_at T (by omega), Nat.add_assoc]
theorem sprN_len {T : Nat → List Pc3} (hT : ∀ q, q < 12 → txOK (T q)) : ∀ (n p : Nat), p < 12 → (sprN T n p).length ≤ exN (fcT T) (foT T) n p
  | 0, _, _ => Nat.le_refl _
  | n + 1, p, hp => by
    have h1 := spText_len (rec := sprN T n) (p := p) (T p)
    have h2 := cSum_le (rec := sprN T n) (g := exN (fcT T) (foT T) n) (fun q hq => sprN_len hT n q hq) (hT p hp).1
    show (spText (sprN T n) p (T p)).1.length ≤ eOC (fcT T) (foT T) (exN (fcT T) (foT T) n) p 12
    rw [eOC_cS2 12 (Nat.le_refl _)]
    omega
theorem exN_up {fc fo : Nat → Nat} (ha : gAcy fc) {p : Nat} (hp : p < 12) : ∀ (k n : Nat), dpN fc 11 p < n → exN fc fo n p = exN fc fo (n + k) p
  | 0, _, _ => rfl
  | k + 1, n, h => by
    rw [exN_up ha hp k n h]
    exact exN_st ha (n + k) p hp (by omega)
/-- a spread is never longer than the page's extent -/
theorem sprT_len {T : Nat → List Pc3} (hT : ∀ q, q < 12 → txOK (T q)) (ha : gAcy (fcT T)) {p : Nat} (hp : p < 12) (h5 : depT T p ≤ 5) : (sprT T p).length ≤ extT T p := by
  have h := sprN_len hT 6 p hp
  rw [exN_up ha hp 6 6 (Nat.lt_of_le_of_lt h5 (by decide))] at h
  exact h
