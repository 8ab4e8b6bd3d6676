-- ===== the law's own texts: codes of pieces, sixes of bits =====
def dc6 (c : Nat) : Pc3 :=
  if c < 3 then (0, -1, (c : Int))
  else if c = 3 then (3, -1, -1)
  else if c < 24 then (4, (((c - 4) / 4 : Nat) : Int), if (c - 4) % 4 = 3 then -1 else (((c - 4) % 4 : Nat) : Int))
  else if c < 29 then (5, ((c - 24 : Nat) : Int), -1)
  else if c < 32 then (6, -1, ((c - 29 : Nat) : Int))
  else if c = 32 then (7, -1, -1)
  else if c < 35 then (1, -1, ((c - 33 : Nat) : Int))
  else if c < 45 then (2, (((c - 35) / 2 : Nat) : Int), (((c - 35) % 2 : Nat) : Int))
  else (8, ((c - 45 : Nat) : Int), -1)
theorem dc6_0 {c : Nat} (h : c < 3) : dc6 c = (0, -1, (c : Int)) := if_pos h
theorem dc6_3 : dc6 3 = (3, -1, -1) := rfl
theorem dc6_4 {c : Nat} (h : 4 ≤ c) (h2 : c < 24) : dc6 c = (4, (((c - 4) / 4 : Nat) : Int), if (c - 4) % 4 = 3 then -1 else (((c - 4) % 4 : Nat) : Int)) := by
  unfold dc6
  rw [if_neg (by omega), if_neg (by omega), if_pos h2]
theorem dc6_5 {c : Nat} (h : 24 ≤ c) (h2 : c < 29) : dc6 c = (5, ((c - 24 : Nat) : Int), -1) := by
  unfold dc6
  rw [if_neg (by omega), if_neg (by omega), if_neg (by omega), if_pos h2]
theorem dc6_6 {c : Nat} (h : 29 ≤ c) (h2 : c < 32) : dc6 c = (6, -1, ((c - 29 : Nat) : Int)) := by
  unfold dc6
  rw [if_neg (by omega), if_neg (by omega), if_neg (by omega), if_neg (by omega), if_pos h2]
theorem dc6_7 : dc6 32 = (7, -1, -1) := rfl
theorem dc6_1 {c : Nat} (h : 33 ≤ c) (h2 : c < 35) : dc6 c = (1, -1, ((c - 33 : Nat) : Int)) := by
  unfold dc6
  rw [if_neg (by omega), if_neg (by omega), if_neg (by omega), if_neg (by omega), if_neg (by omega), if_neg (by omega), if_pos h2]
theorem dc6_2 {c : Nat} (h : 35 ≤ c) (h2 : c < 45) : dc6 c = (2, (((c - 35) / 2 : Nat) : Int), (((c - 35) % 2 : Nat) : Int)) := by
  unfold dc6
  rw [if_neg (by omega), if_neg (by omega), if_neg (by omega), if_neg (by omega), if_neg (by omega), if_neg (by omega), if_neg (by omega), if_pos h2]
theorem dc6_8 {c : Nat} (h : 45 ≤ c) : dc6 c = (8, ((c - 45 : Nat) : Int), -1) := by
  unfold dc6
  rw [if_neg (by omega), if_neg (by omega), if_neg (by omega), if_neg (by omega), if_neg (by omega), if_neg (by omega), if_neg (by omega), if_neg (by omega)]
theorem dc6_all {P : Nat → Pc3 → Prop} (h0 : ∀ c, c < 3 → P c (0, -1, (c : Int))) (h3 : P 3 (3, -1, -1)) (h4 : ∀ c, 4 ≤ c → c < 24 → P c (4, (((c - 4) / 4 : Nat) : Int), if (c - 4) % 4 = 3 then -1 else (((c - 4) % 4 : Nat) : Int))) (h5 : ∀ c, 24 ≤ c → c < 29 → P c (5, ((c - 24 : Nat) : Int), -1)) (h6 : ∀ c, 29 ≤ c → c < 32 → P c (6, -1, ((c - 29 : Nat) : Int))) (h7 : P 32 (7, -1, -1)) (h1 : ∀ c, 33 ≤ c → c < 35 → P c (1, -1, ((c - 33 : Nat) : Int))) (h2 : ∀ c, 35 ≤ c → c < 45 → P c (2, (((c - 35) / 2 : Nat) : Int), (((c - 35) % 2 : Nat) : Int))) (h8 : ∀ c, 45 ≤ c → c < 50 → P c (8, ((c - 45 : Nat) : Int), -1)) (c : Nat) (hc : c < 50) : P c (dc6 c) := by
  by_cases z0 : c < 3
  · rw [dc6_0 z0]; exact h0 c z0
  by_cases z3 : c = 3
  · subst z3; exact h3
  by_cases z4 : c < 24
  · rw [dc6_4 (by omega) z4]; exact h4 c (by omega) z4
  by_cases z5 : c < 29
  · rw [dc6_5 (by omega) z5]; exact h5 c (by omega) z5
  by_cases z6 : c < 32
  · rw [dc6_6 (by omega) z6]; exact h6 c (by omega) z6
  by_cases z7 : c = 32
  · subst z7; exact h7
  by_cases z1 : c < 35
  · rw [dc6_1 (by omega) z1]; exact h1 c (by omega) z1
  by_cases z2 : c < 45
  · rw [dc6_2 (by omega) z2]; exact h2 c (by omega) z2
  · rw [dc6_8 (by omega)]; exact h8 c (by omega) hc
/-- the page that a piece calls, or -1 -/
def clD (pc : Pc3) : Int := if pc.1 = 4 ∨ pc.1 = 5 then pc.2.1 else -1
def clb (pc : Pc3) : Nat := if pc.1 = 4 ∨ pc.1 = 5 then 2 ^ pc.2.1.toNat else 0
def clS (ps : List Pc3) : Nat := ps.foldl (fun m pc => m ||| clb pc) 0
/-- a piece of the law's -/
def Sm6 (pc : Pc3) : Prop := PV pc ∧ -1 ≤ clD pc ∧ clD pc ≤ 4 ∧ (pc.1 = 8 → 0 ≤ pc.2.1 ∧ pc.2.1 ≤ 4) ∧ (pc.1 = 2 → 0 ≤ pc.2.1 ∧ pc.2.1 ≤ 4)
theorem dc6_Sm {c : Nat} (hc : c < 50) : Sm6 (dc6 c) := by
  refine dc6_all (P := fun _ pc => Sm6 pc) ?_ ?_ ?_ ?_ ?_ ?_ ?_ ?_ ?_ c hc
  all_goals (try intro c h1); (try intro h2); unfold Sm6 PV clD; dsimp only; (try split) <;> simp <;> omega
theorem clb_clD {pc : Pc3} (h : Sm6 pc) : clb pc = if clD pc < 0 then 0 else 2 ^ (clD pc).toNat := by
  obtain ⟨h1, h2, h3, -⟩ := h
  unfold clb clD at *
  by_cases z : pc.1 = 4 ∨ pc.1 = 5
  · rw [if_pos z, if_pos z]
    rw [if_neg (by unfold PV at h1; omega)]
  · rw [if_neg z, if_neg z, if_pos (by decide)]
theorem clb_lt {pc : Pc3} (h : Sm6 pc) : clb pc < 2 ^ 5 := by
  rw [clb_clD h]
  obtain ⟨h1, h2, h3, -⟩ := h
  split
  · decide
  · exact Nat.pow_lt_pow_right (by decide) (by omega)
theorem clS_app (ps : List Pc3) (pc : Pc3) : clS (ps ++ [pc]) = clS ps ||| clb pc := by
  unfold clS
  rw [List.foldl_append]; rfl
theorem clS_take {ps : List Pc3} {i : Nat} (h : i < ps.length) : clS (ps.take (i + 1)) = clS (ps.take i) ||| clb (pcs ps i) := by rw [pcs_take h, clS_app]
theorem clS_lt0 : ∀ (ps : List Pc3) (m : Nat), m < 2 ^ 5 → (∀ pc ∈ ps, Sm6 pc) → ps.foldl (fun m pc => m ||| clb pc) m < 2 ^ 5
  | [], m, h, _ => h
  | p :: ps, m, h, hv => clS_lt0 ps (m ||| clb p) (Nat.or_lt_two_pow h (clb_lt (hv p List.mem_cons_self))) (fun q hq => hv q (List.mem_cons_of_mem _ hq))
theorem clS_lt {ps : List Pc3} (h : ∀ pc ∈ ps, Sm6 pc) : clS ps < 2 ^ 5 := clS_lt0 ps 0 (by decide) h
theorem clb_bit {pc : Pc3} {q : Nat} (h : Sm6 pc) : (clb pc).testBit q = true ↔ ((pc.1 = 4 ∨ pc.1 = 5) ∧ pc.2.1 = (q : Int)) := by
  obtain ⟨h1, h2, h3, -⟩ := h
  unfold clb clD at *
  by_cases z : pc.1 = 4 ∨ pc.1 = 5
  · rw [if_pos z, Nat.testBit_two_pow, decide_eq_true_eq]
    unfold PV at h1
    constructor
    · intro y; exact ⟨z, by omega⟩
    · rintro ⟨-, y⟩; omega
  · rw [if_neg z, Nat.zero_testBit]
    exact ⟨fun y => (nomatch y), fun y => absurd y.1 z⟩
theorem clS_bit0 (q : Nat) : ∀ (ps : List Pc3) (m : Nat), (∀ pc ∈ ps, Sm6 pc) → ((ps.foldl (fun m pc => m ||| clb pc) m).testBit q = true ↔ m.testBit q = true ∨ 0 < ccn q ps)
  | [], m, _ => by simp [ccn]
  | p :: ps, m, hv => by
    show (ps.foldl (fun m pc => m ||| clb pc) (m ||| clb p)).testBit q = true ↔ _
    rw [clS_bit0 q ps _ (fun x hx => hv x (List.mem_cons_of_mem _ hx)), Nat.testBit_or, Bool.or_eq_true, clb_bit (hv p List.mem_cons_self)]
    have e : ccn q (p :: ps) = (if (p.1 = 4 ∨ p.1 = 5) ∧ p.2.1 = (q : Int) then 1 else 0) + ccn q ps := rfl
    rw [e]
    by_cases z : (p.1 = 4 ∨ p.1 = 5) ∧ p.2.1 = (q : Int)
    · rw [if_pos z]
      exact ⟨fun _ => Or.inr (by omega), fun _ => Or.inl (Or.inr z)⟩
    · rw [if_neg z, Nat.zero_add]
      exact ⟨fun y => y.elim (fun y => y.elim Or.inl (fun y => absurd y z)) Or.inr, fun y => y.elim (fun y => Or.inl (Or.inl y)) Or.inr⟩
theorem clS_bit {ps : List Pc3} {q : Nat} (h : ∀ pc ∈ ps, Sm6 pc) : (clS ps).testBit q = true ↔ 0 < ccn q ps := by
  unfold clS
  rw [clS_bit0 q ps 0 h, Nat.zero_testBit]
  exact ⟨fun y => y.elim (fun z => nomatch z) id, Or.inr⟩
/-- a text and its number -/
def Tx64 (ps : List Pc3) (x : Int64) : Prop := ∃ cs : List Nat, ps = cs.map dc6 ∧ (∀ c ∈ cs, c < 50) ∧ cs.length ≤ 9 ∧ x = X64 (tx6 cs)
theorem Tx64.nil : Tx64 [] 0 := ⟨[], rfl, (fun c h => nomatch h), Nat.zero_le _, rfl⟩
theorem Tx64.sm {ps : List Pc3} {x : Int64} (h : Tx64 ps x) : ∀ pc ∈ ps, Sm6 pc := by
  obtain ⟨cs, rfl, h2, -, -⟩ := h
  intro pc hp
  obtain ⟨c, hc, rfl⟩ := List.mem_map.mp hp
  exact dc6_Sm (h2 c hc)
theorem Tx64.len {ps : List Pc3} {x : Int64} (h : Tx64 ps x) : ps.length ≤ 9 := by
  obtain ⟨cs, rfl, -, h3, -⟩ := h
  rw [List.length_map]; exact h3
theorem pcs_map {cs : List Nat} {i : Nat} (h : i < cs.length) : pcs (cs.map dc6) i = dc6 (cs.getD i 0) := by
  unfold pcs
  rw [List.getD_eq_getElem?_getD, List.getD_eq_getElem?_getD, List.getElem?_map, List.getElem?_eq_getElem h]
  rfl
theorem getD_lt {cs : List Nat} (h : ∀ c ∈ cs, c < 50) (i : Nat) : cs.getD i 0 < 50 := by
  rw [List.getD_eq_getElem?_getD]
  by_cases z : i < cs.length
  · rw [List.getElem?_eq_getElem z]
    exact h _ (List.getElem_mem _)
  · rw [List.getElem?_eq_none (by omega)]
    decide
-- ===== the law's arrays against the state =====
def LwR (σ : Sg) (ft : Nat → Int64) (fz fr fv : Nat → Int) : Prop := (∀ p, p < 5 → fv p = (sNv σ p : Int) ∧ sNv σ p ≤ 11 ∧ fv (5 + p) = sLk σ p ∧ ∀ x, x ≤ sNv σ p → Tx64 (sTx σ p x) (ft (12 * p + x)) ∧ fz (12 * p + x) = ((sTx σ p x).length : Int) ∧ fr (12 * p + x) = sRk σ p x) ∧ (∀ u, u < 6 → fv (10 + u) = sUr σ u) ∧ ∀ p, 5 ≤ p → p < 12 → sNv σ p = 0 ∧ sTx σ p 0 = [] ∧ sLk σ p = 0
section LWR
variable {σ : Sg} {ft : Nat → Int64} {fz fr fv : Nat → Int}
theorem LwR.nv (h : LwR σ ft fz fr fv) {p : Nat} (hp : p < 5) : fv p = (sNv σ p : Int) ∧ sNv σ p ≤ 11 := ⟨(h.1 p hp).1, (h.1 p hp).2.1⟩
theorem LwR.tx (h : LwR σ ft fz fr fv) {p : Nat} (hp : p < 5) : Tx64 (sT σ p) (ft (12 * p + sNv σ p)) := ((h.1 p hp).2.2.2 _ (Nat.le_refl _)).1
theorem LwR.sz (h : LwR σ ft fz fr fv) {p : Nat} (hp : p < 5) : fz (12 * p + sNv σ p) = ((sT σ p).length : Int) := ((h.1 p hp).2.2.2 _ (Nat.le_refl _)).2.1
theorem LwR.rk (h : LwR σ ft fz fr fv) {p : Nat} (hp : p < 5) : fr (12 * p + sNv σ p) = sRk σ p (sNv σ p) := ((h.1 p hp).2.2.2 _ (Nat.le_refl _)).2.2
theorem LwR.none (h : LwR σ ft fz fr fv) {p : Nat} (h5 : 5 ≤ p) (hp : p < 12) : sT σ p = [] := by
  obtain ⟨a, b, -⟩ := h.2.2 p h5 hp
  unfold sT
  rw [a, b]
end LWR
/-- the texts, but for one page -/
def TO (σ : Sg) (o : Int) (ps : List Pc3) (T : Nat → List Pc3) : Prop := (∀ q : Nat, q < 5 → ((q : Int) = o → T q = ps) ∧ ((q : Int) ≠ o → T q = sT σ q)) ∧ ∀ q : Nat, 5 ≤ q → q < 12 → T q = []
theorem TO.now {σ : Sg} {ft : Nat → Int64} {fz fr fv : Nat → Int} (h : LwR σ ft fz fr fv) : TO σ (-1) [] (sT σ) := ⟨fun q hq => ⟨fun z => by omega, fun _ => rfl⟩, fun q h5 hq => h.none h5 hq⟩
theorem TO.up {σ : Sg} {ft : Nat → Int64} {fz fr fv : Nat → Int} (h : LwR σ ft fz fr fv) {p : Nat} (hp : p < 5) (ps : List Pc3) : TO σ (p : Int) ps (upT (sT σ) p ps) := ⟨fun q hq => ⟨fun z => by rw [show q = p by omega, upT_eq], fun z => by rw [upT_ne (by omega)]⟩, fun q h5 hq => by rw [upT_ne (by omega)]; exact h.none h5 hq⟩
theorem TO.sm {σ : Sg} {ft : Nat → Int64} {fz fr fv : Nat → Int} {o : Int} {ps : List Pc3} {x : Int64} {T : Nat → List Pc3} (h : TO σ o ps T) (hR : LwR σ ft fz fr fv) (hx : Tx64 ps x) {q : Nat} (hq : q < 12) : ∀ pc ∈ T q, Sm6 pc := by
  by_cases h5 : q < 5
  · by_cases z : (q : Int) = o
    · rw [(h.1 q h5).1 z]; exact hx.sm
    · rw [(h.1 q h5).2 z]; exact (hR.tx h5).sm
  · rw [h.2 q (by omega) hq]
    exact fun pc h => nomatch h
-- ===== what is reached, by closing =====
def sub2 (a b : Nat) : Prop := ∀ q, a.testBit q = true → b.testBit q = true
theorem sub2.le {a b : Nat} (h : sub2 a b) : a ≤ b := by
  have e : a &&& b = a := by
    apply Nat.eq_of_testBit_eq
    intro q
    rw [Nat.testBit_and]
    cases ha : a.testBit q
    · rfl
    · rw [h q ha]; rfl
  rw [← e]
  exact Nat.and_le_right
theorem sub2.or {a b c : Nat} (h : sub2 a b) : sub2 a (b ||| c) := fun q hq => by rw [Nat.testBit_or, h q hq]; rfl
theorem sub2.or2 {a b : Nat} : sub2 b (a ||| b) := fun q hq => by rw [Nat.testBit_or, hq, Bool.or_true]
theorem sub2.trans {a b c : Nat} (h : sub2 a b) (h2 : sub2 b c) : sub2 a c := fun q hq => h2 q (h q hq)
/-- set S is gone through up to page i, M holds what was found -/
def rIn (T : Nat → List Pc3) (p S i M : Nat) : Prop := sub2 S M ∧ sub2 (clS (T p)) M ∧ (∀ j, j < i → S.testBit j = true → sub2 (clS (T j)) M) ∧ (∀ q, M.testBit q = true → rchT T p q) ∧ M < 2 ^ 5
section RIN
variable {T : Nat → List Pc3} {p S i M : Nat}
theorem clS_E (hs : ∀ q, q < 12 → ∀ pc ∈ T q, Sm6 pc) {a b : Nat} (ha : a < 5) (h : (clS (T a)).testBit b = true) : gE (gC12 (fcT T)) a b := by
  have h1 := (clS_bit (hs a (by omega))).mp h
  have h2 : b < 5 := by
    apply Decidable.byContradiction
    intro z
    have e : 2 ^ 5 ≤ 2 ^ b := Nat.pow_le_pow_right (by decide) (by omega)
    rw [Nat.testBit_lt_two_pow (Nat.lt_of_lt_of_le (clS_lt (hs a (by omega))) e)] at h
    cases h
  exact ⟨by omega, by omega, by show 0 < fcT T (12 * a + b); rw [fcT_at T (by omega)]; exact h1⟩
theorem rIn.start (hs : ∀ q, q < 12 → ∀ pc ∈ T q, Sm6 pc) (hp : p < 5) : rIn T p 0 5 (clS (T p)) := ⟨fun q h => absurd h (by rw [Nat.zero_testBit]; exact Bool.false_ne_true), fun q h => h, fun j _ h => absurd h (by rw [Nat.zero_testBit]; exact Bool.false_ne_true), fun q h => gRc.one (clS_E hs hp h), clS_lt (hs p (by omega))⟩
theorem rIn.step (hs : ∀ q, q < 12 → ∀ pc ∈ T q, Sm6 pc) (hi : i < 5) (h : rIn T p S i M) : rIn T p S (i + 1) (if S.testBit i = true then M ||| clS (T i) else M) := by
  obtain ⟨h1, h2, h3, h4, h5⟩ := h
  by_cases z : S.testBit i = true
  · rw [if_pos z]
    refine ⟨h1.or, h2.or, fun j hj hb => ?_, fun q hq => ?_, Nat.or_lt_two_pow h5 (clS_lt (hs i (by omega)))⟩
    · by_cases y : j = i
      · subst y; exact sub2.or2
      · exact (h3 j (by omega) hb).or
    · rw [Nat.testBit_or, Bool.or_eq_true] at hq
      rcases hq with hq | hq
      · exact h4 q hq
      · exact (h4 i (h1 i z)).trans (gRc.one (clS_E hs hi hq))
  · rw [if_neg z]
    refine ⟨h1, h2, fun j hj hb => ?_, h4, h5⟩
    by_cases y : j = i
    · subst y; exact absurd hb z
    · exact h3 j (by omega) hb
theorem rIn.next (h : rIn T p S 5 M) : rIn T p M 0 M := ⟨fun q h => h, h.2.1, fun j hj => absurd hj (Nat.not_lt_zero _), h.2.2.2.1, h.2.2.2.2⟩
theorem rIn.done (hs : ∀ q, q < 12 → ∀ pc ∈ T q, Sm6 pc) (hE : ∀ q, 5 ≤ q → q < 12 → T q = []) (hp : p < 5) (h : rIn T p S 5 S) : S = rsT T p := by
  obtain ⟨h1, h2, h3, h4, h5⟩ := h
  have hcl : ∀ a b, a < 12 → gE (gC12 (fcT T)) a b → (clS (T a)).testBit b = true := fun a b ha hg => by
    obtain ⟨g1, g2, g3⟩ := hg
    have g4 : 0 < fcT T (12 * a + b) := g3
    rw [fcT_at T g2] at g4
    exact (clS_bit (hs a ha)).mpr g4
  refine eq_bits (by omega) rsT_lt (fun q hq => ⟨fun hb => (rsT_bit (by omega) hq).mpr (h4 q hb), fun hb => ?_⟩)
  obtain ⟨L, f, hL, f0, fL, fs⟩ := (rsT_bit (by omega) hq).mp hb
  have key : ∀ k, k < L → S.testBit (f (k + 1)) = true := by
    intro k
    induction k with
    | zero =>
      intro hk
      have hg := fs 0 hk
      rw [f0] at hg
      exact h2 _ (hcl p _ (by omega) hg)
    | succ k ih =>
      intro hk
      have hb1 := ih (by omega)
      have hg := fs (k + 1) hk
      have hlt : f (k + 1) < 5 := by
        apply Decidable.byContradiction
        intro z
        have g4 : 0 < fcT T (12 * f (k + 1) + f (k + 1 + 1)) := hg.2.2
        rw [fcT_at T hg.2.1, hE _ (by omega) hg.1] at g4
        exact absurd g4 (Nat.lt_irrefl 0)
      exact h3 _ hlt hb1 _ (hcl _ _ hg.1 hg)
  have := key (L - 1) (by omega)
  rw [show L - 1 + 1 = L by omega, fL] at this
  exact this
end RIN
