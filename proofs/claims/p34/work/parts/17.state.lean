-- ===== the state: draft, texts, ranks, versions, locks, ranks of users =====
abbrev Sg : Type := List Pc3 × (Nat → Nat → List Pc3) × (Nat → Nat → Int) × (Nat → Nat) × (Nat → Int) × (Nat → Int)
def sDr (σ : Sg) : List Pc3 := σ.1
def sTx (σ : Sg) : Nat → Nat → List Pc3 := σ.2.1
def sRk (σ : Sg) : Nat → Nat → Int := σ.2.2.1
def sNv (σ : Sg) : Nat → Nat := σ.2.2.2.1
def sLk (σ : Sg) : Nat → Int := σ.2.2.2.2.1
def sUr (σ : Sg) : Nat → Int := σ.2.2.2.2.2
/-- the text of now -/
def sT (σ : Sg) (p : Nat) : List Pc3 := sTx σ p (sNv σ p)
def fcT (T : Nat → List Pc3) : Nat → Nat := fun m => ccn (m % 12) (T (m / 12))
def foT (T : Nat → List Pc3) : Nat → Nat := fun p => oxn (T p)
theorem fcT_at (T : Nat → List Pc3) {p q : Nat} (hq : q < 12) : fcT T (12 * p + q) = ccn q (T p) := by
  unfold fcT
  rw [show (12 * p + q) % 12 = q by omega, show (12 * p + q) / 12 = p by omega]
def dpN (fc : Nat → Nat) : Nat → Nat → Nat
  | 0 => fun _ => 0
  | n + 1 => fun p => dOC fc (dpN fc n) p 12
def exN (fc fo : Nat → Nat) : Nat → Nat → Nat
  | 0 => fun _ => 0
  | n + 1 => fun p => eOC fc fo (exN fc fo n) p 12
def depT (T : Nat → List Pc3) (p : Nat) : Nat := dpN (fcT T) 11 p
def extT (T : Nat → List Pc3) (p : Nat) : Nat := exN (fcT T) (foT T) 12 p
def rchT (T : Nat → List Pc3) (p q : Nat) : Prop := gRc (gC12 (fcT T)) p q
/-- what a text's pieces add to a spread -/
def pItem (pc : Pc3) : Int := if pc.1 = 2 then 10 * pc.2.1 + pc.2.2 else pc.2.2
def spStep (rec : Nat → List It4) (p : Nat) (st : List It4 × List Int) (pc : Pc3) : List It4 × List Int :=
  if pc.1 = 6 then (st.1, st.2 ++ [tog (ndo st.2) pc.2.2])
  else if pc.1 = 7 then (st.1, st.2.dropLast)
  else if pc.1 = 4 then (tkC (ndo st.2) pc.2.2 st.1 (rec pc.2.1.toNat), st.2)
  else if pc.1 = 5 then (tkO (ndo st.2) st.1 (rec pc.2.1.toNat), st.2)
  else if pc.1 < 4 then (sadd st.1 (ndo st.2, pc.1, pItem pc, (p : Int)), st.2)
  else st
def spText (rec : Nat → List It4) (p : Nat) (ps : List Pc3) : List It4 × List Int := ps.foldl (spStep rec p) ([], [])
def sprN (T : Nat → List Pc3) : Nat → Nat → List It4
  | 0 => fun _ => []
  | n + 1 => fun p => (spText (sprN T n) p (T p)).1
def sprT (T : Nat → List Pc3) (p : Nat) : List It4 := sprN T 6 p
/-- a text as a page may have it -/
def txOK (ps : List Pc3) : Prop := (∀ q ∈ ps, PV q) ∧ OWp ps ∧ ps.length ≤ 30
def SgOK (σ : Sg) : Prop := txOK (sDr σ) ∧ (∀ p, p < 12 → sNv σ p ≤ 20 ∧ (0 ≤ sLk σ p ∧ sLk σ p ≤ 3) ∧ depT (sT σ) p ≤ 5 ∧ extT (sT σ) p ≤ 100 ∧ ¬ rchT (sT σ) p p ∧ ∀ v, v ≤ sNv σ p → txOK (sTx σ p v) ∧ owc (sTx σ p v) = 0 ∧ 0 ≤ sRk σ p v ∧ sRk σ p v ≤ 3) ∧ ∀ u, u < 6 → 0 ≤ sUr σ u ∧ sUr σ u ≤ 3
-- ===== the class's world =====
abbrev TxD (D : gD) (w : wW) (τ ad : Nat → Nat) (r : Nat) (ps : List Pc3) : Prop := TxT D w τ r (ad r) (ad (r + 1)) (ad (r + 2)) (ad (r + 3)) ps
abbrev NtD (D : gD) (w : wW) (τ ad : Nat → Nat) (r : Nat) (fc fo fr fd fx : Nat → Nat) : Prop := NtT D w τ r (ad r) (ad (r + 1)) (ad (r + 2)) (ad (r + 3)) (ad (r + 4)) (ad (r + 5)) fc fo fr fd fx
abbrev SpD (D : gD) (w : wW) (τ ad : Nat → Nat) (r : Nat) (its : List It4) (os : List Int) : Prop := SpT D w τ r (ad r) (ad (r + 1)) (ad (r + 2)) (ad (r + 3)) (ad (r + 4)) (ad (r + 5)) its os
def vr (p v : Nat) : Nat := 1000 + 105 * p + 5 * v
def pgO (n : Nat) (k : Int) (s : Nat) : va_E := .inr (1, [.ref n, .int (Z32 k), .ref s])
def vrO (b : Value) (k : Int) (t : Nat) (g : Int) : va_E := .inr (4, [b, .int (Z32 k), .ref t, .int (Z32 g)])
def mwO (d a u n t : Nat) : va_E := .inr (6, [.ref d, .ref a, .ref u, .ref n, .ref t])
def NetOK (T : Nat → List Pc3) (fc fo fr fd fx : Nat → Nat) : Prop := ∀ p, p < 12 → (∀ q, q < 12 → fc (12 * p + q) = ccn q (T p) ∧ ((fr p).testBit q = true ↔ rchT T p q)) ∧ fo p = oxn (T p) ∧ fd p = depT T p ∧ fx p = extT T p
/-- the parts: the thing itself and its nets; the rows; the draft; the pages; the spreads; the versions -/
def WkN (D : gD) (w : wW) (τ ad : Nat → Nat) (T : Nat → List Pc3) (nb tb : Nat) : Prop := ((nb = 10 ∧ tb = 20) ∨ (nb = 20 ∧ tb = 10)) ∧ w (ad 0) = some (mwO (ad 3) (ad 1) (ad 2) (ad nb) (ad tb)) ∧ (∃ fc fo fr fd fx, NtD D w τ ad nb fc fo fr fd fx ∧ NetOK T fc fo fr fd fx) ∧ ∃ fc fo fr fd fx, NtD D w τ ad tb fc fo fr fd fx
def WkA (D : gD) (w : wW) (τ ad : Nat → Nat) (σ : Sg) : Prop := τ (ad 0) = 0 ∧ τ (ad 1) = 1 ∧ τ (ad 2) = 2 ∧ (∃ pf, w (ad 1) = some (par D 12 pf) ∧ ∀ p, p < 12 → pf p = some (ad (100 + p))) ∧ (∃ uf, w (ad 2) = some (iar D 6 uf) ∧ ∀ u, u < 6 → uf u = sUr σ u) ∧ TxD D w τ ad 3 (sDr σ)
def WkP (w : wW) (τ ad : Nat → Nat) (σ : Sg) : Prop := ∀ p, p < 12 → τ (ad (100 + p)) = 100 + p ∧ w (ad (100 + p)) = some (pgO (ad (vr p (sNv σ p))) (sLk σ p) (ad (200 + 6 * p)))
def WkS (D : gD) (w : wW) (τ ad : Nat → Nat) (T : Nat → List Pc3) : Prop := ∀ p, p < 12 → ∃ os, SpD D w τ ad (200 + 6 * p) (sprT T p) os
def WkV (D : gD) (w : wW) (τ ad : Nat → Nat) (σ : Sg) : Prop := ∀ p, p < 12 → ∀ v, v ≤ sNv σ p → τ (ad (vr p v)) = vr p v ∧ w (ad (vr p v)) = some (vrO (if v = 0 then .null else .ref (ad (vr p (v - 1)))) v (ad (vr p v + 1)) (sRk σ p v)) ∧ TxD D w τ ad (vr p v + 1) (sTx σ p v)
def WkI (D : gD) (w : wW) (τ ad : Nat → Nat) (nb tb : Nat) (σ : Sg) : Prop := SgOK σ ∧ WkN D w τ ad (sT σ) nb tb ∧ WkA D w τ ad σ ∧ WkP w τ ad σ ∧ WkS D w τ ad (sT σ) ∧ WkV D w τ ad σ
section WK
variable {D : gD} {w w1 : wW} {τ ad : Nat → Nat} {nb tb : Nat} {σ : Sg} {T : Nat → List Pc3}
theorem WkN.kept (h : WkN D w τ ad T nb tb) (h0 : τ (ad 0) = 0) (hk : ∀ q, (τ q = 0 ∨ (10 ≤ τ q ∧ τ q < 26)) → w1 q = w q) : WkN D w1 τ ad T nb tb := by
  obtain ⟨hb, g1, ⟨fc, fo, fr, fd, fx, g2, g3⟩, gc, go, gr, gd, gx, g4⟩ := h
  exact ⟨hb, by rw [hk _ (Or.inl h0)]; exact g1, ⟨fc, fo, fr, fd, fx, g2.kept (fun q h1 h2 => hk q (by omega)), g3⟩, gc, go, gr, gd, gx, g4.kept (fun q h1 h2 => hk q (by omega))⟩
theorem WkA.kept (h : WkA D w τ ad σ) (hk : ∀ q, 1 ≤ τ q → τ q < 7 → w1 q = w q) : WkA D w1 τ ad σ := by
  obtain ⟨a0, a1, a2, ⟨pf, b1, b2⟩, ⟨uf, c1, c2⟩, d1⟩ := h
  exact ⟨a0, a1, a2, ⟨pf, by rw [hk _ (by omega) (by omega)]; exact b1, b2⟩, ⟨uf, by rw [hk _ (by omega) (by omega)]; exact c1, c2⟩, d1.kept (fun q h1 h2 => hk q (by omega) (by omega))⟩
theorem WkP.kept (h : WkP w τ ad σ) (hk : ∀ q, 100 ≤ τ q → τ q < 112 → w1 q = w q) : WkP w1 τ ad σ := fun p hp => by
  obtain ⟨a1, a2⟩ := h p hp
  exact ⟨a1, by rw [hk _ (by omega) (by omega)]; exact a2⟩
theorem WkS.kept (h : WkS D w τ ad T) (hk : ∀ q, 200 ≤ τ q → τ q < 272 → w1 q = w q) : WkS D w1 τ ad T := fun p hp => by
  obtain ⟨os, a1⟩ := h p hp
  exact ⟨os, a1.kept (fun q h1 h2 => hk q (by omega) (by omega))⟩
theorem WkV.kept (h : WkV D w τ ad σ) (hs : ∀ p, p < 12 → sNv σ p ≤ 20) (hk : ∀ q, 1000 ≤ τ q → τ q < 2260 → w1 q = w q) : WkV D w1 τ ad σ := fun p hp v hv => by
  obtain ⟨a1, a2, a3⟩ := h p hp v hv
  have h20 := hs p hp
  unfold vr at *
  exact ⟨a1, by rw [hk _ (by omega) (by omega)]; exact a2, a3.kept (fun q h1 h2 => hk q (by omega) (by omega))⟩
theorem WkI.page (h : WkI D w τ ad nb tb σ) {p : Nat} (hp : p < 12) : w (ad (100 + p)) = some (pgO (ad (vr p (sNv σ p))) (sLk σ p) (ad (200 + 6 * p))) := (h.2.2.2.1 p hp).2
theorem WkI.ver (h : WkI D w τ ad nb tb σ) {p : Nat} (hp : p < 12) : w (ad (vr p (sNv σ p))) = some (vrO (if sNv σ p = 0 then .null else .ref (ad (vr p (sNv σ p - 1)))) (sNv σ p) (ad (vr p (sNv σ p) + 1)) (sRk σ p (sNv σ p))) := (h.2.2.2.2.2 p hp _ (Nat.le_refl _)).2.1
theorem WkI.txt (h : WkI D w τ ad nb tb σ) {p : Nat} (hp : p < 12) : TxD D w τ ad (vr p (sNv σ p) + 1) (sT σ p) := (h.2.2.2.2.2 p hp _ (Nat.le_refl _)).2.2
theorem WkI.spr (h : WkI D w τ ad nb tb σ) {p : Nat} (hp : p < 12) : ∃ os, SpD D w τ ad (200 + 6 * p) (sprT (sT σ) p) os := h.2.2.2.2.1 p hp
theorem WkI.obj (h : WkI D w τ ad nb tb σ) : w (ad 0) = some (mwO (ad 3) (ad 1) (ad 2) (ad nb) (ad tb)) := h.2.1.2.1
end WK
/-- the force of a page, over the first n pages' reached sets -/
def frcN (lk : Nat → Int) (fr : Nat → Nat) (p : Nat) : Nat → Int
  | 0 => lk p
  | n + 1 => if (fr n).testBit p = true then max (frcN lk fr p n) (lk n) else frcN lk fr p n
theorem frcN_R {lk : Nat → Int} {fr : Nat → Nat} {p : Nat} (h : ∀ i, i < 12 → 0 ≤ lk i ∧ lk i ≤ 3) (hp : p < 12) : ∀ n, n ≤ 12 → 0 ≤ frcN lk fr p n ∧ frcN lk fr p n ≤ 3
  | 0, _ => h p hp
  | n + 1, hn => by
    have h1 := frcN_R (fr := fr) h hp n (by omega)
    have h2 := h n (by omega)
    unfold frcN
    split <;> omega
