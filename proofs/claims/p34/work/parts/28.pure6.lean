-- ===== the state while the spreads are laid anew: those of the pages in Q are laid =====
def WkM (D : gD) (w : wW) (τ ad : Nat → Nat) (nb tb : Nat) (σ : Sg) (Q : Nat → Prop) : Prop := SgOK σ ∧ WkN D w τ ad (sT σ) nb tb ∧ WkA D w τ ad σ ∧ WkP w τ ad σ ∧ (∀ p, p < 12 → ∃ its os, SpD D w τ ad (200 + 6 * p) its os ∧ (Q p → its = sprT (sT σ) p)) ∧ WkV D w τ ad σ
theorem WkM.all {D : gD} {w : wW} {τ ad : Nat → Nat} {nb tb : Nat} {σ : Sg} {Q : Nat → Prop} (h : WkM D w τ ad nb tb σ Q) (hQ : ∀ p, p < 12 → Q p) : WkI D w τ ad nb tb σ := by
  obtain ⟨h1, h2, h3, h4, h5, h6⟩ := h
  refine ⟨h1, h2, h3, h4, fun p hp => ?_, h6⟩
  obtain ⟨its, os, a, b⟩ := h5 p hp
  rw [b (hQ p hp)] at a
  exact ⟨os, a⟩
theorem WkM.page {D : gD} {w : wW} {τ ad : Nat → Nat} {nb tb : Nat} {σ : Sg} {Q : Nat → Prop} (h : WkM D w τ ad nb tb σ Q) {p : Nat} (hp : p < 12) : w (ad (100 + p)) = some (pgO (ad (vr p (sNv σ p))) (sLk σ p) (ad (200 + 6 * p))) := (h.2.2.2.1 p hp).2
theorem WkM.ver {D : gD} {w : wW} {τ ad : Nat → Nat} {nb tb : Nat} {σ : Sg} {Q : Nat → Prop} (h : WkM D w τ ad nb tb σ Q) {p : Nat} (hp : p < 12) : w (ad (vr p (sNv σ p))) = some (vrO (if sNv σ p = 0 then .null else .ref (ad (vr p (sNv σ p - 1)))) (sNv σ p) (ad (vr p (sNv σ p) + 1)) (sRk σ p (sNv σ p))) := (h.2.2.2.2.2 p hp _ (Nat.le_refl _)).2.1
theorem WkM.txt {D : gD} {w : wW} {τ ad : Nat → Nat} {nb tb : Nat} {σ : Sg} {Q : Nat → Prop} (h : WkM D w τ ad nb tb σ Q) {p : Nat} (hp : p < 12) : TxD D w τ ad (vr p (sNv σ p) + 1) (sT σ p) := (h.2.2.2.2.2 p hp _ (Nat.le_refl _)).2.2
theorem WkM.obj {D : gD} {w : wW} {τ ad : Nat → Nat} {nb tb : Nat} {σ : Sg} {Q : Nat → Prop} (h : WkM D w τ ad nb tb σ Q) : w (ad 0) = some (mwO (ad 3) (ad 1) (ad 2) (ad nb) (ad tb)) := h.2.1.2.1
/-- one page's spread is laid -/
theorem WkM.step {D : gD} {w w1 : wW} {τ ad : Nat → Nat} {nb tb : Nat} {σ : Sg} {Q Q' : Nat → Prop} {p : Nat} {its : List It4} {os : List Int} (h : WkM D w τ ad nb tb σ Q) (hS : SpD D w1 τ ad (200 + 6 * p) its os) (hk : offR τ w w1 (200 + 6 * p) (200 + 6 * p + 6)) (hp : p < 12) (hq : ∀ q, q < 12 → q ≠ p → Q' q → Q q) (he : Q' p → its = sprT (sT σ) p) : WkM D w1 τ ad nb tb σ Q' := by
  obtain ⟨hs, hn, ha, hp4, hsp, hv⟩ := h
  have h0 := ha.1
  have hb := hn.1
  refine ⟨hs, hn.kept h0 (fun q h1 => hk q (by omega)), ha.kept (fun q h1 h2 => hk q (by omega)), hp4.kept (fun q h1 h2 => hk q (by omega)), fun q hq12 => ?_, hv.kept (fun p hp => (hs.2.1 p hp).1) (fun q h1 h2 => hk q (by omega))⟩
  by_cases z : q = p
  · subst z; exact ⟨its, os, hS, he⟩
  · obtain ⟨its2, os2, a, b⟩ := hsp q hq12
    exact ⟨its2, os2, a.off hk (by omega), fun y => b (hq q hq12 z y)⟩
theorem ccn_pos {q : Nat} : ∀ {ps : List Pc3} {pc : Pc3}, pc ∈ ps → (pc.1 = 4 ∨ pc.1 = 5) → pc.2.1 = q → 0 < ccn q ps
  | [], _, h, _, _ => nomatch h
  | a :: ps, pc, h, h1, h2 => by
    unfold ccn
    rcases List.mem_cons.mp h with h | h
    · subst h
      rw [if_pos ⟨h1, h2⟩]; omega
    · have := ccn_pos h h1 h2
      omega
theorem spText_cong {r1 r2 : Nat → List It4} {p : Nat} {ps : List Pc3} (h : ∀ pc ∈ ps, (pc.1 = 4 ∨ pc.1 = 5) → r1 pc.2.1.toNat = r2 pc.2.1.toNat) : spText r1 p ps = spText r2 p ps := by
  unfold spText
  have : ∀ (ps : List Pc3) (st : List It4 × List Int), (∀ pc ∈ ps, (pc.1 = 4 ∨ pc.1 = 5) → r1 pc.2.1.toNat = r2 pc.2.1.toNat) → ps.foldl (spStep r1 p) st = ps.foldl (spStep r2 p) st := by
    intro ps
    induction ps with
    | nil => intro st _; rfl
    | cons a ps ih =>
      intro st h
      have ha := h a (List.mem_cons_self ..)
      have e : spStep r1 p st a = spStep r2 p st a := by
        unfold spStep
        by_cases z4 : a.1 = 4
        · rw [ha (Or.inl z4)]
        · by_cases z5 : a.1 = 5
          · rw [ha (Or.inr z5)]
          · rw [if_neg z4, if_neg z4, if_neg z5, if_neg z5]
      rw [List.foldl_cons, List.foldl_cons, e]
      exact ih _ (fun pc hpc => h pc (List.mem_cons_of_mem _ hpc))
  exact this ps _ h
/-- the page that a call calls is less deep -/
theorem dep_call {T : Nat → List Pc3} (hT : ∀ q, q < 12 → txOK (T q)) (ha : gAcy (fcT T)) {p : Nat} (hp : p < 12) {pc : Pc3} (hm : pc ∈ T p) (h45 : pc.1 = 4 ∨ pc.1 = 5) : ∃ q : Nat, q < 12 ∧ pc.2.1 = (q : Int) ∧ depT T q < depT T p ∧ q ≠ p := by
  have hv := (hT p hp).1 pc hm
  obtain ⟨q, hq⟩ : ∃ q : Nat, pc.2.1 = q := ⟨pc.2.1.toNat, by unfold PV at hv; omega⟩
  have hq12 : q < 12 := by unfold PV at hv; omega
  have hc : 0 < fcT T (12 * p + q) := by rw [fcT_at T hq12]; exact ccn_pos hm h45 hq
  have hd : depT T q < depT T p := dpN_lt ha hp hq12 hc
  exact ⟨q, hq12, hq, hd, fun e => by subst e; exact Nat.lt_irrefl _ hd⟩
theorem sprN_st {T : Nat → List Pc3} (hT : ∀ q, q < 12 → txOK (T q)) (ha : gAcy (fcT T)) : ∀ (n p : Nat), p < 12 → depT T p < n → sprN T n p = sprN T (n + 1) p
  | 0, _, _, h => absurd h (Nat.not_lt_zero _)
  | n + 1, p, hp, h => by
    have e : spText (sprN T n) p (T p) = spText (sprN T (n + 1)) p (T p) := spText_cong (fun pc hm h45 => by
      obtain ⟨q, hq, e, hd, hne⟩ := dep_call hT ha hp hm h45
      rw [e, Int.toNat_natCast]
      exact sprN_st hT ha n q hq (by omega))
    show (spText (sprN T n) p (T p)).1 = (spText (sprN T (n + 1)) p (T p)).1
    rw [e]
/-- a spread is what the page's own text lays over the spreads of the pages that it calls -/
theorem sprT_fix {T : Nat → List Pc3} (hT : ∀ q, q < 12 → txOK (T q)) (ha : gAcy (fcT T)) {p : Nat} (hp : p < 12) (h5 : depT T p ≤ 5) : sprT T p = (spText (sprT T) p (T p)).1 := by
  have e : spText (sprN T 5) p (T p) = spText (sprT T) p (T p) := spText_cong (fun pc hm h45 => by
    obtain ⟨q, hq, e, hd, hne⟩ := dep_call hT ha hp hm h45
    rw [e, Int.toNat_natCast]
    exact sprN_st hT ha 5 q hq (by omega))
  show (spText (sprN T 5) p (T p)).1 = _
  rw [e]
theorem spText_take {rec : Nat → List It4} {p : Nat} {ps : List Pc3} {i : Nat} (h : i < ps.length) : spText rec p (ps.take (i + 1)) = spStep rec p (spText rec p (ps.take i)) (pcs ps i) := by
  unfold spText
  rw [pcs_take h, List.foldl_append]
  rfl
theorem spText_os {rec : Nat → List It4} {p : Nat} {ps : List Pc3} (hw : OWp ps) : ∀ i, i ≤ ps.length → ((spText rec p (ps.take i)).2.length : Int) = owc (ps.take i)
  | 0, _ => by rw [List.take_zero]; rfl
  | i + 1, hi => by
    have ih := spText_os (rec := rec) (p := p) hw i (by omega)
    have h1 := hw (i + 1)
    rw [spText_take (by omega), owc_take (by omega)]
    rw [owc_take (by omega)] at h1
    unfold spStep
    unfold dow at h1 ⊢
    by_cases z6 : (pcs ps i).1 = 6
    · rw [if_pos z6, if_pos z6, List.length_append]
      show (((spText rec p (ps.take i)).2.length + 1 : Nat) : Int) = _
      omega
    · rw [if_neg z6] at h1
      rw [if_neg z6, if_neg z6]
      by_cases z7 : (pcs ps i).1 = 7
      · rw [if_pos z7] at h1
        rw [if_pos z7, if_pos z7, List.length_dropLast]
        omega
      · rw [if_neg z7, if_neg z7, Int.add_zero, ← ih]
        split
        · rfl
        · split
          · rfl
          · split <;> rfl
theorem WkM.mono {D : gD} {w : wW} {τ ad : Nat → Nat} {nb tb : Nat} {σ : Sg} {Q Q' : Nat → Prop} (h : WkM D w τ ad nb tb σ Q) (hq : ∀ q, q < 12 → Q' q → Q q) : WkM D w τ ad nb tb σ Q' := by
  obtain ⟨h1, h2, h3, h4, h5, h6⟩ := h
  refine ⟨h1, h2, h3, h4, fun p hp => ?_, h6⟩
  obtain ⟨its, os, a, b⟩ := h5 p hp
  exact ⟨its, os, a, fun y => b (hq p hp y)⟩
theorem WkM.swap {D : gD} {w w1 : wW} {τ ad : Nat → Nat} {nb tb : Nat} {σ : Sg} (hS : SgOK σ) (hb : (nb = 10 ∧ tb = 20) ∨ (nb = 20 ∧ tb = 10)) (hN : ∃ fc fo fr fd fx, NtD D w τ ad nb fc fo fr fd fx) (hT : ∃ fc fo fr fd fx, NtD D w τ ad tb fc fo fr fd fx ∧ NetOK (sT σ) fc fo fr fd fx) (hA : WkA D w τ ad σ) (hP : WkP w τ ad σ) (hSp : ∀ p, p < 12 → ∃ its os, SpD D w τ ad (200 + 6 * p) its os) (hV : WkV D w τ ad σ) (h1 : w1 (ad 0) = some (mwO (ad 3) (ad 1) (ad 2) (ad tb) (ad nb))) (hk : offR τ w w1 0 1) : WkM D w1 τ ad tb nb σ (fun _ => False) := by
  obtain ⟨fc, fo, fr, fd, fx, k1⟩ := hN
  obtain ⟨gc, go, gr, gd, gx, k2, k3⟩ := hT
  refine ⟨hS, ⟨by omega, h1, ⟨gc, go, gr, gd, gx, k2.off hk (by omega), k3⟩, fc, fo, fr, fd, fx, k1.off hk (by omega)⟩, hA.kept (fun q h1 h2 => hk q (by omega)), hP.kept (fun q h1 h2 => hk q (by omega)), fun p hp => ?_, hV.kept (fun p hp => (hS.2.1 p hp).1) (fun q h1 h2 => hk q (by omega))⟩
  obtain ⟨its, os, a⟩ := hSp p hp
  exact ⟨its, os, a.off hk (by omega), fun h => h.elim⟩
theorem SgOK.acy {σ : Sg} (h : SgOK σ) : gAcy (fcT (sT σ)) := gAcy_of (fun p hp => (h.2.1 p hp).2.2.2.2.1)
