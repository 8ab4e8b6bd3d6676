-- ===== new objects while something is built: which addresses are new, what else has changed =====
/-- from w to w1, the addresses of M are new, and nothing but them and a has changed -/
def Gr (w w1 : wW) (a : Nat) (M : List Nat) : Prop := M.Nodup ∧ (∀ x ∈ M, w x = none) ∧ (∀ x ∈ M, w1 x ≠ none) ∧ (∀ q, w q ≠ none → w1 q ≠ none) ∧ w a ≠ none ∧ ∀ q, q ≠ a → q ∉ M → w1 q = w q
theorem Gr.rf {w : wW} {a : Nat} (h : w a ≠ none) : Gr w w a [] := ⟨List.nodup_nil, (fun _ h => nomatch h), (fun _ h => nomatch h), fun _ h => h, h, fun _ _ _ => rfl⟩
theorem Gr.notin {w w1 : wW} {a q : Nat} {M : List Nat} (h : Gr w w1 a M) (hq : w1 q = none) : q ∉ M ∧ q ≠ a ∧ w q = none := ⟨fun z => h.2.2.1 q z hq, fun z => h.2.2.2.1 a h.2.2.2.2.1 (by rw [← z]; exact hq), by
  cases hw : w q with
  | none => rfl
  | some e => exact absurd hq (h.2.2.2.1 q (by rw [hw]; exact nofun))⟩
theorem Gr.more {w w1 w2 : wW} {a t : Nat} {M L : List Nat} (h : Gr w w1 a M) (hL : L.Nodup) (h1 : ∀ x ∈ L, w1 x = none) (h2 : ∀ x ∈ L, w2 x ≠ none) (ht : t = a ∨ t ∈ M) (ht2 : w2 t ≠ none) (hf : ∀ q, q ≠ t → q ∉ L → w2 q = w1 q) : Gr w w2 a (M ++ L) := by
  have hlive : ∀ q, w1 q ≠ none → w2 q ≠ none := fun q hq => by
    by_cases z : q = t
    · rw [z]; exact ht2
    · by_cases z2 : q ∈ L
      · exact h2 q z2
      · rw [hf q z z2]; exact hq
  refine ⟨?_, fun x hx => ?_, fun x hx => ?_, fun q hq => hlive q (h.2.2.2.1 q hq), h.2.2.2.2.1, fun q hq hn => ?_⟩
  · exact List.nodup_append.mpr ⟨h.1, hL, fun x hx y hy e => by subst e; exact h.2.2.1 x hx (h1 x hy)⟩
  · rcases List.mem_append.mp hx with z | z
    · exact h.2.1 x z
    · exact (h.notin (h1 x z)).2.2
  · rcases List.mem_append.mp hx with z | z
    · exact hlive x (h.2.2.1 x z)
    · exact h2 x z
  · have hn1 : q ∉ M := fun z => hn (List.mem_append_left _ z)
    have hn2 : q ∉ L := fun z => hn (List.mem_append_right _ z)
    rw [hf q (fun z => by rcases ht with y | y; (exact hq (z.trans y)); (exact hn1 (by rw [z]; exact y))) hn2]
    exact h.2.2.2.2.2 q hq hn1
theorem Gr.mod {w w1 : wW} {a t : Nat} {M : List Nat} {X : va_E} (h : Gr w w1 a M) (ht : t = a ∨ t ∈ M) : Gr w (wset w1 t X) a M := by
  have h1 := h.more (L := []) (w2 := wset w1 t X) (t := t) List.nodup_nil (fun _ h => nomatch h) (fun _ h => nomatch h) ht (by rw [wset_eq]; exact nofun) (fun q hq _ => wset_ne hq)
  rwa [List.append_nil] at h1
theorem Gr.new {w w1 : wW} {a q : Nat} {M : List Nat} {X : va_E} (h : Gr w w1 a M) (hq : w1 q = none) : Gr w (wset w1 q X) a (M ++ [q]) :=
  h.more (t := a) (List.nodup_cons.mpr ⟨List.not_mem_nil, List.nodup_nil⟩) (fun x hx => by rw [List.mem_singleton.mp hx]; exact hq) (fun x hx => by rw [List.mem_singleton.mp hx, wset_eq]; exact nofun) (Or.inl rfl) (by rw [wset_ne (fun z => (h.notin hq).2.1 z.symm)]; exact h.2.2.2.1 a h.2.2.2.2.1) (fun x _ hx => wset_ne (fun z => hx (by rw [z]; exact List.mem_singleton.mpr rfl)))
/-- a cell that is known stays as it is -/
theorem keepL {w w1 : wW} {q t : Nat} {e : va_E} {L : List Nat} (h : w q = some e) (hL : ∀ x ∈ L, w x = none) (hf : ∀ q, q ≠ t → q ∉ L → w1 q = w q) (ht : q ≠ t) : w1 q = some e := by
  rw [hf q ht (fun z => by rw [hL q z] at h; cases h)]; exact h
theorem keep1 {w : wW} {q t : Nat} {e X : va_E} (h : w q = some e) (ht : w t = none) : wset w t X q = some e := by
  rw [wset_ne (fun z => by rw [z, ht] at h; cases h)]; exact h
theorem ne_live {w : wW} {q t : Nat} {e : va_E} (h : w q = some e) (ht : w t = none) : q ≠ t := fun z => by rw [z, ht] at h; cases h
theorem nd3 {a b c : Nat} (h1 : a ≠ b) (h2 : a ≠ c) (h3 : b ≠ c) : [a, b, c].Nodup := by simp [h1, h2, h3]
theorem nd5 {a b c d e : Nat} (h1 : a ≠ b) (h2 : a ≠ c) (h3 : a ≠ d) (h4 : a ≠ e) (h5 : b ≠ c) (h6 : b ≠ d) (h7 : b ≠ e) (h8 : c ≠ d) (h9 : c ≠ e) (h0 : d ≠ e) : [a, b, c, d, e].Nodup := by simp [h1, h2, h3, h4, h5, h6, h7, h8, h9, h0]
theorem tagL (τ ad : Nat → Nat) : ∀ (L : List (Nat × Nat)), (L.map Prod.fst).Nodup → (L.map Prod.snd).Nodup → ∃ τ' ad' : Nat → Nat, (∀ p ∈ L, τ' p.1 = p.2 ∧ ad' p.2 = p.1) ∧ (∀ q, q ∉ L.map Prod.fst → τ' q = τ q) ∧ ∀ r, r ∉ L.map Prod.snd → ad' r = ad r
  | [], _, _ => ⟨τ, ad, (fun _ h => nomatch h), fun _ _ => rfl, fun _ _ => rfl⟩
  | x :: L, h1, h2 => by
    rw [List.map_cons, List.nodup_cons] at h1 h2
    obtain ⟨τ', ad', a1, a2, a3⟩ := tagL τ ad L h1.2 h2.2
    refine ⟨upz τ' x.1 x.2, upz ad' x.2 x.1, fun p hp => ?_, fun q hq => ?_, fun r hr => ?_⟩
    · rcases List.mem_cons.mp hp with rfl | hp
      · exact ⟨upz_eq, upz_eq⟩
      · have e1 : p.1 ≠ x.1 := fun z => h1.1 (by rw [← z]; exact List.mem_map_of_mem hp)
        have e2 : p.2 ≠ x.2 := fun z => h2.1 (by rw [← z]; exact List.mem_map_of_mem hp)
        rw [upz_ne e1, upz_ne e2]
        exact a1 p hp
    · rw [List.map_cons, List.mem_cons] at hq
      rw [upz_ne (fun z => hq (Or.inl z))]
      exact a2 q (fun z => hq (Or.inr z))
    · rw [List.map_cons, List.mem_cons] at hr
      rw [upz_ne (fun z => hr (Or.inl z))]
      exact a3 r (fun z => hr (Or.inr z))
section LV
variable {D : gD} {w w1 : wW} {τ ad : Nat → Nat}
theorem TxT.live {r t a b c : Nat} {ps : List Pc3} (h : TxT D w τ r t a b c ps) (hk : ∀ q, w q ≠ none → r ≤ τ q → τ q < r + 4 → w1 q = w q) : TxT D w1 τ r t a b c ps := by
  obtain ⟨t1, t2, t3, t4, k1, b1, b2, b3, fs, fp, fg, k2, k3, k4, k5⟩ := h
  exact ⟨t1, t2, t3, t4, by rw [hk _ (by rw [k1]; exact nofun) (by omega) (by omega)]; exact k1, b1, b2, b3, fs, fp, fg, by rw [hk _ (by rw [k2]; exact nofun) (by omega) (by omega)]; exact k2, by rw [hk _ (by rw [k3]; exact nofun) (by omega) (by omega)]; exact k3, by rw [hk _ (by rw [k4]; exact nofun) (by omega) (by omega)]; exact k4, k5⟩
theorem NtT.live {r a c o e d x : Nat} {fc fo fr fd fx : Nat → Nat} (h : NtT D w τ r a c o e d x fc fo fr fd fx) (hk : ∀ q, w q ≠ none → r ≤ τ q → τ q < r + 6 → w1 q = w q) : NtT D w1 τ r a c o e d x fc fo fr fd fx := by
  obtain ⟨t1, t2, t3, t4, t5, t6, k1, k2, k3, k4, k5, k6, b⟩ := h
  exact ⟨t1, t2, t3, t4, t5, t6, by rw [hk _ (by rw [k1]; exact nofun) (by omega) (by omega)]; exact k1, by rw [hk _ (by rw [k2]; exact nofun) (by omega) (by omega)]; exact k2, by rw [hk _ (by rw [k3]; exact nofun) (by omega) (by omega)]; exact k3, by rw [hk _ (by rw [k4]; exact nofun) (by omega) (by omega)]; exact k4, by rw [hk _ (by rw [k5]; exact nofun) (by omega) (by omega)]; exact k5, by rw [hk _ (by rw [k6]; exact nofun) (by omega) (by omega)]; exact k6, b⟩
theorem SpT.live {r a n s v c o : Nat} {its : List It4} {os : List Int} (h : SpT D w τ r a n s v c o its os) (hk : ∀ q, w q ≠ none → r ≤ τ q → τ q < r + 6 → w1 q = w q) : SpT D w1 τ r a n s v c o its os := by
  obtain ⟨t1, t2, t3, t4, t5, t6, k1, b1, b2, b3, b4, fn, fs, fv, fc, fo, k2, k3, k4, k5, k6, b5⟩ := h
  exact ⟨t1, t2, t3, t4, t5, t6, by rw [hk _ (by rw [k1]; exact nofun) (by omega) (by omega)]; exact k1, b1, b2, b3, b4, fn, fs, fv, fc, fo, by rw [hk _ (by rw [k2]; exact nofun) (by omega) (by omega)]; exact k2, by rw [hk _ (by rw [k3]; exact nofun) (by omega) (by omega)]; exact k3, by rw [hk _ (by rw [k4]; exact nofun) (by omega) (by omega)]; exact k4, by rw [hk _ (by rw [k5]; exact nofun) (by omega) (by omega)]; exact k5, by rw [hk _ (by rw [k6]; exact nofun) (by omega) (by omega)]; exact k6, b5⟩
end LV
-- ===== a new page, and the wiki while its pages come =====
def zN : Nat → Nat := fun _ => 0
/-- a new page's things: the page, its version 0, that one's text, its spread -/
def PgC (D : gD) (w : wW) (g v t x1 x2 x3 s y1 y2 y3 y4 y5 : Nat) : Prop := w g = some (pgO v 0 s) ∧ w v = some (vrO .null 0 t 3) ∧ (w t = some (txO x1 x2 x3 0 0) ∧ w x1 = some (iar D 30 (fun _ => 0)) ∧ w x2 = some (iar D 30 (fun _ => 0)) ∧ w x3 = some (iar D 30 (fun _ => 0))) ∧ w s = some (spO y1 y2 y3 y4 y5 0 0 0) ∧ w y1 = some (iar D 100 (fun _ => 0)) ∧ w y2 = some (iar D 100 (fun _ => 0)) ∧ w y3 = some (iar D 100 (fun _ => 0)) ∧ w y4 = some (iar D 100 (fun _ => 0)) ∧ w y5 = some (iar D 30 (fun _ => 0))
def PgI (D : gD) (w : wW) (τ ad : Nat → Nat) (p : Nat) : Prop := (τ (ad (100 + p)) = 100 + p ∧ w (ad (100 + p)) = some (pgO (ad (vr p 0)) 0 (ad (200 + 6 * p)))) ∧ SpD D w τ ad (200 + 6 * p) [] [] ∧ τ (ad (vr p 0)) = vr p 0 ∧ w (ad (vr p 0)) = some (vrO .null 0 (ad (vr p 0 + 1)) 3) ∧ TxD D w τ ad (vr p 0 + 1) []
def InI (D : gD) (w : wW) (τ ad : Nat → Nat) (i : Nat) : Prop := (τ (ad 0) = 0 ∧ w (ad 0) = some (mwO (ad 3) (ad 1) (ad 2) (ad 10) (ad 20))) ∧ (τ (ad 1) = 1 ∧ ∃ pf, w (ad 1) = some (par D 12 pf) ∧ ∀ p, p < i → pf p = some (ad (100 + p))) ∧ (τ (ad 2) = 2 ∧ w (ad 2) = some (iar D 6 (fun _ => 0))) ∧ TxD D w τ ad 3 [] ∧ (NtD D w τ ad 10 zN zN zN zN zN ∧ NtD D w τ ad 20 zN zN zN zN zN) ∧ ∀ p, p < i → PgI D w τ ad p
section II
variable {D : gD} {w w1 : wW} {τ ad τ' ad' : Nat → Nat}
theorem PgI.step {p : Nat} (h : PgI D w τ ad p) (hτ : ∀ q, w q ≠ none → τ' q = τ q) (had : ∀ r, (r = 100 + p ∨ (200 + 6 * p ≤ r ∧ r < 200 + 6 * p + 6) ∨ (vr p 0 ≤ r ∧ r < vr p 0 + 5)) → ad' r = ad r) (hp : p < 12) (hk : ∀ q, w q ≠ none → 2 ≤ τ q → w1 q = w q) : PgI D w1 τ' ad' p := by
  obtain ⟨⟨a1, a2⟩, a3, a4, a5, a6⟩ := h
  have e1 := had (100 + p) (by omega)
  have e2 := had (vr p 0) (by omega)
  have e3 := had (200 + 6 * p) (by omega)
  have e4 := had (vr p 0 + 1) (by omega)
  have hv : 2 ≤ vr p 0 := by unfold vr; omega
  unfold PgI
  rw [e1, e2, e3, e4]
  have k : ∀ q, w q ≠ none → 2 ≤ τ' q → w1 q = w q := fun q h1 h2 => hk q h1 (by rw [← hτ q h1]; exact h2)
  refine ⟨⟨by rw [hτ _ (by rw [a2]; exact nofun)]; exact a1, by rw [hk _ (by rw [a2]; exact nofun) (by omega)]; exact a2⟩, ?_, by rw [hτ _ (by rw [a5]; exact nofun)]; exact a4, by rw [hk _ (by rw [a5]; exact nofun) (by omega)]; exact a5, ?_⟩
  · exact SpT.live (SpD.retag a3 hτ (fun x h1 h2 => had x (by omega))) (fun q h1 h2 _ => k q h1 (by omega))
  · exact TxT.live (TxD.retag a6 hτ (fun x h1 h2 => had x (by omega))) (fun q h1 h2 _ => k q h1 (by omega))
/-- one page more -/
theorem InI.step {i g v t x1 x2 x3 s y1 y2 y3 y4 y5 : Nat} (h : InI D w τ ad i) (hi : i < 12) (hN : ([g, v, t, x1, x2, x3, s, y1, y2, y3, y4, y5] : List Nat).Nodup) (h0 : ∀ x ∈ ([g, v, t, x1, x2, x3, s, y1, y2, y3, y4, y5] : List Nat), w x = none) (hC : PgC D w1 g v t x1 x2 x3 s y1 y2 y3 y4 y5) (hk : ∀ q, w q ≠ none → q ≠ ad 1 → w1 q = w q) (hA : ∀ pf, w (ad 1) = some (par D 12 pf) → w1 (ad 1) = some (par D 12 (upz pf i (some g)))) : ∃ τ' ad' : Nat → Nat, InI D w1 τ' ad' (i + 1) ∧ ad' 0 = ad 0 ∧ ad' 1 = ad 1 := by
  obtain ⟨⟨a1, a2⟩, ⟨b1, pf, b2, b3⟩, ⟨c1, c2⟩, d1, ⟨d2, d3⟩, d4⟩ := h
  have hvr : vr i 0 = 1000 + 105 * i := rfl
  obtain ⟨τ', ad', m1, m2, m3⟩ := tagL τ ad [(g, 100 + i), (v, vr i 0), (t, vr i 0 + 1), (x1, vr i 0 + 2), (x2, vr i 0 + 3), (x3, vr i 0 + 4), (s, 200 + 6 * i), (y1, 200 + 6 * i + 1), (y2, 200 + 6 * i + 2), (y3, 200 + 6 * i + 3), (y4, 200 + 6 * i + 4), (y5, 200 + 6 * i + 5)] hN (by rw [hvr]; simp; omega)
  have hτ : ∀ q, w q ≠ none → τ' q = τ q := fun q hq => m2 q (fun z => hq (h0 q z))
  have had : ∀ r, r ≠ 100 + i → ¬ (200 + 6 * i ≤ r ∧ r < 200 + 6 * i + 6) → ¬ (vr i 0 ≤ r ∧ r < vr i 0 + 5) → ad' r = ad r := fun r z1 z2 z3 => m3 r (by simp; omega)
  have e0 : ad' 0 = ad 0 := had 0 (by omega) (by omega) (by omega)
  have e1 : ad' 1 = ad 1 := had 1 (by omega) (by omega) (by omega)
  have e2 : ad' 2 = ad 2 := had 2 (by omega) (by omega) (by omega)
  have e3 : ad' 3 = ad 3 := had 3 (by omega) (by omega) (by omega)
  have e10 : ad' 10 = ad 10 := had 10 (by omega) (by omega) (by omega)
  have e20 : ad' 20 = ad 20 := had 20 (by omega) (by omega) (by omega)
  have k : ∀ q, w q ≠ none → 2 ≤ τ' q → w1 q = w q := fun q h1 h2 => hk q h1 (fun z => by rw [hτ q h1, z, b1] at h2; omega)
  have kk : ∀ q, w q ≠ none → τ q ≠ 1 → w1 q = w q := fun q h1 h2 => hk q h1 (fun z => h2 (by rw [z]; exact b1))
  obtain ⟨n1, n2, ⟨n3, n4, n5, n6⟩, n7, n8, n9, n10, n11, n12⟩ := hC
  have T := fun x r (hx : (x, r) ∈ _) => m1 (x, r) hx
  have t1 := T g (100 + i) (by simp)
  have t2 := T v (vr i 0) (by simp)
  have t3 := T t (vr i 0 + 1) (by simp)
  have t4 := T x1 (vr i 0 + 2) (by simp)
  have t5 := T x2 (vr i 0 + 3) (by simp)
  have t6 := T x3 (vr i 0 + 4) (by simp)
  have t7 := T s (200 + 6 * i) (by simp)
  have t8 := T y1 (200 + 6 * i + 1) (by simp)
  have t9 := T y2 (200 + 6 * i + 2) (by simp)
  have t10 := T y3 (200 + 6 * i + 3) (by simp)
  have t11 := T y4 (200 + 6 * i + 4) (by simp)
  have t12 := T y5 (200 + 6 * i + 5) (by simp)
  refine ⟨τ', ad', ⟨⟨?_, ?_⟩, ⟨?_, upz pf i (some g), ?_, fun p hp => ?_⟩, ⟨?_, ?_⟩, ?_, ⟨?_, ?_⟩, fun p hp => ?_⟩, e0, e1⟩
  · rw [e0, hτ _ (by rw [a2]; exact nofun)]; exact a1
  · rw [e0, e1, e2, e3, e10, e20, kk _ (by rw [a2]; exact nofun) (by omega)]; exact a2
  · rw [e1, hτ _ (by rw [b2]; exact nofun)]; exact b1
  · rw [e1]; exact hA pf b2
  · by_cases z : p = i
    · subst z; rw [upz_eq]; exact congrArg some t1.2.symm
    · rw [upz_ne z, b3 p (by omega), had (100 + p) (by omega) (by omega) (by omega)]
  · rw [e2, hτ _ (by rw [c2]; exact nofun)]; exact c1
  · rw [e2, kk _ (by rw [c2]; exact nofun) (by omega)]; exact c2
  · exact TxT.live (TxD.retag d1 hτ (fun x h1 h2 => had x (by omega) (by omega) (by omega))) (fun q h1 h2 _ => k q h1 (by omega))
  · exact NtT.live (NtD.retag d2 hτ (fun x h1 h2 => had x (by omega) (by omega) (by omega))) (fun q h1 h2 _ => k q h1 (by omega))
  · exact NtT.live (NtD.retag d3 hτ (fun x h1 h2 => had x (by omega) (by omega) (by omega))) (fun q h1 h2 _ => k q h1 (by omega))
  · by_cases z : p = i
    · subst z
      unfold PgI SpD TxD
      rw [t1.2, t2.2, t7.2, t3.2, t8.2, t9.2, t10.2, t11.2, t12.2, show vr p 0 + 1 + 1 = vr p 0 + 2 from rfl, show vr p 0 + 1 + 2 = vr p 0 + 3 from rfl, show vr p 0 + 1 + 3 = vr p 0 + 4 from rfl, t4.2, t5.2, t6.2]
      exact ⟨⟨t1.1, n1⟩, ⟨t7.1, t8.1, t9.1, t10.1, t11.1, t12.1, n7, by decide, by decide, (fun _ h => nomatch h), (fun _ h => nomatch h), _, _, _, _, _, n8, n9, n10, n11, n12, fun i hi => absurd hi (Nat.not_lt_zero i), fun i hi => absurd hi (Nat.not_lt_zero i)⟩, t2.1, n2, t3.1, t4.1, t5.1, t6.1, n3, by decide, OWp.nil, (fun _ h => nomatch h), _, _, _, n4, n5, n6, fun i hi => absurd hi (Nat.not_lt_zero i)⟩
    · exact (d4 p (by omega)).step hτ (fun r hr => had r (by unfold vr at hr; omega) (by unfold vr at hr; omega) (by unfold vr at *; omega)) (by omega) (fun q h1 h2 => kk q h1 (by omega))
/-- the wiki that nobody has called yet -/
def sg0 : Sg := ([], fun _ _ => [], fun _ _ => 3, fun _ => 0, fun _ => 0, fun _ => 0)
theorem dOC_z {fc fd : Nat → Nat} {p : Nat} (h : ∀ q, fc q = 0) : ∀ n, dOC fc fd p n = 0
  | 0 => rfl
  | n + 1 => by
    show (if 0 < fc (12 * p + n) then max (dOC fc fd p n) (fd n + 1) else dOC fc fd p n) = 0
    rw [h, if_neg (by decide), dOC_z h n]
theorem eOC_z {fc fo fx : Nat → Nat} {p : Nat} (h : ∀ q, fc q = 0) (h2 : fo p = 0) : ∀ n, eOC fc fo fx p n = 0
  | 0 => h2
  | n + 1 => by
    show eOC fc fo fx p n + fc (12 * p + n) * fx n = 0
    rw [h, Nat.zero_mul, eOC_z h h2 n]
set_option maxHeartbeats 4000000 in
theorem InI.done (h : InI D w τ ad 12) : WkI D w τ ad 10 20 sg0 := by
  obtain ⟨⟨a1, a2⟩, ⟨b1, pf, b2, b3⟩, ⟨c1, c2⟩, d1, ⟨d2, d3⟩, d4⟩ := h
  have z1 : ∀ q, fcT (sT sg0) q = 0 := fun q => rfl
  have z2 : ∀ p, depT (sT sg0) p = 0 := fun p => by
    show dOC (fcT (sT sg0)) (dpN (fcT (sT sg0)) 10) p 12 = 0
    exact dOC_z z1 12
  have z3 : ∀ p, extT (sT sg0) p = 0 := fun p => by
    show eOC (fcT (sT sg0)) (foT (sT sg0)) (exN (fcT (sT sg0)) (foT (sT sg0)) 11) p 12 = 0
    exact eOC_z z1 rfl 12
  have z4 : ∀ p q, ¬ rchT (sT sg0) p q := fun p q ⟨L, f, hL, h1, h2, h3⟩ => by
    have := (h3 0 hL).2.2
    unfold gC12 at this
    rw [z1] at this
    omega
  have z5 : ∀ n p, sprN (sT sg0) n p = [] := fun n p => by cases n <;> rfl
  have h0 : txOK [] := txOK_nil
  have hS : SgOK sg0 := by
    refine ⟨h0, fun p hp => ⟨Nat.zero_le 20, ⟨Int.le_refl 0, ?_⟩, ?_, ?_, z4 p p, fun v hv => ⟨h0, rfl, ?_, Int.le_refl 3⟩⟩, fun u hu => ⟨Int.le_refl 0, ?_⟩⟩
    · show (0 : Int) ≤ 3; decide
    · rw [z2]; decide
    · rw [z3]; decide
    · show (0 : Int) ≤ 3; decide
    · show (0 : Int) ≤ 3; decide
  have hO : NetOK (sT sg0) zN zN zN zN zN := fun p hp => ⟨fun q hq => ⟨rfl, fun h => absurd (show (0 : Nat).testBit q = true from h) (by rw [Nat.zero_testBit]; decide), fun h => absurd h (z4 p q)⟩, rfl, (z2 p).symm, (z3 p).symm⟩
  refine ⟨hS, ⟨Or.inl ⟨rfl, rfl⟩, a2, ⟨zN, zN, zN, zN, zN, d2, hO⟩, zN, zN, zN, zN, zN, d3⟩, ⟨a1, b1, c1, ⟨pf, b2, b3⟩, ⟨fun _ => 0, c2, fun _ _ => rfl⟩, d1⟩, fun p hp => (d4 p hp).1, fun p hp => ⟨[], ?_⟩, fun p hp v hv => ?_⟩
  · have e : sprT (sT sg0) p = [] := z5 6 p
    rw [e]; exact (d4 p hp).2.1
  · have e : v = 0 := Nat.le_zero.mp hv
    subst e
    exact ⟨(d4 p hp).2.2.1, (d4 p hp).2.2.2.1, (d4 p hp).2.2.2.2⟩
end II
