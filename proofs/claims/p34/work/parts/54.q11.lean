theorem upz_same {f : Nat → Int} {k : Nat} {x : Int} (h : f k = x) : upz f k x = f := by
  funext j
  by_cases z : j = k
  · subst z; rw [upz_eq, h]
  · rw [upz_ne z]
section LWU
variable {σ : Sg} {ft : Nat → Int64} {fz fr fv : Nat → Int}
theorem LwR.undo (h : LwR σ ft fz fr fv) {p : Nat} (hp : p < 5) (h0 : 0 < sNv σ p) : LwR (uVn σ p (sNv σ p - 1)) ft fz fr (upz fv p ((sNv σ p - 1 : Nat) : Int)) := by
  obtain ⟨a, b, c⟩ := h
  refine ⟨fun q hq => ?_, fun u hu => ?_, fun q h5 hq => ?_⟩
  · obtain ⟨a1, a2, a3, a4⟩ := a q hq
    show upz fv p ((sNv σ p - 1 : Nat) : Int) q = ((upz (sNv σ) p (sNv σ p - 1) q : Nat) : Int) ∧ upz (sNv σ) p (sNv σ p - 1) q ≤ 11 ∧ upz fv p ((sNv σ p - 1 : Nat) : Int) (5 + q) = sLk σ q ∧ ∀ y, y ≤ upz (sNv σ) p (sNv σ p - 1) q → Tx64 (sTx σ q y) (ft (12 * q + y)) ∧ fz (12 * q + y) = ((sTx σ q y).length : Int) ∧ fr (12 * q + y) = sRk σ q y
    rw [upz_ne (show 5 + q ≠ p by omega)]
    by_cases z : q = p
    · subst z
      rw [upz_eq, upz_eq]
      exact ⟨rfl, by omega, a3, fun y hy => a4 y (by omega)⟩
    · rw [upz_ne z, upz_ne z]
      exact ⟨a1, a2, a3, a4⟩
  · show upz fv p _ (10 + u) = sUr σ u
    rw [upz_ne (by omega)]
    exact b u hu
  · obtain ⟨c1, c2, c3⟩ := c q h5 hq
    show upz (sNv σ) p (sNv σ p - 1) q = 0 ∧ _
    rw [upz_ne (by omega)]
    exact ⟨c1, c2, c3⟩
theorem LwR.appr (h : LwR σ ft fz fr fv) {p : Nat} (hp : p < 5) (g : Int) : LwR (uRk σ p (sNv σ p) g) ft fz (upz fr (12 * p + sNv σ p) g) fv := by
  obtain ⟨a, b, c⟩ := h
  have hp11 := (a p hp).2.1
  refine ⟨fun q hq => ?_, b, c⟩
  obtain ⟨a1, a2, a3, a4⟩ := a q hq
  refine ⟨a1, a2, a3, fun y hy => ?_⟩
  have hy' : y ≤ sNv σ q := hy
  obtain ⟨b1, b2, b3⟩ := a4 y hy
  refine ⟨b1, b2, ?_⟩
  show upz fr (12 * p + sNv σ p) g (12 * q + y) = upz (sRk σ) p (upz (sRk σ p) (sNv σ p) g) q y
  by_cases z : q = p
  · subst z
    rw [upz_eq]
    by_cases zy : y = sNv σ q
    · subst zy; rw [upz_eq, upz_eq]
    · rw [upz_ne zy, upz_ne (by omega)]; exact b3
  · rw [upz_ne z, upz_ne (by omega)]; exact b3
theorem LwR.lock (h : LwR σ ft fz fr fv) {p : Nat} (hp : p < 5) (g : Int) : LwR (uLk σ p g) ft fz fr (upz fv (5 + p) g) := by
  obtain ⟨a, b, c⟩ := h
  refine ⟨fun q hq => ?_, fun u hu => ?_, fun q h5 hq => ?_⟩
  · obtain ⟨a1, a2, a3, a4⟩ := a q hq
    refine ⟨by rw [upz_ne (by omega)]; exact a1, a2, ?_, a4⟩
    show upz fv (5 + p) g (5 + q) = upz (sLk σ) p g q
    by_cases z : q = p
    · subst z; rw [upz_eq, upz_eq]
    · rw [upz_ne z, upz_ne (by omega)]; exact a3
  · show upz fv (5 + p) g (10 + u) = sUr σ u
    rw [upz_ne (by omega)]
    exact b u hu
  · obtain ⟨c1, c2, c3⟩ := c q h5 hq
    refine ⟨c1, c2, ?_⟩
    show upz (sLk σ) p g q = 0
    rw [upz_ne (by omega)]; exact c3
theorem LwR.rank (h : LwR σ ft fz fr fv) {k : Nat} (hk : k < 6) (g : Int) : LwR (uUr σ k g) ft fz fr (upz fv (10 + k) g) := by
  obtain ⟨a, b, c⟩ := h
  refine ⟨fun q hq => ?_, fun u hu => ?_, c⟩
  · obtain ⟨a1, a2, a3, a4⟩ := a q hq
    exact ⟨by rw [upz_ne (by omega)]; exact a1, a2, by rw [upz_ne (by omega)]; exact a3, a4⟩
  · show upz fv (10 + k) g (10 + u) = upz (sUr σ) k g u
    by_cases z : u = k
    · subst z; rw [upz_eq, upz_eq]
    · rw [upz_ne z, upz_ne (by omega)]; exact b u hu
end LWU
section ACT
variable {D : gD} {w w1 : wW} {τ ad : Nat → Nat} {nb tb k p : Nat} {σ : Sg} {u : Option Value} {j : Int}
theorem ap_no (hn : ¬ (frcS σ p ≤ sUr σ k ∧ sRk σ p (sNv σ p) < sUr σ k)) (h : ∃ k9 p9 : Nat, k9 < 6 ∧ (k : Int) = (k9 : Int) ∧ p9 < 12 ∧ (p : Int) = (p9 : Int) ∧ (((¬ (frcS σ p9 ≤ sUr σ k9 ∧ sRk σ p9 (sNv σ p9) < sUr σ k9) ∧ u = some (.int (Z32 0))) ∧ w1 = w) ∨ (((frcS σ p9 ≤ sUr σ k9 ∧ sRk σ p9 (sNv σ p9) < sUr σ k9) ∧ u = some (.int (Z32 1))) ∧ WkI D w1 τ ad nb tb (uRk σ p9 (sNv σ p9) (sUr σ k9)) ∧ offR τ w w1 0 5000))) : u = some (.int (Z32 0)) ∧ w1 = w := by
  obtain ⟨k9, p9, -, e8, -, e9, h⟩ := h
  have e7 : p = p9 := by omega
  subst e7
  have e6 : k = k9 := by omega
  subst e6
  rcases h with ⟨⟨-, h1⟩, h2⟩ | ⟨⟨h1, -⟩, -⟩
  · exact ⟨h1, h2⟩
  · exact absurd h1 hn
theorem ap_yes (hn : frcS σ p ≤ sUr σ k ∧ sRk σ p (sNv σ p) < sUr σ k) (h : ∃ k9 p9 : Nat, k9 < 6 ∧ (k : Int) = (k9 : Int) ∧ p9 < 12 ∧ (p : Int) = (p9 : Int) ∧ (((¬ (frcS σ p9 ≤ sUr σ k9 ∧ sRk σ p9 (sNv σ p9) < sUr σ k9) ∧ u = some (.int (Z32 0))) ∧ w1 = w) ∨ (((frcS σ p9 ≤ sUr σ k9 ∧ sRk σ p9 (sNv σ p9) < sUr σ k9) ∧ u = some (.int (Z32 1))) ∧ WkI D w1 τ ad nb tb (uRk σ p9 (sNv σ p9) (sUr σ k9)) ∧ offR τ w w1 0 5000))) : u = some (.int (Z32 1)) ∧ WkI D w1 τ ad nb tb (uRk σ p (sNv σ p) (sUr σ k)) ∧ offR τ w w1 0 5000 := by
  obtain ⟨k9, p9, -, e8, -, e9, h⟩ := h
  have e7 : p = p9 := by omega
  subst e7
  have e6 : k = k9 := by omega
  subst e6
  rcases h with ⟨⟨h1, -⟩, -⟩ | ⟨⟨-, h1⟩, h2, h3⟩
  · exact absurd hn h1
  · exact ⟨h1, h2, h3⟩
theorem lo_no (hn : sUr σ k < sLk σ p ∨ sUr σ k < j) (h : ∃ k9 p9 : Nat, k9 < 6 ∧ (k : Int) = (k9 : Int) ∧ p9 < 12 ∧ (p : Int) = (p9 : Int) ∧ (0 ≤ j ∧ j < 4) ∧ ((((sUr σ k9 < sLk σ p9 ∨ sUr σ k9 < j) ∧ u = some (.int (Z32 (-2)))) ∧ w1 = w) ∨ ((¬ (sUr σ k9 < sLk σ p9 ∨ sUr σ k9 < j) ∧ u = some (.int (Z32 (sLk σ p9)))) ∧ WkI D w1 τ ad nb tb (uLk σ p9 j) ∧ offR τ w w1 0 5000))) : u = some (.int (Z32 (-2))) ∧ w1 = w := by
  obtain ⟨k9, p9, -, e8, -, e9, -, h⟩ := h
  have e7 : p = p9 := by omega
  subst e7
  have e6 : k = k9 := by omega
  subst e6
  rcases h with ⟨⟨-, h1⟩, h2⟩ | ⟨⟨h1, -⟩, -⟩
  · exact ⟨h1, h2⟩
  · exact absurd hn h1
theorem lo_yes (hn : ¬ (sUr σ k < sLk σ p ∨ sUr σ k < j)) (h : ∃ k9 p9 : Nat, k9 < 6 ∧ (k : Int) = (k9 : Int) ∧ p9 < 12 ∧ (p : Int) = (p9 : Int) ∧ (0 ≤ j ∧ j < 4) ∧ ((((sUr σ k9 < sLk σ p9 ∨ sUr σ k9 < j) ∧ u = some (.int (Z32 (-2)))) ∧ w1 = w) ∨ ((¬ (sUr σ k9 < sLk σ p9 ∨ sUr σ k9 < j) ∧ u = some (.int (Z32 (sLk σ p9)))) ∧ WkI D w1 τ ad nb tb (uLk σ p9 j) ∧ offR τ w w1 0 5000))) : u = some (.int (Z32 (sLk σ p))) ∧ WkI D w1 τ ad nb tb (uLk σ p j) ∧ offR τ w w1 0 5000 := by
  obtain ⟨k9, p9, -, e8, -, e9, -, h⟩ := h
  have e7 : p = p9 := by omega
  subst e7
  have e6 : k = k9 := by omega
  subst e6
  rcases h with ⟨⟨h1, -⟩, -⟩ | ⟨⟨-, h1⟩, h2, h3⟩
  · exact absurd h1 hn
  · exact ⟨h1, h2, h3⟩
theorem un_no {σ : Sg} {k p : Nat} (h0 : 0 < sNv σ p) (h : unS σ k p ≠ -1) : unR σ k p = unS σ k p ∧ unT σ k p = σ := ⟨(if_neg (by omega)).trans (if_neg h), (if_neg (by omega)).trans (if_neg h)⟩
theorem un_yes {σ : Sg} {k p : Nat} (h0 : 0 < sNv σ p) (h : unS σ k p = -1) : unR σ k p = ((sNv σ p - 1 : Nat) : Int) ∧ unT σ k p = uVn σ p (sNv σ p - 1) := ⟨(if_neg (by omega)).trans (if_pos h), (if_neg (by omega)).trans (if_pos h)⟩
end ACT
set_option maxRecDepth 100000 in
set_option maxHeartbeats 4000000 in
theorem c_L_acts (l : Launch) (hl : l.stackTraces = false) (D : gD) {w : wW} {x0 a1 a2 a3 a4 wy zi : Nat} {at0 : Int} {σ : Sg} {ft : Nat → Int64} {fz fr fv : Nat → Int} (hL : D.2.2.2.2.2.1 ≤ 260) (hX : LwS D w x0 a1 a2 a3 a4 σ ft fz fr fv) (hR : LwR σ ft fz fr fv) (hd : sDr σ = []) (hat : 0 ≤ at0 ∧ at0 ≤ 5000) (hwy : wy < 22) (hzi : zi < 1000000) : CTm l D yL_acts cL_acts 14 (some .boolean) (rmL 11 80 700) [.ref x0, .ref a1, .ref a2, .ref a3, .ref a4, .ref D.2.2.2.2.1, .int (Z32 at0), .int (Z32 (wy : Int)), .int (Z32 (zi : Int))] w (fun u w1 => u = some (.int (Z32 1)) ∧ ∃ (σ2 : Sg) (ft2 : Nat → Int64) (fz2 fr2 fv2 : Nat → Int), LwS D w1 x0 a1 a2 a3 a4 σ2 ft2 fz2 fr2 fv2 ∧ LwR σ2 ft2 fz2 fr2 fv2 ∧ sDr σ2 = []) := by
  refine CTm_of hl false rfl (by rfl) (Nat.le_of_ble_eq_true rfl) (fun h => nomatch h) ?_
  intro G C
  show G 0 0 w [some (.ref x0), some (.ref a1), some (.ref a2), some (.ref a3), some (.ref a4), some (.ref D.2.2.2.2.1), some (.int (Z32 at0)), some (.int (Z32 (wy : Int))), some (.int (Z32 (zi : Int))), none, none, none, none, none] 0 []
  obtain ⟨l1, l2, l3, l4⟩ := hX.arr
  have hS := hX.x.ok
  refine i_iload C dL_acts_0 (kk := ?_)
  refine i_bipush C dL_acts_2 (kk := ?_)
  refine i_irem C dL_acts_4 (kk := ?_)
  obtain ⟨k, hkz⟩ : ∃ k : Nat, (k : Int) = (zi : Int) % 6 := ⟨zi % 6, by omega⟩
  have hk : k < 6 := by omega
  rw [← hkz]
  refine i_istore C dL_acts_5 (kk := ?_)
  refine i_iload C dL_acts_7 (kk := ?_)
  refine i_bipush C dL_acts_9 (kk := ?_)
  refine i_idiv C dL_acts_11 (kk := ?_)
  refine i_iconst C dL_acts_12 (kk := ?_)
  refine i_irem C dL_acts_13 (kk := ?_)
  obtain ⟨p, hpz⟩ : ∃ p : Nat, (p : Int) = (zi : Int) / 6 % 5 := ⟨zi / 6 % 5, by omega⟩
  have hp : p < 5 := by omega
  rw [← hpz]
  have hn11 := (hR.nv hp).2
  have hurk := hS.2.2 k hk
  have hfR := frcS_R hS (p := p) (by omega)
  have hlkR := (hS.2.1 p (by omega)).2.1
  have hrkR := (hS.2.1 p (by omega)).2.2.2.2.2 _ (Nat.le_refl _)
  refine i_istore C dL_acts_14 (kk := ?_)
  refine i_iload C dL_acts_16 (kk := ?_)
  refine i_bipush C dL_acts_18 (kk := ?_)
  refine i_icmp_ge C dL_acts_20 (tgt := 51) (kt := fun hB20 => ?_) (kf := fun hB20 => ?_)
  · refine i_iload C dL_acts_51 (kk := ?_)
    refine i_bipush C dL_acts_53 (kk := ?_)
    refine i_icmp_ge C dL_acts_55 (tgt := 172) (kt := fun hB55 => ?_) (kf := fun hB55 => ?_)
    · refine i_iload C dL_acts_172 (kk := ?_)
      refine i_bipush C dL_acts_174 (kk := ?_)
      refine i_icmp_ge C dL_acts_176 (tgt := 279) (kt := fun hB176 => ?_) (kf := fun hB176 => ?_)
      · refine i_iload C dL_acts_279 (kk := ?_)
        refine i_bipush C dL_acts_281 (kk := ?_)
        refine i_icmp_ge C dL_acts_283 (tgt := 387) (kt := fun hB283 => ?_) (kf := fun hB283 => ?_)
        · refine i_aload C dL_acts_387 (kk := ?_)
          refine i_bipush C dL_acts_389 (kk := ?_)
          refine i_iload C dL_acts_391 (kk := ?_)
          refine i_iadd C dL_acts_393 (kk := ?_)
          rw [show (10 : Int) + (k : Int) = ((10 + k : Nat) : Int) by omega]
          refine i_iaload C dL_acts_394 (hw := l4) (kk := ?_)
          rw [Int.toNat_natCast, hR.2.1 k hk]
          refine i_istore C dL_acts_395 (kk := ?_)
          refine i_aload C dL_acts_397 (kk := ?_)
          refine i_bipush C dL_acts_399 (kk := ?_)
          refine i_iload C dL_acts_401 (kk := ?_)
          refine i_iadd C dL_acts_403 (kk := ?_)
          rw [show (10 : Int) + (k : Int) = ((10 + k : Nat) : Int) by omega]
          refine i_iload C dL_acts_404 (kk := ?_)
          refine i_bipush C dL_acts_406 (kk := ?_)
          refine i_idiv C dL_acts_408 (kk := ?_)
          refine i_iconst C dL_acts_409 (kk := ?_)
          refine i_irem C dL_acts_410 (kk := ?_)
          obtain ⟨g, hgz⟩ : ∃ g : Nat, (g : Int) = (zi : Int) / 30 % 4 := ⟨zi / 30 % 4, by omega⟩
          have hg : g < 4 := by omega
          rw [← hgz]
          refine i_iastore C dL_acts_411 (hw := l4) (kk := ?_)
          rw [Int.toNat_natCast]
          have hX3 := hX.put4 (fv2 := upz fv (10 + k) (g : Int))
          obtain ⟨τ, ad, nb, tb, hW, e0, hA⟩ := hX3
          subst e0
          refine i_aload_n C dL_acts_412 (kk := ?_)
          refine i_iload C dL_acts_413 (kk := ?_)
          refine i_iload C dL_acts_415 (kk := ?_)
          refine i_bipush C dL_acts_417 (kk := ?_)
          refine i_idiv C dL_acts_419 (kk := ?_)
          refine i_iconst C dL_acts_420 (kk := ?_)
          refine i_irem C dL_acts_421 (kk := ?_)
          rw [← hgz]
          refine i_callVF C lk_L_171 (c_X6_setRank l hl D (hW := hW) (i := (k : Int)) (j := (g : Int))) (hcl := rfl) (hst := rfl) dL_acts_422 (hw := hW.obj) (hxx := fun E w1 h => by (obtain ⟨h, -⟩ := h; rcases h with ⟨-, h⟩ | ⟨-, -, h⟩ <;> exact h (by omega))) (hf := ⟨by show _ ≤ 80; (try simp only [rmL]); omega, by show _ ≤ 700; (try simp only [rmL]); omega⟩) (kk := fun v422 w422 g422 => ?_)
          obtain ⟨k9, hk9, e9, -, rfl, kW2, kO⟩ := g422
          have e7 : k = k9 := by omega
          subst e7
          refine i_iload C dL_acts_425 (kk := ?_)
          refine i_icmp_ne C dL_acts_427 (tgt := 434) (kt := fun hB427 => ?_) (kf := fun hB427 => ?_)
          · exact absurd rfl hB427
          · refine i_iconst C dL_acts_430 (kk := ?_)
            refine i_goto C dL_acts_431 (tgt := 435) (kk := ?_)
            exact i_zret C (d := dL_acts_435) (hn := by show _ ≤ 80; (try simp only [rmL]); omega) (hk := by show _ ≤ 700; (try simp only [rmL]); omega) (ha := Or.inr rfl) (h := ⟨rfl, _, _, _, _, _, ⟨τ, ad, nb, tb, kW2, rfl, hA.off kO⟩, hR.rank hk _, hd⟩)
        · refine i_iload C dL_acts_286 (kk := ?_)
          refine i_bipush C dL_acts_288 (kk := ?_)
          refine i_idiv C dL_acts_290 (kk := ?_)
          refine i_iconst C dL_acts_291 (kk := ?_)
          refine i_irem C dL_acts_292 (kk := ?_)
          obtain ⟨g, hgz⟩ : ∃ g : Nat, (g : Int) = (zi : Int) / 30 % 4 := ⟨zi / 30 % 4, by omega⟩
          have hg : g < 4 := by omega
          rw [← hgz]
          refine i_istore C dL_acts_293 (kk := ?_)
          refine i_aload C dL_acts_295 (kk := ?_)
          refine i_iconst C dL_acts_297 (kk := ?_)
          refine i_iload C dL_acts_298 (kk := ?_)
          refine i_iadd C dL_acts_300 (kk := ?_)
          rw [show (5 : Int) + (p : Int) = ((5 + p : Nat) : Int) by omega]
          refine i_iaload C dL_acts_301 (hw := l4) (kk := ?_)
          rw [Int.toNat_natCast, (hR.1 p hp).2.2.1]
          refine i_istore C dL_acts_302 (kk := ?_)
          refine i_aload C dL_acts_304 (kk := ?_)
          refine i_bipush C dL_acts_306 (kk := ?_)
          refine i_iload C dL_acts_308 (kk := ?_)
          refine i_iadd C dL_acts_310 (kk := ?_)
          rw [show (10 : Int) + (k : Int) = ((10 + k : Nat) : Int) by omega]
          refine i_iaload C dL_acts_311 (hw := l4) (kk := ?_)
          rw [Int.toNat_natCast, hR.2.1 k hk]
          refine i_iload C dL_acts_312 (kk := ?_)
          have jL : ∀ b : Int, ((¬ (sUr σ k < sLk σ p ∨ sUr σ k < (g : Int)) ∧ b = 1) ∨ ((sUr σ k < sLk σ p ∨ sUr σ k < (g : Int)) ∧ b = 0)) → G 0 0 w [some (.ref x0), some (.ref a1), some (.ref a2), some (.ref a3), some (.ref a4), some (.ref D.2.2.2.2.1), some (.int (Z32 at0)), some (.int (Z32 (wy : Int))), some (.int (Z32 (zi : Int))), some (.int (Z32 (k : Int))), some (.int (Z32 (p : Int))), some (.int (Z32 (g : Int))), some (.int (Z32 (sLk σ p))), none] 335 [.int (Z32 b)] := by
            intro b hb
            rcases hb with ⟨hc, rfl⟩ | ⟨hc, rfl⟩
            · refine i_istore C dL_acts_335 (kk := ?_)
              refine i_aload C dL_acts_337 (kk := ?_)
              refine i_iconst C dL_acts_339 (kk := ?_)
              refine i_iload C dL_acts_340 (kk := ?_)
              refine i_iadd C dL_acts_342 (kk := ?_)
              rw [show (5 : Int) + (p : Int) = ((5 + p : Nat) : Int) by omega]
              refine i_iload C dL_acts_343 (kk := ?_)
              refine i_if_eq C dL_acts_345 (tgt := 353) (kt := fun hB345 => ?_) (kf := fun hB345 => ?_)
              · exact absurd hB345 (by decide)
              · refine i_iload C dL_acts_348 (kk := ?_)
                refine i_goto C dL_acts_350 (tgt := 355) (kk := ?_)
                refine i_iastore C dL_acts_355 (hw := l4) (kk := ?_)
                rw [Int.toNat_natCast]
                have hX3 := hX.put4 (fv2 := upz fv (5 + p) (g : Int))
                obtain ⟨τ, ad, nb, tb, hW, e0, hA⟩ := hX3
                subst e0
                refine i_aload_n C dL_acts_356 (kk := ?_)
                refine i_iload C dL_acts_357 (kk := ?_)
                refine i_iload C dL_acts_359 (kk := ?_)
                refine i_iload C dL_acts_361 (kk := ?_)
                refine i_callVF C lk_L_168 (c_X6_lock l hl D (hW := hW) (i0 := (k : Int)) (i := (p : Int)) (j := (g : Int))) (hcl := rfl) (hst := rfl) dL_acts_363 (hw := hW.obj) (hxx := fun E w1 h => by (obtain ⟨h, -⟩ := h; rcases h with ⟨-, h⟩ | ⟨-, -, h⟩; exact h ⟨by omega, by omega⟩; exact h (by omega))) (hf := ⟨by show _ ≤ 80; (try simp only [rmL]); omega, by show _ ≤ 700; (try simp only [rmL]); omega⟩) (kk := fun v363 w363 g363 => ?_)
                obtain ⟨rfl, kW2, kO⟩ := lo_yes hc g363
                refine i_iload C dL_acts_366 (kk := ?_)
                refine i_if_eq C dL_acts_368 (tgt := 376) (kt := fun hB368 => ?_) (kf := fun hB368 => ?_)
                · exact absurd hB368 (by decide)
                · refine i_iload C dL_acts_371 (kk := ?_)
                  refine i_goto C dL_acts_373 (tgt := 378) (kk := ?_)
                  refine i_icmp_ne C dL_acts_378 (tgt := 385) (kt := fun hB378 => ?_) (kf := fun hB378 => ?_)
                  · exact absurd rfl hB378
                  · refine i_iconst C dL_acts_381 (kk := ?_)
                    refine i_goto C dL_acts_382 (tgt := 386) (kk := ?_)
                    exact i_zret C (d := dL_acts_386) (hn := by show _ ≤ 80; (try simp only [rmL]); omega) (hk := by show _ ≤ 700; (try simp only [rmL]); omega) (ha := Or.inr rfl) (h := ⟨rfl, _, _, _, _, _, ⟨τ, ad, nb, tb, kW2, rfl, hA.off kO⟩, hR.lock hp _, hd⟩)
            · refine i_istore C dL_acts_335 (kk := ?_)
              refine i_aload C dL_acts_337 (kk := ?_)
              refine i_iconst C dL_acts_339 (kk := ?_)
              refine i_iload C dL_acts_340 (kk := ?_)
              refine i_iadd C dL_acts_342 (kk := ?_)
              rw [show (5 : Int) + (p : Int) = ((5 + p : Nat) : Int) by omega]
              refine i_iload C dL_acts_343 (kk := ?_)
              refine i_if_eq C dL_acts_345 (tgt := 353) (kt := fun hB345 => ?_) (kf := fun hB345 => ?_)
              · refine i_iload C dL_acts_353 (kk := ?_)
                refine i_iastore C dL_acts_355 (hw := l4) (kk := ?_)
                rw [Int.toNat_natCast, upz_same (hR.1 p hp).2.2.1]
                have hX3 := hX.put4 (fv2 := fv)
                obtain ⟨τ, ad, nb, tb, hW, e0, hA⟩ := hX3
                subst e0
                refine i_aload_n C dL_acts_356 (kk := ?_)
                refine i_iload C dL_acts_357 (kk := ?_)
                refine i_iload C dL_acts_359 (kk := ?_)
                refine i_iload C dL_acts_361 (kk := ?_)
                refine i_callVF C lk_L_168 (c_X6_lock l hl D (hW := hW) (i0 := (k : Int)) (i := (p : Int)) (j := (g : Int))) (hcl := rfl) (hst := rfl) dL_acts_363 (hw := hW.obj) (hxx := fun E w1 h => by (obtain ⟨h, -⟩ := h; rcases h with ⟨-, h⟩ | ⟨-, -, h⟩; exact h ⟨by omega, by omega⟩; exact h (by omega))) (hf := ⟨by show _ ≤ 80; (try simp only [rmL]); omega, by show _ ≤ 700; (try simp only [rmL]); omega⟩) (kk := fun v363 w363 g363 => ?_)
                obtain ⟨rfl, q363⟩ := lo_no hc g363
                have q363 := q363.symm
                subst q363
                refine i_iload C dL_acts_366 (kk := ?_)
                refine i_if_eq C dL_acts_368 (tgt := 376) (kt := fun hB368 => ?_) (kf := fun hB368 => ?_)
                · refine i_bipush C dL_acts_376 (kk := ?_)
                  refine i_icmp_ne C dL_acts_378 (tgt := 385) (kt := fun hB378 => ?_) (kf := fun hB378 => ?_)
                  · exact absurd rfl hB378
                  · refine i_iconst C dL_acts_381 (kk := ?_)
                    refine i_goto C dL_acts_382 (tgt := 386) (kk := ?_)
                    exact i_zret C (d := dL_acts_386) (hn := by show _ ≤ 80; (try simp only [rmL]); omega) (hk := by show _ ≤ 700; (try simp only [rmL]); omega) (ha := Or.inr rfl) (h := ⟨rfl, _, _, _, _, _, ⟨τ, ad, nb, tb, hW, rfl, hA⟩, hR, hd⟩)
                · exact absurd rfl hB368
              · exact absurd rfl hB345
          refine i_icmp_lt C dL_acts_314 (tgt := 334) (kt := fun hB314 => ?_) (kf := fun hB314 => ?_)
          · refine i_iconst C dL_acts_334 (kk := ?_)
            exact jL _ (by omega)
          · refine i_aload C dL_acts_317 (kk := ?_)
            refine i_bipush C dL_acts_319 (kk := ?_)
            refine i_iload C dL_acts_321 (kk := ?_)
            refine i_iadd C dL_acts_323 (kk := ?_)
            rw [show (10 : Int) + (k : Int) = ((10 + k : Nat) : Int) by omega]
            refine i_iaload C dL_acts_324 (hw := l4) (kk := ?_)
            rw [Int.toNat_natCast, hR.2.1 k hk]
            refine i_iload C dL_acts_325 (kk := ?_)
            refine i_icmp_lt C dL_acts_327 (tgt := 334) (kt := fun hB327 => ?_) (kf := fun hB327 => ?_)
            · refine i_iconst C dL_acts_334 (kk := ?_)
              exact jL _ (by omega)
            · refine i_iconst C dL_acts_330 (kk := ?_)
              refine i_goto C dL_acts_331 (tgt := 335) (kk := ?_)
              exact jL _ (by omega)
      · refine i_aload C dL_acts_179 (kk := ?_)
        refine i_bipush C dL_acts_181 (kk := ?_)
        refine i_iload C dL_acts_183 (kk := ?_)
        refine i_iadd C dL_acts_185 (kk := ?_)
        rw [show (10 : Int) + (k : Int) = ((10 + k : Nat) : Int) by omega]
        refine i_iaload C dL_acts_186 (hw := l4) (kk := ?_)
        rw [Int.toNat_natCast, hR.2.1 k hk]
        refine i_aload_n C dL_acts_187 (kk := ?_)
        refine i_aload_n C dL_acts_188 (kk := ?_)
        refine i_aload C dL_acts_189 (kk := ?_)
        refine i_iload C dL_acts_191 (kk := ?_)
        refine i_callS C lk_L_32 (c_L_force l hl D (w := w) (h1 := l1) (h2 := l2) (h4 := l4) (hR := hR) (hp := hp) (hS := hS)) (hst := rfl) dL_acts_193 (hf := ⟨by show _ ≤ 80; (try simp only [rmL]); omega, by show _ ≤ 700; (try simp only [rmL]); omega⟩) (kk := fun v193 w193 g193 => ?_)
        obtain ⟨rfl, q193⟩ := g193
        have q193 := q193.symm
        subst q193
        have jV : ∀ b : Int, (((frcS σ p ≤ sUr σ k ∧ sRk σ p (sNv σ p) < sUr σ k) ∧ b = 1) ∨ (¬ (frcS σ p ≤ sUr σ k ∧ sRk σ p (sNv σ p) < sUr σ k) ∧ b = 0)) → ∀ N2 K2 : Nat, N2 ≤ 5 → K2 ≤ 50 → G N2 K2 w [some (.ref x0), some (.ref a1), some (.ref a2), some (.ref a3), some (.ref a4), some (.ref D.2.2.2.2.1), some (.int (Z32 at0)), some (.int (Z32 (wy : Int))), some (.int (Z32 (zi : Int))), some (.int (Z32 (k : Int))), some (.int (Z32 (p : Int))), none, none, none] 224 [.int (Z32 b)] := by
          intro b hb N2 K2 hN2 hK2
          rcases hb with ⟨hc, rfl⟩ | ⟨hc, rfl⟩
          · refine i_istore C dL_acts_224 (kk := ?_)
            refine i_aload_n C dL_acts_226 (kk := ?_)
            refine i_aload C dL_acts_227 (kk := ?_)
            refine i_iload C dL_acts_229 (kk := ?_)
            refine i_callS C lk_L_24 (c_L_now l hl D (h4 := l4) (hR := hR) (p := p)) (hst := rfl) dL_acts_231 (hf := ⟨by show _ ≤ 80; (try simp only [rmL]); omega, by show _ ≤ 700; (try simp only [rmL]); omega⟩) (kk := fun v231 w231 g231 => ?_)
            obtain ⟨rfl, q231⟩ := g231
            have q231 := q231.symm
            subst q231
            refine i_iload C dL_acts_234 (kk := ?_)
            refine i_if_eq C dL_acts_236 (tgt := 250) (kt := fun hB236 => ?_) (kf := fun hB236 => ?_)
            · exact absurd hB236 (by decide)
            · refine i_aload C dL_acts_239 (kk := ?_)
              refine i_bipush C dL_acts_241 (kk := ?_)
              refine i_iload C dL_acts_243 (kk := ?_)
              refine i_iadd C dL_acts_245 (kk := ?_)
              rw [show (10 : Int) + (k : Int) = ((10 + k : Nat) : Int) by omega]
              refine i_iaload C dL_acts_246 (hw := l4) (kk := ?_)
              rw [Int.toNat_natCast, hR.2.1 k hk]
              refine i_goto C dL_acts_247 (tgt := 259) (kk := ?_)
              refine i_iastore C dL_acts_259 (hw := l3) (kk := ?_)
              rw [Int.toNat_natCast]
              have hX3 := hX.put3 (fr2 := upz fr (12 * p + sNv σ p) (sUr σ k))
              obtain ⟨τ, ad, nb, tb, hW, e0, hA⟩ := hX3
              subst e0
              refine i_aload_n C dL_acts_260 (kk := ?_)
              refine i_iload C dL_acts_261 (kk := ?_)
              refine i_iload C dL_acts_263 (kk := ?_)
              refine i_callVF C lk_L_164 (c_X6_approve l hl D (hW := hW) (i0 := (k : Int)) (i := (p : Int))) (hcl := rfl) (hst := rfl) dL_acts_265 (hw := hW.obj) (hxx := fun E w1 h => h.2.1 ⟨by omega, by omega⟩) (hf := ⟨by show _ ≤ 80; (try simp only [rmL]); omega, by show _ ≤ 700; (try simp only [rmL]); omega⟩) (kk := fun v265 w265 g265 => ?_)
              obtain ⟨rfl, kW2, kO⟩ := ap_yes hc g265
              refine i_iload C dL_acts_268 (kk := ?_)
              refine i_icmp_ne C dL_acts_270 (tgt := 277) (kt := fun hB270 => ?_) (kf := fun hB270 => ?_)
              · exact absurd rfl hB270
              · refine i_iconst C dL_acts_273 (kk := ?_)
                refine i_goto C dL_acts_274 (tgt := 278) (kk := ?_)
                exact i_zret C (d := dL_acts_278) (hn := by show _ ≤ 80; (try simp only [rmL]); omega) (hk := by show _ ≤ 700; (try simp only [rmL]); omega) (ha := Or.inr rfl) (h := ⟨rfl, _, _, _, _, _, ⟨τ, ad, nb, tb, kW2, rfl, hA.off kO⟩, hR.appr hp _, hd⟩)
          · refine i_istore C dL_acts_224 (kk := ?_)
            refine i_aload_n C dL_acts_226 (kk := ?_)
            refine i_aload C dL_acts_227 (kk := ?_)
            refine i_iload C dL_acts_229 (kk := ?_)
            refine i_callS C lk_L_24 (c_L_now l hl D (h4 := l4) (hR := hR) (p := p)) (hst := rfl) dL_acts_231 (hf := ⟨by show _ ≤ 80; (try simp only [rmL]); omega, by show _ ≤ 700; (try simp only [rmL]); omega⟩) (kk := fun v231 w231 g231 => ?_)
            obtain ⟨rfl, q231⟩ := g231
            have q231 := q231.symm
            subst q231
            refine i_iload C dL_acts_234 (kk := ?_)
            refine i_if_eq C dL_acts_236 (tgt := 250) (kt := fun hB236 => ?_) (kf := fun hB236 => ?_)
            · refine i_aload_n C dL_acts_250 (kk := ?_)
              refine i_aload C dL_acts_251 (kk := ?_)
              refine i_iload C dL_acts_253 (kk := ?_)
              refine i_callS C lk_L_24 (c_L_now l hl D (h4 := l4) (hR := hR) (p := p)) (hst := rfl) dL_acts_255 (hf := ⟨by show _ ≤ 80; (try simp only [rmL]); omega, by show _ ≤ 700; (try simp only [rmL]); omega⟩) (kk := fun v255 w255 g255 => ?_)
              obtain ⟨rfl, q255⟩ := g255
              have q255 := q255.symm
              subst q255
              refine i_iaload C dL_acts_258 (hw := l3) (kk := ?_)
              rw [Int.toNat_natCast, hR.rk hp]
              refine i_iastore C dL_acts_259 (hw := l3) (kk := ?_)
              rw [Int.toNat_natCast, upz_same (hR.rk hp)]
              have hX3 := hX.put3 (fr2 := fr)
              obtain ⟨τ, ad, nb, tb, hW, e0, hA⟩ := hX3
              subst e0
              refine i_aload_n C dL_acts_260 (kk := ?_)
              refine i_iload C dL_acts_261 (kk := ?_)
              refine i_iload C dL_acts_263 (kk := ?_)
              refine i_callVF C lk_L_164 (c_X6_approve l hl D (hW := hW) (i0 := (k : Int)) (i := (p : Int))) (hcl := rfl) (hst := rfl) dL_acts_265 (hw := hW.obj) (hxx := fun E w1 h => h.2.1 ⟨by omega, by omega⟩) (hf := ⟨by show _ ≤ 80; (try simp only [rmL]); omega, by show _ ≤ 700; (try simp only [rmL]); omega⟩) (kk := fun v265 w265 g265 => ?_)
              obtain ⟨rfl, q265⟩ := ap_no hc g265
              have q265 := q265.symm
              subst q265
              refine i_iload C dL_acts_268 (kk := ?_)
              refine i_icmp_ne C dL_acts_270 (tgt := 277) (kt := fun hB270 => ?_) (kf := fun hB270 => ?_)
              · exact absurd rfl hB270
              · refine i_iconst C dL_acts_273 (kk := ?_)
                refine i_goto C dL_acts_274 (tgt := 278) (kk := ?_)
                exact i_zret C (d := dL_acts_278) (hn := by show _ ≤ 80; (try simp only [rmL]); omega) (hk := by show _ ≤ 700; (try simp only [rmL]); omega) (ha := Or.inr rfl) (h := ⟨rfl, _, _, _, _, _, ⟨τ, ad, nb, tb, hW, rfl, hA⟩, hR, hd⟩)
            · exact absurd rfl hB236
        refine i_icmp_lt C dL_acts_196 (tgt := 223) (kt := fun hB196 => ?_) (kf := fun hB196 => ?_)
        · refine i_iconst C dL_acts_223 (kk := ?_)
          exact jV _ (by omega) _ _ (by (try simp only [rmL]); omega) (by (try simp only [rmL]); omega)
        · refine i_aload C dL_acts_199 (kk := ?_)
          refine i_bipush C dL_acts_201 (kk := ?_)
          refine i_iload C dL_acts_203 (kk := ?_)
          refine i_iadd C dL_acts_205 (kk := ?_)
          rw [show (10 : Int) + (k : Int) = ((10 + k : Nat) : Int) by omega]
          refine i_iaload C dL_acts_206 (hw := l4) (kk := ?_)
          rw [Int.toNat_natCast, hR.2.1 k hk]
          refine i_aload_n C dL_acts_207 (kk := ?_)
          refine i_aload C dL_acts_208 (kk := ?_)
          refine i_iload C dL_acts_210 (kk := ?_)
          refine i_callS C lk_L_24 (c_L_now l hl D (h4 := l4) (hR := hR) (p := p)) (hst := rfl) dL_acts_212 (hf := ⟨by show _ ≤ 80; (try simp only [rmL]); omega, by show _ ≤ 700; (try simp only [rmL]); omega⟩) (kk := fun v212 w212 g212 => ?_)
          obtain ⟨rfl, q212⟩ := g212
          have q212 := q212.symm
          subst q212
          refine i_iaload C dL_acts_215 (hw := l3) (kk := ?_)
          rw [Int.toNat_natCast, hR.rk hp]
          refine i_icmp_le C dL_acts_216 (tgt := 223) (kt := fun hB216 => ?_) (kf := fun hB216 => ?_)
          · refine i_iconst C dL_acts_223 (kk := ?_)
            exact jV _ (by omega) _ _ (by (try simp only [rmL]); omega) (by (try simp only [rmL]); omega)
          · refine i_iconst C dL_acts_219 (kk := ?_)
            refine i_goto C dL_acts_220 (tgt := 224) (kk := ?_)
            exact jV _ (by omega) _ _ (by (try simp only [rmL]); omega) (by (try simp only [rmL]); omega)
    · refine i_aload C dL_acts_58 (kk := ?_)
      refine i_iload C dL_acts_60 (kk := ?_)
      refine i_iaload C dL_acts_62 (hw := l4) (kk := ?_)
      rw [Int.toNat_natCast, (hR.nv hp).1]
      refine i_if_ne C dL_acts_63 (tgt := 85) (kt := fun hB63 => ?_) (kf := fun hB63 => ?_)
      · refine i_aload C dL_acts_85 (kk := ?_)
        refine i_iload C dL_acts_87 (kk := ?_)
        refine i_callS C lk_L_24 (c_L_now l hl D (h4 := l4) (hR := hR) (p := p)) (hst := rfl) dL_acts_89 (hf := ⟨by show _ ≤ 80; (try simp only [rmL]); omega, by show _ ≤ 700; (try simp only [rmL]); omega⟩) (kk := fun v89 w89 g89 => ?_)
        obtain ⟨rfl, q89⟩ := g89
        have q89 := q89.symm
        subst q89
        refine i_iconst C dL_acts_92 (kk := ?_)
        refine i_isub C dL_acts_93 (kk := ?_)
        have h0 : 0 < sNv σ p := by omega
        obtain ⟨n1, hn1⟩ : ∃ n1, n1 = sNv σ p - 1 := ⟨_, rfl⟩
        rw [show ((12 * p + sNv σ p : Nat) : Int) - 1 = ((12 * p + n1 : Nat) : Int) by omega]
        obtain ⟨hTx, hz9, hr9⟩ := (hR.1 p hp).2.2.2 n1 (by omega)
        have hrk9 := (hS.2.1 p (by omega)).2.2.2.2.2 n1 (by omega)
        have hn20 : sNv σ p ≤ 11 := hn11
        refine i_istore C dL_acts_94 (kk := ?_)
        refine i_aload_n C dL_acts_96 (kk := ?_)
        refine i_aload_n C dL_acts_97 (kk := ?_)
        refine i_aload_n C dL_acts_98 (kk := ?_)
        refine i_aload C dL_acts_99 (kk := ?_)
        refine i_iload C dL_acts_101 (kk := ?_)
        refine i_iload C dL_acts_103 (kk := ?_)
        refine i_aload_n C dL_acts_105 (kk := ?_)
        refine i_iload C dL_acts_106 (kk := ?_)
        refine i_laload C dL_acts_108 (hw := l1) (kk := ?_)
        rw [Int.toNat_natCast]
        refine i_aload_n C dL_acts_109 (kk := ?_)
        refine i_iload C dL_acts_110 (kk := ?_)
        refine i_iaload C dL_acts_112 (hw := l2) (kk := ?_)
        rw [Int.toNat_natCast, hz9]
        refine i_aload_n C dL_acts_113 (kk := ?_)
        refine i_iload C dL_acts_114 (kk := ?_)
        refine i_iaload C dL_acts_116 (hw := l3) (kk := ?_)
        rw [Int.toNat_natCast, hr9]
        refine i_callS C lk_L_149 (c_L_refusal l hl D (w := w) (σ := σ) (rk := sRk σ p n1) (ps := sTx σ p n1) (h1 := l1) (h2 := l2) (h3 := l3) (h4 := l4) (hR := hR) (hS := hS) (hk := hk) (hp := hp) (hx := hTx) (hrk := hrk9.2.2)) (hst := rfl) dL_acts_117 (hf := ⟨by show _ ≤ 80; (try simp only [rmL]); omega, by show _ ≤ 700; (try simp only [rmL]); omega⟩) (kk := fun v117 w117 g117 => ?_)
        obtain ⟨rfl, hk117⟩ := g117
        have hX2 := hX.kept hk117
        obtain ⟨m1, m2, m3, m4⟩ := hX2.arr
        have hrR := rfS_R (σ := σ) (k := k) (p := p) (ps := sTx σ p n1) (rk := sRk σ p n1)
        have hun : rfS σ k p (sTx σ p n1) (sRk σ p n1) = unS σ k p := by rw [hn1]; rfl
        rw [hun] at hrR ⊢
        have hr0 := rf0_e hrR
        obtain ⟨r0, hr00⟩ : ∃ r0, rf0 (unS σ k p) = r0 := ⟨_, rfl⟩
        rw [hr00] at hr0 ⊢
        have hr0R : -6 ≤ r0 ∧ r0 ≤ 0 := by rw [← hr00]; unfold rf0; split <;> omega
        refine i_istore C dL_acts_120 (kk := ?_)
        refine i_aload C dL_acts_122 (kk := ?_)
        refine i_iload C dL_acts_124 (kk := ?_)
        refine i_dup2 C dL_acts_126 (kk := ?_)
        refine i_iaload C dL_acts_127 (hw := m4) (kk := ?_)
        rw [Int.toNat_natCast, (hR.nv hp).1]
        refine i_iload C dL_acts_128 (kk := ?_)
        refine i_if_ne C dL_acts_130 (tgt := 137) (kt := fun hB130 => ?_) (kf := fun hB130 => ?_)
        · have hne : unS σ k p ≠ -1 := fun z => hB130 (hr0.1.mpr z)
          have er := hr0.2 hne
          obtain ⟨eR, eT⟩ := un_no h0 hne
          refine i_iconst C dL_acts_137 (kk := ?_)
          refine i_isub C dL_acts_138 (kk := ?_)
          refine i_iastore C dL_acts_139 (hw := m4) (kk := ?_)
          rw [Int.toNat_natCast, Int.sub_zero, upz_same (hR.nv hp).1]
          have hX3 := hX2.put4 (fv2 := fv)
          refine i_aload_n C dL_acts_140 (kk := ?_)
          refine i_iload C dL_acts_141 (kk := ?_)
          refine i_iload C dL_acts_143 (kk := ?_)
          refine i_callSH C lk_L_160 (c_L_undone l hl D hX3 hk hp) (hst := rfl) dL_acts_145 (hf := ⟨by show _ ≤ 80; (try simp only [rmL]); omega, by show _ ≤ 700; (try simp only [rmL]); omega⟩) (kk := fun v145 w145 g145 => ?_)
          obtain ⟨rfl, hX4⟩ := g145
          rw [eR, ← er]
          rw [eT] at hX4
          refine i_iload C dL_acts_148 (kk := ?_)
          refine i_if_ne C dL_acts_150 (tgt := 161) (kt := fun hB150 => ?_) (kf := fun hB150 => ?_)
          · refine i_iload C dL_acts_161 (kk := ?_)
            refine i_icmp_ne C dL_acts_163 (tgt := 170) (kt := fun hB163 => ?_) (kf := fun hB163 => ?_)
            · exact absurd rfl hB163
            · refine i_iconst C dL_acts_166 (kk := ?_)
              refine i_goto C dL_acts_167 (tgt := 171) (kk := ?_)
              exact i_zret C (d := dL_acts_171) (hn := by show _ ≤ 80; (try simp only [rmL]); omega) (hk := by show _ ≤ 700; (try simp only [rmL]); omega) (ha := Or.inr rfl) (h := ⟨rfl, _, _, _, _, _, hX4, hR, hd⟩)
          · exact absurd hB150 hB130
        · have he1 : unS σ k p = -1 := hr0.1.mp hB130
          obtain ⟨eR, eT⟩ := un_yes h0 he1
          refine i_iconst C dL_acts_133 (kk := ?_)
          refine i_goto C dL_acts_134 (tgt := 138) (kk := ?_)
          refine i_isub C dL_acts_138 (kk := ?_)
          refine i_iastore C dL_acts_139 (hw := m4) (kk := ?_)
          rw [Int.toNat_natCast, show (sNv σ p : Int) - 1 = ((sNv σ p - 1 : Nat) : Int) by omega]
          have hX3 := hX2.put4 (fv2 := upz fv p ((sNv σ p - 1 : Nat) : Int))
          refine i_aload_n C dL_acts_140 (kk := ?_)
          refine i_iload C dL_acts_141 (kk := ?_)
          refine i_iload C dL_acts_143 (kk := ?_)
          refine i_callSH C lk_L_160 (c_L_undone l hl D hX3 hk hp) (hst := rfl) dL_acts_145 (hf := ⟨by show _ ≤ 80; (try simp only [rmL]); omega, by show _ ≤ 700; (try simp only [rmL]); omega⟩) (kk := fun v145 w145 g145 => ?_)
          obtain ⟨rfl, hX4⟩ := g145
          rw [eR]
          rw [eT] at hX4
          have m4 := hX4.arr.2.2.2
          refine i_iload C dL_acts_148 (kk := ?_)
          refine i_if_ne C dL_acts_150 (tgt := 161) (kt := fun hB150 => ?_) (kf := fun hB150 => ?_)
          · exact absurd hB130 hB150
          · refine i_aload C dL_acts_153 (kk := ?_)
            refine i_iload C dL_acts_155 (kk := ?_)
            refine i_iaload C dL_acts_157 (hw := m4) (kk := ?_)
            rw [Int.toNat_natCast, upz_eq]
            refine i_goto C dL_acts_158 (tgt := 163) (kk := ?_)
            refine i_icmp_ne C dL_acts_163 (tgt := 170) (kt := fun hB163 => ?_) (kf := fun hB163 => ?_)
            · exact absurd rfl hB163
            · refine i_iconst C dL_acts_166 (kk := ?_)
              refine i_goto C dL_acts_167 (tgt := 171) (kk := ?_)
              exact i_zret C (d := dL_acts_171) (hn := by show _ ≤ 80; (try simp only [rmL]); omega) (hk := by show _ ≤ 700; (try simp only [rmL]); omega) (ha := Or.inr rfl) (h := ⟨rfl, _, _, _, _, _, hX4, hR.undo hp h0, hd⟩)
      · refine i_aload_n C dL_acts_66 (kk := ?_)
        refine i_iload C dL_acts_67 (kk := ?_)
        refine i_iload C dL_acts_69 (kk := ?_)
        refine i_callSH C lk_L_160 (c_L_undone l hl D hX hk hp) (hst := rfl) dL_acts_71 (hf := ⟨by show _ ≤ 80; (try simp only [rmL]); omega, by show _ ≤ 700; (try simp only [rmL]); omega⟩) (kk := fun v71 w71 g71 => ?_)
        obtain ⟨rfl, hX2⟩ := g71
        have h0 : sNv σ p = 0 := by omega
        have eR : unR σ k p = -9 := if_pos h0
        have eT : unT σ k p = σ := if_pos h0
        rw [eR]
        rw [eT] at hX2
        refine i_bipush C dL_acts_74 (kk := ?_)
        refine i_icmp_ne C dL_acts_76 (tgt := 83) (kt := fun hB76 => ?_) (kf := fun hB76 => ?_)
        · exact absurd rfl hB76
        · refine i_iconst C dL_acts_79 (kk := ?_)
          refine i_goto C dL_acts_80 (tgt := 84) (kk := ?_)
          exact i_zret C (d := dL_acts_84) (hn := by show _ ≤ 80; (try simp only [rmL]); omega) (hk := by show _ ≤ 700; (try simp only [rmL]); omega) (ha := Or.inr rfl) (h := ⟨rfl, σ, ft, fz, fr, fv, hX2, hR, hd⟩)
  · refine i_aload C dL_acts_23 (kk := ?_)
    refine i_iload C dL_acts_25 (kk := ?_)
    refine i_iaload C dL_acts_27 (hw := l4) (kk := ?_)
    rw [Int.toNat_natCast, (hR.nv hp).1]
    refine i_bipush C dL_acts_28 (kk := ?_)
    refine i_icmp_ge C dL_acts_30 (tgt := 51) (kt := fun hB30 => ?_) (kf := fun hB30 => ?_)
    · refine i_iload C dL_acts_51 (kk := ?_)
      refine i_bipush C dL_acts_53 (kk := ?_)
      refine i_icmp_ge C dL_acts_55 (tgt := 172) (kt := fun hB55 => ?_) (kf := fun hB55 => ?_)
      · refine i_iload C dL_acts_172 (kk := ?_)
        refine i_bipush C dL_acts_174 (kk := ?_)
        refine i_icmp_ge C dL_acts_176 (tgt := 279) (kt := fun hB176 => ?_) (kf := fun hB176 => ?_)
        · refine i_iload C dL_acts_279 (kk := ?_)
          refine i_bipush C dL_acts_281 (kk := ?_)
          refine i_icmp_ge C dL_acts_283 (tgt := 387) (kt := fun hB283 => ?_) (kf := fun hB283 => ?_)
          · refine i_aload C dL_acts_387 (kk := ?_)
            refine i_bipush C dL_acts_389 (kk := ?_)
            refine i_iload C dL_acts_391 (kk := ?_)
            refine i_iadd C dL_acts_393 (kk := ?_)
            rw [show (10 : Int) + (k : Int) = ((10 + k : Nat) : Int) by omega]
            refine i_iaload C dL_acts_394 (hw := l4) (kk := ?_)
            rw [Int.toNat_natCast, hR.2.1 k hk]
            refine i_istore C dL_acts_395 (kk := ?_)
            refine i_aload C dL_acts_397 (kk := ?_)
            refine i_bipush C dL_acts_399 (kk := ?_)
            refine i_iload C dL_acts_401 (kk := ?_)
            refine i_iadd C dL_acts_403 (kk := ?_)
            rw [show (10 : Int) + (k : Int) = ((10 + k : Nat) : Int) by omega]
            refine i_iload C dL_acts_404 (kk := ?_)
            refine i_bipush C dL_acts_406 (kk := ?_)
            refine i_idiv C dL_acts_408 (kk := ?_)
            refine i_iconst C dL_acts_409 (kk := ?_)
            refine i_irem C dL_acts_410 (kk := ?_)
            obtain ⟨g, hgz⟩ : ∃ g : Nat, (g : Int) = (zi : Int) / 30 % 4 := ⟨zi / 30 % 4, by omega⟩
            have hg : g < 4 := by omega
            rw [← hgz]
            refine i_iastore C dL_acts_411 (hw := l4) (kk := ?_)
            rw [Int.toNat_natCast]
            have hX3 := hX.put4 (fv2 := upz fv (10 + k) (g : Int))
            obtain ⟨τ, ad, nb, tb, hW, e0, hA⟩ := hX3
            subst e0
            refine i_aload_n C dL_acts_412 (kk := ?_)
            refine i_iload C dL_acts_413 (kk := ?_)
            refine i_iload C dL_acts_415 (kk := ?_)
            refine i_bipush C dL_acts_417 (kk := ?_)
            refine i_idiv C dL_acts_419 (kk := ?_)
            refine i_iconst C dL_acts_420 (kk := ?_)
            refine i_irem C dL_acts_421 (kk := ?_)
            rw [← hgz]
            refine i_callVF C lk_L_171 (c_X6_setRank l hl D (hW := hW) (i := (k : Int)) (j := (g : Int))) (hcl := rfl) (hst := rfl) dL_acts_422 (hw := hW.obj) (hxx := fun E w1 h => by (obtain ⟨h, -⟩ := h; rcases h with ⟨-, h⟩ | ⟨-, -, h⟩ <;> exact h (by omega))) (hf := ⟨by show _ ≤ 80; (try simp only [rmL]); omega, by show _ ≤ 700; (try simp only [rmL]); omega⟩) (kk := fun v422 w422 g422 => ?_)
            obtain ⟨k9, hk9, e9, -, rfl, kW2, kO⟩ := g422
            have e7 : k = k9 := by omega
            subst e7
            refine i_iload C dL_acts_425 (kk := ?_)
            refine i_icmp_ne C dL_acts_427 (tgt := 434) (kt := fun hB427 => ?_) (kf := fun hB427 => ?_)
            · exact absurd rfl hB427
            · refine i_iconst C dL_acts_430 (kk := ?_)
              refine i_goto C dL_acts_431 (tgt := 435) (kk := ?_)
              exact i_zret C (d := dL_acts_435) (hn := by show _ ≤ 80; (try simp only [rmL]); omega) (hk := by show _ ≤ 700; (try simp only [rmL]); omega) (ha := Or.inr rfl) (h := ⟨rfl, _, _, _, _, _, ⟨τ, ad, nb, tb, kW2, rfl, hA.off kO⟩, hR.rank hk _, hd⟩)
          · refine i_iload C dL_acts_286 (kk := ?_)
            refine i_bipush C dL_acts_288 (kk := ?_)
            refine i_idiv C dL_acts_290 (kk := ?_)
            refine i_iconst C dL_acts_291 (kk := ?_)
            refine i_irem C dL_acts_292 (kk := ?_)
            obtain ⟨g, hgz⟩ : ∃ g : Nat, (g : Int) = (zi : Int) / 30 % 4 := ⟨zi / 30 % 4, by omega⟩
            have hg : g < 4 := by omega
            rw [← hgz]
            refine i_istore C dL_acts_293 (kk := ?_)
            refine i_aload C dL_acts_295 (kk := ?_)
            refine i_iconst C dL_acts_297 (kk := ?_)
            refine i_iload C dL_acts_298 (kk := ?_)
            refine i_iadd C dL_acts_300 (kk := ?_)
            rw [show (5 : Int) + (p : Int) = ((5 + p : Nat) : Int) by omega]
            refine i_iaload C dL_acts_301 (hw := l4) (kk := ?_)
            rw [Int.toNat_natCast, (hR.1 p hp).2.2.1]
            refine i_istore C dL_acts_302 (kk := ?_)
            refine i_aload C dL_acts_304 (kk := ?_)
            refine i_bipush C dL_acts_306 (kk := ?_)
            refine i_iload C dL_acts_308 (kk := ?_)
            refine i_iadd C dL_acts_310 (kk := ?_)
            rw [show (10 : Int) + (k : Int) = ((10 + k : Nat) : Int) by omega]
            refine i_iaload C dL_acts_311 (hw := l4) (kk := ?_)
            rw [Int.toNat_natCast, hR.2.1 k hk]
            refine i_iload C dL_acts_312 (kk := ?_)
            have jL : ∀ b : Int, ((¬ (sUr σ k < sLk σ p ∨ sUr σ k < (g : Int)) ∧ b = 1) ∨ ((sUr σ k < sLk σ p ∨ sUr σ k < (g : Int)) ∧ b = 0)) → G 0 0 w [some (.ref x0), some (.ref a1), some (.ref a2), some (.ref a3), some (.ref a4), some (.ref D.2.2.2.2.1), some (.int (Z32 at0)), some (.int (Z32 (wy : Int))), some (.int (Z32 (zi : Int))), some (.int (Z32 (k : Int))), some (.int (Z32 (p : Int))), some (.int (Z32 (g : Int))), some (.int (Z32 (sLk σ p))), none] 335 [.int (Z32 b)] := by
              intro b hb
              rcases hb with ⟨hc, rfl⟩ | ⟨hc, rfl⟩
              · refine i_istore C dL_acts_335 (kk := ?_)
                refine i_aload C dL_acts_337 (kk := ?_)
                refine i_iconst C dL_acts_339 (kk := ?_)
                refine i_iload C dL_acts_340 (kk := ?_)
                refine i_iadd C dL_acts_342 (kk := ?_)
                rw [show (5 : Int) + (p : Int) = ((5 + p : Nat) : Int) by omega]
                refine i_iload C dL_acts_343 (kk := ?_)
                refine i_if_eq C dL_acts_345 (tgt := 353) (kt := fun hB345 => ?_) (kf := fun hB345 => ?_)
                · exact absurd hB345 (by decide)
                · refine i_iload C dL_acts_348 (kk := ?_)
                  refine i_goto C dL_acts_350 (tgt := 355) (kk := ?_)
                  refine i_iastore C dL_acts_355 (hw := l4) (kk := ?_)
                  rw [Int.toNat_natCast]
                  have hX3 := hX.put4 (fv2 := upz fv (5 + p) (g : Int))
                  obtain ⟨τ, ad, nb, tb, hW, e0, hA⟩ := hX3
                  subst e0
                  refine i_aload_n C dL_acts_356 (kk := ?_)
                  refine i_iload C dL_acts_357 (kk := ?_)
                  refine i_iload C dL_acts_359 (kk := ?_)
                  refine i_iload C dL_acts_361 (kk := ?_)
                  refine i_callVF C lk_L_168 (c_X6_lock l hl D (hW := hW) (i0 := (k : Int)) (i := (p : Int)) (j := (g : Int))) (hcl := rfl) (hst := rfl) dL_acts_363 (hw := hW.obj) (hxx := fun E w1 h => by (obtain ⟨h, -⟩ := h; rcases h with ⟨-, h⟩ | ⟨-, -, h⟩; exact h ⟨by omega, by omega⟩; exact h (by omega))) (hf := ⟨by show _ ≤ 80; (try simp only [rmL]); omega, by show _ ≤ 700; (try simp only [rmL]); omega⟩) (kk := fun v363 w363 g363 => ?_)
                  obtain ⟨rfl, kW2, kO⟩ := lo_yes hc g363
                  refine i_iload C dL_acts_366 (kk := ?_)
                  refine i_if_eq C dL_acts_368 (tgt := 376) (kt := fun hB368 => ?_) (kf := fun hB368 => ?_)
                  · exact absurd hB368 (by decide)
                  · refine i_iload C dL_acts_371 (kk := ?_)
                    refine i_goto C dL_acts_373 (tgt := 378) (kk := ?_)
                    refine i_icmp_ne C dL_acts_378 (tgt := 385) (kt := fun hB378 => ?_) (kf := fun hB378 => ?_)
                    · exact absurd rfl hB378
                    · refine i_iconst C dL_acts_381 (kk := ?_)
                      refine i_goto C dL_acts_382 (tgt := 386) (kk := ?_)
                      exact i_zret C (d := dL_acts_386) (hn := by show _ ≤ 80; (try simp only [rmL]); omega) (hk := by show _ ≤ 700; (try simp only [rmL]); omega) (ha := Or.inr rfl) (h := ⟨rfl, _, _, _, _, _, ⟨τ, ad, nb, tb, kW2, rfl, hA.off kO⟩, hR.lock hp _, hd⟩)
              · refine i_istore C dL_acts_335 (kk := ?_)
                refine i_aload C dL_acts_337 (kk := ?_)
                refine i_iconst C dL_acts_339 (kk := ?_)
                refine i_iload C dL_acts_340 (kk := ?_)
                refine i_iadd C dL_acts_342 (kk := ?_)
                rw [show (5 : Int) + (p : Int) = ((5 + p : Nat) : Int) by omega]
                refine i_iload C dL_acts_343 (kk := ?_)
                refine i_if_eq C dL_acts_345 (tgt := 353) (kt := fun hB345 => ?_) (kf := fun hB345 => ?_)
                · refine i_iload C dL_acts_353 (kk := ?_)
                  refine i_iastore C dL_acts_355 (hw := l4) (kk := ?_)
                  rw [Int.toNat_natCast, upz_same (hR.1 p hp).2.2.1]
                  have hX3 := hX.put4 (fv2 := fv)
                  obtain ⟨τ, ad, nb, tb, hW, e0, hA⟩ := hX3
                  subst e0
                  refine i_aload_n C dL_acts_356 (kk := ?_)
                  refine i_iload C dL_acts_357 (kk := ?_)
                  refine i_iload C dL_acts_359 (kk := ?_)
                  refine i_iload C dL_acts_361 (kk := ?_)
                  refine i_callVF C lk_L_168 (c_X6_lock l hl D (hW := hW) (i0 := (k : Int)) (i := (p : Int)) (j := (g : Int))) (hcl := rfl) (hst := rfl) dL_acts_363 (hw := hW.obj) (hxx := fun E w1 h => by (obtain ⟨h, -⟩ := h; rcases h with ⟨-, h⟩ | ⟨-, -, h⟩; exact h ⟨by omega, by omega⟩; exact h (by omega))) (hf := ⟨by show _ ≤ 80; (try simp only [rmL]); omega, by show _ ≤ 700; (try simp only [rmL]); omega⟩) (kk := fun v363 w363 g363 => ?_)
                  obtain ⟨rfl, q363⟩ := lo_no hc g363
                  have q363 := q363.symm
                  subst q363
                  refine i_iload C dL_acts_366 (kk := ?_)
                  refine i_if_eq C dL_acts_368 (tgt := 376) (kt := fun hB368 => ?_) (kf := fun hB368 => ?_)
                  · refine i_bipush C dL_acts_376 (kk := ?_)
                    refine i_icmp_ne C dL_acts_378 (tgt := 385) (kt := fun hB378 => ?_) (kf := fun hB378 => ?_)
                    · exact absurd rfl hB378
                    · refine i_iconst C dL_acts_381 (kk := ?_)
                      refine i_goto C dL_acts_382 (tgt := 386) (kk := ?_)
                      exact i_zret C (d := dL_acts_386) (hn := by show _ ≤ 80; (try simp only [rmL]); omega) (hk := by show _ ≤ 700; (try simp only [rmL]); omega) (ha := Or.inr rfl) (h := ⟨rfl, _, _, _, _, _, ⟨τ, ad, nb, tb, hW, rfl, hA⟩, hR, hd⟩)
                  · exact absurd rfl hB368
                · exact absurd rfl hB345
            refine i_icmp_lt C dL_acts_314 (tgt := 334) (kt := fun hB314 => ?_) (kf := fun hB314 => ?_)
            · refine i_iconst C dL_acts_334 (kk := ?_)
              exact jL _ (by omega)
            · refine i_aload C dL_acts_317 (kk := ?_)
              refine i_bipush C dL_acts_319 (kk := ?_)
              refine i_iload C dL_acts_321 (kk := ?_)
              refine i_iadd C dL_acts_323 (kk := ?_)
              rw [show (10 : Int) + (k : Int) = ((10 + k : Nat) : Int) by omega]
              refine i_iaload C dL_acts_324 (hw := l4) (kk := ?_)
              rw [Int.toNat_natCast, hR.2.1 k hk]
              refine i_iload C dL_acts_325 (kk := ?_)
              refine i_icmp_lt C dL_acts_327 (tgt := 334) (kt := fun hB327 => ?_) (kf := fun hB327 => ?_)
              · refine i_iconst C dL_acts_334 (kk := ?_)
                exact jL _ (by omega)
              · refine i_iconst C dL_acts_330 (kk := ?_)
                refine i_goto C dL_acts_331 (tgt := 335) (kk := ?_)
                exact jL _ (by omega)
        · refine i_aload C dL_acts_179 (kk := ?_)
          refine i_bipush C dL_acts_181 (kk := ?_)
          refine i_iload C dL_acts_183 (kk := ?_)
          refine i_iadd C dL_acts_185 (kk := ?_)
          rw [show (10 : Int) + (k : Int) = ((10 + k : Nat) : Int) by omega]
          refine i_iaload C dL_acts_186 (hw := l4) (kk := ?_)
          rw [Int.toNat_natCast, hR.2.1 k hk]
          refine i_aload_n C dL_acts_187 (kk := ?_)
          refine i_aload_n C dL_acts_188 (kk := ?_)
          refine i_aload C dL_acts_189 (kk := ?_)
          refine i_iload C dL_acts_191 (kk := ?_)
          refine i_callS C lk_L_32 (c_L_force l hl D (w := w) (h1 := l1) (h2 := l2) (h4 := l4) (hR := hR) (hp := hp) (hS := hS)) (hst := rfl) dL_acts_193 (hf := ⟨by show _ ≤ 80; (try simp only [rmL]); omega, by show _ ≤ 700; (try simp only [rmL]); omega⟩) (kk := fun v193 w193 g193 => ?_)
          obtain ⟨rfl, q193⟩ := g193
          have q193 := q193.symm
          subst q193
          have jV : ∀ b : Int, (((frcS σ p ≤ sUr σ k ∧ sRk σ p (sNv σ p) < sUr σ k) ∧ b = 1) ∨ (¬ (frcS σ p ≤ sUr σ k ∧ sRk σ p (sNv σ p) < sUr σ k) ∧ b = 0)) → ∀ N2 K2 : Nat, N2 ≤ 5 → K2 ≤ 50 → G N2 K2 w [some (.ref x0), some (.ref a1), some (.ref a2), some (.ref a3), some (.ref a4), some (.ref D.2.2.2.2.1), some (.int (Z32 at0)), some (.int (Z32 (wy : Int))), some (.int (Z32 (zi : Int))), some (.int (Z32 (k : Int))), some (.int (Z32 (p : Int))), none, none, none] 224 [.int (Z32 b)] := by
            intro b hb N2 K2 hN2 hK2
            rcases hb with ⟨hc, rfl⟩ | ⟨hc, rfl⟩
            · refine i_istore C dL_acts_224 (kk := ?_)
              refine i_aload_n C dL_acts_226 (kk := ?_)
              refine i_aload C dL_acts_227 (kk := ?_)
              refine i_iload C dL_acts_229 (kk := ?_)
              refine i_callS C lk_L_24 (c_L_now l hl D (h4 := l4) (hR := hR) (p := p)) (hst := rfl) dL_acts_231 (hf := ⟨by show _ ≤ 80; (try simp only [rmL]); omega, by show _ ≤ 700; (try simp only [rmL]); omega⟩) (kk := fun v231 w231 g231 => ?_)
              obtain ⟨rfl, q231⟩ := g231
              have q231 := q231.symm
              subst q231
              refine i_iload C dL_acts_234 (kk := ?_)
              refine i_if_eq C dL_acts_236 (tgt := 250) (kt := fun hB236 => ?_) (kf := fun hB236 => ?_)
              · exact absurd hB236 (by decide)
              · refine i_aload C dL_acts_239 (kk := ?_)
                refine i_bipush C dL_acts_241 (kk := ?_)
                refine i_iload C dL_acts_243 (kk := ?_)
                refine i_iadd C dL_acts_245 (kk := ?_)
                rw [show (10 : Int) + (k : Int) = ((10 + k : Nat) : Int) by omega]
                refine i_iaload C dL_acts_246 (hw := l4) (kk := ?_)
                rw [Int.toNat_natCast, hR.2.1 k hk]
                refine i_goto C dL_acts_247 (tgt := 259) (kk := ?_)
                refine i_iastore C dL_acts_259 (hw := l3) (kk := ?_)
                rw [Int.toNat_natCast]
                have hX3 := hX.put3 (fr2 := upz fr (12 * p + sNv σ p) (sUr σ k))
                obtain ⟨τ, ad, nb, tb, hW, e0, hA⟩ := hX3
                subst e0
                refine i_aload_n C dL_acts_260 (kk := ?_)
                refine i_iload C dL_acts_261 (kk := ?_)
                refine i_iload C dL_acts_263 (kk := ?_)
                refine i_callVF C lk_L_164 (c_X6_approve l hl D (hW := hW) (i0 := (k : Int)) (i := (p : Int))) (hcl := rfl) (hst := rfl) dL_acts_265 (hw := hW.obj) (hxx := fun E w1 h => h.2.1 ⟨by omega, by omega⟩) (hf := ⟨by show _ ≤ 80; (try simp only [rmL]); omega, by show _ ≤ 700; (try simp only [rmL]); omega⟩) (kk := fun v265 w265 g265 => ?_)
                obtain ⟨rfl, kW2, kO⟩ := ap_yes hc g265
                refine i_iload C dL_acts_268 (kk := ?_)
                refine i_icmp_ne C dL_acts_270 (tgt := 277) (kt := fun hB270 => ?_) (kf := fun hB270 => ?_)
                · exact absurd rfl hB270
                · refine i_iconst C dL_acts_273 (kk := ?_)
                  refine i_goto C dL_acts_274 (tgt := 278) (kk := ?_)
                  exact i_zret C (d := dL_acts_278) (hn := by show _ ≤ 80; (try simp only [rmL]); omega) (hk := by show _ ≤ 700; (try simp only [rmL]); omega) (ha := Or.inr rfl) (h := ⟨rfl, _, _, _, _, _, ⟨τ, ad, nb, tb, kW2, rfl, hA.off kO⟩, hR.appr hp _, hd⟩)
            · refine i_istore C dL_acts_224 (kk := ?_)
              refine i_aload_n C dL_acts_226 (kk := ?_)
              refine i_aload C dL_acts_227 (kk := ?_)
              refine i_iload C dL_acts_229 (kk := ?_)
              refine i_callS C lk_L_24 (c_L_now l hl D (h4 := l4) (hR := hR) (p := p)) (hst := rfl) dL_acts_231 (hf := ⟨by show _ ≤ 80; (try simp only [rmL]); omega, by show _ ≤ 700; (try simp only [rmL]); omega⟩) (kk := fun v231 w231 g231 => ?_)
              obtain ⟨rfl, q231⟩ := g231
              have q231 := q231.symm
              subst q231
              refine i_iload C dL_acts_234 (kk := ?_)
              refine i_if_eq C dL_acts_236 (tgt := 250) (kt := fun hB236 => ?_) (kf := fun hB236 => ?_)
              · refine i_aload_n C dL_acts_250 (kk := ?_)
                refine i_aload C dL_acts_251 (kk := ?_)
                refine i_iload C dL_acts_253 (kk := ?_)
                refine i_callS C lk_L_24 (c_L_now l hl D (h4 := l4) (hR := hR) (p := p)) (hst := rfl) dL_acts_255 (hf := ⟨by show _ ≤ 80; (try simp only [rmL]); omega, by show _ ≤ 700; (try simp only [rmL]); omega⟩) (kk := fun v255 w255 g255 => ?_)
                obtain ⟨rfl, q255⟩ := g255
                have q255 := q255.symm
                subst q255
                refine i_iaload C dL_acts_258 (hw := l3) (kk := ?_)
                rw [Int.toNat_natCast, hR.rk hp]
                refine i_iastore C dL_acts_259 (hw := l3) (kk := ?_)
                rw [Int.toNat_natCast, upz_same (hR.rk hp)]
                have hX3 := hX.put3 (fr2 := fr)
                obtain ⟨τ, ad, nb, tb, hW, e0, hA⟩ := hX3
                subst e0
                refine i_aload_n C dL_acts_260 (kk := ?_)
                refine i_iload C dL_acts_261 (kk := ?_)
                refine i_iload C dL_acts_263 (kk := ?_)
                refine i_callVF C lk_L_164 (c_X6_approve l hl D (hW := hW) (i0 := (k : Int)) (i := (p : Int))) (hcl := rfl) (hst := rfl) dL_acts_265 (hw := hW.obj) (hxx := fun E w1 h => h.2.1 ⟨by omega, by omega⟩) (hf := ⟨by show _ ≤ 80; (try simp only [rmL]); omega, by show _ ≤ 700; (try simp only [rmL]); omega⟩) (kk := fun v265 w265 g265 => ?_)
                obtain ⟨rfl, q265⟩ := ap_no hc g265
                have q265 := q265.symm
                subst q265
                refine i_iload C dL_acts_268 (kk := ?_)
                refine i_icmp_ne C dL_acts_270 (tgt := 277) (kt := fun hB270 => ?_) (kf := fun hB270 => ?_)
                · exact absurd rfl hB270
                · refine i_iconst C dL_acts_273 (kk := ?_)
                  refine i_goto C dL_acts_274 (tgt := 278) (kk := ?_)
                  exact i_zret C (d := dL_acts_278) (hn := by show _ ≤ 80; (try simp only [rmL]); omega) (hk := by show _ ≤ 700; (try simp only [rmL]); omega) (ha := Or.inr rfl) (h := ⟨rfl, _, _, _, _, _, ⟨τ, ad, nb, tb, hW, rfl, hA⟩, hR, hd⟩)
              · exact absurd rfl hB236
          refine i_icmp_lt C dL_acts_196 (tgt := 223) (kt := fun hB196 => ?_) (kf := fun hB196 => ?_)
          · refine i_iconst C dL_acts_223 (kk := ?_)
            exact jV _ (by omega) _ _ (by (try simp only [rmL]); omega) (by (try simp only [rmL]); omega)
          · refine i_aload C dL_acts_199 (kk := ?_)
            refine i_bipush C dL_acts_201 (kk := ?_)
            refine i_iload C dL_acts_203 (kk := ?_)
            refine i_iadd C dL_acts_205 (kk := ?_)
            rw [show (10 : Int) + (k : Int) = ((10 + k : Nat) : Int) by omega]
            refine i_iaload C dL_acts_206 (hw := l4) (kk := ?_)
            rw [Int.toNat_natCast, hR.2.1 k hk]
            refine i_aload_n C dL_acts_207 (kk := ?_)
            refine i_aload C dL_acts_208 (kk := ?_)
            refine i_iload C dL_acts_210 (kk := ?_)
            refine i_callS C lk_L_24 (c_L_now l hl D (h4 := l4) (hR := hR) (p := p)) (hst := rfl) dL_acts_212 (hf := ⟨by show _ ≤ 80; (try simp only [rmL]); omega, by show _ ≤ 700; (try simp only [rmL]); omega⟩) (kk := fun v212 w212 g212 => ?_)
            obtain ⟨rfl, q212⟩ := g212
            have q212 := q212.symm
            subst q212
            refine i_iaload C dL_acts_215 (hw := l3) (kk := ?_)
            rw [Int.toNat_natCast, hR.rk hp]
            refine i_icmp_le C dL_acts_216 (tgt := 223) (kt := fun hB216 => ?_) (kf := fun hB216 => ?_)
            · refine i_iconst C dL_acts_223 (kk := ?_)
              exact jV _ (by omega) _ _ (by (try simp only [rmL]); omega) (by (try simp only [rmL]); omega)
            · refine i_iconst C dL_acts_219 (kk := ?_)
              refine i_goto C dL_acts_220 (tgt := 224) (kk := ?_)
              exact jV _ (by omega) _ _ (by (try simp only [rmL]); omega) (by (try simp only [rmL]); omega)
      · refine i_aload C dL_acts_58 (kk := ?_)
        refine i_iload C dL_acts_60 (kk := ?_)
        refine i_iaload C dL_acts_62 (hw := l4) (kk := ?_)
        rw [Int.toNat_natCast, (hR.nv hp).1]
        refine i_if_ne C dL_acts_63 (tgt := 85) (kt := fun hB63 => ?_) (kf := fun hB63 => ?_)
        · refine i_aload C dL_acts_85 (kk := ?_)
          refine i_iload C dL_acts_87 (kk := ?_)
          refine i_callS C lk_L_24 (c_L_now l hl D (h4 := l4) (hR := hR) (p := p)) (hst := rfl) dL_acts_89 (hf := ⟨by show _ ≤ 80; (try simp only [rmL]); omega, by show _ ≤ 700; (try simp only [rmL]); omega⟩) (kk := fun v89 w89 g89 => ?_)
          obtain ⟨rfl, q89⟩ := g89
          have q89 := q89.symm
          subst q89
          refine i_iconst C dL_acts_92 (kk := ?_)
          refine i_isub C dL_acts_93 (kk := ?_)
          have h0 : 0 < sNv σ p := by omega
          obtain ⟨n1, hn1⟩ : ∃ n1, n1 = sNv σ p - 1 := ⟨_, rfl⟩
          rw [show ((12 * p + sNv σ p : Nat) : Int) - 1 = ((12 * p + n1 : Nat) : Int) by omega]
          obtain ⟨hTx, hz9, hr9⟩ := (hR.1 p hp).2.2.2 n1 (by omega)
          have hrk9 := (hS.2.1 p (by omega)).2.2.2.2.2 n1 (by omega)
          have hn20 : sNv σ p ≤ 11 := hn11
          refine i_istore C dL_acts_94 (kk := ?_)
          refine i_aload_n C dL_acts_96 (kk := ?_)
          refine i_aload_n C dL_acts_97 (kk := ?_)
          refine i_aload_n C dL_acts_98 (kk := ?_)
          refine i_aload C dL_acts_99 (kk := ?_)
          refine i_iload C dL_acts_101 (kk := ?_)
          refine i_iload C dL_acts_103 (kk := ?_)
          refine i_aload_n C dL_acts_105 (kk := ?_)
          refine i_iload C dL_acts_106 (kk := ?_)
          refine i_laload C dL_acts_108 (hw := l1) (kk := ?_)
          rw [Int.toNat_natCast]
          refine i_aload_n C dL_acts_109 (kk := ?_)
          refine i_iload C dL_acts_110 (kk := ?_)
          refine i_iaload C dL_acts_112 (hw := l2) (kk := ?_)
          rw [Int.toNat_natCast, hz9]
          refine i_aload_n C dL_acts_113 (kk := ?_)
          refine i_iload C dL_acts_114 (kk := ?_)
          refine i_iaload C dL_acts_116 (hw := l3) (kk := ?_)
          rw [Int.toNat_natCast, hr9]
          refine i_callS C lk_L_149 (c_L_refusal l hl D (w := w) (σ := σ) (rk := sRk σ p n1) (ps := sTx σ p n1) (h1 := l1) (h2 := l2) (h3 := l3) (h4 := l4) (hR := hR) (hS := hS) (hk := hk) (hp := hp) (hx := hTx) (hrk := hrk9.2.2)) (hst := rfl) dL_acts_117 (hf := ⟨by show _ ≤ 80; (try simp only [rmL]); omega, by show _ ≤ 700; (try simp only [rmL]); omega⟩) (kk := fun v117 w117 g117 => ?_)
          obtain ⟨rfl, hk117⟩ := g117
          have hX2 := hX.kept hk117
          obtain ⟨m1, m2, m3, m4⟩ := hX2.arr
          have hrR := rfS_R (σ := σ) (k := k) (p := p) (ps := sTx σ p n1) (rk := sRk σ p n1)
          have hun : rfS σ k p (sTx σ p n1) (sRk σ p n1) = unS σ k p := by rw [hn1]; rfl
          rw [hun] at hrR ⊢
          have hr0 := rf0_e hrR
          obtain ⟨r0, hr00⟩ : ∃ r0, rf0 (unS σ k p) = r0 := ⟨_, rfl⟩
          rw [hr00] at hr0 ⊢
          have hr0R : -6 ≤ r0 ∧ r0 ≤ 0 := by rw [← hr00]; unfold rf0; split <;> omega
          refine i_istore C dL_acts_120 (kk := ?_)
          refine i_aload C dL_acts_122 (kk := ?_)
          refine i_iload C dL_acts_124 (kk := ?_)
          refine i_dup2 C dL_acts_126 (kk := ?_)
          refine i_iaload C dL_acts_127 (hw := m4) (kk := ?_)
          rw [Int.toNat_natCast, (hR.nv hp).1]
          refine i_iload C dL_acts_128 (kk := ?_)
          refine i_if_ne C dL_acts_130 (tgt := 137) (kt := fun hB130 => ?_) (kf := fun hB130 => ?_)
          · have hne : unS σ k p ≠ -1 := fun z => hB130 (hr0.1.mpr z)
            have er := hr0.2 hne
            obtain ⟨eR, eT⟩ := un_no h0 hne
            refine i_iconst C dL_acts_137 (kk := ?_)
            refine i_isub C dL_acts_138 (kk := ?_)
            refine i_iastore C dL_acts_139 (hw := m4) (kk := ?_)
            rw [Int.toNat_natCast, Int.sub_zero, upz_same (hR.nv hp).1]
            have hX3 := hX2.put4 (fv2 := fv)
            refine i_aload_n C dL_acts_140 (kk := ?_)
            refine i_iload C dL_acts_141 (kk := ?_)
            refine i_iload C dL_acts_143 (kk := ?_)
            refine i_callSH C lk_L_160 (c_L_undone l hl D hX3 hk hp) (hst := rfl) dL_acts_145 (hf := ⟨by show _ ≤ 80; (try simp only [rmL]); omega, by show _ ≤ 700; (try simp only [rmL]); omega⟩) (kk := fun v145 w145 g145 => ?_)
            obtain ⟨rfl, hX4⟩ := g145
            rw [eR, ← er]
            rw [eT] at hX4
            refine i_iload C dL_acts_148 (kk := ?_)
            refine i_if_ne C dL_acts_150 (tgt := 161) (kt := fun hB150 => ?_) (kf := fun hB150 => ?_)
            · refine i_iload C dL_acts_161 (kk := ?_)
              refine i_icmp_ne C dL_acts_163 (tgt := 170) (kt := fun hB163 => ?_) (kf := fun hB163 => ?_)
              · exact absurd rfl hB163
              · refine i_iconst C dL_acts_166 (kk := ?_)
                refine i_goto C dL_acts_167 (tgt := 171) (kk := ?_)
                exact i_zret C (d := dL_acts_171) (hn := by show _ ≤ 80; (try simp only [rmL]); omega) (hk := by show _ ≤ 700; (try simp only [rmL]); omega) (ha := Or.inr rfl) (h := ⟨rfl, _, _, _, _, _, hX4, hR, hd⟩)
            · exact absurd hB150 hB130
          · have he1 : unS σ k p = -1 := hr0.1.mp hB130
            obtain ⟨eR, eT⟩ := un_yes h0 he1
            refine i_iconst C dL_acts_133 (kk := ?_)
            refine i_goto C dL_acts_134 (tgt := 138) (kk := ?_)
            refine i_isub C dL_acts_138 (kk := ?_)
            refine i_iastore C dL_acts_139 (hw := m4) (kk := ?_)
            rw [Int.toNat_natCast, show (sNv σ p : Int) - 1 = ((sNv σ p - 1 : Nat) : Int) by omega]
            have hX3 := hX2.put4 (fv2 := upz fv p ((sNv σ p - 1 : Nat) : Int))
            refine i_aload_n C dL_acts_140 (kk := ?_)
            refine i_iload C dL_acts_141 (kk := ?_)
            refine i_iload C dL_acts_143 (kk := ?_)
            refine i_callSH C lk_L_160 (c_L_undone l hl D hX3 hk hp) (hst := rfl) dL_acts_145 (hf := ⟨by show _ ≤ 80; (try simp only [rmL]); omega, by show _ ≤ 700; (try simp only [rmL]); omega⟩) (kk := fun v145 w145 g145 => ?_)
            obtain ⟨rfl, hX4⟩ := g145
            rw [eR]
            rw [eT] at hX4
            have m4 := hX4.arr.2.2.2
            refine i_iload C dL_acts_148 (kk := ?_)
            refine i_if_ne C dL_acts_150 (tgt := 161) (kt := fun hB150 => ?_) (kf := fun hB150 => ?_)
            · exact absurd hB130 hB150
            · refine i_aload C dL_acts_153 (kk := ?_)
              refine i_iload C dL_acts_155 (kk := ?_)
              refine i_iaload C dL_acts_157 (hw := m4) (kk := ?_)
              rw [Int.toNat_natCast, upz_eq]
              refine i_goto C dL_acts_158 (tgt := 163) (kk := ?_)
              refine i_icmp_ne C dL_acts_163 (tgt := 170) (kt := fun hB163 => ?_) (kf := fun hB163 => ?_)
              · exact absurd rfl hB163
              · refine i_iconst C dL_acts_166 (kk := ?_)
                refine i_goto C dL_acts_167 (tgt := 171) (kk := ?_)
                exact i_zret C (d := dL_acts_171) (hn := by show _ ≤ 80; (try simp only [rmL]); omega) (hk := by show _ ≤ 700; (try simp only [rmL]); omega) (ha := Or.inr rfl) (h := ⟨rfl, _, _, _, _, _, hX4, hR.undo hp h0, hd⟩)
        · refine i_aload_n C dL_acts_66 (kk := ?_)
          refine i_iload C dL_acts_67 (kk := ?_)
          refine i_iload C dL_acts_69 (kk := ?_)
          refine i_callSH C lk_L_160 (c_L_undone l hl D hX hk hp) (hst := rfl) dL_acts_71 (hf := ⟨by show _ ≤ 80; (try simp only [rmL]); omega, by show _ ≤ 700; (try simp only [rmL]); omega⟩) (kk := fun v71 w71 g71 => ?_)
          obtain ⟨rfl, hX2⟩ := g71
          have h0 : sNv σ p = 0 := by omega
          have eR : unR σ k p = -9 := if_pos h0
          have eT : unT σ k p = σ := if_pos h0
          rw [eR]
          rw [eT] at hX2
          refine i_bipush C dL_acts_74 (kk := ?_)
          refine i_icmp_ne C dL_acts_76 (tgt := 83) (kt := fun hB76 => ?_) (kf := fun hB76 => ?_)
          · exact absurd rfl hB76
          · refine i_iconst C dL_acts_79 (kk := ?_)
            refine i_goto C dL_acts_80 (tgt := 84) (kk := ?_)
            exact i_zret C (d := dL_acts_84) (hn := by show _ ≤ 80; (try simp only [rmL]); omega) (hk := by show _ ≤ 700; (try simp only [rmL]); omega) (ha := Or.inr rfl) (h := ⟨rfl, σ, ft, fz, fr, fv, hX2, hR, hd⟩)
    · refine i_aload_n C dL_acts_33 (kk := ?_)
      refine i_aload_n C dL_acts_34 (kk := ?_)
      refine i_aload_n C dL_acts_35 (kk := ?_)
      refine i_aload_n C dL_acts_36 (kk := ?_)
      refine i_aload C dL_acts_37 (kk := ?_)
      refine i_aload C dL_acts_39 (kk := ?_)
      refine i_iload C dL_acts_41 (kk := ?_)
      refine i_iload C dL_acts_43 (kk := ?_)
      refine i_iload C dL_acts_45 (kk := ?_)
      refine i_callS C lk_L_156 (c_L_isEdited l hl D hL hX hR hd hat hk hp (by omega)) (hst := rfl) dL_acts_47 (hf := ⟨by show _ ≤ 80; (try simp only [rmL]); omega, by show _ ≤ 700; (try simp only [rmL]); omega⟩) (kk := fun v47 w47 g47 => ?_)
      obtain ⟨rfl, hres⟩ := g47
      exact i_zret C (d := dL_acts_50) (hn := by show _ ≤ 80; (try simp only [rmL]); omega) (hk := by show _ ≤ 700; (try simp only [rmL]); omega) (ha := Or.inr rfl) (h := ⟨rfl, hres⟩)
