theorem ed_ref {D : gD} {w w1 : wW} {τ ad : Nat → Nat} {nb tb k p : Nat} {σ : Sg} {u : Option Value} (hne : edS σ k p ≠ -1) (h : ∃ k9 p9 : Nat, k9 < 6 ∧ (k : Int) = (k9 : Int) ∧ p9 < 12 ∧ (p : Int) = (p9 : Int) ∧ owc (sDr σ) = 0 ∧ sNv σ p9 < 20 ∧ ((edS σ k9 p9 ≠ -1 ∧ u = some (.int (Z32 (edS σ k9 p9))) ∧ WkI D w1 τ ad nb tb (uDr σ []) ∧ offR τ w w1 0 5000) ∨ (edS σ k9 p9 = -1 ∧ u = some (.int (Z32 ((sNv σ p9 + 1 : Nat) : Int))) ∧ ∃ τ2 ad2 : Nat → Nat, WkI D w1 τ2 ad2 tb nb (uEd σ k9 p9) ∧ (∀ r, r < 1000 ∨ 5000 ≤ r → ad2 r = ad r) ∧ ∀ q, w q ≠ none → 5000 ≤ τ q → τ2 q = τ q ∧ w1 q = w q))) : u = some (.int (Z32 (edS σ k p))) ∧ WkI D w1 τ ad nb tb (uDr σ []) ∧ offR τ w w1 0 5000 := by
  obtain ⟨k9, p9, -, e8, -, e9, -, -, hed⟩ := h
  have e7 : p = p9 := by omega
  subst e7
  have e6 : k = k9 := by omega
  subst e6
  rcases hed with ⟨-, h1, h2, h3⟩ | ⟨hy, -⟩
  · exact ⟨h1, h2, h3⟩
  · exact absurd hy hne
theorem ed_acc {D : gD} {w w1 : wW} {τ ad : Nat → Nat} {nb tb k p : Nat} {σ : Sg} {u : Option Value} (he : edS σ k p = -1) (h : ∃ k9 p9 : Nat, k9 < 6 ∧ (k : Int) = (k9 : Int) ∧ p9 < 12 ∧ (p : Int) = (p9 : Int) ∧ owc (sDr σ) = 0 ∧ sNv σ p9 < 20 ∧ ((edS σ k9 p9 ≠ -1 ∧ u = some (.int (Z32 (edS σ k9 p9))) ∧ WkI D w1 τ ad nb tb (uDr σ []) ∧ offR τ w w1 0 5000) ∨ (edS σ k9 p9 = -1 ∧ u = some (.int (Z32 ((sNv σ p9 + 1 : Nat) : Int))) ∧ ∃ τ2 ad2 : Nat → Nat, WkI D w1 τ2 ad2 tb nb (uEd σ k9 p9) ∧ (∀ r, r < 1000 ∨ 5000 ≤ r → ad2 r = ad r) ∧ ∀ q, w q ≠ none → 5000 ≤ τ q → τ2 q = τ q ∧ w1 q = w q))) : u = some (.int (Z32 ((sNv σ p + 1 : Nat) : Int))) ∧ ∃ τ2 ad2 : Nat → Nat, WkI D w1 τ2 ad2 tb nb (uEd σ k p) ∧ ad2 0 = ad 0 ∧ ∀ q, w q ≠ none → 5000 ≤ τ q → τ2 q = τ q ∧ w1 q = w q := by
  obtain ⟨k9, p9, -, e8, -, e9, -, -, hed⟩ := h
  have e7 : p = p9 := by omega
  subst e7
  have e6 : k = k9 := by omega
  subst e6
  rcases hed with ⟨hne, -⟩ | ⟨-, h1, τ2, ad2, h2, h3, h4⟩
  · exact absurd he hne
  · exact ⟨h1, τ2, ad2, h2, h3 0 (Or.inl (by decide)), h4⟩
theorem ed_no {σ : Sg} {k p : Nat} {ps : List Pc3} {E : String} {w w1 : wW} (hk : k < 6) (hp : p < 5) (h0 : owc ps = 0) (hn : sNv σ p < 11) (h : ((E = "java/lang/IndexOutOfBoundsException" ∧ ¬ ((0 ≤ (k : Int) ∧ (k : Int) < 6) ∧ 0 ≤ (p : Int) ∧ (p : Int) < 12)) ∨ (E = "java/lang/IllegalStateException" ∧ ∃ k9 p9 : Nat, k9 < 6 ∧ (k : Int) = (k9 : Int) ∧ p9 < 12 ∧ (p : Int) = (p9 : Int) ∧ (0 < owc (sDr (uDr σ ps)) ∨ 20 ≤ sNv (uDr σ ps) p9))) ∧ w1 = w) : False := by
  obtain ⟨h, -⟩ := h
  rcases h with ⟨-, h⟩ | ⟨-, k9, p9, -, -, -, e9, h⟩
  · exact h ⟨by omega, by omega⟩
  · have e7 : p = p9 := by omega
    subst e7
    rcases h with h | h
    · have h2 : 0 < owc ps := h
      omega
    · have h2 : 20 ≤ sNv σ p := h
      omega
theorem LwR.dr {σ : Sg} {ft : Nat → Int64} {fz fr fv : Nat → Int} (h : LwR σ ft fz fr fv) (d : List Pc3) : LwR (uDr σ d) ft fz fr fv := h
theorem rfS_3 {σ : Sg} (hS : SgOK σ) {k p : Nat} (hp : p < 12) (ps : List Pc3) : rfS σ k p ps 3 = edS (uDr σ ps) k p := by
  have h := frcS_R hS hp
  have e : edS (uDr σ ps) k p = if sUr σ k < frcS σ p then -2 else refS σ p ps := rfl
  rw [e]
  unfold rfS
  by_cases z : sUr σ k < frcS σ p
  · rw [if_pos z, if_pos (Or.inl z)]
  · rw [if_neg z, if_neg (by omega)]
/-- the arrays behind an edit -/
theorem LwR.edit {σ : Sg} {ft : Nat → Int64} {fz fr fv : Nat → Int} (h : LwR σ ft fz fr fv) {k p : Nat} (hp : p < 5) (h11 : sNv σ p < 11) {ps : List Pc3} {x : Int64} (hx : Tx64 ps x) : LwR (uEd (uDr σ ps) k p) (upz ft (12 * p + (sNv σ p + 1)) x) (upz fz (12 * p + (sNv σ p + 1)) (ps.length : Int)) (upz fr (12 * p + (sNv σ p + 1)) (sUr σ k)) (upz fv p ((sNv σ p + 1 : Nat) : Int)) := by
  obtain ⟨a, b, c⟩ := h
  refine ⟨fun q hq => ?_, fun u hu => ?_, fun q h5 hq => ?_⟩
  · obtain ⟨a1, a2, a3, a4⟩ := a q hq
    show upz fv p ((sNv σ p + 1 : Nat) : Int) q = ((upz (sNv σ) p (sNv σ p + 1) q : Nat) : Int) ∧ upz (sNv σ) p (sNv σ p + 1) q ≤ 11 ∧ upz fv p ((sNv σ p + 1 : Nat) : Int) (5 + q) = sLk σ q ∧ ∀ y, y ≤ upz (sNv σ) p (sNv σ p + 1) q → Tx64 (upz (sTx σ) p (upz (sTx σ p) (sNv σ p + 1) ps) q y) (upz ft (12 * p + (sNv σ p + 1)) x (12 * q + y)) ∧ upz fz (12 * p + (sNv σ p + 1)) (ps.length : Int) (12 * q + y) = ((upz (sTx σ) p (upz (sTx σ p) (sNv σ p + 1) ps) q y).length : Int) ∧ upz fr (12 * p + (sNv σ p + 1)) (sUr σ k) (12 * q + y) = upz (sRk σ) p (upz (sRk σ p) (sNv σ p + 1) (sUr σ k)) q y
    by_cases z : q = p
    · subst z
      rw [upz_eq, upz_eq, upz_eq, upz_eq, upz_ne (show 5 + q ≠ q by omega)]
      refine ⟨rfl, by omega, a3, fun y hy => ?_⟩
      by_cases zy : y = sNv σ q + 1
      · subst zy
        rw [upz_eq, upz_eq, upz_eq, upz_eq, upz_eq]
        exact ⟨hx, rfl, rfl⟩
      · rw [upz_ne zy, upz_ne (show 12 * q + y ≠ 12 * q + (sNv σ q + 1) by omega), upz_ne (show 12 * q + y ≠ 12 * q + (sNv σ q + 1) by omega), upz_ne (show 12 * q + y ≠ 12 * q + (sNv σ q + 1) by omega), upz_ne zy]
        exact a4 y (by omega)
    · rw [upz_ne z, upz_ne z, upz_ne z, upz_ne z, upz_ne (show 5 + q ≠ p by omega)]
      refine ⟨a1, a2, a3, fun y hy => ?_⟩
      have hne : 12 * q + y ≠ 12 * p + (sNv σ p + 1) := by omega
      rw [upz_ne hne, upz_ne hne, upz_ne hne]
      exact a4 y hy
  · show upz fv p _ (10 + u) = sUr σ u
    rw [upz_ne (by omega)]
    exact b u hu
  · obtain ⟨c1, c2, c3⟩ := c q h5 hq
    show upz (sNv σ) p (sNv σ p + 1) q = 0 ∧ upz (sTx σ) p (upz (sTx σ p) (sNv σ p + 1) ps) q 0 = [] ∧ sLk σ q = 0
    rw [upz_ne (by omega), upz_ne (by omega)]
    exact ⟨c1, c2, c3⟩
theorem X64_cod {c : Nat} (h : c < 50) : (Z32 (c : Int)).toInt64 = X64 c := i_X64 c (by omega)
theorem tx6_or {cs : List Nat} {c : Nat} (h : ∀ x ∈ cs, x < 50) : tx6 cs ||| c * 2 ^ (6 * cs.length) = tx6 (cs ++ [c]) := by
  have h1 := tx6_lt (cs := cs) (fun x hx => Nat.lt_trans (h x hx) (by decide))
  rw [← pow6] at h1
  rw [or_add h1, tx6_app, pow6]
theorem cod_snoc {cs : List Nat} {c : Nat} (h : ∀ x ∈ cs, x < 50) (hc : c < 50) : ∀ x ∈ cs ++ [c], x < 50 := fun x hx => by
  rcases List.mem_append.mp hx with z | z
  · exact h x z
  · rw [List.mem_singleton.mp z]; exact hc
theorem rf0_e {r : Int} (h : -6 ≤ r ∧ r ≤ -1) : (rf0 r = 0 ↔ r = -1) ∧ (r ≠ -1 → rf0 r = r) := by
  unfold rf0
  split
  · rename_i z
    exact ⟨⟨fun _ => z, fun _ => rfl⟩, fun y => absurd z y⟩
  · rename_i z
    exact ⟨⟨fun y => by omega, fun y => absurd y z⟩, fun _ => rfl⟩
theorem rfS_R {σ : Sg} {k p : Nat} {ps : List Pc3} {rk : Int} : -6 ≤ rfS σ k p ps rk ∧ rfS σ k p ps rk ≤ -1 := by
  unfold rfS
  split
  · omega
  · exact refS_neg
set_option maxRecDepth 100000 in
set_option maxHeartbeats 4000000 in
theorem c_L_isEdited (l : Launch) (hl : l.stackTraces = false) (D : gD) {w : wW} {x0 a1 a2 a3 a4 k p : Nat} {at0 : Int} {σ : Sg} {ft : Nat → Int64} {fz fr fv : Nat → Int} (hL : D.2.2.2.2.2.1 ≤ 260) (hX : LwS D w x0 a1 a2 a3 a4 σ ft fz fr fv) (hR : LwR σ ft fz fr fv) (hd : sDr σ = []) (hat : 0 ≤ at0 ∧ at0 ≤ 5000) (hk : k < 6) (hp : p < 5) (hn : sNv σ p < 11) : CTm l D yL_isEdited cL_isEdited 18 (some .boolean) (rmL 10 60 500) [.ref x0, .ref a1, .ref a2, .ref a3, .ref a4, .ref D.2.2.2.2.1, .int (Z32 at0), .int (Z32 (k : Int)), .int (Z32 (p : Int))] w (fun u w1 => u = some (.int (Z32 1)) ∧ ∃ (σ2 : Sg) (ft2 : Nat → Int64) (fz2 fr2 fv2 : Nat → Int), LwS D w1 x0 a1 a2 a3 a4 σ2 ft2 fz2 fr2 fv2 ∧ LwR σ2 ft2 fz2 fr2 fv2 ∧ sDr σ2 = []) := by
  refine CTm_of hl false rfl (by rfl) (Nat.le_of_ble_eq_true rfl) (fun h => nomatch h) ?_
  intro G C
  show G 0 0 w [some (.ref x0), some (.ref a1), some (.ref a2), some (.ref a3), some (.ref a4), some (.ref D.2.2.2.2.1), some (.int (Z32 at0)), some (.int (Z32 (k : Int))), some (.int (Z32 (p : Int))), none, none, none, none, none, none, none, none, none] 0 []
  refine i_aload C dL_isEdited_0 (kk := ?_)
  refine i_iload C dL_isEdited_2 (kk := ?_)
  refine i_bipush C dL_isEdited_4 (kk := ?_)
  refine i_callS C lk_L_141 (c_L_from l hl D hL (k := at0) (bl := 11) (by omega) (by omega) (by omega)) (hst := rfl) dL_isEdited_6 (kk := fun v6 w6 g6 => ?_)
  obtain ⟨⟨z0, rfl, hz0⟩, q6⟩ := g6
  have q6 := q6.symm
  subst q6
  refine i_istore C dL_isEdited_9 (kk := ?_)
  refine i_iconst C dL_isEdited_11 (kk := ?_)
  refine i_istore C dL_isEdited_12 (kk := ?_)
  refine i_lconst C dL_isEdited_14 (kk := ?_)
  refine i_lstore C dL_isEdited_15 (kk := ?_)
  refine i_iconst C dL_isEdited_17 (kk := ?_)
  refine i_istore C dL_isEdited_18 (kk := ?_)
  refine i_iload C dL_isEdited_20 (kk := ?_)
  refine i_bipush C dL_isEdited_22 (kk := ?_)
  have jS : ∀ s0 : Int, (0 ≤ s0 ∧ s0 ≤ 9) → G 0 0 w [some (.ref x0), some (.ref a1), some (.ref a2), some (.ref a3), some (.ref a4), some (.ref D.2.2.2.2.1), some (.int (Z32 at0)), some (.int (Z32 (k : Int))), some (.int (Z32 (p : Int))), some (.int (Z32 (z0 : Int))), some (.int (Z32 0)), some (.long 0), none, some (.int (Z32 1)), none, none, none, none] 33 [.int (Z32 s0)] := by
    intro s0 hs0
    obtain ⟨sz, rfl⟩ := Int.eq_ofNat_of_zero_le hs0.1
    refine i_istore C dL_isEdited_33 (kk := ?_)
    refine i_iconst C dL_isEdited_35 (kk := ?_)
    refine i_istore C dL_isEdited_36 (kk := ?_)
    have lp : ∀ (m i : Nat) (N K e : Nat) (W : wW) (cs : List Nat) (o15 o16 o17 : Option Value), sz + 1 ≤ m + i → i ≤ sz → N ≤ 3 * i → K ≤ 18 * i → LwS D W x0 a1 a2 a3 a4 (uDr σ (cs.map dc6)) ft fz fr fv → (∀ c ∈ cs, c < 50) → cs.length = i → owc (cs.map dc6) = (e : Int) → e ≤ sz - i → G N K W [some (.ref x0), some (.ref a1), some (.ref a2), some (.ref a3), some (.ref a4), some (.ref D.2.2.2.2.1), some (.int (Z32 at0)), some (.int (Z32 (k : Int))), some (.int (Z32 (p : Int))), some (.int (Z32 (sz : Int))), some (.int (Z32 (e : Int))), some (.long (X64 (tx6 cs))), none, some (.int (Z32 1)), some (.int (Z32 (i : Int))), o15, o16, o17] 38 [] := by
      intro m
      induction m with
      | zero => intro i N K e W cs o15 o16 o17 h1 h2; omega
      | succ m ih =>
      intro i N K e W cs o15 o16 o17 h1 h2 hN hK hLS hcs hcl how hes
      refine i_iload C dL_isEdited_38 (kk := ?_)
      refine i_iload C dL_isEdited_40 (kk := ?_)
      refine i_icmp_ge C dL_isEdited_42 (tgt := 391) (kt := fun hB42 => ?_) (kf := fun hB42 => ?_)
      · have ei : i = sz := by omega
        subst ei
        subst hcl
        have hXS := hLS.x.ok
        obtain ⟨k1, k2, k3, k4⟩ := hLS.arr
        have hTx : Tx64 (cs.map dc6) (X64 (tx6 cs)) := ⟨cs, rfl, hcs, by omega, rfl⟩
        obtain ⟨ps, hps⟩ : ∃ ps, ps = cs.map dc6 := ⟨_, rfl⟩
        have hpl : ps.length = cs.length := by rw [hps, List.length_map]
        rw [← hps] at hTx hLS how hXS
        rw [show ((cs.length : Nat) : Int) = ((ps.length : Nat) : Int) by rw [hpl]]
        refine i_aload_n C dL_isEdited_391 (kk := ?_)
        refine i_aload_n C dL_isEdited_392 (kk := ?_)
        refine i_aload_n C dL_isEdited_393 (kk := ?_)
        refine i_aload C dL_isEdited_394 (kk := ?_)
        refine i_iload C dL_isEdited_396 (kk := ?_)
        refine i_iload C dL_isEdited_398 (kk := ?_)
        refine i_lload C dL_isEdited_400 (kk := ?_)
        refine i_iload C dL_isEdited_402 (kk := ?_)
        refine i_iconst C dL_isEdited_404 (kk := ?_)
        refine i_callS C lk_L_149 (c_L_refusal l hl D (w := W) (σ := uDr σ ps) (rk := 3) (h1 := k1) (h2 := k2) (h3 := k3) (h4 := k4) (hR := hR.dr ps) (hS := hXS) (hk := hk) (hp := hp) (hx := hTx) (hrk := by omega)) (hst := rfl) dL_isEdited_405 (hf := ⟨by show _ ≤ 60; (try simp only [rmL]); omega, by show _ ≤ 500; (try simp only [rmL]); omega⟩) (kk := fun v405 w405 g405 => ?_)
        obtain ⟨rfl, hk405⟩ := g405
        have hLS5 := hLS.kept hk405
        obtain ⟨l1, l2, l3, l4⟩ := hLS5.arr
        have hrR := rfS_R (σ := uDr σ ps) (k := k) (p := p) (ps := ps) (rk := 3)
        have hr3 : rfS (uDr σ ps) k p ps 3 = edS (uDr σ ps) k p := rfS_3 hXS (k := k) (p := p) (by omega) ps
        have hr0 := rf0_e hrR
        obtain ⟨rr, hrr⟩ : ∃ rr, rfS (uDr σ ps) k p ps 3 = rr := ⟨_, rfl⟩
        rw [hrr] at hr0 hrR hr3 ⊢
        obtain ⟨r0, hr00⟩ : ∃ r0, rf0 rr = r0 := ⟨_, rfl⟩
        rw [hr00] at hr0 ⊢
        have hr0R : -6 ≤ r0 ∧ r0 ≤ 0 := by rw [← hr00]; unfold rf0; split <;> omega
        have hurk := hXS.2.2 k hk
        have hn11 : sNv (uDr σ ps) p < 11 := hn
        refine i_istore C dL_isEdited_408 (kk := ?_)
        refine i_iload C dL_isEdited_410 (kk := ?_)
        refine i_if_ne C dL_isEdited_412 (tgt := 463) (kt := fun hB412 => ?_) (kf := fun hB412 => ?_)
        · have hne : rr ≠ -1 := fun z => hB412 (hr0.1.mpr z)
          have er := hr0.2 hne
          obtain ⟨τ, ad, nb, tb, hW, e0, hA⟩ := hLS5
          subst e0
          have howz : owc ps = 0 := by omega
          refine i_iload C dL_isEdited_463 (kk := ?_)
          refine i_if_eq C dL_isEdited_465 (tgt := 498) (kt := fun hB465 => ?_) (kf := fun hB465 => ?_)
          · exact absurd hB465 (by decide)
          · refine i_aload_n C dL_isEdited_468 (kk := ?_)
            refine i_iload C dL_isEdited_469 (kk := ?_)
            refine i_iload C dL_isEdited_471 (kk := ?_)
            refine i_callVF C lk_L_153 (c_X6_edit l hl D (hW := hW) (i0 := (k : Int)) (i := (p : Int))) (hcl := rfl) (hst := rfl) dL_isEdited_473 (hw := hW.obj) (hxx := fun E w1 h => ed_no hk hp howz hn h) (hf := ⟨by show _ ≤ 60; (try simp only [rmL]); omega, by show _ ≤ 500; (try simp only [rmL]); omega⟩) (kk := fun v473 w473 g473 => ?_)
            have hed := ed_ref (hr3 ▸ hne) g473
            obtain ⟨rfl, kW2, kO⟩ := hed
            rw [← hr3, ← er]
            refine i_iload C dL_isEdited_476 (kk := ?_)
            refine i_if_ne C dL_isEdited_478 (tgt := 489) (kt := fun hB478 => ?_) (kf := fun hB478 => ?_)
            · refine i_iload C dL_isEdited_489 (kk := ?_)
              refine i_icmp_ne C dL_isEdited_491 (tgt := 498) (kt := fun hB491 => ?_) (kf := fun hB491 => ?_)
              · exact absurd rfl hB491
              · refine i_iconst C dL_isEdited_494 (kk := ?_)
                refine i_goto C dL_isEdited_495 (tgt := 499) (kk := ?_)
                exact i_zret C (d := dL_isEdited_499) (hn := by show _ ≤ 60; (try simp only [rmL]); omega) (hk := by show _ ≤ 500; (try simp only [rmL]); omega) (ha := Or.inr rfl) (h := ⟨rfl, _, _, _, _, _, ⟨τ, ad, nb, tb, kW2, rfl, hA.off kO⟩, hR.dr [], rfl⟩)
            · exact absurd hB478 hB412
        · have he1 : rr = -1 := hr0.1.mp hB412
          refine i_aload C dL_isEdited_415 (kk := ?_)
          refine i_iload C dL_isEdited_417 (kk := ?_)
          refine i_dup2 C dL_isEdited_419 (kk := ?_)
          refine i_iaload C dL_isEdited_420 (hw := l4) (kk := ?_)
          rw [Int.toNat_natCast, (hR.nv hp).1]
          refine i_iconst C dL_isEdited_421 (kk := ?_)
          refine i_iadd C dL_isEdited_422 (kk := ?_)
          refine i_iastore C dL_isEdited_423 (hw := l4) (kk := ?_)
          rw [Int.toNat_natCast, show (sNv σ p : Int) + 1 = ((sNv σ p + 1 : Nat) : Int) by omega]
          have hLS6 := hLS5.put4 (fv2 := upz fv p ((sNv σ p + 1 : Nat) : Int))
          have m4 := hLS6.arr.2.2.2
          refine i_aload_n C dL_isEdited_424 (kk := ?_)
          refine i_aload C dL_isEdited_425 (kk := ?_)
          refine i_iload C dL_isEdited_427 (kk := ?_)
          refine i_callS C lk_L_24 (cG_L_now l hl D (h4 := m4) (n := sNv σ p + 1) upz_eq hp) (hst := rfl) dL_isEdited_429 (hf := ⟨by show _ ≤ 60; (try simp only [rmL]); omega, by show _ ≤ 500; (try simp only [rmL]); omega⟩) (kk := fun v429 w429 g429 => ?_)
          obtain ⟨rfl, q429⟩ := g429
          have q429 := q429.symm
          subst q429
          refine i_lload C dL_isEdited_432 (kk := ?_)
          refine i_lastore C dL_isEdited_434 (hw := hLS6.arr.1) (kk := ?_)
          rw [Int.toNat_natCast]
          have hLS7 := hLS6.put1 (ft2 := upz ft (12 * p + (sNv σ p + 1)) (X64 (tx6 cs)))
          have m4 := hLS7.arr.2.2.2
          refine i_aload_n C dL_isEdited_435 (kk := ?_)
          refine i_aload C dL_isEdited_436 (kk := ?_)
          refine i_iload C dL_isEdited_438 (kk := ?_)
          refine i_callS C lk_L_24 (cG_L_now l hl D (h4 := m4) (n := sNv σ p + 1) upz_eq hp) (hst := rfl) dL_isEdited_440 (hf := ⟨by show _ ≤ 60; (try simp only [rmL]); omega, by show _ ≤ 500; (try simp only [rmL]); omega⟩) (kk := fun v440 w440 g440 => ?_)
          obtain ⟨rfl, q440⟩ := g440
          have q440 := q440.symm
          subst q440
          refine i_iload C dL_isEdited_443 (kk := ?_)
          refine i_iastore C dL_isEdited_445 (hw := hLS7.arr.2.1) (kk := ?_)
          rw [Int.toNat_natCast]
          have hLS8 := hLS7.put2 (fz2 := upz fz (12 * p + (sNv σ p + 1)) ((ps.length : Nat) : Int))
          have m4 := hLS8.arr.2.2.2
          refine i_aload_n C dL_isEdited_446 (kk := ?_)
          refine i_aload C dL_isEdited_447 (kk := ?_)
          refine i_iload C dL_isEdited_449 (kk := ?_)
          refine i_callS C lk_L_24 (cG_L_now l hl D (h4 := m4) (n := sNv σ p + 1) upz_eq hp) (hst := rfl) dL_isEdited_451 (hf := ⟨by show _ ≤ 60; (try simp only [rmL]); omega, by show _ ≤ 500; (try simp only [rmL]); omega⟩) (kk := fun v451 w451 g451 => ?_)
          obtain ⟨rfl, q451⟩ := g451
          have q451 := q451.symm
          subst q451
          refine i_aload C dL_isEdited_454 (kk := ?_)
          refine i_bipush C dL_isEdited_456 (kk := ?_)
          refine i_iload C dL_isEdited_458 (kk := ?_)
          refine i_iadd C dL_isEdited_460 (kk := ?_)
          rw [show (10 : Int) + (k : Int) = ((10 + k : Nat) : Int) by omega]
          refine i_iaload C dL_isEdited_461 (hw := m4) (kk := ?_)
          rw [Int.toNat_natCast, upz_ne (show 10 + k ≠ p by omega), hR.2.1 k hk]
          refine i_iastore C dL_isEdited_462 (hw := hLS8.arr.2.2.1) (kk := ?_)
          rw [Int.toNat_natCast]
          have hLS9 := hLS8.put3 (fr2 := upz fr (12 * p + (sNv σ p + 1)) (sUr σ k))
          have m4 := hLS9.arr.2.2.2
          have hRE := hR.edit (k := k) hp hn hTx
          obtain ⟨τ, ad, nb, tb, hW, e0, hA⟩ := hLS9
          subst e0
          have howz : owc ps = 0 := by omega
          refine i_iload C dL_isEdited_463 (kk := ?_)
          refine i_if_eq C dL_isEdited_465 (tgt := 498) (kt := fun hB465 => ?_) (kf := fun hB465 => ?_)
          · exact absurd hB465 (by decide)
          · refine i_aload_n C dL_isEdited_468 (kk := ?_)
            refine i_iload C dL_isEdited_469 (kk := ?_)
            refine i_iload C dL_isEdited_471 (kk := ?_)
            refine i_callVF C lk_L_153 (c_X6_edit l hl D (hW := hW) (i0 := (k : Int)) (i := (p : Int))) (hcl := rfl) (hst := rfl) dL_isEdited_473 (hw := hW.obj) (hxx := fun E w1 h => ed_no hk hp howz hn h) (hf := ⟨by show _ ≤ 60; (try simp only [rmL]); omega, by show _ ≤ 500; (try simp only [rmL]); omega⟩) (kk := fun v473 w473 g473 => ?_)
            obtain ⟨rfl, τ2, ad2, kW2, h0, hkk⟩ := ed_acc (hr3.symm.trans he1) g473
            have kA2 := hA.ret hkk
            have m4 := kA2.2.2.2.2
            refine i_iload C dL_isEdited_476 (kk := ?_)
            refine i_if_ne C dL_isEdited_478 (tgt := 489) (kt := fun hB478 => ?_) (kf := fun hB478 => ?_)
            · exact absurd hB412 hB478
            · refine i_aload C dL_isEdited_481 (kk := ?_)
              refine i_iload C dL_isEdited_483 (kk := ?_)
              refine i_iaload C dL_isEdited_485 (hw := m4) (kk := ?_)
              rw [Int.toNat_natCast, upz_eq]
              refine i_goto C dL_isEdited_486 (tgt := 491) (kk := ?_)
              refine i_icmp_ne C dL_isEdited_491 (tgt := 498) (kt := fun hB491 => ?_) (kf := fun hB491 => ?_)
              · exact absurd rfl hB491
              · refine i_iconst C dL_isEdited_494 (kk := ?_)
                refine i_goto C dL_isEdited_495 (tgt := 499) (kk := ?_)
                exact i_zret C (d := dL_isEdited_499) (hn := by show _ ≤ 60; (try simp only [rmL]); omega) (hk := by show _ ≤ 500; (try simp only [rmL]); omega) (ha := Or.inr rfl) (h := ⟨rfl, _, _, _, _, _, ⟨τ2, ad2, tb, nb, kW2, h0, kA2⟩, hRE, rfl⟩)
      · have hS := hLS.x.ok
        refine i_iload C dL_isEdited_45 (kk := ?_)
        refine i_if_eq C dL_isEdited_47 (tgt := 391) (kt := fun hB47 => ?_) (kf := fun hB47 => ?_)
        · exact absurd hB47 (by decide)
        · refine i_aload C dL_isEdited_50 (kk := ?_)
          refine i_iload C dL_isEdited_52 (kk := ?_)
          refine i_iconst C dL_isEdited_54 (kk := ?_)
          refine i_iadd C dL_isEdited_55 (kk := ?_)
          refine i_iload C dL_isEdited_56 (kk := ?_)
          refine i_iadd C dL_isEdited_58 (kk := ?_)
          refine i_sipush C dL_isEdited_59 (kk := ?_)
          refine i_callS C lk_L_141 (c_L_from l hl D hL (k := at0 + 1 + (i : Int)) (bl := 1000) (by omega) (by omega) (by omega)) (hst := rfl) dL_isEdited_62 (hf := ⟨by show _ ≤ 60; (try simp only [rmL]); omega, by show _ ≤ 500; (try simp only [rmL]); omega⟩) (kk := fun v62 w62 g62 => ?_)
          obtain ⟨⟨z1, rfl, hz1⟩, q62⟩ := g62
          have q62 := q62.symm
          subst q62
          refine i_istore C dL_isEdited_65 (kk := ?_)
          refine i_iload C dL_isEdited_67 (kk := ?_)
          refine i_bipush C dL_isEdited_69 (kk := ?_)
          refine i_irem C dL_isEdited_71 (kk := ?_)
          refine i_istore C dL_isEdited_72 (kk := ?_)
          refine i_iload C dL_isEdited_74 (kk := ?_)
          refine i_iconst C dL_isEdited_76 (kk := ?_)
          have jP : ∀ ci : Int, (0 ≤ ci ∧ ci < 50) → ∀ N2 K2 : Nat, N2 ≤ 3 * i → K2 ≤ 18 * i → G N2 K2 W [some (.ref x0), some (.ref a1), some (.ref a2), some (.ref a3), some (.ref a4), some (.ref D.2.2.2.2.1), some (.int (Z32 at0)), some (.int (Z32 (k : Int))), some (.int (Z32 (p : Int))), some (.int (Z32 (sz : Int))), some (.int (Z32 (e : Int))), some (.long (X64 (tx6 cs))), none, some (.int (Z32 1)), some (.int (Z32 (i : Int))), some (.int (Z32 (z1 : Int))), some (.int (Z32 ((z1 : Int) % 16))), o17] 249 [.int (Z32 ci)] := by
            intro ci hci N2 K2 hN2 hK2
            refine i_istore C dL_isEdited_249 (kk := ?_)
            refine i_iload C dL_isEdited_251 (kk := ?_)
            refine i_iload C dL_isEdited_253 (kk := ?_)
            refine i_iload C dL_isEdited_255 (kk := ?_)
            refine i_isub C dL_isEdited_257 (kk := ?_)
            have jQ : ∀ cj : Int, (0 ≤ cj ∧ cj < 50) → (cj = 32 → 0 < e) → (cj ≠ 32 → e < sz - i) → (29 ≤ cj ∧ cj < 32 → e + 2 ≤ sz - i) → ∀ N3 K3 : Nat, N3 ≤ 3 * i → K3 ≤ 18 * i → G N3 K3 W [some (.ref x0), some (.ref a1), some (.ref a2), some (.ref a3), some (.ref a4), some (.ref D.2.2.2.2.1), some (.int (Z32 at0)), some (.int (Z32 (k : Int))), some (.int (Z32 (p : Int))), some (.int (Z32 (sz : Int))), some (.int (Z32 (e : Int))), some (.long (X64 (tx6 cs))), none, some (.int (Z32 1)), some (.int (Z32 (i : Int))), some (.int (Z32 (z1 : Int))), some (.int (Z32 ((z1 : Int) % 16))), some (.int (Z32 ci))] 314 [.int (Z32 cj)] := by
              intro cj hcj hq1 hq2 hq3 N3 K3 hN3 hK3
              obtain ⟨c, rfl⟩ := Int.eq_ofNat_of_zero_le hcj.1
              have hc5 : c < 50 := by omega
              have hdw := dow6 hc5
              have howa : owc ((cs ++ [c]).map dc6) = owc (cs.map dc6) + dow (dc6 c).1 := by rw [List.map_append, owc_app]; show _ + (dow (dc6 c).1 + owc []) = _; rw [show owc [] = 0 from rfl]; omega
              refine i_istore C dL_isEdited_314 (kk := ?_)
              refine i_iload C dL_isEdited_316 (kk := ?_)
              refine i_iload C dL_isEdited_318 (kk := ?_)
              refine i_bipush C dL_isEdited_320 (kk := ?_)
              have jO : ∀ b : Int, b = dow (dc6 c).1 → ∀ N4 K4 : Nat, N4 ≤ 3 * i → K4 ≤ 18 * i → G N4 K4 W [some (.ref x0), some (.ref a1), some (.ref a2), some (.ref a3), some (.ref a4), some (.ref D.2.2.2.2.1), some (.int (Z32 at0)), some (.int (Z32 (k : Int))), some (.int (Z32 (p : Int))), some (.int (Z32 (sz : Int))), some (.int (Z32 (e : Int))), some (.long (X64 (tx6 cs))), none, some (.int (Z32 1)), some (.int (Z32 (i : Int))), some (.int (Z32 (z1 : Int))), some (.int (Z32 ((z1 : Int) % 16))), some (.int (Z32 (c : Int)))] 348 [.int (Z32 b), .int (Z32 (e : Int))] := by
                intro b hb N4 K4 hN4 hK4
                obtain ⟨e2, he2⟩ : ∃ e2 : Nat, (e2 : Int) = e + b := ⟨(e + b).toNat, by have := hdw.1; have := hdw.2.1; have := hdw.2.2; omega⟩
                refine i_iadd C dL_isEdited_348 (kk := ?_)
                rw [← he2]
                refine i_istore C dL_isEdited_349 (kk := ?_)
                refine i_lload C dL_isEdited_351 (kk := ?_)
                refine i_iload C dL_isEdited_353 (kk := ?_)
                refine i_i2l C dL_isEdited_355 (kk := ?_)
                rw [X64_cod hc5]
                refine i_bipush C dL_isEdited_356 (kk := ?_)
                refine i_iload C dL_isEdited_358 (kk := ?_)
                refine i_imul C dL_isEdited_360 (kk := ?_)
                rw [show (6 : Int) * (i : Int) = ((6 * i : Nat) : Int) by omega]
                refine i_lshl C dL_isEdited_361 (hz := X64_shl (by omega)) (kk := ?_)
                refine i_lor C dL_isEdited_362 (hz := (X64_or _ _).trans (congrArg X64 (show tx6 cs ||| c * 2 ^ (6 * i) = tx6 (cs ++ [c]) from by rw [← hcl]; exact tx6_or hcs))) (kk := ?_)
                refine i_lstore C dL_isEdited_363 (kk := ?_)
                refine i_aload_n C dL_isEdited_365 (kk := ?_)
                refine i_iload C dL_isEdited_366 (kk := ?_)
                refine i_callS C lk_L_145 (c_L_added l hl D hLS (c := c) (n := i) hc5 (by show (cs.map dc6).length = i; rw [List.length_map]; exact hcl) (by omega) (fun z => by show 0 < owc (cs.map dc6); have := hq1 (by omega); omega)) (hst := rfl) dL_isEdited_368 (hf := ⟨by show _ ≤ 60; (try simp only [rmL]); omega, by show _ ≤ 500; (try simp only [rmL]); omega⟩) (kk := fun v368 w368 g368 => ?_)
                obtain ⟨rfl, hLS2⟩ := g368
                have hLS3 : LwS D w368 x0 a1 a2 a3 a4 (uDr σ ((cs ++ [c]).map dc6)) ft fz fr fv := by rw [List.map_append]; exact hLS2
                refine i_iload C dL_isEdited_371 (kk := ?_)
                refine i_iconst C dL_isEdited_373 (kk := ?_)
                refine i_iadd C dL_isEdited_374 (kk := ?_)
                refine i_icmp_ne C dL_isEdited_375 (tgt := 382) (kt := fun hB375 => ?_) (kf := fun hB375 => ?_)
                · exact absurd (by omega) hB375
                · refine i_iconst C dL_isEdited_378 (kk := ?_)
                  refine i_goto C dL_isEdited_379 (tgt := 383) (kk := ?_)
                  refine i_istore C dL_isEdited_383 (kk := ?_)
                  refine i_iinc C dL_isEdited_385 (kk := ?_)
                  rw [show (i : Int) + 1 = ((i + 1 : Nat) : Int) by omega]
                  refine i_goto C dL_isEdited_388 (tgt := 38) (kk := ?_)
                  exact ih (i + 1) _ _ e2 _ (cs ++ [c]) _ _ _ (by omega) (by omega) (by (try simp only [rmL]); omega) (by (try simp only [rmL]); omega) hLS3 (cod_snoc hcs hc5) (by rw [List.length_append, hcl]; rfl) (by rw [howa, how, ← hb]; omega) (by omega)
              refine i_icmp_lt C dL_isEdited_322 (tgt := 336) (kt := fun hB322 => ?_) (kf := fun hB322 => ?_)
              · refine i_iload C dL_isEdited_336 (kk := ?_)
                refine i_bipush C dL_isEdited_338 (kk := ?_)
                refine i_icmp_ne C dL_isEdited_340 (tgt := 347) (kt := fun hB340 => ?_) (kf := fun hB340 => ?_)
                · have hd1 := hdw.2.2 (by omega)
                  refine i_iconst C dL_isEdited_347 (kk := ?_)
                  exact jO _ (by omega) _ _ (by (try simp only [rmL]); omega) (by (try simp only [rmL]); omega)
                · have hd1 := hdw.2.1.mpr (by omega)
                  refine i_iconst C dL_isEdited_343 (kk := ?_)
                  refine i_goto C dL_isEdited_344 (tgt := 348) (kk := ?_)
                  exact jO _ (by omega) _ _ (by (try simp only [rmL]); omega) (by (try simp only [rmL]); omega)
              · refine i_iload C dL_isEdited_325 (kk := ?_)
                refine i_bipush C dL_isEdited_327 (kk := ?_)
                refine i_icmp_ge C dL_isEdited_329 (tgt := 336) (kt := fun hB329 => ?_) (kf := fun hB329 => ?_)
                · refine i_iload C dL_isEdited_336 (kk := ?_)
                  refine i_bipush C dL_isEdited_338 (kk := ?_)
                  refine i_icmp_ne C dL_isEdited_340 (tgt := 347) (kt := fun hB340 => ?_) (kf := fun hB340 => ?_)
                  · have hd1 := hdw.2.2 (by omega)
                    refine i_iconst C dL_isEdited_347 (kk := ?_)
                    exact jO _ (by omega) _ _ (by (try simp only [rmL]); omega) (by (try simp only [rmL]); omega)
                  · have hd1 := hdw.2.1.mpr (by omega)
                    refine i_iconst C dL_isEdited_343 (kk := ?_)
                    refine i_goto C dL_isEdited_344 (tgt := 348) (kk := ?_)
                    exact jO _ (by omega) _ _ (by (try simp only [rmL]); omega) (by (try simp only [rmL]); omega)
                · have hd1 := hdw.1.mpr (by omega)
                  refine i_iconst C dL_isEdited_332 (kk := ?_)
                  refine i_goto C dL_isEdited_333 (tgt := 348) (kk := ?_)
                  exact jO _ (by omega) _ _ (by (try simp only [rmL]); omega) (by (try simp only [rmL]); omega)
            refine i_icmp_lt C dL_isEdited_258 (tgt := 266) (kt := fun hB258 => ?_) (kf := fun hB258 => ?_)
            · refine i_iload C dL_isEdited_266 (kk := ?_)
              refine i_bipush C dL_isEdited_268 (kk := ?_)
              refine i_icmp_lt C dL_isEdited_270 (tgt := 296) (kt := fun hB270 => ?_) (kf := fun hB270 => ?_)
              · refine i_iload C dL_isEdited_296 (kk := ?_)
                refine i_bipush C dL_isEdited_298 (kk := ?_)
                refine i_icmp_ne C dL_isEdited_300 (tgt := 312) (kt := fun hB300 => ?_) (kf := fun hB300 => ?_)
                · refine i_iload C dL_isEdited_312 (kk := ?_)
                  exact jQ _ (by omega) (by omega) (by omega) (by omega) _ _ (by (try simp only [rmL]); omega) (by (try simp only [rmL]); omega)
                · refine i_iload C dL_isEdited_303 (kk := ?_)
                  refine i_if_ne C dL_isEdited_305 (tgt := 312) (kt := fun hB305 => ?_) (kf := fun hB305 => ?_)
                  · refine i_iload C dL_isEdited_312 (kk := ?_)
                    exact jQ _ (by omega) (by omega) (by omega) (by omega) _ _ (by (try simp only [rmL]); omega) (by (try simp only [rmL]); omega)
                  · refine i_iconst C dL_isEdited_308 (kk := ?_)
                    refine i_goto C dL_isEdited_309 (tgt := 314) (kk := ?_)
                    exact jQ _ (by omega) (by omega) (by omega) (by omega) _ _ (by (try simp only [rmL]); omega) (by (try simp only [rmL]); omega)
              · refine i_iload C dL_isEdited_273 (kk := ?_)
                refine i_bipush C dL_isEdited_275 (kk := ?_)
                refine i_icmp_ge C dL_isEdited_277 (tgt := 296) (kt := fun hB277 => ?_) (kf := fun hB277 => ?_)
                · refine i_iload C dL_isEdited_296 (kk := ?_)
                  refine i_bipush C dL_isEdited_298 (kk := ?_)
                  refine i_icmp_ne C dL_isEdited_300 (tgt := 312) (kt := fun hB300 => ?_) (kf := fun hB300 => ?_)
                  · refine i_iload C dL_isEdited_312 (kk := ?_)
                    exact jQ _ (by omega) (by omega) (by omega) (by omega) _ _ (by (try simp only [rmL]); omega) (by (try simp only [rmL]); omega)
                  · refine i_iload C dL_isEdited_303 (kk := ?_)
                    refine i_if_ne C dL_isEdited_305 (tgt := 312) (kt := fun hB305 => ?_) (kf := fun hB305 => ?_)
                    · refine i_iload C dL_isEdited_312 (kk := ?_)
                      exact jQ _ (by omega) (by omega) (by omega) (by omega) _ _ (by (try simp only [rmL]); omega) (by (try simp only [rmL]); omega)
                    · refine i_iconst C dL_isEdited_308 (kk := ?_)
                      refine i_goto C dL_isEdited_309 (tgt := 314) (kk := ?_)
                      exact jQ _ (by omega) (by omega) (by omega) (by omega) _ _ (by (try simp only [rmL]); omega) (by (try simp only [rmL]); omega)
                · refine i_iload C dL_isEdited_280 (kk := ?_)
                  refine i_iconst C dL_isEdited_282 (kk := ?_)
                  refine i_iadd C dL_isEdited_283 (kk := ?_)
                  refine i_iload C dL_isEdited_284 (kk := ?_)
                  refine i_iload C dL_isEdited_286 (kk := ?_)
                  refine i_isub C dL_isEdited_288 (kk := ?_)
                  refine i_icmp_le C dL_isEdited_289 (tgt := 296) (kt := fun hB289 => ?_) (kf := fun hB289 => ?_)
                  · refine i_iload C dL_isEdited_296 (kk := ?_)
                    refine i_bipush C dL_isEdited_298 (kk := ?_)
                    refine i_icmp_ne C dL_isEdited_300 (tgt := 312) (kt := fun hB300 => ?_) (kf := fun hB300 => ?_)
                    · refine i_iload C dL_isEdited_312 (kk := ?_)
                      exact jQ _ (by omega) (by omega) (by omega) (by omega) _ _ (by (try simp only [rmL]); omega) (by (try simp only [rmL]); omega)
                    · refine i_iload C dL_isEdited_303 (kk := ?_)
                      refine i_if_ne C dL_isEdited_305 (tgt := 312) (kt := fun hB305 => ?_) (kf := fun hB305 => ?_)
                      · refine i_iload C dL_isEdited_312 (kk := ?_)
                        exact jQ _ (by omega) (by omega) (by omega) (by omega) _ _ (by (try simp only [rmL]); omega) (by (try simp only [rmL]); omega)
                      · refine i_iconst C dL_isEdited_308 (kk := ?_)
                        refine i_goto C dL_isEdited_309 (tgt := 314) (kk := ?_)
                        exact jQ _ (by omega) (by omega) (by omega) (by omega) _ _ (by (try simp only [rmL]); omega) (by (try simp only [rmL]); omega)
                  · refine i_iconst C dL_isEdited_292 (kk := ?_)
                    refine i_goto C dL_isEdited_293 (tgt := 314) (kk := ?_)
                    exact jQ _ (by omega) (by omega) (by omega) (by omega) _ _ (by (try simp only [rmL]); omega) (by (try simp only [rmL]); omega)
            · refine i_bipush C dL_isEdited_261 (kk := ?_)
              refine i_goto C dL_isEdited_263 (tgt := 314) (kk := ?_)
              exact jQ _ (by omega) (by omega) (by omega) (by omega) _ _ (by (try simp only [rmL]); omega) (by (try simp only [rmL]); omega)
          refine i_icmp_ne C dL_isEdited_77 (tgt := 100) (kt := fun hB77 => ?_) (kf := fun hB77 => ?_)
          · refine i_iload C dL_isEdited_100 (kk := ?_)
            refine i_iconst C dL_isEdited_102 (kk := ?_)
            refine i_icmp_ge C dL_isEdited_103 (tgt := 116) (kt := fun hB103 => ?_) (kf := fun hB103 => ?_)
            · refine i_iload C dL_isEdited_116 (kk := ?_)
              refine i_iconst C dL_isEdited_118 (kk := ?_)
              refine i_icmp_ne C dL_isEdited_119 (tgt := 126) (kt := fun hB119 => ?_) (kf := fun hB119 => ?_)
              · refine i_iload C dL_isEdited_126 (kk := ?_)
                refine i_bipush C dL_isEdited_128 (kk := ?_)
                refine i_icmp_ge C dL_isEdited_130 (tgt := 146) (kt := fun hB130 => ?_) (kf := fun hB130 => ?_)
                · refine i_iload C dL_isEdited_146 (kk := ?_)
                  refine i_bipush C dL_isEdited_148 (kk := ?_)
                  refine i_icmp_ne C dL_isEdited_150 (tgt := 166) (kt := fun hB150 => ?_) (kf := fun hB150 => ?_)
                  · refine i_iload C dL_isEdited_166 (kk := ?_)
                    refine i_bipush C dL_isEdited_168 (kk := ?_)
                    refine i_icmp_ge C dL_isEdited_170 (tgt := 186) (kt := fun hB170 => ?_) (kf := fun hB170 => ?_)
                    · refine i_iload C dL_isEdited_186 (kk := ?_)
                      refine i_bipush C dL_isEdited_188 (kk := ?_)
                      refine i_icmp_ne C dL_isEdited_190 (tgt := 198) (kt := fun hB190 => ?_) (kf := fun hB190 => ?_)
                      · refine i_iload C dL_isEdited_198 (kk := ?_)
                        refine i_bipush C dL_isEdited_200 (kk := ?_)
                        refine i_icmp_ne C dL_isEdited_202 (tgt := 218) (kt := fun hB202 => ?_) (kf := fun hB202 => ?_)
                        · refine i_iload C dL_isEdited_218 (kk := ?_)
                          refine i_bipush C dL_isEdited_220 (kk := ?_)
                          refine i_icmp_ge C dL_isEdited_222 (tgt := 239) (kt := fun hB222 => ?_) (kf := fun hB222 => ?_)
                          · refine i_bipush C dL_isEdited_239 (kk := ?_)
                            refine i_iload C dL_isEdited_241 (kk := ?_)
                            refine i_bipush C dL_isEdited_243 (kk := ?_)
                            refine i_idiv C dL_isEdited_245 (kk := ?_)
                            refine i_iconst C dL_isEdited_246 (kk := ?_)
                            refine i_irem C dL_isEdited_247 (kk := ?_)
                            refine i_iadd C dL_isEdited_248 (kk := ?_)
                            exact jP _ (by omega) _ _ (by (try simp only [rmL]); omega) (by (try simp only [rmL]); omega)
                          · refine i_bipush C dL_isEdited_225 (kk := ?_)
                            refine i_iload C dL_isEdited_227 (kk := ?_)
                            refine i_bipush C dL_isEdited_229 (kk := ?_)
                            refine i_idiv C dL_isEdited_231 (kk := ?_)
                            refine i_bipush C dL_isEdited_232 (kk := ?_)
                            refine i_irem C dL_isEdited_234 (kk := ?_)
                            refine i_iadd C dL_isEdited_235 (kk := ?_)
                            refine i_goto C dL_isEdited_236 (tgt := 249) (kk := ?_)
                            exact jP _ (by omega) _ _ (by (try simp only [rmL]); omega) (by (try simp only [rmL]); omega)
                        · refine i_bipush C dL_isEdited_205 (kk := ?_)
                          refine i_iload C dL_isEdited_207 (kk := ?_)
                          refine i_bipush C dL_isEdited_209 (kk := ?_)
                          refine i_idiv C dL_isEdited_211 (kk := ?_)
                          refine i_iconst C dL_isEdited_212 (kk := ?_)
                          refine i_irem C dL_isEdited_213 (kk := ?_)
                          refine i_iadd C dL_isEdited_214 (kk := ?_)
                          refine i_goto C dL_isEdited_215 (tgt := 249) (kk := ?_)
                          exact jP _ (by omega) _ _ (by (try simp only [rmL]); omega) (by (try simp only [rmL]); omega)
                      · refine i_bipush C dL_isEdited_193 (kk := ?_)
                        refine i_goto C dL_isEdited_195 (tgt := 249) (kk := ?_)
                        exact jP _ (by omega) _ _ (by (try simp only [rmL]); omega) (by (try simp only [rmL]); omega)
                    · refine i_bipush C dL_isEdited_173 (kk := ?_)
                      refine i_iload C dL_isEdited_175 (kk := ?_)
                      refine i_bipush C dL_isEdited_177 (kk := ?_)
                      refine i_idiv C dL_isEdited_179 (kk := ?_)
                      refine i_iconst C dL_isEdited_180 (kk := ?_)
                      refine i_irem C dL_isEdited_181 (kk := ?_)
                      refine i_iadd C dL_isEdited_182 (kk := ?_)
                      refine i_goto C dL_isEdited_183 (tgt := 249) (kk := ?_)
                      exact jP _ (by omega) _ _ (by (try simp only [rmL]); omega) (by (try simp only [rmL]); omega)
                  · refine i_bipush C dL_isEdited_153 (kk := ?_)
                    refine i_iload C dL_isEdited_155 (kk := ?_)
                    refine i_bipush C dL_isEdited_157 (kk := ?_)
                    refine i_idiv C dL_isEdited_159 (kk := ?_)
                    refine i_iconst C dL_isEdited_160 (kk := ?_)
                    refine i_irem C dL_isEdited_161 (kk := ?_)
                    refine i_iadd C dL_isEdited_162 (kk := ?_)
                    refine i_goto C dL_isEdited_163 (tgt := 249) (kk := ?_)
                    exact jP _ (by omega) _ _ (by (try simp only [rmL]); omega) (by (try simp only [rmL]); omega)
                · refine i_iconst C dL_isEdited_133 (kk := ?_)
                  refine i_iload C dL_isEdited_134 (kk := ?_)
                  refine i_bipush C dL_isEdited_136 (kk := ?_)
                  refine i_idiv C dL_isEdited_138 (kk := ?_)
                  refine i_bipush C dL_isEdited_139 (kk := ?_)
                  refine i_irem C dL_isEdited_141 (kk := ?_)
                  refine i_iadd C dL_isEdited_142 (kk := ?_)
                  refine i_goto C dL_isEdited_143 (tgt := 249) (kk := ?_)
                  exact jP _ (by omega) _ _ (by (try simp only [rmL]); omega) (by (try simp only [rmL]); omega)
              · refine i_iconst C dL_isEdited_122 (kk := ?_)
                refine i_goto C dL_isEdited_123 (tgt := 249) (kk := ?_)
                exact jP _ (by omega) _ _ (by (try simp only [rmL]); omega) (by (try simp only [rmL]); omega)
            · refine i_iload C dL_isEdited_106 (kk := ?_)
              refine i_bipush C dL_isEdited_108 (kk := ?_)
              refine i_idiv C dL_isEdited_110 (kk := ?_)
              refine i_iconst C dL_isEdited_111 (kk := ?_)
              refine i_irem C dL_isEdited_112 (kk := ?_)
              refine i_goto C dL_isEdited_113 (tgt := 249) (kk := ?_)
              exact jP _ (by omega) _ _ (by (try simp only [rmL]); omega) (by (try simp only [rmL]); omega)
          · refine i_iload C dL_isEdited_80 (kk := ?_)
            refine i_iconst C dL_isEdited_82 (kk := ?_)
            refine i_irem C dL_isEdited_83 (kk := ?_)
            refine i_if_le C dL_isEdited_84 (tgt := 100) (kt := fun hB84 => ?_) (kf := fun hB84 => ?_)
            · refine i_iload C dL_isEdited_100 (kk := ?_)
              refine i_iconst C dL_isEdited_102 (kk := ?_)
              refine i_icmp_ge C dL_isEdited_103 (tgt := 116) (kt := fun hB103 => ?_) (kf := fun hB103 => ?_)
              · refine i_iload C dL_isEdited_116 (kk := ?_)
                refine i_iconst C dL_isEdited_118 (kk := ?_)
                refine i_icmp_ne C dL_isEdited_119 (tgt := 126) (kt := fun hB119 => ?_) (kf := fun hB119 => ?_)
                · refine i_iload C dL_isEdited_126 (kk := ?_)
                  refine i_bipush C dL_isEdited_128 (kk := ?_)
                  refine i_icmp_ge C dL_isEdited_130 (tgt := 146) (kt := fun hB130 => ?_) (kf := fun hB130 => ?_)
                  · refine i_iload C dL_isEdited_146 (kk := ?_)
                    refine i_bipush C dL_isEdited_148 (kk := ?_)
                    refine i_icmp_ne C dL_isEdited_150 (tgt := 166) (kt := fun hB150 => ?_) (kf := fun hB150 => ?_)
                    · refine i_iload C dL_isEdited_166 (kk := ?_)
                      refine i_bipush C dL_isEdited_168 (kk := ?_)
                      refine i_icmp_ge C dL_isEdited_170 (tgt := 186) (kt := fun hB170 => ?_) (kf := fun hB170 => ?_)
                      · refine i_iload C dL_isEdited_186 (kk := ?_)
                        refine i_bipush C dL_isEdited_188 (kk := ?_)
                        refine i_icmp_ne C dL_isEdited_190 (tgt := 198) (kt := fun hB190 => ?_) (kf := fun hB190 => ?_)
                        · refine i_iload C dL_isEdited_198 (kk := ?_)
                          refine i_bipush C dL_isEdited_200 (kk := ?_)
                          refine i_icmp_ne C dL_isEdited_202 (tgt := 218) (kt := fun hB202 => ?_) (kf := fun hB202 => ?_)
                          · refine i_iload C dL_isEdited_218 (kk := ?_)
                            refine i_bipush C dL_isEdited_220 (kk := ?_)
                            refine i_icmp_ge C dL_isEdited_222 (tgt := 239) (kt := fun hB222 => ?_) (kf := fun hB222 => ?_)
                            · refine i_bipush C dL_isEdited_239 (kk := ?_)
                              refine i_iload C dL_isEdited_241 (kk := ?_)
                              refine i_bipush C dL_isEdited_243 (kk := ?_)
                              refine i_idiv C dL_isEdited_245 (kk := ?_)
                              refine i_iconst C dL_isEdited_246 (kk := ?_)
                              refine i_irem C dL_isEdited_247 (kk := ?_)
                              refine i_iadd C dL_isEdited_248 (kk := ?_)
                              exact jP _ (by omega) _ _ (by (try simp only [rmL]); omega) (by (try simp only [rmL]); omega)
                            · refine i_bipush C dL_isEdited_225 (kk := ?_)
                              refine i_iload C dL_isEdited_227 (kk := ?_)
                              refine i_bipush C dL_isEdited_229 (kk := ?_)
                              refine i_idiv C dL_isEdited_231 (kk := ?_)
                              refine i_bipush C dL_isEdited_232 (kk := ?_)
                              refine i_irem C dL_isEdited_234 (kk := ?_)
                              refine i_iadd C dL_isEdited_235 (kk := ?_)
                              refine i_goto C dL_isEdited_236 (tgt := 249) (kk := ?_)
                              exact jP _ (by omega) _ _ (by (try simp only [rmL]); omega) (by (try simp only [rmL]); omega)
                          · refine i_bipush C dL_isEdited_205 (kk := ?_)
                            refine i_iload C dL_isEdited_207 (kk := ?_)
                            refine i_bipush C dL_isEdited_209 (kk := ?_)
                            refine i_idiv C dL_isEdited_211 (kk := ?_)
                            refine i_iconst C dL_isEdited_212 (kk := ?_)
                            refine i_irem C dL_isEdited_213 (kk := ?_)
                            refine i_iadd C dL_isEdited_214 (kk := ?_)
                            refine i_goto C dL_isEdited_215 (tgt := 249) (kk := ?_)
                            exact jP _ (by omega) _ _ (by (try simp only [rmL]); omega) (by (try simp only [rmL]); omega)
                        · refine i_bipush C dL_isEdited_193 (kk := ?_)
                          refine i_goto C dL_isEdited_195 (tgt := 249) (kk := ?_)
                          exact jP _ (by omega) _ _ (by (try simp only [rmL]); omega) (by (try simp only [rmL]); omega)
                      · refine i_bipush C dL_isEdited_173 (kk := ?_)
                        refine i_iload C dL_isEdited_175 (kk := ?_)
                        refine i_bipush C dL_isEdited_177 (kk := ?_)
                        refine i_idiv C dL_isEdited_179 (kk := ?_)
                        refine i_iconst C dL_isEdited_180 (kk := ?_)
                        refine i_irem C dL_isEdited_181 (kk := ?_)
                        refine i_iadd C dL_isEdited_182 (kk := ?_)
                        refine i_goto C dL_isEdited_183 (tgt := 249) (kk := ?_)
                        exact jP _ (by omega) _ _ (by (try simp only [rmL]); omega) (by (try simp only [rmL]); omega)
                    · refine i_bipush C dL_isEdited_153 (kk := ?_)
                      refine i_iload C dL_isEdited_155 (kk := ?_)
                      refine i_bipush C dL_isEdited_157 (kk := ?_)
                      refine i_idiv C dL_isEdited_159 (kk := ?_)
                      refine i_iconst C dL_isEdited_160 (kk := ?_)
                      refine i_irem C dL_isEdited_161 (kk := ?_)
                      refine i_iadd C dL_isEdited_162 (kk := ?_)
                      refine i_goto C dL_isEdited_163 (tgt := 249) (kk := ?_)
                      exact jP _ (by omega) _ _ (by (try simp only [rmL]); omega) (by (try simp only [rmL]); omega)
                  · refine i_iconst C dL_isEdited_133 (kk := ?_)
                    refine i_iload C dL_isEdited_134 (kk := ?_)
                    refine i_bipush C dL_isEdited_136 (kk := ?_)
                    refine i_idiv C dL_isEdited_138 (kk := ?_)
                    refine i_bipush C dL_isEdited_139 (kk := ?_)
                    refine i_irem C dL_isEdited_141 (kk := ?_)
                    refine i_iadd C dL_isEdited_142 (kk := ?_)
                    refine i_goto C dL_isEdited_143 (tgt := 249) (kk := ?_)
                    exact jP _ (by omega) _ _ (by (try simp only [rmL]); omega) (by (try simp only [rmL]); omega)
                · refine i_iconst C dL_isEdited_122 (kk := ?_)
                  refine i_goto C dL_isEdited_123 (tgt := 249) (kk := ?_)
                  exact jP _ (by omega) _ _ (by (try simp only [rmL]); omega) (by (try simp only [rmL]); omega)
              · refine i_iload C dL_isEdited_106 (kk := ?_)
                refine i_bipush C dL_isEdited_108 (kk := ?_)
                refine i_idiv C dL_isEdited_110 (kk := ?_)
                refine i_iconst C dL_isEdited_111 (kk := ?_)
                refine i_irem C dL_isEdited_112 (kk := ?_)
                refine i_goto C dL_isEdited_113 (tgt := 249) (kk := ?_)
                exact jP _ (by omega) _ _ (by (try simp only [rmL]); omega) (by (try simp only [rmL]); omega)
            · refine i_bipush C dL_isEdited_87 (kk := ?_)
              refine i_iload C dL_isEdited_89 (kk := ?_)
              refine i_bipush C dL_isEdited_91 (kk := ?_)
              refine i_idiv C dL_isEdited_93 (kk := ?_)
              refine i_iconst C dL_isEdited_94 (kk := ?_)
              refine i_irem C dL_isEdited_95 (kk := ?_)
              refine i_iadd C dL_isEdited_96 (kk := ?_)
              refine i_goto C dL_isEdited_97 (tgt := 249) (kk := ?_)
              exact jP _ (by omega) _ _ (by (try simp only [rmL]); omega) (by (try simp only [rmL]); omega)
    exact lp (sz + 1) 0 _ _ 0 w [] _ _ _ (by omega) (by omega) (by (try simp only [rmL]); omega) (by (try simp only [rmL]); omega) (by rw [show uDr σ (([] : List Nat).map dc6) = σ from by rw [List.map_nil, ← hd]; rfl]; exact hX) (fun c h => nomatch h) rfl rfl (by omega)
  refine i_icmp_ne C dL_isEdited_24 (tgt := 31) (kt := fun hB24 => ?_) (kf := fun hB24 => ?_)
  · refine i_iload C dL_isEdited_31 (kk := ?_)
    exact jS _ (by omega)
  · refine i_iconst C dL_isEdited_27 (kk := ?_)
    refine i_goto C dL_isEdited_28 (tgt := 33) (kk := ?_)
    exact jS _ (by omega)
