set_option maxRecDepth 100000 in
set_option maxHeartbeats 4000000 in
theorem c_X6_behindRedirects (l : Launch) (hl : l.stackTraces = false) (D : gD) {w : wW} {τ ad : Nat → Nat} {nb tb : Nat} {σ : Sg} {p : Nat} (hW : WkI D w τ ad nb tb σ := by assumption) (hp : p < 12 := by omega) : CTm l D yX6_behindRedirects cX6_behindRedirects 5 (some .int) (rmL 4 0 0) [.ref (ad 0), .int (Z32 (p : Int))] w (fun u w1 => u = some (.int (Z32 (stT (sT σ) p))) ∧ w1 = w) := by
  refine CTm_of hl false rfl (by rfl) (Nat.le_of_ble_eq_true rfl) (fun h => nomatch h) ?_
  intro G C
  show G 0 0 w [some (.ref (ad 0)), some (.int (Z32 (p : Int))), none, none, none] 0 []
  refine i_iload_n C dX6_behindRedirects_0 (kk := ?_)
  refine i_istore_n C dX6_behindRedirects_1 (kk := ?_)
  refine i_iconst C dX6_behindRedirects_2 (kk := ?_)
  refine i_istore_n C dX6_behindRedirects_3 (kk := ?_)
  have lp : ∀ (m j : Nat) (q : Nat) (o9 : Option Value), 4 + 1 ≤ m + j → j ≤ 4 → q < 12 → stN (sT σ) (4 - j) q = stT (sT σ) p → G 0 0 w [some (.ref (ad 0)), some (.int (Z32 (p : Int))), some (.int (Z32 (q : Int))), some (.int (Z32 (j : Int))), o9] 4 [] := by
    intro m
    induction m with
    | zero => intro j q o9 h1 h2; omega
    | succ m ih =>
    intro j q o9 h1 h2 hq he
    refine i_iload_n C dX6_behindRedirects_4 (kk := ?_)
    refine i_iconst C dX6_behindRedirects_5 (kk := ?_)
    refine i_icmp_gt C dX6_behindRedirects_6 (tgt := 45) (kt := fun hB6 => ?_) (kf := fun hB6 => ?_)
    · refine i_iconst C dX6_behindRedirects_45 (kk := ?_)
      exact i_iret C (d := dX6_behindRedirects_46) (h := ⟨by rw [← he, show 4 - j = 0 by omega]; rfl, rfl⟩)
    · refine i_aload_n C dX6_behindRedirects_9 (kk := ?_)
      refine i_iload_n C dX6_behindRedirects_10 (kk := ?_)
      refine i_callV C lk_X6_67 (c_X6_pageAt l hl D (hW := hW) (p := q)) (hcl := rfl) (hst := rfl) dX6_behindRedirects_11 (hw := hW.obj) (kk := fun v11 w11 g11 => ?_)
      obtain ⟨rfl, q11⟩ := g11
      have q11 := q11.symm
      subst q11
      refine i_getf C f_X6_73 dX6_behindRedirects_14 (hw := hW.page hq) (kk := ?_)
      refine i_getf C f_X6_113 dX6_behindRedirects_17 (hw := hW.ver hq) (kk := ?_)
      refine i_astore C dX6_behindRedirects_20 (kk := ?_)
      refine i_aload C dX6_behindRedirects_22 (kk := ?_)
      have kT := hW.txt hq
      refine i_callV C lk_X6_303 (c_X3_isRedirectAlone l hl D (hT := kT)) (hcl := rfl) (hst := rfl) dX6_behindRedirects_24 (hw := kT.2.2.2.2.1) (kk := fun v24 w24 g24 => ?_)
      obtain ⟨rfl, q24⟩ := g24
      have q24 := q24.symm
      subst q24
      refine i_if_ne C dX6_behindRedirects_27 (tgt := 32) (ha := by split <;> decide) (kt := fun hB27 => ?_) (kf := fun hB27 => ?_)
      · have e8 : (sT σ q).length = 1 ∧ (pcs (sT σ q) 0).1 = 8 := by apply Decidable.byContradiction; intro z; rw [if_neg z] at hB27; exact hB27 rfl
        refine i_aload C dX6_behindRedirects_32 (kk := ?_)
        refine i_iconst C dX6_behindRedirects_34 (kk := ?_)
        refine i_callV C lk_X6_273 (c_X3_pageOf l hl D (hT := kT) (i := 0) (hi := by omega)) (hcl := rfl) (hst := rfl) dX6_behindRedirects_35 (hw := kT.2.2.2.2.1) (kk := fun v35 w35 g35 => ?_)
        obtain ⟨rfl, q35⟩ := g35
        have q35 := q35.symm
        subst q35
        have hv := (hW.1.txt q hq).1 _ (pcs_mem (i := 0) (by omega))
        unfold PV at hv
        obtain ⟨t, ht⟩ : ∃ t : Nat, (pcs (sT σ q) 0).2.1 = t := ⟨(pcs (sT σ q) 0).2.1.toNat, by omega⟩
        have e9 := stN_yes (n := 3 - j) e8
        rw [ht, Int.toNat_natCast] at e9
        rw [ht]
        refine i_istore_n C dX6_behindRedirects_38 (kk := ?_)
        refine i_iinc C dX6_behindRedirects_39 (kk := ?_)
        refine i_goto C dX6_behindRedirects_42 (tgt := 4) (kk := ?_)
        exact ih (j + 1) t _ (by omega) (by omega) (by omega) (by rw [← he, show 4 - j = (3 - j) + 1 by omega, e9, show 4 - (j + 1) = 3 - j by omega])
      · have e8 : ¬ ((sT σ q).length = 1 ∧ (pcs (sT σ q) 0).1 = 8) := by intro z; rw [if_pos z] at hB27; cases hB27
        refine i_iload_n C dX6_behindRedirects_30 (kk := ?_)
        exact i_iret C (d := dX6_behindRedirects_31) (h := ⟨by rw [← he, show 4 - j = (3 - j) + 1 by omega, stN_no e8], rfl⟩)
  exact lp 5 0 p _ (by omega) (by omega) hp rfl

set_option maxRecDepth 100000 in
set_option maxHeartbeats 4000000 in
theorem c_X6_isGood (l : Launch) (hl : l.stackTraces = false) (D : gD) {w : wW} {τ ad : Nat → Nat} {nb tb : Nat} {σ : Sg} {k : Int} (hW : WkI D w τ ad nb tb σ := by assumption) (hk : 0 ≤ k ∧ k ≤ 119) : CTm l D yX6_isGood cX6_isGood 3 (some .boolean) (rmL 5 0 0) [.ref (ad 0), .int (Z32 k)] w (fun u w1 => u = some (.int (Z32 (if goodb (sT σ) k = true then 1 else 0))) ∧ w1 = w) := by
  refine CTm_of hl false rfl (by rfl) (Nat.le_of_ble_eq_true rfl) (fun h => nomatch h) ?_
  intro G C
  show G 0 0 w [some (.ref (ad 0)), some (.int (Z32 k)), none] 0 []
  refine i_aload_n C dX6_isGood_0 (kk := ?_)
  refine i_iload_n C dX6_isGood_1 (kk := ?_)
  refine i_bipush C dX6_isGood_2 (kk := ?_)
  refine i_idiv C dX6_isGood_4 (kk := ?_)
  obtain ⟨t, ht⟩ : ∃ t : Nat, k / 10 = (t : Int) := ⟨(k / 10).toNat, by omega⟩
  have ht12 : t < 12 := by omega
  have hsR := stN_R hW.1.txt 4 t ht12
  rw [ht]
  refine i_callV C lk_X6_168 (c_X6_behindRedirects l hl D (hW := hW)) (hcl := rfl) (hst := rfl) dX6_isGood_5 (hw := hW.obj) (kk := fun v5 w5 g5 => ?_)
  obtain ⟨rfl, q5⟩ := g5
  have q5 := q5.symm
  subst q5
  have hsR2 : stT (sT σ) t = -1 ∨ (0 ≤ stT (sT σ) t ∧ stT (sT σ) t < 12) := hsR
  refine i_istore_n C dX6_isGood_8 (kk := ?_)
  refine i_iload_n C dX6_isGood_9 (kk := ?_)
  refine i_iconst C dX6_isGood_10 (kk := ?_)
  refine i_icmp_eq C dX6_isGood_11 (tgt := 36) (kt := fun hB11 => ?_) (kf := fun hB11 => ?_)
  · have e8 : ¬ goodb (sT σ) k = true := by rw [goodb_no (by rw [ht, Int.toNat_natCast]; omega)]; decide
    refine i_iconst C dX6_isGood_36 (kk := ?_)
    exact i_zret C (d := dX6_isGood_37) (ha := by first | exact Or.inl rfl | exact Or.inr rfl) (h := ⟨by first | (rw [if_pos e8]; done) | (rw [if_neg e8]; done), rfl⟩)
  · obtain ⟨z, hz⟩ : ∃ z : Nat, stT (sT σ) t = (z : Int) := ⟨(stT (sT σ) t).toNat, by omega⟩
    have hz12 : z < 12 := by omega
    obtain ⟨os, kS⟩ := hW.spr hz12
    rw [hz]
    have e9 : goodb (sT σ) k = ancb (k % 10) (sprT (sT σ) z) := by rw [goodb_yes (by rw [ht, Int.toNat_natCast, hz]; omega), ht, Int.toNat_natCast, hz, Int.toNat_natCast]
    refine i_aload_n C dX6_isGood_14 (kk := ?_)
    refine i_iload_n C dX6_isGood_15 (kk := ?_)
    refine i_callV C lk_X6_67 (c_X6_pageAt l hl D (hW := hW) (p := z)) (hcl := rfl) (hst := rfl) dX6_isGood_16 (hw := hW.obj) (kk := fun v16 w16 g16 => ?_)
    obtain ⟨rfl, q16⟩ := g16
    have q16 := q16.symm
    subst q16
    refine i_getf C f_X6_129 dX6_isGood_19 (hw := hW.page hz12) (kk := ?_)
    refine i_iload_n C dX6_isGood_22 (kk := ?_)
    refine i_bipush C dX6_isGood_23 (kk := ?_)
    refine i_irem C dX6_isGood_25 (kk := ?_)
    refine i_callV C lk_X6_310 (c_X2_hasAnchor l hl D (hS := kS) (g := k % 10) (by omega)) (hcl := rfl) (hst := rfl) dX6_isGood_26 (hw := kS.2.2.2.2.2.2.1) (kk := fun v26 w26 g26 => ?_)
    obtain ⟨g26, q26⟩ := g26
    have q26 := q26.symm
    subst q26
    have e7 : v26 = some (.int (Z32 (if goodb (sT σ) k = true then 1 else 0))) := by
      rcases g26 with ⟨g1, g2⟩ | ⟨g1, g2⟩
      · rw [g2, if_pos (by rw [e9, ancb_iff]; exact g1)]
      · rw [g2, if_neg (by rw [e9, ancb_iff]; exact fun ⟨i, hi, y1, y2⟩ => g1 i hi y1 y2)]
    clear g26
    subst e7
    refine i_if_eq C dX6_isGood_29 (tgt := 36) (ha := by split <;> decide) (kt := fun hB29 => ?_) (kf := fun hB29 => ?_)
    · have e8 : ¬ (goodb (sT σ) k = true) := by intro q; rw [if_pos q] at hB29; cases hB29
      refine i_iconst C dX6_isGood_36 (kk := ?_)
      exact i_zret C (d := dX6_isGood_37) (ha := by first | exact Or.inl rfl | exact Or.inr rfl) (h := ⟨by first | (rw [if_pos e8]; done) | (rw [if_neg e8]; done), rfl⟩)
    · have e8 : goodb (sT σ) k = true := by apply Decidable.byContradiction; intro q; rw [if_neg q] at hB29; exact hB29 rfl
      refine i_iconst C dX6_isGood_32 (kk := ?_)
      refine i_goto C dX6_isGood_33 (tgt := 37) (kk := ?_)
      exact i_zret C (d := dX6_isGood_37) (ha := by first | exact Or.inl rfl | exact Or.inr rfl) (h := ⟨by first | (rw [if_pos e8]; done) | (rw [if_neg e8]; done), rfl⟩)

set_option maxRecDepth 100000 in
set_option maxHeartbeats 4000000 in
theorem c_X6_isBroken (l : Launch) (hl : l.stackTraces = false) (D : gD) {w : wW} {τ ad : Nat → Nat} {nb tb : Nat} {σ : Sg} {p i : Nat} {os : List Int} (hW : WkI D w τ ad nb tb σ := by assumption) (kS : SpD D w τ ad (200 + 6 * p) (sprT (sT σ) p) os) (hp : p < 12) (hi : i < (sprT (sT σ) p).length := by omega) : CTm l D yX6_isBroken cX6_isBroken 3 (some .boolean) (rmL 6 0 0) [.ref (ad 0), .ref (ad (200 + 6 * p)), .int (Z32 (i : Int))] w (fun u w1 => u = some (.int (Z32 (if badb (sT σ) (it4 (sprT (sT σ) p) i) = true then 1 else 0))) ∧ w1 = w) := by
  refine CTm_of hl false rfl (by rfl) (Nat.le_of_ble_eq_true rfl) (fun h => nomatch h) ?_
  intro G C
  show G 0 0 w [some (.ref (ad 0)), some (.ref (ad (200 + 6 * p))), some (.int (Z32 (i : Int)))] 0 []
  have h100 := kS.2.2.2.2.2.2.2.1
  refine i_aload_n C dX6_isBroken_0 (kk := ?_)
  refine i_iload_n C dX6_isBroken_1 (kk := ?_)
  refine i_iconst C dX6_isBroken_2 (kk := ?_)
  refine i_callV C lk_X6_174 (c_X2_showsSort l hl D (hS := kS) (i := i) (g := 2)) (hcl := rfl) (hst := rfl) dX6_isBroken_3 (hw := kS.2.2.2.2.2.2.1) (kk := fun v3 w3 g3 => ?_)
  obtain ⟨rfl, q3⟩ := g3
  have q3 := q3.symm
  subst q3
  refine i_if_eq C dX6_isBroken_6 (tgt := 26) (ha := by split <;> decide) (kt := fun hB6 => ?_) (kf := fun hB6 => ?_)
  · have e8 : ¬ (shw (it4 (sprT (sT σ) p) i) (-1) ∧ isrt (it4 (sprT (sT σ) p) i) = 2) := by intro q; rw [if_pos q] at hB6; cases hB6
    refine i_iconst C dX6_isBroken_26 (kk := ?_)
    exact i_zret C (d := dX6_isBroken_27) (ha := by first | exact Or.inl rfl | exact Or.inr rfl) (h := ⟨by first | (rw [if_pos (badb_iff.mpr ⟨e8, e7⟩)]; done) | (rw [if_neg (fun q => (badb_iff.mp q).2 e7)]; done) | (rw [if_neg (fun q => e8 (badb_iff.mp q).1)]; done), rfl⟩)
  · have e8 : shw (it4 (sprT (sT σ) p) i) (-1) ∧ isrt (it4 (sprT (sT σ) p) i) = 2 := by apply Decidable.byContradiction; intro q; rw [if_neg q] at hB6; exact hB6 rfl
    have hR := isl_R kS.2.2.2.2.2.2.2.2.2.1 hi e8
    refine i_aload_n C dX6_isBroken_9 (kk := ?_)
    refine i_aload_n C dX6_isBroken_10 (kk := ?_)
    refine i_iload_n C dX6_isBroken_11 (kk := ?_)
    refine i_iconst C dX6_isBroken_12 (kk := ?_)
    refine i_callV C lk_X6_145 (c_X2_itemWith l hl D (hS := kS) (i := i) (g := -1)) (hcl := rfl) (hst := rfl) dX6_isBroken_13 (hw := kS.2.2.2.2.2.2.1) (kk := fun v13 w13 g13 => ?_)
    obtain ⟨rfl, q13⟩ := g13
    have q13 := q13.symm
    subst q13
    refine i_callV C lk_X6_306 (c_X6_isGood l hl D (hW := hW) hR) (hcl := rfl) (hst := rfl) dX6_isBroken_16 (hw := hW.obj) (kk := fun v16 w16 g16 => ?_)
    obtain ⟨rfl, q16⟩ := g16
    have q16 := q16.symm
    subst q16
    refine i_if_ne C dX6_isBroken_19 (tgt := 26) (ha := by split <;> decide) (kt := fun hB19 => ?_) (kf := fun hB19 => ?_)
    · have e7 : goodb (sT σ) (iwth (it4 (sprT (sT σ) p) i) (-1)) = true := by apply Decidable.byContradiction; intro q; rw [if_neg q] at hB19; exact hB19 rfl
      refine i_iconst C dX6_isBroken_26 (kk := ?_)
      exact i_zret C (d := dX6_isBroken_27) (ha := by first | exact Or.inl rfl | exact Or.inr rfl) (h := ⟨by first | (rw [if_pos (badb_iff.mpr ⟨e8, e7⟩)]; done) | (rw [if_neg (fun q => (badb_iff.mp q).2 e7)]; done) | (rw [if_neg (fun q => e8 (badb_iff.mp q).1)]; done), rfl⟩)
    · have e7 : ¬ goodb (sT σ) (iwth (it4 (sprT (sT σ) p) i) (-1)) = true := by intro q; rw [if_pos q] at hB19; cases hB19
      refine i_iconst C dX6_isBroken_22 (kk := ?_)
      refine i_goto C dX6_isBroken_23 (tgt := 27) (kk := ?_)
      exact i_zret C (d := dX6_isBroken_27) (ha := by first | exact Or.inl rfl | exact Or.inr rfl) (h := ⟨by first | (rw [if_pos (badb_iff.mpr ⟨e8, e7⟩)]; done) | (rw [if_neg (fun q => (badb_iff.mp q).2 e7)]; done) | (rw [if_neg (fun q => e8 (badb_iff.mp q).1)]; done), rfl⟩)

set_option maxRecDepth 100000 in
set_option maxHeartbeats 4000000 in
theorem c_X6_links (l : Launch) (hl : l.stackTraces = false) (D : gD) {w : wW} {τ ad : Nat → Nat} {nb tb : Nat} {σ : Sg} {i0 : Int} (hW : WkI D w τ ad nb tb σ := by assumption) (hi : inR i0 := by omega) : CTx l D yX6_links cX6_links 5 (some .int) (rmL 8 2 12) [.ref (ad 0), .int (Z32 i0)] w (fun u w1 => (∃ p : Nat, p < 12 ∧ i0 = (p : Int) ∧ u = some (.int (Z32 ((cnb isl (sprT (sT σ) p) : Nat) : Int)))) ∧ w1 = w) (fun E w1 => E = "java/lang/IndexOutOfBoundsException" ∧ ¬ (0 ≤ i0 ∧ i0 < 12) ∧ w1 = w) := by
  refine CTx_of hl rfl (by rfl) (Nat.le_of_ble_eq_true rfl) ?_
  intro G C
  show G 0 0 w [some (.ref (ad 0)), some (.int (Z32 i0)), none, none, none] 0 []
  refine i_aload_n C dX6_links_0 (kk := ?_)
  refine i_iload_n C dX6_links_1 (kk := ?_)
  refine i_callVX C lk_X6_67 (cx_X6_pageAt l hl D (hW := hW)) (hcl := rfl) (hst := rfl) dX6_links_2 (hw := hW.obj) (hxx := fun E w1 h => h) (kk := fun v2 w2 g2 => ?_)
  obtain ⟨⟨p, hp, hip, rfl⟩, q2⟩ := g2
  have q2 := q2.symm
  subst q2
  obtain ⟨os, kS⟩ := hW.spr hp
  have h100 := kS.2.2.2.2.2.2.2.1
  refine i_getf C f_X6_129 dX6_links_5 (hw := hW.page hp) (kk := ?_)
  refine i_astore_n C dX6_links_8 (kk := ?_)
  refine i_iconst C dX6_links_9 (kk := ?_)
  refine i_istore_n C dX6_links_10 (kk := ?_)
  refine i_iconst C dX6_links_11 (kk := ?_)
  refine i_istore C dX6_links_12 (kk := ?_)
  have lp : ∀ (m i : Nat), (sprT (sT σ) p).length + 1 ≤ m + i → i ≤ (sprT (sT σ) p).length → G 1 6 w [some (.ref (ad 0)), some (.int (Z32 i0)), some (.ref (ad (200 + 6 * p))), some (.int (Z32 (cnb isl ((sprT (sT σ) p).take i) : Int))), some (.int (Z32 (i : Int)))] 14 [] := by
    intro m
    induction m with
    | zero => intro i h1 h2; omega
    | succ m ih =>
    intro i h1 h2
    have hc := cnb_takele isl (sprT (sT σ) p) i
    refine i_iload C dX6_links_14 (kk := ?_)
    refine i_aload_n C dX6_links_16 (kk := ?_)
    refine i_getf C f_X6_171 dX6_links_17 (hw := kS.2.2.2.2.2.2.1) (kk := ?_)
    refine i_icmp_ge C dX6_links_20 (tgt := 42) (kt := fun hB20 => ?_) (kf := fun hB20 => ?_)
    · refine i_iload_n C dX6_links_42 (kk := ?_)
      exact i_iret C (d := dX6_links_43) (h := ⟨⟨p, hp, hip, by rw [List.take_of_length_le (by omega)]⟩, rfl⟩)
    · refine i_aload_n C dX6_links_23 (kk := ?_)
      refine i_iload C dX6_links_24 (kk := ?_)
      refine i_iconst C dX6_links_26 (kk := ?_)
      refine i_callV C lk_X6_174 (c_X2_showsSort l hl D (hS := kS) (i := i) (g := 2)) (hcl := rfl) (hst := rfl) dX6_links_27 (hw := kS.2.2.2.2.2.2.1) (kk := fun v27 w27 g27 => ?_)
      obtain ⟨rfl, q27⟩ := g27
      have q27 := q27.symm
      subst q27
      refine i_if_eq C dX6_links_30 (tgt := 36) (ha := by split <;> decide) (kt := fun hB30 => ?_) (kf := fun hB30 => ?_)
      · have e8 : ¬ (shw (it4 (sprT (sT σ) p) i) (-1) ∧ isrt (it4 (sprT (sT σ) p) i) = 2) := by intro q; rw [if_pos q] at hB30; cases hB30
        have e9 : cnb isl ((sprT (sT σ) p).take i) = cnb isl ((sprT (sT σ) p).take (i + 1)) := by rw [cnb_take isl (by omega), if_neg (fun z => e8 (isl_iff.mp z)), Nat.add_zero]
        rw [e9]
        refine i_iinc C dX6_links_36 (kk := ?_)
        refine i_goto C dX6_links_39 (tgt := 14) (kk := ?_)
        exact ih (i + 1) (by omega) (by omega)
      · have e8 : shw (it4 (sprT (sT σ) p) i) (-1) ∧ isrt (it4 (sprT (sT σ) p) i) = 2 := by apply Decidable.byContradiction; intro q; rw [if_neg q] at hB30; exact hB30 rfl
        have e9 : (cnb isl ((sprT (sT σ) p).take i) : Int) + 1 = (cnb isl ((sprT (sT σ) p).take (i + 1)) : Int) := by rw [cnb_take isl (by omega), if_pos (isl_iff.mpr e8)]; omega
        refine i_iinc C dX6_links_33 (kk := ?_)
        rw [e9]
        refine i_iinc C dX6_links_36 (kk := ?_)
        refine i_goto C dX6_links_39 (tgt := 14) (kk := ?_)
        exact ih (i + 1) (by omega) (by omega)
  exact lp ((sprT (sT σ) p).length + 1) 0 (by omega) (by omega)

set_option maxRecDepth 100000 in
set_option maxHeartbeats 4000000 in
theorem c_X6_broken (l : Launch) (hl : l.stackTraces = false) (D : gD) {w : wW} {τ ad : Nat → Nat} {nb tb : Nat} {σ : Sg} {i0 : Int} (hW : WkI D w τ ad nb tb σ := by assumption) (hi : inR i0 := by omega) : CTx l D yX6_broken cX6_broken 5 (some .int) (rmL 8 2 12) [.ref (ad 0), .int (Z32 i0)] w (fun u w1 => (∃ p : Nat, p < 12 ∧ i0 = (p : Int) ∧ u = some (.int (Z32 ((cnb (badb (sT σ)) (sprT (sT σ) p) : Nat) : Int)))) ∧ w1 = w) (fun E w1 => E = "java/lang/IndexOutOfBoundsException" ∧ ¬ (0 ≤ i0 ∧ i0 < 12) ∧ w1 = w) := by
  refine CTx_of hl rfl (by rfl) (Nat.le_of_ble_eq_true rfl) ?_
  intro G C
  show G 0 0 w [some (.ref (ad 0)), some (.int (Z32 i0)), none, none, none] 0 []
  refine i_aload_n C dX6_broken_0 (kk := ?_)
  refine i_iload_n C dX6_broken_1 (kk := ?_)
  refine i_callVX C lk_X6_67 (cx_X6_pageAt l hl D (hW := hW)) (hcl := rfl) (hst := rfl) dX6_broken_2 (hw := hW.obj) (hxx := fun E w1 h => h) (kk := fun v2 w2 g2 => ?_)
  obtain ⟨⟨p, hp, hip, rfl⟩, q2⟩ := g2
  have q2 := q2.symm
  subst q2
  obtain ⟨os, kS⟩ := hW.spr hp
  have h100 := kS.2.2.2.2.2.2.2.1
  refine i_getf C f_X6_129 dX6_broken_5 (hw := hW.page hp) (kk := ?_)
  refine i_astore_n C dX6_broken_8 (kk := ?_)
  refine i_iconst C dX6_broken_9 (kk := ?_)
  refine i_istore_n C dX6_broken_10 (kk := ?_)
  refine i_iconst C dX6_broken_11 (kk := ?_)
  refine i_istore C dX6_broken_12 (kk := ?_)
  have lp : ∀ (m i : Nat), (sprT (sT σ) p).length + 1 ≤ m + i → i ≤ (sprT (sT σ) p).length → G 1 6 w [some (.ref (ad 0)), some (.int (Z32 i0)), some (.ref (ad (200 + 6 * p))), some (.int (Z32 (cnb (badb (sT σ)) ((sprT (sT σ) p).take i) : Int))), some (.int (Z32 (i : Int)))] 14 [] := by
    intro m
    induction m with
    | zero => intro i h1 h2; omega
    | succ m ih =>
    intro i h1 h2
    have hc := cnb_takele (badb (sT σ)) (sprT (sT σ) p) i
    refine i_iload C dX6_broken_14 (kk := ?_)
    refine i_aload_n C dX6_broken_16 (kk := ?_)
    refine i_getf C f_X6_171 dX6_broken_17 (hw := kS.2.2.2.2.2.2.1) (kk := ?_)
    refine i_icmp_ge C dX6_broken_20 (tgt := 42) (kt := fun hB20 => ?_) (kf := fun hB20 => ?_)
    · refine i_iload_n C dX6_broken_42 (kk := ?_)
      exact i_iret C (d := dX6_broken_43) (h := ⟨⟨p, hp, hip, by rw [List.take_of_length_le (by omega)]⟩, rfl⟩)
    · refine i_aload_n C dX6_broken_23 (kk := ?_)
      refine i_aload_n C dX6_broken_24 (kk := ?_)
      refine i_iload C dX6_broken_25 (kk := ?_)
      refine i_callV C lk_X6_178 (c_X6_isBroken l hl D (hW := hW) kS hp (i := i)) (hcl := rfl) (hst := rfl) dX6_broken_27 (hw := hW.obj) (kk := fun v27 w27 g27 => ?_)
      obtain ⟨rfl, q27⟩ := g27
      have q27 := q27.symm
      subst q27
      refine i_if_eq C dX6_broken_30 (tgt := 36) (ha := by split <;> decide) (kt := fun hB30 => ?_) (kf := fun hB30 => ?_)
      · have e8 : ¬ (badb (sT σ) (it4 (sprT (sT σ) p) i) = true) := by intro q; rw [if_pos q] at hB30; cases hB30
        have e9 : cnb (badb (sT σ)) ((sprT (sT σ) p).take i) = cnb (badb (sT σ)) ((sprT (sT σ) p).take (i + 1)) := by rw [cnb_take (badb (sT σ)) (by omega), if_neg (fun z => e8 z), Nat.add_zero]
        rw [e9]
        refine i_iinc C dX6_broken_36 (kk := ?_)
        refine i_goto C dX6_broken_39 (tgt := 14) (kk := ?_)
        exact ih (i + 1) (by omega) (by omega)
      · have e8 : badb (sT σ) (it4 (sprT (sT σ) p) i) = true := by apply Decidable.byContradiction; intro q; rw [if_neg q] at hB30; exact hB30 rfl
        have e9 : (cnb (badb (sT σ)) ((sprT (sT σ) p).take i) : Int) + 1 = (cnb (badb (sT σ)) ((sprT (sT σ) p).take (i + 1)) : Int) := by rw [cnb_take (badb (sT σ)) (by omega), if_pos e8]; omega
        refine i_iinc C dX6_broken_33 (kk := ?_)
        rw [e9]
        refine i_iinc C dX6_broken_36 (kk := ?_)
        refine i_goto C dX6_broken_39 (tgt := 14) (kk := ?_)
        exact ih (i + 1) (by omega) (by omega)
  exact lp ((sprT (sT σ) p).length + 1) 0 (by omega) (by omega)

set_option maxRecDepth 100000 in
set_option maxHeartbeats 4000000 in
theorem c_X6_firstBroken (l : Launch) (hl : l.stackTraces = false) (D : gD) {w : wW} {τ ad : Nat → Nat} {nb tb : Nat} {σ : Sg} {i0 : Int} (hW : WkI D w τ ad nb tb σ := by assumption) (hi : inR i0 := by omega) : CTx l D yX6_firstBroken cX6_firstBroken 4 (some .int) (rmL 8 2 12) [.ref (ad 0), .int (Z32 i0)] w (fun u w1 => (∃ p : Nat, p < 12 ∧ i0 = (p : Int) ∧ u = some (.int (Z32 (fbk (sT σ) (sprT (sT σ) p))))) ∧ w1 = w) (fun E w1 => E = "java/lang/IndexOutOfBoundsException" ∧ ¬ (0 ≤ i0 ∧ i0 < 12) ∧ w1 = w) := by
  refine CTx_of hl rfl (by rfl) (Nat.le_of_ble_eq_true rfl) ?_
  intro G C
  show G 0 0 w [some (.ref (ad 0)), some (.int (Z32 i0)), none, none] 0 []
  refine i_aload_n C dX6_firstBroken_0 (kk := ?_)
  refine i_iload_n C dX6_firstBroken_1 (kk := ?_)
  refine i_callVX C lk_X6_67 (cx_X6_pageAt l hl D (hW := hW)) (hcl := rfl) (hst := rfl) dX6_firstBroken_2 (hw := hW.obj) (hxx := fun E w1 h => h) (kk := fun v2 w2 g2 => ?_)
  obtain ⟨⟨p, hp, hip, rfl⟩, q2⟩ := g2
  have q2 := q2.symm
  subst q2
  obtain ⟨os, kS⟩ := hW.spr hp
  have h100 := kS.2.2.2.2.2.2.2.1
  refine i_getf C f_X6_129 dX6_firstBroken_5 (hw := hW.page hp) (kk := ?_)
  refine i_astore_n C dX6_firstBroken_8 (kk := ?_)
  refine i_iconst C dX6_firstBroken_9 (kk := ?_)
  refine i_istore_n C dX6_firstBroken_10 (kk := ?_)
  have lp : ∀ (m i : Nat), (sprT (sT σ) p).length + 1 ≤ m + i → i ≤ (sprT (sT σ) p).length → (∀ j, j < i → ¬ badb (sT σ) (it4 (sprT (sT σ) p) j) = true) → G 1 6 w [some (.ref (ad 0)), some (.int (Z32 i0)), some (.ref (ad (200 + 6 * p))), some (.int (Z32 (i : Int)))] 11 [] := by
    intro m
    induction m with
    | zero => intro i h1 h2; omega
    | succ m ih =>
    intro i h1 h2 hno
    refine i_iload_n C dX6_firstBroken_11 (kk := ?_)
    refine i_aload_n C dX6_firstBroken_12 (kk := ?_)
    refine i_getf C f_X6_171 dX6_firstBroken_13 (hw := kS.2.2.2.2.2.2.1) (kk := ?_)
    refine i_icmp_ge C dX6_firstBroken_16 (tgt := 41) (kt := fun hB16 => ?_) (kf := fun hB16 => ?_)
    · refine i_iconst C dX6_firstBroken_41 (kk := ?_)
      exact i_iret C (d := dX6_firstBroken_42) (h := ⟨⟨p, hp, hip, by rw [fbk_no _ (fun j hj => hno j (by omega))]⟩, rfl⟩)
    · refine i_aload_n C dX6_firstBroken_19 (kk := ?_)
      refine i_aload_n C dX6_firstBroken_20 (kk := ?_)
      refine i_iload_n C dX6_firstBroken_21 (kk := ?_)
      refine i_callV C lk_X6_178 (c_X6_isBroken l hl D (hW := hW) kS hp (i := i)) (hcl := rfl) (hst := rfl) dX6_firstBroken_22 (hw := hW.obj) (kk := fun v22 w22 g22 => ?_)
      obtain ⟨rfl, q22⟩ := g22
      have q22 := q22.symm
      subst q22
      refine i_if_eq C dX6_firstBroken_25 (tgt := 35) (ha := by split <;> decide) (kt := fun hB25 => ?_) (kf := fun hB25 => ?_)
      · have e8 : ¬ (badb (sT σ) (it4 (sprT (sT σ) p) i) = true) := by intro q; rw [if_pos q] at hB25; cases hB25
        refine i_iinc C dX6_firstBroken_35 (kk := ?_)
        refine i_goto C dX6_firstBroken_38 (tgt := 11) (kk := ?_)
        exact ih (i + 1) (by omega) (by omega) (fun j hj => by by_cases q : j = i; (subst q; exact e8); exact hno j (by omega))
      · have e8 : badb (sT σ) (it4 (sprT (sT σ) p) i) = true := by apply Decidable.byContradiction; intro q; rw [if_neg q] at hB25; exact hB25 rfl
        refine i_aload_n C dX6_firstBroken_28 (kk := ?_)
        refine i_iload_n C dX6_firstBroken_29 (kk := ?_)
        refine i_iconst C dX6_firstBroken_30 (kk := ?_)
        refine i_callV C lk_X6_145 (c_X2_itemWith l hl D (hS := kS) (i := i) (g := -1)) (hcl := rfl) (hst := rfl) dX6_firstBroken_31 (hw := kS.2.2.2.2.2.2.1) (kk := fun v31 w31 g31 => ?_)
        obtain ⟨rfl, q31⟩ := g31
        have q31 := q31.symm
        subst q31
        exact i_iret C (d := dX6_firstBroken_34) (h := ⟨⟨p, hp, hip, by rw [fbk_at _ i (by omega) e8 hno]⟩, rfl⟩)
  exact lp ((sprT (sT σ) p).length + 1) 0 (by omega) (by omega) (fun j hj => absurd hj (Nat.not_lt_zero j))

set_option maxRecDepth 100000 in
set_option maxHeartbeats 4000000 in
theorem c_X6_leadsTo (l : Launch) (hl : l.stackTraces = false) (D : gD) {w : wW} {τ ad : Nat → Nat} {nb tb : Nat} {σ : Sg} {p : Nat} {k : Int} (hW : WkI D w τ ad nb tb σ := by assumption) (hk : 0 ≤ k ∧ k ≤ 119) (hp : p < 12) : CTm l D yX6_leadsTo cX6_leadsTo 4 (some .boolean) (rmL 5 0 0) [.ref (ad 0), .int (Z32 k), .int (Z32 (p : Int))] w (fun u w1 => u = some (.int (Z32 (if leadb (sT σ) p k = true then 1 else 0))) ∧ w1 = w) := by
  refine CTm_of hl false rfl (by rfl) (Nat.le_of_ble_eq_true rfl) (fun h => nomatch h) ?_
  intro G C
  show G 0 0 w [some (.ref (ad 0)), some (.int (Z32 k)), some (.int (Z32 (p : Int))), none] 0 []
  refine i_iload_n C dX6_leadsTo_0 (kk := ?_)
  refine i_bipush C dX6_leadsTo_1 (kk := ?_)
  refine i_idiv C dX6_leadsTo_3 (kk := ?_)
  obtain ⟨t, ht⟩ : ∃ t : Nat, k / 10 = (t : Int) := ⟨(k / 10).toNat, by omega⟩
  have ht12 : t < 12 := by omega
  have hsR := stN_R hW.1.txt 4 t ht12
  have hsR2 : stT (sT σ) t = -1 ∨ (0 ≤ stT (sT σ) t ∧ stT (sT σ) t < 12) := hsR
  have hL : leadb (sT σ) p k = true ↔ ((t : Int) = (p : Int) ∨ stT (sT σ) t = (p : Int)) := by rw [leadb_iff, ht, Int.toNat_natCast]
  rw [ht]
  refine i_istore_n C dX6_leadsTo_4 (kk := ?_)
  refine i_iload_n C dX6_leadsTo_5 (kk := ?_)
  refine i_iload_n C dX6_leadsTo_6 (kk := ?_)
  refine i_icmp_eq C dX6_leadsTo_7 (tgt := 19) (kt := fun hB7 => ?_) (kf := fun hB7 => ?_)
  · refine i_iconst C dX6_leadsTo_19 (kk := ?_)
    refine i_goto C dX6_leadsTo_20 (tgt := 24) (kk := ?_)
    exact i_zret C (d := dX6_leadsTo_24) (ha := by first | exact Or.inl rfl | exact Or.inr rfl) (h := ⟨by first | (rw [if_pos (hL.mpr (Or.inl hB7))]; done) | (rw [if_pos (hL.mpr (Or.inr hB16))]; done) | (rw [if_neg (fun q => (hL.mp q).elim hB7 hB16)]; done), rfl⟩)
  · refine i_aload_n C dX6_leadsTo_10 (kk := ?_)
    refine i_iload_n C dX6_leadsTo_11 (kk := ?_)
    refine i_callV C lk_X6_168 (c_X6_behindRedirects l hl D (hW := hW) (p := t)) (hcl := rfl) (hst := rfl) dX6_leadsTo_12 (hw := hW.obj) (kk := fun v12 w12 g12 => ?_)
    obtain ⟨rfl, q12⟩ := g12
    have q12 := q12.symm
    subst q12
    refine i_iload_n C dX6_leadsTo_15 (kk := ?_)
    refine i_icmp_ne C dX6_leadsTo_16 (tgt := 23) (kt := fun hB16 => ?_) (kf := fun hB16 => ?_)
    · refine i_iconst C dX6_leadsTo_23 (kk := ?_)
      exact i_zret C (d := dX6_leadsTo_24) (ha := by first | exact Or.inl rfl | exact Or.inr rfl) (h := ⟨by first | (rw [if_pos (hL.mpr (Or.inl hB7))]; done) | (rw [if_pos (hL.mpr (Or.inr hB16))]; done) | (rw [if_neg (fun q => (hL.mp q).elim hB7 hB16)]; done), rfl⟩)
    · refine i_iconst C dX6_leadsTo_19 (kk := ?_)
      refine i_goto C dX6_leadsTo_20 (tgt := 24) (kk := ?_)
      exact i_zret C (d := dX6_leadsTo_24) (ha := by first | exact Or.inl rfl | exact Or.inr rfl) (h := ⟨by first | (rw [if_pos (hL.mpr (Or.inl hB7))]; done) | (rw [if_pos (hL.mpr (Or.inr hB16))]; done) | (rw [if_neg (fun q => (hL.mp q).elim hB7 hB16)]; done), rfl⟩)

set_option maxRecDepth 100000 in
set_option maxHeartbeats 4000000 in
theorem c_X6_hasGoodLink (l : Launch) (hl : l.stackTraces = false) (D : gD) {w : wW} {τ ad : Nat → Nat} {nb tb : Nat} {σ : Sg} {p f : Nat} (hW : WkI D w τ ad nb tb σ := by assumption) (hf : f < 12 := by omega) (hp : p < 12 := by omega) : CTm l D yX6_hasGoodLink cX6_hasGoodLink 6 (some .boolean) (rmL 6 0 0) [.ref (ad 0), .int (Z32 (f : Int)), .int (Z32 (p : Int))] w (fun u w1 => u = some (.int (Z32 (if lfb (sT σ) p f = true then 1 else 0))) ∧ w1 = w) := by
  refine CTm_of hl false rfl (by rfl) (Nat.le_of_ble_eq_true rfl) (fun h => nomatch h) ?_
  intro G C
  show G 0 0 w [some (.ref (ad 0)), some (.int (Z32 (f : Int))), some (.int (Z32 (p : Int))), none, none, none] 0 []
  refine i_aload_n C dX6_hasGoodLink_0 (kk := ?_)
  refine i_iload_n C dX6_hasGoodLink_1 (kk := ?_)
  refine i_callV C lk_X6_67 (c_X6_pageAt l hl D (hW := hW) (p := f)) (hcl := rfl) (hst := rfl) dX6_hasGoodLink_2 (hw := hW.obj) (kk := fun v2 w2 g2 => ?_)
  obtain ⟨rfl, q2⟩ := g2
  have q2 := q2.symm
  subst q2
  obtain ⟨os, kS⟩ := hW.spr hf
  have h100 := kS.2.2.2.2.2.2.2.1
  refine i_getf C f_X6_129 dX6_hasGoodLink_5 (hw := hW.page hf) (kk := ?_)
  refine i_astore_n C dX6_hasGoodLink_8 (kk := ?_)
  refine i_iconst C dX6_hasGoodLink_9 (kk := ?_)
  refine i_istore C dX6_hasGoodLink_10 (kk := ?_)
  have lp : ∀ (m i : Nat) (o9 : Option Value), (sprT (sT σ) f).length + 1 ≤ m + i → i ≤ (sprT (sT σ) f).length → (∀ j, j < i → ¬ (((shw (it4 (sprT (sT σ) f) j) (-1) ∧ isrt (it4 (sprT (sT σ) f) j) = 2) ∧ leadb (sT σ) p (iwth (it4 (sprT (sT σ) f) j) (-1)) = true) ∧ goodb (sT σ) (iwth (it4 (sprT (sT σ) f) j) (-1)) = true)) → G 0 0 w [some (.ref (ad 0)), some (.int (Z32 (f : Int))), some (.int (Z32 (p : Int))), some (.ref (ad (200 + 6 * f))), some (.int (Z32 (i : Int))), o9] 12 [] := by
    intro m
    induction m with
    | zero => intro i o9 h1 h2; omega
    | succ m ih =>
    intro i o9 h1 h2 hno
    refine i_iload C dX6_hasGoodLink_12 (kk := ?_)
    refine i_aload_n C dX6_hasGoodLink_14 (kk := ?_)
    refine i_getf C f_X6_171 dX6_hasGoodLink_15 (hw := kS.2.2.2.2.2.2.1) (kk := ?_)
    refine i_icmp_ge C dX6_hasGoodLink_18 (tgt := 67) (kt := fun hB18 => ?_) (kf := fun hB18 => ?_)
    · refine i_iconst C dX6_hasGoodLink_67 (kk := ?_)
      exact i_zret C (d := dX6_hasGoodLink_68) (ha := Or.inl rfl) (h := ⟨by rw [if_neg (fun q => by obtain ⟨j, hj, z⟩ := lfb_iff.mp q; exact hno j (by omega) z)], rfl⟩)
    · refine i_aload_n C dX6_hasGoodLink_21 (kk := ?_)
      refine i_iload C dX6_hasGoodLink_22 (kk := ?_)
      refine i_iconst C dX6_hasGoodLink_24 (kk := ?_)
      refine i_callV C lk_X6_145 (c_X2_itemWith l hl D (hS := kS) (i := i) (g := -1)) (hcl := rfl) (hst := rfl) dX6_hasGoodLink_25 (hw := kS.2.2.2.2.2.2.1) (kk := fun v25 w25 g25 => ?_)
      obtain ⟨rfl, q25⟩ := g25
      have q25 := q25.symm
      subst q25
      refine i_istore C dX6_hasGoodLink_28 (kk := ?_)
      refine i_aload_n C dX6_hasGoodLink_30 (kk := ?_)
      refine i_iload C dX6_hasGoodLink_31 (kk := ?_)
      refine i_iconst C dX6_hasGoodLink_33 (kk := ?_)
      refine i_callV C lk_X6_174 (c_X2_showsSort l hl D (hS := kS) (i := i) (g := 2)) (hcl := rfl) (hst := rfl) dX6_hasGoodLink_34 (hw := kS.2.2.2.2.2.2.1) (kk := fun v34 w34 g34 => ?_)
      obtain ⟨rfl, q34⟩ := g34
      have q34 := q34.symm
      subst q34
      refine i_if_eq C dX6_hasGoodLink_37 (tgt := 61) (ha := by split <;> decide) (kt := fun hB37 => ?_) (kf := fun hB37 => ?_)
      · have e8 : ¬ (shw (it4 (sprT (sT σ) f) i) (-1) ∧ isrt (it4 (sprT (sT σ) f) i) = 2) := by intro q; rw [if_pos q] at hB37; cases hB37
        have e5 : ¬ (((shw (it4 (sprT (sT σ) f) i) (-1) ∧ isrt (it4 (sprT (sT σ) f) i) = 2) ∧ leadb (sT σ) p (iwth (it4 (sprT (sT σ) f) i) (-1)) = true) ∧ goodb (sT σ) (iwth (it4 (sprT (sT σ) f) i) (-1)) = true) := fun q => e8 q.1.1
        refine i_iinc C dX6_hasGoodLink_61 (kk := ?_)
        refine i_goto C dX6_hasGoodLink_64 (tgt := 12) (kk := ?_)
        exact ih (i + 1) _ (by omega) (by omega) (fun j hj => by by_cases q : j = i; (subst q; exact e5); exact hno j (by omega))
      · have e8 : shw (it4 (sprT (sT σ) f) i) (-1) ∧ isrt (it4 (sprT (sT σ) f) i) = 2 := by apply Decidable.byContradiction; intro q; rw [if_neg q] at hB37; exact hB37 rfl
        have hR := isl_R kS.2.2.2.2.2.2.2.2.2.1 (i := i) (by omega) e8
        refine i_aload_n C dX6_hasGoodLink_40 (kk := ?_)
        refine i_iload C dX6_hasGoodLink_41 (kk := ?_)
        refine i_iload_n C dX6_hasGoodLink_43 (kk := ?_)
        refine i_callV C lk_X6_313 (c_X6_leadsTo l hl D (hW := hW) hR hp) (hcl := rfl) (hst := rfl) dX6_hasGoodLink_44 (hw := hW.obj) (kk := fun v44 w44 g44 => ?_)
        obtain ⟨rfl, q44⟩ := g44
        have q44 := q44.symm
        subst q44
        refine i_if_eq C dX6_hasGoodLink_47 (tgt := 61) (ha := by split <;> decide) (kt := fun hB47 => ?_) (kf := fun hB47 => ?_)
        · have e7 : ¬ leadb (sT σ) p (iwth (it4 (sprT (sT σ) f) i) (-1)) = true := by intro q; rw [if_pos q] at hB47; cases hB47
          have e5 : ¬ (((shw (it4 (sprT (sT σ) f) i) (-1) ∧ isrt (it4 (sprT (sT σ) f) i) = 2) ∧ leadb (sT σ) p (iwth (it4 (sprT (sT σ) f) i) (-1)) = true) ∧ goodb (sT σ) (iwth (it4 (sprT (sT σ) f) i) (-1)) = true) := fun q => e7 q.1.2
          refine i_iinc C dX6_hasGoodLink_61 (kk := ?_)
          refine i_goto C dX6_hasGoodLink_64 (tgt := 12) (kk := ?_)
          exact ih (i + 1) _ (by omega) (by omega) (fun j hj => by by_cases q : j = i; (subst q; exact e5); exact hno j (by omega))
        · have e7 : leadb (sT σ) p (iwth (it4 (sprT (sT σ) f) i) (-1)) = true := by apply Decidable.byContradiction; intro q; rw [if_neg q] at hB47; exact hB47 rfl
          refine i_aload_n C dX6_hasGoodLink_50 (kk := ?_)
          refine i_iload C dX6_hasGoodLink_51 (kk := ?_)
          refine i_callV C lk_X6_306 (c_X6_isGood l hl D (hW := hW) hR) (hcl := rfl) (hst := rfl) dX6_hasGoodLink_53 (hw := hW.obj) (kk := fun v53 w53 g53 => ?_)
          obtain ⟨rfl, q53⟩ := g53
          have q53 := q53.symm
          subst q53
          refine i_if_eq C dX6_hasGoodLink_56 (tgt := 61) (ha := by split <;> decide) (kt := fun hB56 => ?_) (kf := fun hB56 => ?_)
          · have e6 : ¬ goodb (sT σ) (iwth (it4 (sprT (sT σ) f) i) (-1)) = true := by intro q; rw [if_pos q] at hB56; cases hB56
            have e5 : ¬ (((shw (it4 (sprT (sT σ) f) i) (-1) ∧ isrt (it4 (sprT (sT σ) f) i) = 2) ∧ leadb (sT σ) p (iwth (it4 (sprT (sT σ) f) i) (-1)) = true) ∧ goodb (sT σ) (iwth (it4 (sprT (sT σ) f) i) (-1)) = true) := fun q => e6 q.2
            refine i_iinc C dX6_hasGoodLink_61 (kk := ?_)
            refine i_goto C dX6_hasGoodLink_64 (tgt := 12) (kk := ?_)
            exact ih (i + 1) _ (by omega) (by omega) (fun j hj => by by_cases q : j = i; (subst q; exact e5); exact hno j (by omega))
          · have e6 : goodb (sT σ) (iwth (it4 (sprT (sT σ) f) i) (-1)) = true := by apply Decidable.byContradiction; intro q; rw [if_neg q] at hB56; exact hB56 rfl
            refine i_iconst C dX6_hasGoodLink_59 (kk := ?_)
            exact i_zret C (d := dX6_hasGoodLink_60) (ha := Or.inr rfl) (h := ⟨by rw [if_pos (lfb_iff.mpr ⟨i, by omega, ⟨e8, e7⟩, e6⟩)], rfl⟩)
  exact lp ((sprT (sT σ) f).length + 1) 0 _ (by omega) (by omega) (fun j hj => absurd hj (Nat.not_lt_zero j))

set_option maxRecDepth 100000 in
set_option maxHeartbeats 4000000 in
theorem c_X6_linkedFrom (l : Launch) (hl : l.stackTraces = false) (D : gD) {w : wW} {τ ad : Nat → Nat} {nb tb : Nat} {σ : Sg} {i : Int} (hW : WkI D w τ ad nb tb σ := by assumption) (hi : inR i := by omega) : CTx l D yX6_linkedFrom cX6_linkedFrom 4 (some .int) (rmL 8 1 6) [.ref (ad 0), .int (Z32 i)] w (fun u w1 => (∃ p : Nat, p < 12 ∧ i = (p : Int) ∧ u = some (.int (Z32 ((lfs (sT σ) p 12 : Nat) : Int)))) ∧ w1 = w) (fun E w1 => E = "java/lang/IndexOutOfBoundsException" ∧ ¬ (0 ≤ i ∧ i < 12) ∧ w1 = w) := by
  refine CTx_of hl rfl (by rfl) (Nat.le_of_ble_eq_true rfl) ?_
  intro G C
  show G 0 0 w [some (.ref (ad 0)), some (.int (Z32 i)), none, none] 0 []
  refine i_iload_n C dX6_linkedFrom_0 (kk := ?_)
  refine i_callSX C lk_X6_45 (c_X6_requirePage l hl D) (hst := rfl) dX6_linkedFrom_1 (hxx := fun E w1 h => h) (kk := fun v1 w1 g1 => ?_)
  obtain ⟨rfl, hk, q1⟩ := g1
  have q1 := q1.symm
  subst q1
  obtain ⟨p, hp⟩ : ∃ p : Nat, i = (p : Int) := ⟨i.toNat, by omega⟩
  subst hp
  have hp : p < 12 := by omega
  refine i_iconst C dX6_linkedFrom_4 (kk := ?_)
  refine i_istore_n C dX6_linkedFrom_5 (kk := ?_)
  refine i_iconst C dX6_linkedFrom_6 (kk := ?_)
  refine i_istore_n C dX6_linkedFrom_7 (kk := ?_)
  have lp : ∀ (m f : Nat), 12 + 1 ≤ m + f → f ≤ 12 → G 1 6 w [some (.ref (ad 0)), some (.int (Z32 (p : Int))), some (.int (Z32 (lfs (sT σ) p f : Int))), some (.int (Z32 (f : Int)))] 8 [] := by
    intro m
    induction m with
    | zero => intro f h1 h2; omega
    | succ m ih =>
    intro f h1 h2
    refine i_iload_n C dX6_linkedFrom_8 (kk := ?_)
    refine i_bipush C dX6_linkedFrom_9 (kk := ?_)
    refine i_icmp_ge C dX6_linkedFrom_11 (tgt := 35) (kt := fun hB11 => ?_) (kf := fun hB11 => ?_)
    · refine i_iload_n C dX6_linkedFrom_35 (kk := ?_)
      exact i_iret C (d := dX6_linkedFrom_36) (h := ⟨⟨p, hp, rfl, by rw [show f = 12 by omega]⟩, rfl⟩)
    · refine i_aload_n C dX6_linkedFrom_14 (kk := ?_)
      refine i_iload_n C dX6_linkedFrom_15 (kk := ?_)
      refine i_iload_n C dX6_linkedFrom_16 (kk := ?_)
      refine i_callV C lk_X6_182 (c_X6_hasGoodLink l hl D (hW := hW) (f := f) (p := p)) (hcl := rfl) (hst := rfl) dX6_linkedFrom_17 (hw := hW.obj) (kk := fun v17 w17 g17 => ?_)
      obtain ⟨rfl, q17⟩ := g17
      have q17 := q17.symm
      subst q17
      refine i_if_eq C dX6_linkedFrom_20 (tgt := 29) (ha := by split <;> decide) (kt := fun hB20 => ?_) (kf := fun hB20 => ?_)
      · have e8 : ¬ (lfb (sT σ) p f = true) := by intro q; rw [if_pos q] at hB20; cases hB20
        have e9 : lfs (sT σ) p f = lfs (sT σ) p (f + 1) := (if_neg e8).symm
        rw [e9]
        refine i_iinc C dX6_linkedFrom_29 (kk := ?_)
        refine i_goto C dX6_linkedFrom_32 (tgt := 8) (kk := ?_)
        exact ih (f + 1) (by omega) (by omega)
      · have e8 : lfb (sT σ) p f = true := by apply Decidable.byContradiction; intro q; rw [if_neg q] at hB20; exact hB20 rfl
        have e9 : lfs (sT σ) p f ||| 2 ^ f = lfs (sT σ) p (f + 1) := (if_pos e8).symm
        refine i_iload_n C dX6_linkedFrom_23 (kk := ?_)
        refine i_iconst C dX6_linkedFrom_24 (kk := ?_)
        refine i_iload_n C dX6_linkedFrom_25 (kk := ?_)
        refine i_ishl C dX6_linkedFrom_26 (hz := Z32_shl (by omega)) (kk := ?_)
        refine i_ior C dX6_linkedFrom_27 (hz := Z32_or (lfs (sT σ) p f) (2 ^ f)) (kk := ?_)
        rw [e9]
        refine i_istore_n C dX6_linkedFrom_28 (kk := ?_)
        refine i_iinc C dX6_linkedFrom_29 (kk := ?_)
        refine i_goto C dX6_linkedFrom_32 (tgt := 8) (kk := ?_)
        exact ih (f + 1) (by omega) (by omega)
  exact lp 13 0 (by omega) (by omega)

set_option maxRecDepth 100000 in
set_option maxHeartbeats 4000000 in
theorem c_X6_standsFor (l : Launch) (hl : l.stackTraces = false) (D : gD) {w : wW} {τ ad : Nat → Nat} {nb tb : Nat} {σ : Sg} {i : Int} (hW : WkI D w τ ad nb tb σ := by assumption) (hi : inR i := by omega) : CTx l D yX6_standsFor cX6_standsFor 2 (some .int) (rmL 8 1 6) [.ref (ad 0), .int (Z32 i)] w (fun u w1 => (∃ p : Nat, p < 12 ∧ i = (p : Int) ∧ u = some (.int (Z32 (stT (sT σ) p)))) ∧ w1 = w) (fun E w1 => E = "java/lang/IndexOutOfBoundsException" ∧ ¬ (0 ≤ i ∧ i < 12) ∧ w1 = w) := by
  refine CTx_of hl rfl (by rfl) (Nat.le_of_ble_eq_true rfl) ?_
  intro G C
  show G 0 0 w [some (.ref (ad 0)), some (.int (Z32 i))] 0 []
  refine i_iload_n C dX6_standsFor_0 (kk := ?_)
  refine i_callSX C lk_X6_45 (c_X6_requirePage l hl D) (hst := rfl) dX6_standsFor_1 (hxx := fun E w1 h => h) (kk := fun v1 w1 g1 => ?_)
  obtain ⟨rfl, hk, q1⟩ := g1
  have q1 := q1.symm
  subst q1
  obtain ⟨p, hp⟩ : ∃ p : Nat, i = (p : Int) := ⟨i.toNat, by omega⟩
  subst hp
  have hp : p < 12 := by omega
  refine i_aload_n C dX6_standsFor_4 (kk := ?_)
  refine i_iload_n C dX6_standsFor_5 (kk := ?_)
  refine i_callV C lk_X6_168 (c_X6_behindRedirects l hl D (hW := hW) (p := p)) (hcl := rfl) (hst := rfl) dX6_standsFor_6 (hw := hW.obj) (kk := fun v6 w6 g6 => ?_)
  obtain ⟨rfl, q6⟩ := g6
  have q6 := q6.symm
  subst q6
  exact i_iret C (d := dX6_standsFor_9) (h := ⟨⟨p, hp, rfl, rfl⟩, rfl⟩)

set_option maxRecDepth 100000 in
set_option maxHeartbeats 4000000 in
theorem c_X6_countBreaches (l : Launch) (hl : l.stackTraces = false) (D : gD) {w : wW} {τ ad : Nat → Nat} {nb tb : Nat} {σ : Sg} {p : Nat} (hW : WkI D w τ ad nb tb σ := by assumption) (hp : p < 12 := by omega) : CTm l D yX6_countBreaches cX6_countBreaches 5 (some .int) (rmL 4 0 0) [.ref (ad 0), .ref (ad (100 + p))] w (fun u w1 => u = some (.int (Z32 ((brc σ p : Nat) : Int))) ∧ w1 = w) := by
  refine CTm_of hl false rfl (by rfl) (Nat.le_of_ble_eq_true rfl) (fun h => nomatch h) ?_
  intro G C
  show G 0 0 w [some (.ref (ad 0)), some (.ref (ad (100 + p))), none, none, none] 0 []
  obtain ⟨os, kS⟩ := hW.spr hp
  have h100 := kS.2.2.2.2.2.2.2.1
  refine i_aload_n C dX6_countBreaches_0 (kk := ?_)
  refine i_getf C f_X6_129 dX6_countBreaches_1 (hw := hW.page hp) (kk := ?_)
  refine i_astore_n C dX6_countBreaches_4 (kk := ?_)
  refine i_iconst C dX6_countBreaches_5 (kk := ?_)
  refine i_istore_n C dX6_countBreaches_6 (kk := ?_)
  refine i_iconst C dX6_countBreaches_7 (kk := ?_)
  refine i_istore C dX6_countBreaches_8 (kk := ?_)
  have lp : ∀ (m i : Nat), (sprT (sT σ) p).length + 1 ≤ m + i → i ≤ (sprT (sT σ) p).length → G 0 0 w [some (.ref (ad 0)), some (.ref (ad (100 + p))), some (.ref (ad (200 + 6 * p))), some (.int (Z32 (cnb (brb σ p) ((sprT (sT σ) p).take i) : Int))), some (.int (Z32 (i : Int)))] 10 [] := by
    intro m
    induction m with
    | zero => intro i h1 h2; omega
    | succ m ih =>
    intro i h1 h2
    have hc := cnb_takele (brb σ p) (sprT (sT σ) p) i
    refine i_iload C dX6_countBreaches_10 (kk := ?_)
    refine i_aload_n C dX6_countBreaches_12 (kk := ?_)
    refine i_getf C f_X6_171 dX6_countBreaches_13 (hw := kS.2.2.2.2.2.2.1) (kk := ?_)
    refine i_icmp_ge C dX6_countBreaches_16 (tgt := 61) (kt := fun hB16 => ?_) (kf := fun hB16 => ?_)
    · refine i_iload_n C dX6_countBreaches_61 (kk := ?_)
      exact i_iret C (d := dX6_countBreaches_62) (h := ⟨by unfold brc; rw [List.take_of_length_le (by omega)], rfl⟩)
    · refine i_aload_n C dX6_countBreaches_19 (kk := ?_)
      refine i_iload C dX6_countBreaches_20 (kk := ?_)
      refine i_iconst C dX6_countBreaches_22 (kk := ?_)
      refine i_callV C lk_X6_316 (c_X2_shows l hl D (hS := kS) (i := i) (g := -1)) (hcl := rfl) (hst := rfl) dX6_countBreaches_23 (hw := kS.2.2.2.2.2.2.1) (kk := fun v23 w23 g23 => ?_)
      obtain ⟨rfl, q23⟩ := g23
      have q23 := q23.symm
      subst q23
      refine i_if_eq C dX6_countBreaches_26 (tgt := 55) (ha := by split <;> decide) (kt := fun hB26 => ?_) (kf := fun hB26 => ?_)
      · have e8 : ¬ (shw (it4 (sprT (sT σ) p) i) (-1)) := by intro q; rw [if_pos q] at hB26; cases hB26
        have e9 : cnb (brb σ p) ((sprT (sT σ) p).take i) = cnb (brb σ p) ((sprT (sT σ) p).take (i + 1)) := by rw [cnb_take _ (by omega), if_neg (fun z => e8 (brb_iff.mp z).1), Nat.add_zero]
        rw [e9]
        refine i_iinc C dX6_countBreaches_55 (kk := ?_)
        refine i_goto C dX6_countBreaches_58 (tgt := 10) (kk := ?_)
        exact ih (i + 1) (by omega) (by omega)
      · have e8 : shw (it4 (sprT (sT σ) p) i) (-1) := by apply Decidable.byContradiction; intro q; rw [if_neg q] at hB26; exact hB26 rfl
        have hv := kS.2.2.2.2.2.2.2.2.2.1 _ (it4_mem (i := i) (by omega))
        unfold ItV at hv
        obtain ⟨s, hs⟩ : ∃ s : Nat, (it4 (sprT (sT σ) p) i).2.2.2 = s := ⟨(it4 (sprT (sT σ) p) i).2.2.2.toNat, by omega⟩
        have hs12 : s < 12 := by omega
        have hb := brb_iff (σ := σ) (p := p) (q := it4 (sprT (sT σ) p) i)
        rw [hs, Int.toNat_natCast] at hb
        refine i_aload_n C dX6_countBreaches_29 (kk := ?_)
        refine i_aload_n C dX6_countBreaches_30 (kk := ?_)
        refine i_iload C dX6_countBreaches_31 (kk := ?_)
        refine i_callV C lk_X6_165 (c_X2_sourceOf l hl D (hS := kS) (i := i)) (hcl := rfl) (hst := rfl) dX6_countBreaches_33 (hw := kS.2.2.2.2.2.2.1) (kk := fun v33 w33 g33 => ?_)
        obtain ⟨rfl, q33⟩ := g33
        have q33 := q33.symm
        subst q33
        rw [hs]
        refine i_callV C lk_X6_67 (c_X6_pageAt l hl D (hW := hW) (p := s)) (hcl := rfl) (hst := rfl) dX6_countBreaches_36 (hw := hW.obj) (kk := fun v36 w36 g36 => ?_)
        obtain ⟨rfl, q36⟩ := g36
        have q36 := q36.symm
        subst q36
        refine i_getf C f_X6_73 dX6_countBreaches_39 (hw := hW.page hs12) (kk := ?_)
        refine i_getf C f_X6_110 dX6_countBreaches_42 (hw := hW.ver hs12) (kk := ?_)
        refine i_aload_n C dX6_countBreaches_45 (kk := ?_)
        refine i_getf C f_X6_116 dX6_countBreaches_46 (hw := hW.page hp) (kk := ?_)
        have hr1 := ((hW.1.2.1 s hs12).2.2.2.2.2 _ (Nat.le_refl _)).2.2
        have hr2 := (hW.1.2.1 p hp).2.1
        refine i_icmp_ge C dX6_countBreaches_49 (tgt := 55) (kt := fun hB49 => ?_) (kf := fun hB49 => ?_)
        · have e9 : cnb (brb σ p) ((sprT (sT σ) p).take i) = cnb (brb σ p) ((sprT (sT σ) p).take (i + 1)) := by rw [cnb_take _ (by omega), if_neg (fun z => by have := (hb.mp z).2; omega), Nat.add_zero]
          rw [e9]
          refine i_iinc C dX6_countBreaches_55 (kk := ?_)
          refine i_goto C dX6_countBreaches_58 (tgt := 10) (kk := ?_)
          exact ih (i + 1) (by omega) (by omega)
        · have e9 : (cnb (brb σ p) ((sprT (sT σ) p).take i) : Int) + 1 = (cnb (brb σ p) ((sprT (sT σ) p).take (i + 1)) : Int) := by rw [cnb_take _ (by omega), if_pos (hb.mpr ⟨e8, hB49⟩)]; omega
          refine i_iinc C dX6_countBreaches_52 (kk := ?_)
          rw [e9]
          refine i_iinc C dX6_countBreaches_55 (kk := ?_)
          refine i_goto C dX6_countBreaches_58 (tgt := 10) (kk := ?_)
          exact ih (i + 1) (by omega) (by omega)
  exact lp ((sprT (sT σ) p).length + 1) 0 (by omega) (by omega)

set_option maxRecDepth 100000 in
set_option maxHeartbeats 4000000 in
theorem c_X6_breaches (l : Launch) (hl : l.stackTraces = false) (D : gD) {w : wW} {τ ad : Nat → Nat} {nb tb : Nat} {σ : Sg} {i : Int} (hW : WkI D w τ ad nb tb σ := by assumption) (hi : inR i := by omega) : CTx l D yX6_breaches cX6_breaches 2 (some .int) (rmL 8 1 6) [.ref (ad 0), .int (Z32 i)] w (fun u w1 => (∃ p : Nat, p < 12 ∧ i = (p : Int) ∧ u = some (.int (Z32 ((brc σ p : Nat) : Int)))) ∧ w1 = w) (fun E w1 => E = "java/lang/IndexOutOfBoundsException" ∧ ¬ (0 ≤ i ∧ i < 12) ∧ w1 = w) := by
  refine CTx_of hl rfl (by rfl) (Nat.le_of_ble_eq_true rfl) ?_
  intro G C
  show G 0 0 w [some (.ref (ad 0)), some (.int (Z32 i))] 0 []
  refine i_aload_n C dX6_breaches_0 (kk := ?_)
  refine i_aload_n C dX6_breaches_1 (kk := ?_)
  refine i_iload_n C dX6_breaches_2 (kk := ?_)
  refine i_callVX C lk_X6_67 (cx_X6_pageAt l hl D (hW := hW)) (hcl := rfl) (hst := rfl) dX6_breaches_3 (hw := hW.obj) (hxx := fun E w1 h => h) (kk := fun v3 w3 g3 => ?_)
  obtain ⟨⟨p, hp, hip, rfl⟩, q3⟩ := g3
  have q3 := q3.symm
  subst q3
  refine i_callV C lk_X6_185 (c_X6_countBreaches l hl D (hW := hW) (p := p)) (hcl := rfl) (hst := rfl) dX6_breaches_6 (hw := hW.obj) (kk := fun v6 w6 g6 => ?_)
  obtain ⟨rfl, q6⟩ := g6
  have q6 := q6.symm
  subst q6
  exact i_iret C (d := dX6_breaches_9) (h := ⟨⟨p, hp, hip, rfl⟩, rfl⟩)

set_option maxRecDepth 100000 in
set_option maxHeartbeats 4000000 in
theorem c_X6_breached (l : Launch) (hl : l.stackTraces = false) (D : gD) {w : wW} {τ ad : Nat → Nat} {nb tb : Nat} {σ : Sg} (hW : WkI D w τ ad nb tb σ := by assumption) : CTm l D yX6_breached cX6_breached 3 (some .int) (rmL 5 0 0) [.ref (ad 0)] w (fun u w1 => u = some (.int (Z32 ((brs σ 12 : Nat) : Int))) ∧ w1 = w) := by
  refine CTm_of hl false rfl (by rfl) (Nat.le_of_ble_eq_true rfl) (fun h => nomatch h) ?_
  intro G C
  show G 0 0 w [some (.ref (ad 0)), none, none] 0 []
  refine i_iconst C dX6_breached_0 (kk := ?_)
  refine i_istore_n C dX6_breached_1 (kk := ?_)
  refine i_iconst C dX6_breached_2 (kk := ?_)
  refine i_istore_n C dX6_breached_3 (kk := ?_)
  have lp : ∀ (m p : Nat), 12 + 1 ≤ m + p → p ≤ 12 → G 0 0 w [some (.ref (ad 0)), some (.int (Z32 (brs σ p : Int))), some (.int (Z32 (p : Int)))] 4 [] := by
    intro m
    induction m with
    | zero => intro p h1 h2; omega
    | succ m ih =>
    intro p h1 h2
    have hbs := brs_le σ p
    refine i_iload_n C dX6_breached_4 (kk := ?_)
    refine i_bipush C dX6_breached_5 (kk := ?_)
    refine i_icmp_ge C dX6_breached_7 (tgt := 31) (kt := fun hB7 => ?_) (kf := fun hB7 => ?_)
    · refine i_iload_n C dX6_breached_31 (kk := ?_)
      exact i_iret C (d := dX6_breached_32) (h := ⟨by rw [show p = 12 by omega], rfl⟩)
    · refine i_aload_n C dX6_breached_10 (kk := ?_)
      refine i_aload_n C dX6_breached_11 (kk := ?_)
      refine i_iload_n C dX6_breached_12 (kk := ?_)
      refine i_callV C lk_X6_67 (c_X6_pageAt l hl D (hW := hW) (p := p)) (hcl := rfl) (hst := rfl) dX6_breached_13 (hw := hW.obj) (kk := fun v13 w13 g13 => ?_)
      obtain ⟨rfl, q13⟩ := g13
      have q13 := q13.symm
      subst q13
      refine i_callV C lk_X6_185 (c_X6_countBreaches l hl D (hW := hW) (p := p)) (hcl := rfl) (hst := rfl) dX6_breached_16 (hw := hW.obj) (kk := fun v16 w16 g16 => ?_)
      obtain ⟨rfl, q16⟩ := g16
      have q16 := q16.symm
      subst q16
      have hbR : brc σ p ≤ 100 := by obtain ⟨os, kS⟩ := hW.spr (p := p) (by omega); exact Nat.le_trans (cnb_le _ _) kS.2.2.2.2.2.2.2.1
      refine i_if_le C dX6_breached_19 (tgt := 25) (kt := fun hB19 => ?_) (kf := fun hB19 => ?_)
      · have e9 : brs σ p = brs σ (p + 1) := (if_neg (by omega)).symm
        rw [e9]
        refine i_iinc C dX6_breached_25 (kk := ?_)
        refine i_goto C dX6_breached_28 (tgt := 4) (kk := ?_)
        exact ih (p + 1) (by omega) (by omega)
      · have e9 : (brs σ p : Int) + 1 = (brs σ (p + 1) : Int) := by rw [show brs σ (p + 1) = brs σ p + 1 from if_pos (by omega)]; omega
        refine i_iinc C dX6_breached_22 (kk := ?_)
        rw [e9]
        refine i_iinc C dX6_breached_25 (kk := ?_)
        refine i_goto C dX6_breached_28 (tgt := 4) (kk := ?_)
        exact ih (p + 1) (by omega) (by omega)
  exact lp 13 0 (by omega) (by omega)
