set_option maxRecDepth 100000 in
set_option maxHeartbeats 4000000 in
theorem c_X6_indexOf (l : Launch) (hl : l.stackTraces = false) (D : gD) {w : wW} {τ : Nat → Nat} {r a n s v c o : Nat} {its : List It4} {os : List Int} {g k : Int} (hS : SpT D w τ r a n s v c o its os := by assumption) (hg : inR g := by omega) (hk : inR k := by omega) : CTx l D yX6_indexOf cX6_indexOf 4 (some .int) (rmL 8 2 12) [.ref a, .int (Z32 g), .int (Z32 k)] w (fun u w1 => (∃ i : Nat, i < its.length ∧ (-1 ≤ g ∧ g < 26) ∧ shw (it4 its i) g ∧ (shc g (its.take i) : Int) = k ∧ u = some (.int (Z32 (i : Int)))) ∧ w1 = w) (fun E w1 => ((E = "java/lang/IllegalArgumentException" ∧ ¬ (-1 ≤ g ∧ g < 26)) ∨ (E = "java/util/NoSuchElementException" ∧ (-1 ≤ g ∧ g < 26) ∧ ∀ n : Nat, k = (n : Int) → (shl g its).length ≤ n)) ∧ w1 = w) := by
  refine CTx_of hl rfl (by rfl) (Nat.le_of_ble_eq_true rfl) ?_
  intro G C
  show G 0 0 w [some (.ref a), some (.int (Z32 g)), some (.int (Z32 k)), none] 0 []
  refine i_iload_n C dX6_indexOf_0 (kk := ?_)
  refine i_callSX C lk_X6_49 (c_X6_requireArgument l hl D) (hst := rfl) dX6_indexOf_1 (hxx := fun E w1 h => ⟨Or.inl ⟨h.1, h.2.1⟩, h.2.2⟩) (kk := fun v1 w1 g1 => ?_)
  obtain ⟨rfl, hgr, q1⟩ := g1
  have q1 := q1.symm
  subst q1
  have h100 := hS.2.2.2.2.2.2.2.1
  refine i_aload_n C dX6_indexOf_4 (kk := ?_)
  refine i_iload_n C dX6_indexOf_5 (kk := ?_)
  refine i_iload_n C dX6_indexOf_6 (kk := ?_)
  refine i_callV C lk_X6_205 (c_X2_find l hl D (hS := hS)) (hcl := rfl) (hst := rfl) dX6_indexOf_7 (hw := hS.2.2.2.2.2.2.1) (kk := fun v7 w7 g7 => ?_)
  obtain ⟨hr7, q7⟩ := g7
  have q7 := q7.symm
  subst q7
  rcases hr7 with ⟨i, hi, hs, hc, rfl⟩ | ⟨hno, rfl⟩
  · refine i_istore_n C dX6_indexOf_10 (kk := ?_)
    refine i_iload_n C dX6_indexOf_11 (kk := ?_)
    refine i_iconst C dX6_indexOf_12 (kk := ?_)
    refine i_icmp_ne C dX6_indexOf_13 (tgt := 26) (kt := fun hB13 => ?_) (kf := fun hB13 => ?_)
    · refine i_iload_n C dX6_indexOf_26 (kk := ?_)
      exact i_iret C (d := dX6_indexOf_27) (h := ⟨⟨i, hi, hgr, hs, hc, rfl⟩, rfl⟩)
    · exfalso; omega
  · refine i_istore_n C dX6_indexOf_10 (kk := ?_)
    refine i_iload_n C dX6_indexOf_11 (kk := ?_)
    refine i_iconst C dX6_indexOf_12 (kk := ?_)
    refine i_icmp_ne C dX6_indexOf_13 (tgt := 26) (kt := fun hB13 => ?_) (kf := fun hB13 => ?_)
    · exact absurd rfl hB13
    · exact i_throwN C th_160_162_164 dX6_indexOf_16 dX6_indexOf_19 dX6_indexOf_20 dX6_indexOf_22 dX6_indexOf_25 (hX := ⟨Or.inr ⟨rfl, hgr, fun m hm => by apply Decidable.byContradiction; intro q; obtain ⟨i, a1, a2, a3⟩ := shc_get (arg := g) its m (by rw [← shl_len]; omega); exact hno i a1 a2 (by rw [a3]; exact hm.symm)⟩, rfl⟩)

set_option maxRecDepth 100000 in
set_option maxHeartbeats 4000000 in
theorem c_X6_sortAt (l : Launch) (hl : l.stackTraces = false) (D : gD) {w : wW} {τ ad : Nat → Nat} {nb tb : Nat} {σ : Sg} {i j k : Int} (hW : WkI D w τ ad nb tb σ := by assumption) (hi : inR i := by omega) (hj : inR j := by omega) (hk : inR k := by omega) : CTx l D yX6_sortAt cX6_sortAt 5 (some .int) (rmL 10 3 18) [.ref (ad 0), .int (Z32 i), .int (Z32 j), .int (Z32 k)] w (fun u w1 => (∃ p : Nat, p < 12 ∧ i = (p : Int) ∧ (-1 ≤ j ∧ j < 26) ∧ ∃ (n : Nat) (x : Sh3), k = (n : Int) ∧ (shl j (sprT (sT σ) p))[n]? = some x ∧ u = some (.int (Z32 x.1))) ∧ w1 = w) (fun E w1 => ((E = "java/lang/IndexOutOfBoundsException" ∧ ¬ (0 ≤ i ∧ i < 12)) ∨ (E = "java/lang/IllegalArgumentException" ∧ (0 ≤ i ∧ i < 12) ∧ ¬ (-1 ≤ j ∧ j < 26)) ∨ (E = "java/util/NoSuchElementException" ∧ (-1 ≤ j ∧ j < 26) ∧ ∃ p : Nat, p < 12 ∧ i = (p : Int) ∧ ∀ n : Nat, k = (n : Int) → (shl j (sprT (sT σ) p)).length ≤ n)) ∧ w1 = w) := by
  refine CTx_of hl rfl (by rfl) (Nat.le_of_ble_eq_true rfl) ?_
  intro G C
  show G 0 0 w [some (.ref (ad 0)), some (.int (Z32 i)), some (.int (Z32 j)), some (.int (Z32 k)), none] 0 []
  refine i_aload_n C dX6_sortAt_0 (kk := ?_)
  refine i_iload_n C dX6_sortAt_1 (kk := ?_)
  refine i_callVX C lk_X6_67 (cx_X6_pageAt l hl D (hW := hW)) (hcl := rfl) (hst := rfl) dX6_sortAt_2 (hw := hW.obj) (hxx := fun E w1 h => ⟨Or.inl ⟨h.1, h.2.1⟩, h.2.2⟩) (kk := fun v2 w2 g2 => ?_)
  obtain ⟨⟨p, hp, hip, rfl⟩, q2⟩ := g2
  have q2 := q2.symm
  subst q2
  obtain ⟨os, kS⟩ := hW.spr hp
  refine i_getf C f_X6_129 dX6_sortAt_5 (hw := hW.page hp) (kk := ?_)
  refine i_astore C dX6_sortAt_8 (kk := ?_)
  refine i_aload C dX6_sortAt_10 (kk := ?_)
  refine i_aload C dX6_sortAt_12 (kk := ?_)
  refine i_iload_n C dX6_sortAt_14 (kk := ?_)
  refine i_iload_n C dX6_sortAt_15 (kk := ?_)
  refine i_callSX C lk_X6_138 (c_X6_indexOf l hl D (hS := kS)) (hst := rfl) dX6_sortAt_16 (hxx := fun E w1 h => ⟨h.1.elim (fun q => Or.inr (Or.inl ⟨q.1, by omega, q.2⟩)) (fun q => Or.inr (Or.inr ⟨q.1, q.2.1, p, hp, hip, q.2.2⟩)), h.2⟩) (kk := fun v16 w16 g16 => ?_)
  obtain ⟨⟨x, hx, hjr, hs, hc, rfl⟩, q16⟩ := g16
  have q16 := q16.symm
  subst q16
  have hat := shl_at hx hs
  refine i_callV C lk_X6_142 (c_X2_itemSort l hl D (hS := kS) (i := x)) (hcl := rfl) (hst := rfl) dX6_sortAt_19 (hw := kS.2.2.2.2.2.2.1) (kk := fun v19 w19 g19 => ?_)
  obtain ⟨rfl, q19⟩ := g19
  have q19 := q19.symm
  subst q19
  exact i_iret C (d := dX6_sortAt_22) (h := ⟨⟨p, hp, hip, hjr, _, _, hc.symm, hat, rfl⟩, rfl⟩)

set_option maxRecDepth 100000 in
set_option maxHeartbeats 4000000 in
theorem c_X6_itemAt (l : Launch) (hl : l.stackTraces = false) (D : gD) {w : wW} {τ ad : Nat → Nat} {nb tb : Nat} {σ : Sg} {i j k : Int} (hW : WkI D w τ ad nb tb σ := by assumption) (hi : inR i := by omega) (hj : inR j := by omega) (hk : inR k := by omega) : CTx l D yX6_itemAt cX6_itemAt 5 (some .int) (rmL 10 3 18) [.ref (ad 0), .int (Z32 i), .int (Z32 j), .int (Z32 k)] w (fun u w1 => (∃ p : Nat, p < 12 ∧ i = (p : Int) ∧ (-1 ≤ j ∧ j < 26) ∧ ∃ (n : Nat) (x : Sh3), k = (n : Int) ∧ (shl j (sprT (sT σ) p))[n]? = some x ∧ u = some (.int (Z32 x.2.1))) ∧ w1 = w) (fun E w1 => ((E = "java/lang/IndexOutOfBoundsException" ∧ ¬ (0 ≤ i ∧ i < 12)) ∨ (E = "java/lang/IllegalArgumentException" ∧ (0 ≤ i ∧ i < 12) ∧ ¬ (-1 ≤ j ∧ j < 26)) ∨ (E = "java/util/NoSuchElementException" ∧ (-1 ≤ j ∧ j < 26) ∧ ∃ p : Nat, p < 12 ∧ i = (p : Int) ∧ ∀ n : Nat, k = (n : Int) → (shl j (sprT (sT σ) p)).length ≤ n)) ∧ w1 = w) := by
  refine CTx_of hl rfl (by rfl) (Nat.le_of_ble_eq_true rfl) ?_
  intro G C
  show G 0 0 w [some (.ref (ad 0)), some (.int (Z32 i)), some (.int (Z32 j)), some (.int (Z32 k)), none] 0 []
  refine i_aload_n C dX6_itemAt_0 (kk := ?_)
  refine i_iload_n C dX6_itemAt_1 (kk := ?_)
  refine i_callVX C lk_X6_67 (cx_X6_pageAt l hl D (hW := hW)) (hcl := rfl) (hst := rfl) dX6_itemAt_2 (hw := hW.obj) (hxx := fun E w1 h => ⟨Or.inl ⟨h.1, h.2.1⟩, h.2.2⟩) (kk := fun v2 w2 g2 => ?_)
  obtain ⟨⟨p, hp, hip, rfl⟩, q2⟩ := g2
  have q2 := q2.symm
  subst q2
  obtain ⟨os, kS⟩ := hW.spr hp
  refine i_getf C f_X6_129 dX6_itemAt_5 (hw := hW.page hp) (kk := ?_)
  refine i_astore C dX6_itemAt_8 (kk := ?_)
  refine i_aload C dX6_itemAt_10 (kk := ?_)
  refine i_aload C dX6_itemAt_12 (kk := ?_)
  refine i_iload_n C dX6_itemAt_14 (kk := ?_)
  refine i_iload_n C dX6_itemAt_15 (kk := ?_)
  refine i_callSX C lk_X6_138 (c_X6_indexOf l hl D (hS := kS)) (hst := rfl) dX6_itemAt_16 (hxx := fun E w1 h => ⟨h.1.elim (fun q => Or.inr (Or.inl ⟨q.1, by omega, q.2⟩)) (fun q => Or.inr (Or.inr ⟨q.1, q.2.1, p, hp, hip, q.2.2⟩)), h.2⟩) (kk := fun v16 w16 g16 => ?_)
  obtain ⟨⟨x, hx, hjr, hs, hc, rfl⟩, q16⟩ := g16
  have q16 := q16.symm
  subst q16
  have hat := shl_at hx hs
  refine i_iload_n C dX6_itemAt_19 (kk := ?_)
  refine i_callV C lk_X6_145 (c_X2_itemWith l hl D (hS := kS) (i := x)) (hcl := rfl) (hst := rfl) dX6_itemAt_20 (hw := kS.2.2.2.2.2.2.1) (kk := fun v20 w20 g20 => ?_)
  obtain ⟨rfl, q20⟩ := g20
  have q20 := q20.symm
  subst q20
  exact i_iret C (d := dX6_itemAt_23) (h := ⟨⟨p, hp, hip, hjr, _, _, hc.symm, hat, rfl⟩, rfl⟩)

set_option maxRecDepth 100000 in
set_option maxHeartbeats 4000000 in
theorem c_X6_sourceAt (l : Launch) (hl : l.stackTraces = false) (D : gD) {w : wW} {τ ad : Nat → Nat} {nb tb : Nat} {σ : Sg} {i j k : Int} (hW : WkI D w τ ad nb tb σ := by assumption) (hi : inR i := by omega) (hj : inR j := by omega) (hk : inR k := by omega) : CTx l D yX6_sourceAt cX6_sourceAt 5 (some .int) (rmL 10 3 18) [.ref (ad 0), .int (Z32 i), .int (Z32 j), .int (Z32 k)] w (fun u w1 => (∃ p : Nat, p < 12 ∧ i = (p : Int) ∧ (-1 ≤ j ∧ j < 26) ∧ ∃ (n : Nat) (x : Sh3), k = (n : Int) ∧ (shl j (sprT (sT σ) p))[n]? = some x ∧ u = some (.int (Z32 x.2.2))) ∧ w1 = w) (fun E w1 => ((E = "java/lang/IndexOutOfBoundsException" ∧ ¬ (0 ≤ i ∧ i < 12)) ∨ (E = "java/lang/IllegalArgumentException" ∧ (0 ≤ i ∧ i < 12) ∧ ¬ (-1 ≤ j ∧ j < 26)) ∨ (E = "java/util/NoSuchElementException" ∧ (-1 ≤ j ∧ j < 26) ∧ ∃ p : Nat, p < 12 ∧ i = (p : Int) ∧ ∀ n : Nat, k = (n : Int) → (shl j (sprT (sT σ) p)).length ≤ n)) ∧ w1 = w) := by
  refine CTx_of hl rfl (by rfl) (Nat.le_of_ble_eq_true rfl) ?_
  intro G C
  show G 0 0 w [some (.ref (ad 0)), some (.int (Z32 i)), some (.int (Z32 j)), some (.int (Z32 k)), none] 0 []
  refine i_aload_n C dX6_sourceAt_0 (kk := ?_)
  refine i_iload_n C dX6_sourceAt_1 (kk := ?_)
  refine i_callVX C lk_X6_67 (cx_X6_pageAt l hl D (hW := hW)) (hcl := rfl) (hst := rfl) dX6_sourceAt_2 (hw := hW.obj) (hxx := fun E w1 h => ⟨Or.inl ⟨h.1, h.2.1⟩, h.2.2⟩) (kk := fun v2 w2 g2 => ?_)
  obtain ⟨⟨p, hp, hip, rfl⟩, q2⟩ := g2
  have q2 := q2.symm
  subst q2
  obtain ⟨os, kS⟩ := hW.spr hp
  refine i_getf C f_X6_129 dX6_sourceAt_5 (hw := hW.page hp) (kk := ?_)
  refine i_astore C dX6_sourceAt_8 (kk := ?_)
  refine i_aload C dX6_sourceAt_10 (kk := ?_)
  refine i_aload C dX6_sourceAt_12 (kk := ?_)
  refine i_iload_n C dX6_sourceAt_14 (kk := ?_)
  refine i_iload_n C dX6_sourceAt_15 (kk := ?_)
  refine i_callSX C lk_X6_138 (c_X6_indexOf l hl D (hS := kS)) (hst := rfl) dX6_sourceAt_16 (hxx := fun E w1 h => ⟨h.1.elim (fun q => Or.inr (Or.inl ⟨q.1, by omega, q.2⟩)) (fun q => Or.inr (Or.inr ⟨q.1, q.2.1, p, hp, hip, q.2.2⟩)), h.2⟩) (kk := fun v16 w16 g16 => ?_)
  obtain ⟨⟨x, hx, hjr, hs, hc, rfl⟩, q16⟩ := g16
  have q16 := q16.symm
  subst q16
  have hat := shl_at hx hs
  refine i_callV C lk_X6_165 (c_X2_sourceOf l hl D (hS := kS) (i := x)) (hcl := rfl) (hst := rfl) dX6_sourceAt_19 (hw := kS.2.2.2.2.2.2.1) (kk := fun v19 w19 g19 => ?_)
  obtain ⟨rfl, q19⟩ := g19
  have q19 := q19.symm
  subst q19
  exact i_iret C (d := dX6_sourceAt_22) (h := ⟨⟨p, hp, hip, hjr, _, _, hc.symm, hat, rfl⟩, rfl⟩)

/-- the class's part of the world stands, though new objects have come; the model's part is untouched -/
def kpW (D : gD) (w : wW) (τ ad : Nat → Nat) (nb tb : Nat) (σ : Sg) (w1 : wW) : Prop := ∃ τ2 : Nat → Nat, WkI D w1 τ2 ad nb tb σ ∧ ∀ q, w q ≠ none → 5000 ≤ τ q → τ2 q = τ q ∧ w1 q = w q
theorem kpW.rf {D : gD} {w : wW} {τ ad : Nat → Nat} {nb tb : Nat} {σ : Sg} (h : WkI D w τ ad nb tb σ) : kpW D w τ ad nb tb σ w := ⟨τ, h, fun _ _ _ => ⟨rfl, rfl⟩⟩
theorem SgOK.dx {σ : Sg} (h : SgOK σ) : (∀ q, q < 12 → txOK (sT σ q)) ∧ (∀ q, q < 12 → depT (sT σ) q ≤ 5) ∧ ∀ q, q < 12 → extT (sT σ) q ≤ 100 := ⟨fun q hq => ((h.2.1 q hq).2.2.2.2.2 _ (Nat.le_refl _)).1, fun q hq => (h.2.1 q hq).2.2.1, fun q hq => (h.2.1 q hq).2.2.2.1⟩