set_option maxRecDepth 100000 in
set_option maxHeartbeats 4000000 in
theorem c_X6_indexOf (l : Launch) (hl : l.stackTraces = false) (D : gD) {w : wW} {τ : Nat → Nat} {r a n s v c o : Nat} {its : List It4} {os : List Int} {g k : Int} (hS : SpT D w τ r a n s v c o its os := by assumption) (hg : inR g := by omega) (hk : inR k := by omega) : CTx l D yX6_indexOf cX6_indexOf 4 (some .int) (rmL 8 2 12) [.ref a, .int (Z32 g), .int (Z32 k)] w (fun u w1 => (∃ i : Nat, i < its.length ∧ (-1 ≤ g ∧ g < 26) ∧ shw (it4 its i) g ∧ (shc g (its.take i) : Int) = k ∧ u = some (.int (Z32 (i : Int)))) ∧ w1 = w) (fun E w1 => ((E = "java/lang/IllegalArgumentException" ∧ ¬ (-1 ≤ g ∧ g < 26)) ∨ (E = "java/util/NoSuchElementException" ∧ (-1 ≤ g ∧ g < 26) ∧ ∀ n : Nat, k = (n : Int) → (shl g its).length ≤ n)) ∧ w1 = w) := by
  refine CTx_of hl rfl (by rfl) (Nat.le_of_ble_eq_true rfl) ?_
  intro G C
  show G 0 0 w [some (.ref a), some (.int (Z32 g)), some (.int (Z32 k)), none] 0 []
  refine i_iload_n C dX6_indexOf_0 (kk := ?_)
  refine i_callSX C lk_X6_49 (c_X6_requireArgument l hl D) (hst := rfl) dX6_indexOf_1 (hxx := fun E w1 h => ⟨Or.inl ⟨h.1, h.2.1⟩, h.2.2⟩) (kk := fun v1 w1 g1 => ?_)
  obtain ⟨rfl, hgr, q1⟩ := g1
  have q1 := q1.symm
  subst q1
  have h100 := hS.2.2.2.2.2.2.2.1
  refine i_aload_n C dX6_indexOf_4 (kk := ?_)
  refine i_iload_n C dX6_indexOf_5 (kk := ?_)
  refine i_iload_n C dX6_indexOf_6 (kk := ?_)
  refine i_callV C lk_X6_205 (c_X2_find l hl D (hS := hS)) (hcl := rfl) (hst := rfl) dX6_indexOf_7 (hw := hS.2.2.2.2.2.2.1) (kk := fun v7 w7 g7 => ?_)
  obtain ⟨hr7, q7⟩ := g7
  have q7 := q7.symm
  subst q7
  rcases hr7 with ⟨i, hi, hs, hc, rfl⟩ | ⟨hno, rfl⟩
  · refine i_istore_n C dX6_indexOf_10 (kk := ?_)
    refine i_iload_n C dX6_indexOf_11 (kk := ?_)
    refine i_iconst C dX6_indexOf_12 (kk := ?_)
    refine i_icmp_ne C dX6_indexOf_13 (tgt := 26) (kt := fun hB13 => ?_) (kf := fun hB13 => ?_)
    · refine i_iload_n C dX6_indexOf_26 (kk := ?_)
      exact i_iret C (d := dX6_indexOf_27) (h := ⟨⟨i, hi, hgr, hs, hc, rfl⟩, rfl⟩)
    · exfalso; omega
  · refine i_istore_n C dX6_indexOf_10 (kk := ?_)
    refine i_iload_n C dX6_indexOf_11 (kk := ?_)
    refine i_iconst C dX6_indexOf_12 (kk := ?_)
    refine i_icmp_ne C dX6_indexOf_13 (tgt := 26) (kt := fun hB13 => ?_) (kf := fun hB13 => ?_)
    · exact absurd rfl hB13
    · exact i_throwN C th_160_162_164 dX6_indexOf_16 dX6_indexOf_19 dX6_indexOf_20 dX6_indexOf_22 dX6_indexOf_25 (hX := ⟨Or.inr ⟨rfl, hgr, fun m hm => by apply Decidable.byContradiction; intro q; obtain ⟨i, a1, a2, a3⟩ := shc_get (arg := g) its m (by rw [← shl_len]; omega); exact hno i a1 a2 (by rw [a3]; exact hm.symm)⟩, rfl⟩)

set_option maxRecDepth 100000 in
set_option maxHeartbeats 4000000 in
theorem c_X6_sortAt (l : Launch) (hl : l.stackTraces = false) (D : gD) {w : wW} {τ ad : Nat → Nat} {nb tb : Nat} {σ : Sg} {i j k : Int} (hW : WkI D w τ ad nb tb σ := by assumption) (hi : inR i := by omega) (hj : inR j := by omega) (hk : inR k := by omega) : CTx l D yX6_sortAt cX6_sortAt 5 (some .int) (rmL 10 3 18) [.ref (ad 0), .int (Z32 i), .int (Z32 j), .int (Z32 k)] w (fun u w1 => (∃ p : Nat, p < 12 ∧ i = (p : Int) ∧ (-1 ≤ j ∧ j < 26) ∧ ∃ (n : Nat) (x : Sh3), k = (n : Int) ∧ (shl j (sprT (sT σ) p))[n]? = some x ∧ u = some (.int (Z32 x.1))) ∧ w1 = w) (fun E w1 => ((E = "java/lang/IndexOutOfBoundsException" ∧ ¬ (0 ≤ i ∧ i < 12)) ∨ (E = "java/lang/IllegalArgumentException" ∧ (0 ≤ i ∧ i < 12) ∧ ¬ (-1 ≤ j ∧ j < 26)) ∨ (E = "java/util/NoSuchElementException" ∧ (-1 ≤ j ∧ j < 26) ∧ ∃ p : Nat, p < 12 ∧ i = (p : Int) ∧ ∀ n : Nat, k = (n : Int) → (shl j (sprT (sT σ) p)).length ≤ n)) ∧ w1 = w) := by
  refine CTx_of hl rfl (by rfl) (Nat.le_of_ble_eq_true rfl) ?_
  intro G C
  show G 0 0 w [some (.ref (ad 0)), some (.int (Z32 i)), some (.int (Z32 j)), some (.int (Z32 k)), none] 0 []
  refine i_aload_n C dX6_sortAt_0 (kk := ?_)
  refine i_iload_n C dX6_sortAt_1 (kk := ?_)
  refine i_callVX C lk_X6_67 (cx_X6_pageAt l hl D (hW := hW)) (hcl := rfl) (hst := rfl) dX6_sortAt_2 (hw := hW.obj) (hxx := fun E w1 h => ⟨Or.inl ⟨h.1, h.2.1⟩, h.2.2⟩) (kk := fun v2 w2 g2 => ?_)
  obtain ⟨⟨p, hp, hip, rfl⟩, q2⟩ := g2
  have q2 := q2.symm
  subst q2
  obtain ⟨os, kS⟩ := hW.spr hp
  refine i_getf C f_X6_129 dX6_sortAt_5 (hw := hW.page hp) (kk := ?_)
  refine i_astore C dX6_sortAt_8 (kk := ?_)
  refine i_aload C dX6_sortAt_10 (kk := ?_)
  refine i_aload C dX6_sortAt_12 (kk := ?_)
  refine i_iload_n C dX6_sortAt_14 (kk := ?_)
  refine i_iload_n C dX6_sortAt_15 (kk := ?_)
  refine i_callSX C lk_X6_138 (c_X6_indexOf l hl D (hS := kS)) (hst := rfl) dX6_sortAt_16 (hxx := fun E w1 h => ⟨h.1.elim (fun q => Or.inr (Or.inl ⟨q.1, by omega, q.2⟩)) (fun q => Or.inr (Or.inr ⟨q.1, q.2.1, p, hp, hip, q.2.2⟩)), h.2⟩) (kk := fun v16 w16 g16 => ?_)
  obtain ⟨⟨x, hx, hjr, hs, hc, rfl⟩, q16⟩ := g16
  have q16 := q16.symm
  subst q16
  have hat := shl_at hx hs
  refine i_callV C lk_X6_142 (c_X2_itemSort l hl D (hS := kS) (i := x)) (hcl := rfl) (hst := rfl) dX6_sortAt_19 (hw := kS.2.2.2.2.2.2.1) (kk := fun v19 w19 g19 => ?_)
  obtain ⟨rfl, q19⟩ := g19
  have q19 := q19.symm
  subst q19
  exact i_iret C (d := dX6_sortAt_22) (h := ⟨⟨p, hp, hip, hjr, _, _, hc.symm, hat, rfl⟩, rfl⟩)

set_option maxRecDepth 100000 in
set_option maxHeartbeats 4000000 in
theorem c_X6_itemAt (l : Launch) (hl : l.stackTraces = false) (D : gD) {w : wW} {τ ad : Nat → Nat} {nb tb : Nat} {σ : Sg} {i j k : Int} (hW : WkI D w τ ad nb tb σ := by assumption) (hi : inR i := by omega) (hj : inR j := by omega) (hk : inR k := by omega) : CTx l D yX6_itemAt cX6_itemAt 5 (some .int) (rmL 10 3 18) [.ref (ad 0), .int (Z32 i), .int (Z32 j), .int (Z32 k)] w (fun u w1 => (∃ p : Nat, p < 12 ∧ i = (p : Int) ∧ (-1 ≤ j ∧ j < 26) ∧ ∃ (n : Nat) (x : Sh3), k = (n : Int) ∧ (shl j (sprT (sT σ) p))[n]? = some x ∧ u = some (.int (Z32 x.2.1))) ∧ w1 = w) (fun E w1 => ((E = "java/lang/IndexOutOfBoundsException" ∧ ¬ (0 ≤ i ∧ i < 12)) ∨ (E = "java/lang/IllegalArgumentException" ∧ (0 ≤ i ∧ i < 12) ∧ ¬ (-1 ≤ j ∧ j < 26)) ∨ (E = "java/util/NoSuchElementException" ∧ (-1 ≤ j ∧ j < 26) ∧ ∃ p : Nat, p < 12 ∧ i = (p : Int) ∧ ∀ n : Nat, k = (n : Int) → (shl j (sprT (sT σ) p)).length ≤ n)) ∧ w1 = w) := by
  refine CTx_of hl rfl (by rfl) (Nat.le_of_ble_eq_true rfl) ?_
  intro G C
  show G 0 0 w [some (.ref (ad 0)), some (.int (Z32 i)), some (.int (Z32 j)), some (.int (Z32 k)), none] 0 []
  refine i_aload_n C dX6_itemAt_0 (kk := ?_)
  refine i_iload_n C dX6_itemAt_1 (kk := ?_)
  refine i_callVX C lk_X6_67 (cx_X6_pageAt l hl D (hW := hW)) (hcl := rfl) (hst := rfl) dX6_itemAt_2 (hw := hW.obj) (hxx := fun E w1 h => ⟨Or.inl ⟨h.1, h.2.1⟩, h.2.2⟩) (kk := fun v2 w2 g2 => ?_)
  obtain ⟨⟨p, hp, hip, rfl⟩, q2⟩ := g2
  have q2 := q2.symm
  subst q2
  obtain ⟨os, kS⟩ := hW.spr hp
  refine i_getf C f_X6_129 dX6_itemAt_5 (hw := hW.page hp) (kk := ?_)
  refine i_astore C dX6_itemAt_8 (kk := ?_)
  refine i_aload C dX6_itemAt_10 (kk := ?_)
  refine i_aload C dX6_itemAt_12 (kk := ?_)
  refine i_iload_n C dX6_itemAt_14 (kk := ?_)
  refine i_iload_n C dX6_itemAt_15 (kk := ?_)
  refine i_callSX C lk_X6_138 (c_X6_indexOf l hl D (hS := kS)) (hst := rfl) dX6_itemAt_16 (hxx := fun E w1 h => ⟨h.1.elim (fun q => Or.inr (Or.inl ⟨q.1, by omega, q.2⟩)) (fun q => Or.inr (Or.inr ⟨q.1, q.2.1, p, hp, hip, q.2.2⟩)), h.2⟩) (kk := fun v16 w16 g16 => ?_)
  obtain ⟨⟨x, hx, hjr, hs, hc, rfl⟩, q16⟩ := g16
  have q16 := q16.symm
  subst q16
  have hat := shl_at hx hs
  refine i_iload_n C dX6_itemAt_19 (kk := ?_)
  refine i_callV C lk_X6_145 (c_X2_itemWith l hl D (hS := kS) (i := x)) (hcl := rfl) (hst := rfl) dX6_itemAt_20 (hw := kS.2.2.2.2.2.2.1) (kk := fun v20 w20 g20 => ?_)
  obtain ⟨rfl, q20⟩ := g20
  have q20 := q20.symm
  subst q20
  exact i_iret C (d := dX6_itemAt_23) (h := ⟨⟨p, hp, hip, hjr, _, _, hc.symm, hat, rfl⟩, rfl⟩)

set_option maxRecDepth 100000 in
set_option maxHeartbeats 4000000 in
theorem c_X6_sourceAt (l : Launch) (hl : l.stackTraces = false) (D : gD) {w : wW} {τ ad : Nat → Nat} {nb tb : Nat} {σ : Sg} {i j k : Int} (hW : WkI D w τ ad nb tb σ := by assumption) (hi : inR i := by omega) (hj : inR j := by omega) (hk : inR k := by omega) : CTx l D yX6_sourceAt cX6_sourceAt 5 (some .int) (rmL 10 3 18) [.ref (ad 0), .int (Z32 i), .int (Z32 j), .int (Z32 k)] w (fun u w1 => (∃ p : Nat, p < 12 ∧ i = (p : Int) ∧ (-1 ≤ j ∧ j < 26) ∧ ∃ (n : Nat) (x : Sh3), k = (n : Int) ∧ (shl j (sprT (sT σ) p))[n]? = some x ∧ u = some (.int (Z32 x.2.2))) ∧ w1 = w) (fun E w1 => ((E = "java/lang/IndexOutOfBoundsException" ∧ ¬ (0 ≤ i ∧ i < 12)) ∨ (E = "java/lang/IllegalArgumentException" ∧ (0 ≤ i ∧ i < 12) ∧ ¬ (-1 ≤ j ∧ j < 26)) ∨ (E = "java/util/NoSuchElementException" ∧ (-1 ≤ j ∧ j < 26) ∧ ∃ p : Nat, p < 12 ∧ i = (p : Int) ∧ ∀ n : Nat, k = (n : Int) → (shl j (sprT (sT σ) p)).length ≤ n)) ∧ w1 = w) := by
  refine CTx_of hl rfl (by rfl) (Nat.le_of_ble_eq_true rfl) ?_
  intro G C
  show G 0 0 w [some (.ref (ad 0)), some (.int (Z32 i)), some (.int (Z32 j)), some (.int (Z32 k)), none] 0 []
  refine i_aload_n C dX6_sourceAt_0 (kk := ?_)
  refine i_iload_n C dX6_sourceAt_1 (kk := ?_)
  refine i_callVX C lk_X6_67 (cx_X6_pageAt l hl D (hW := hW)) (hcl := rfl) (hst := rfl) dX6_sourceAt_2 (hw := hW.obj) (hxx := fun E w1 h => ⟨Or.inl ⟨h.1, h.2.1⟩, h.2.2⟩) (kk := fun v2 w2 g2 => ?_)
  obtain ⟨⟨p, hp, hip, rfl⟩, q2⟩ := g2
  have q2 := q2.symm
  subst q2
  obtain ⟨os, kS⟩ := hW.spr hp
  refine i_getf C f_X6_129 dX6_sourceAt_5 (hw := hW.page hp) (kk := ?_)
  refine i_astore C dX6_sourceAt_8 (kk := ?_)
  refine i_aload C dX6_sourceAt_10 (kk := ?_)
  refine i_aload C dX6_sourceAt_12 (kk := ?_)
  refine i_iload_n C dX6_sourceAt_14 (kk := ?_)
  refine i_iload_n C dX6_sourceAt_15 (kk := ?_)
  refine i_callSX C lk_X6_138 (c_X6_indexOf l hl D (hS := kS)) (hst := rfl) dX6_sourceAt_16 (hxx := fun E w1 h => ⟨h.1.elim (fun q => Or.inr (Or.inl ⟨q.1, by omega, q.2⟩)) (fun q => Or.inr (Or.inr ⟨q.1, q.2.1, p, hp, hip, q.2.2⟩)), h.2⟩) (kk := fun v16 w16 g16 => ?_)
  obtain ⟨⟨x, hx, hjr, hs, hc, rfl⟩, q16⟩ := g16
  have q16 := q16.symm
  subst q16
  have hat := shl_at hx hs
  refine i_callV C lk_X6_165 (c_X2_sourceOf l hl D (hS := kS) (i := x)) (hcl := rfl) (hst := rfl) dX6_sourceAt_19 (hw := kS.2.2.2.2.2.2.1) (kk := fun v19 w19 g19 => ?_)
  obtain ⟨rfl, q19⟩ := g19
  have q19 := q19.symm
  subst q19
  exact i_iret C (d := dX6_sourceAt_22) (h := ⟨⟨p, hp, hip, hjr, _, _, hc.symm, hat, rfl⟩, rfl⟩)

/-- the class's part of the world stands, though new objects have come; the model's part is untouched -/
def kpW (D : gD) (w : wW) (τ ad : Nat → Nat) (nb tb : Nat) (σ : Sg) (w1 : wW) : Prop := ∃ τ2 : Nat → Nat, WkI D w1 τ2 ad nb tb σ ∧ ∀ q, w q ≠ none → 5000 ≤ τ q → τ2 q = τ q ∧ w1 q = w q
theorem kpW.rf {D : gD} {w : wW} {τ ad : Nat → Nat} {nb tb : Nat} {σ : Sg} (h : WkI D w τ ad nb tb σ) : kpW D w τ ad nb tb σ w := ⟨τ, h, fun _ _ _ => ⟨rfl, rfl⟩⟩
theorem SgOK.dx {σ : Sg} (h : SgOK σ) : (∀ q, q < 12 → txOK (sT σ q)) ∧ (∀ q, q < 12 → depT (sT σ) q ≤ 5) ∧ ∀ q, q < 12 → extT (sT σ) q ≤ 100 := ⟨fun q hq => ((h.2.1 q hq).2.2.2.2.2 _ (Nat.le_refl _)).1, fun q hq => (h.2.1 q hq).2.2.1, fun q hq => (h.2.1 q hq).2.2.2.1⟩
set_option maxRecDepth 100000 in
set_option maxHeartbeats 4000000 in
theorem cn_X6_walkPage (l : Launch) (hl : l.stackTraces = false) (D : gD) {w : wW} {τ ad : Nat → Nat} {nb tb : Nat} {σ : Sg} {a p : Nat} {arg : Int} {st : Int × Int} (hW : WkI D w τ ad nb tb σ := by assumption) (hA : w a = some (wkO st)) (hτ : 2260 ≤ τ a) (hp : p < 12) (hst : inR st.1) (hneg : st.1 < 0) : CTm l D yX6_walkPage cX6_walkPage 9 none (rmL 16 0 0) [.ref (ad 0), .ref a, .int (Z32 (p : Int)), .int (Z32 arg), .int (Z32 0)] w (fun u w1 => u = none ∧ w1 a = some (wkO st) ∧ offR τ w w1 (τ a) (τ a + 1)) := by
  refine CTm_of hl false rfl (by rfl) (Nat.le_of_ble_eq_true rfl) (fun h => nomatch h) ?_
  intro G C
  show G 0 0 w [some (.ref (ad 0)), some (.ref a), some (.int (Z32 (p : Int))), some (.int (Z32 arg)), some (.int (Z32 0)), none, none, none, none] 0 []
  refine i_iload C dX6_walkPage_0 (kk := ?_)
  refine i_iconst C dX6_walkPage_2 (kk := ?_)
  refine i_icmp_gt C dX6_walkPage_3 (tgt := 17) (kt := fun hB3 => ?_) (kf := fun hB3 => ?_)
  · exfalso; omega
  · refine i_aload_n C dX6_walkPage_6 (kk := ?_)
    obtain ⟨hb9, -, ⟨fc, fo, fr, fd, fx, kN, kO9⟩, -⟩ := hW.2.1
    have hx9 := (kO9 p hp).2.2.2
    have hx5 := (hW.1.2.1 p hp).2.2.2.1
    have h30 := (hW.txt hp).2.2.2.2.2.1
    refine i_getf C f_X6_23 dX6_walkPage_7 (hw := hW.obj) (kk := ?_)
    refine i_iload_n C dX6_walkPage_10 (kk := ?_)
    refine i_callV C lk_X6_126 (c_X0_extentOf l hl D (hN := kN) (p := p)) (hcl := rfl) (hst := rfl) dX6_walkPage_11 (hw := kN.2.2.2.2.2.2.1) (kk := fun v11 w11 g11 => ?_)
    obtain ⟨rfl, q11⟩ := g11
    have q11 := q11.symm
    subst q11
    refine i_if_ne C dX6_walkPage_14 (tgt := 18) (kt := fun hB14 => ?_) (kf := fun hB14 => ?_)
    · refine i_aload_n C dX6_walkPage_18 (kk := ?_)
      refine i_iload_n C dX6_walkPage_19 (kk := ?_)
      refine i_callV C lk_X6_67 (c_X6_pageAt l hl D (hW := hW) (p := p)) (hcl := rfl) (hst := rfl) dX6_walkPage_20 (hw := hW.obj) (kk := fun v20 w20 g20 => ?_)
      obtain ⟨rfl, q20⟩ := g20
      have q20 := q20.symm
      subst q20
      refine i_getf C f_X6_73 dX6_walkPage_23 (hw := hW.page hp) (kk := ?_)
      refine i_getf C f_X6_113 dX6_walkPage_26 (hw := hW.ver hp) (kk := ?_)
      refine i_astore C dX6_walkPage_29 (kk := ?_)
      refine i_iconst C dX6_walkPage_31 (kk := ?_)
      refine i_istore C dX6_walkPage_32 (kk := ?_)
      refine i_iconst C dX6_walkPage_34 (kk := ?_)
      refine i_istore C dX6_walkPage_35 (kk := ?_)
      refine i_iload C dX6_walkPage_37 (kk := ?_)
      refine i_aload C dX6_walkPage_39 (kk := ?_)
      refine i_getf C f_X6_208 dX6_walkPage_41 (hw := (hW.txt hp).2.2.2.2.1) (kk := ?_)
      refine i_icmp_ge C dX6_walkPage_44 (tgt := 133) (kt := fun hB44 => ?_) (kf := fun hB44 => ?_)
      · exact i_vret C (d := dX6_walkPage_133) (h := ⟨rfl, hA, offR.rf⟩)
      · refine i_aload_n C dX6_walkPage_47 (kk := ?_)
        refine i_callV C lk_X6_293 (c_X5_isOver l hl D (hw := hA)) (hcl := rfl) (hst := rfl) dX6_walkPage_48 (hw := hA) (kk := fun v48 w48 g48 => ?_)
        obtain ⟨rfl, q48⟩ := g48
        have q48 := q48.symm
        subst q48
        rw [if_pos hneg]
        refine i_if_ne C dX6_walkPage_51 (tgt := 133) (ha := by decide) (kt := fun hB51 => ?_) (kf := fun hB51 => ?_)
        · exact i_vret C (d := dX6_walkPage_133) (h := ⟨rfl, hA, offR.rf⟩)
        · exact absurd hB51 (by decide)
    · exact i_vret C (d := dX6_walkPage_17) (h := ⟨rfl, hA, offR.rf⟩)

theorem ca_X6_walkPage (l : Launch) (hl : l.stackTraces = false) (D : gD) {w : wW} {τ ad : Nat → Nat} {nb tb : Nat} {σ : Sg} {a p : Nat} {arg : Int} {st : Int × Int} (hW : WkI D w τ ad nb tb σ := by assumption) (hA : w a = some (wkO st)) (hτ : 2260 ≤ τ a) (hp : p < 12) (hst : inR st.1) (harg : -1 ≤ arg ∧ arg ≤ 25) : CTm l D yX6_walkPage cX6_walkPage 9 none (rmL 16 0 0) [.ref (ad 0), .ref a, .int (Z32 (p : Int)), .int (Z32 arg), .int (Z32 0)] w (fun u w1 => u = none ∧ w1 a = some (wkO (mtL (shl arg (sprT (sT σ) p)) st)) ∧ offR τ w w1 (τ a) (τ a + 1)) := by
  by_cases h : st.1 < 0
  · rw [mtL_over _ h]
    exact cn_X6_walkPage l hl D (hW := hW) hA hτ hp hst h
  · obtain ⟨d1, d2, d3⟩ := hW.1.dx
    have h1 := cw0_X6_walkPage l hl D (hW := hW) hA hτ hp ⟨by omega, by omega⟩ harg
    rw [wpN_sh d1 hW.1.acy d2 d3 6 p arg st hp (Nat.lt_succ_of_le (d2 p hp)) harg.1] at h1
    exact h1

set_option maxRecDepth 100000 in
set_option maxHeartbeats 4000000 in
theorem c_X6_itemAnew (l : Launch) (hl : l.stackTraces = false) (D : gD) {w : wW} {τ ad : Nat → Nat} {nb tb : Nat} {σ : Sg} {i j k : Int} (hW : WkI D w τ ad nb tb σ := by assumption) (hi : inR i := by omega) (hj : inR j := by omega) (hk : inR k := by omega) : CTx l D yX6_itemAnew cX6_itemAnew 5 (some .int) (rmL 18 4 20) [.ref (ad 0), .int (Z32 i), .int (Z32 j), .int (Z32 k)] w (fun u w1 => (∃ p : Nat, p < 12 ∧ i = (p : Int) ∧ (-1 ≤ j ∧ j < 26) ∧ ∃ (n : Nat) (x : Sh3), k = (n : Int) ∧ (shl j (sprT (sT σ) p))[n]? = some x ∧ u = some (.int (Z32 x.2.1))) ∧ kpW D w τ ad nb tb σ w1) (fun E w1 => ((E = "java/lang/IndexOutOfBoundsException" ∧ ¬ (0 ≤ i ∧ i < 12)) ∨ (E = "java/lang/IllegalArgumentException" ∧ (0 ≤ i ∧ i < 12) ∧ ¬ (-1 ≤ j ∧ j < 26)) ∨ (E = "java/util/NoSuchElementException" ∧ (-1 ≤ j ∧ j < 26) ∧ ∃ p : Nat, p < 12 ∧ i = (p : Int) ∧ ∀ n : Nat, k = (n : Int) → (shl j (sprT (sT σ) p)).length ≤ n)) ∧ kpW D w τ ad nb tb σ w1) := by
  refine CTx_of hl rfl (by rfl) (Nat.le_of_ble_eq_true rfl) ?_
  intro G C
  show G 0 0 w [some (.ref (ad 0)), some (.int (Z32 i)), some (.int (Z32 j)), some (.int (Z32 k)), none] 0 []
  refine i_iload_n C dX6_itemAnew_0 (kk := ?_)
  refine i_callSX C lk_X6_45 (c_X6_requirePage l hl D) (hst := rfl) dX6_itemAnew_1 (hxx := fun E w1 h => ⟨Or.inl ⟨h.1, h.2.1⟩, by rw [h.2.2]; exact kpW.rf hW⟩) (kk := fun v1 w1 g1 => ?_)
  obtain ⟨rfl, hpr, q1⟩ := g1
  have q1 := q1.symm
  subst q1
  obtain ⟨p, hpe⟩ : ∃ p : Nat, i = (p : Int) := ⟨i.toNat, by omega⟩
  subst hpe
  have hp : p < 12 := by omega
  refine i_iload_n C dX6_itemAnew_4 (kk := ?_)
  refine i_callSX C lk_X6_49 (c_X6_requireArgument l hl D) (hst := rfl) dX6_itemAnew_5 (hxx := fun E w1 h => ⟨Or.inr (Or.inl ⟨h.1, by omega, h.2.1⟩), by rw [h.2.2]; exact kpW.rf hW⟩) (kk := fun v5 w5 g5 => ?_)
  obtain ⟨rfl, hjr, q5⟩ := g5
  have q5 := q5.symm
  subst q5
  refine i_new C nw_X6_149 dX6_itemAnew_8 (kk := fun q8 nq8 => ?_)
  refine i_dup C dX6_itemAnew_11 (kk := ?_)
  refine i_iload_n C dX6_itemAnew_12 (kk := ?_)
  refine i_callI C lk_X6_151 (c_X5_init l hl D (hw := wset_eq)) (hst := rfl) dX6_itemAnew_13 (kk := fun v13 w13 g13 => ?_)
  obtain ⟨rfl, rfl⟩ := g13
  rw [wset_twice]
  obtain ⟨τ2, hτ2⟩ : ∃ τ2 : Nat → Nat, τ2 = upz τ q8 2260 := ⟨_, rfl⟩
  have et : τ2 q8 = 2260 := by rw [hτ2, upz_eq]
  have e1 : ∀ q, w q ≠ none → τ2 q = τ q := fun q hq => by rw [hτ2]; exact upz_ne (fun e => hq (by rw [e]; exact nq8))
  obtain ⟨W1, hW1e⟩ : ∃ W1 : wW, W1 = wset w q8 (.inr (5, [.int (Z32 k), .int (Z32 (-1))])) := ⟨_, rfl⟩
  rw [← hW1e]
  have hA1 : W1 q8 = some (wkO (k, -1)) := by rw [hW1e]; exact wset_eq
  have o1 : offR τ2 w W1 2260 2261 := by rw [hW1e]; exact offR.rf.put (by omega) (by omega)
  have hW2 := (hW.retag (ad' := ad) e1 (fun _ _ => rfl) (fun _ _ _ _ _ _ => rfl)).far o1 (Nat.le_refl _)
  refine i_astore C dX6_itemAnew_16 (kk := ?_)
  refine i_aload_n C dX6_itemAnew_18 (kk := ?_)
  refine i_aload C dX6_itemAnew_19 (kk := ?_)
  refine i_iload_n C dX6_itemAnew_21 (kk := ?_)
  refine i_iload_n C dX6_itemAnew_22 (kk := ?_)
  refine i_iconst C dX6_itemAnew_23 (kk := ?_)
  refine i_callV C lk_X6_153 (ca_X6_walkPage l hl D (hW := hW2) hA1 (by omega) hp hk (by omega)) (hcl := rfl) (hst := rfl) dX6_itemAnew_24 (hw := hW2.obj) (kk := fun v24 w24 g24 => ?_)
  obtain ⟨rfl, hA3, o3⟩ := g24
  rw [et] at o3
  have hW4 := hW2.far o3 (Nat.le_refl _)
  have hkp : kpW D w τ ad nb tb σ w24 := ⟨τ2, hW4, fun q hq h5 => ⟨e1 q hq, by rw [o3 q (by rw [e1 q hq]; omega), o1 q (by rw [e1 q hq]; omega)]⟩⟩
  have hf := mtL_found (shl j (sprT (sT σ) p)) k (-1)
  obtain ⟨F, hF⟩ : ∃ F, F = mtL (shl j (sprT (sT σ) p)) (k, -1) := ⟨_, rfl⟩
  rw [← hF] at hA3 hf
  obtain ⟨os, kS⟩ := hW.spr hp
  have hcase : (F.2 = -1 ∧ ∀ n : Nat, k = (n : Int) → (shl j (sprT (sT σ) p)).length ≤ n) ∨ ∃ (n : Nat) (x : Sh3), k = (n : Int) ∧ (shl j (sprT (sT σ) p))[n]? = some x ∧ F.2 = x.2.1 ∧ 0 ≤ F.2 ∧ F.2 ≤ 119 := by
    by_cases h0 : 0 ≤ k
    · obtain ⟨n, rfl⟩ := Int.eq_ofNat_of_zero_le h0
      rw [if_pos h0, Int.toNat_natCast] at hf
      cases hg : (shl j (sprT (sT σ) p))[n]? with
      | none =>
        rw [hg] at hf
        exact Or.inl ⟨hf, fun m hm => by rw [show m = n by omega]; exact List.getElem?_eq_none_iff.mp hg⟩
      | some x =>
        rw [hg] at hf
        have hv := shl_val kS.2.2.2.2.2.2.2.2.2.1 hjr.1 (by omega) (List.mem_of_getElem? hg)
        have hf2 : F.2 = x.2.1 := hf
        exact Or.inr ⟨n, x, rfl, hg, hf2, by omega, by omega⟩
    · rw [if_neg h0] at hf
      exact Or.inl ⟨hf, fun n hn => by omega⟩
  have hFR : -1 ≤ F.2 ∧ F.2 ≤ 119 := by rcases hcase with ⟨q, -⟩ | ⟨n, x, -, -, -, q1, q2⟩ <;> omega
  refine i_aload C dX6_itemAnew_27 (kk := ?_)
  refine i_getf C f_X6_157 dX6_itemAnew_29 (hw := hA3) (kk := ?_)
  refine i_iconst C dX6_itemAnew_32 (kk := ?_)
  refine i_icmp_ne C dX6_itemAnew_33 (tgt := 46) (kt := fun hB33 => ?_) (kf := fun hB33 => ?_)
  · have hfd : ∃ (n : Nat) (x : Sh3), k = (n : Int) ∧ (shl j (sprT (sT σ) p))[n]? = some x ∧ F.2 = x.2.1 ∧ 0 ≤ F.2 ∧ F.2 ≤ 119 := hcase.elim (fun q => absurd q.1 hB33) id
    obtain ⟨n, x, hn, hx, hFx, -, -⟩ := hfd
    refine i_aload C dX6_itemAnew_46 (kk := ?_)
    refine i_getf C f_X6_157 dX6_itemAnew_48 (hw := hA3) (kk := ?_)
    exact i_iret C (d := dX6_itemAnew_51) (h := ⟨⟨p, hp, rfl, hjr, n, x, hn, hx, by rw [hFx]⟩, hkp⟩)
  · have hno : ∀ n : Nat, k = (n : Int) → (shl j (sprT (sT σ) p)).length ≤ n := hcase.elim (fun q => q.2) (fun ⟨n, x, q1, q2, q3, q4, q5⟩ => by omega)
    exact i_throwN C th_160_162_164 dX6_itemAnew_36 dX6_itemAnew_39 dX6_itemAnew_40 dX6_itemAnew_42 dX6_itemAnew_45 (hX := ⟨Or.inr (Or.inr ⟨rfl, hjr, p, hp, rfl, hno⟩), hkp⟩)
