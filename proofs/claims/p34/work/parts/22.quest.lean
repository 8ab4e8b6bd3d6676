set_option maxRecDepth 100000 in
set_option maxHeartbeats 4000000 in
theorem c_X6_version (l : Launch) (hl : l.stackTraces = false) (D : gD) {w : wW} {τ ad : Nat → Nat} {nb tb : Nat} {σ : Sg} {i : Int} (hW : WkI D w τ ad nb tb σ := by assumption) (hi : inR i := by omega) : CTx l D yX6_version cX6_version 2 (some .int) (rmL 8 2 12) [.ref (ad 0), .int (Z32 i)] w (fun u w1 => (∃ p : Nat, p < 12 ∧ i = (p : Int) ∧ u = some (.int (Z32 (((sNv σ p : Nat) : Int))))) ∧ w1 = w) (fun E w1 => E = "java/lang/IndexOutOfBoundsException" ∧ ¬ (0 ≤ i ∧ i < 12) ∧ w1 = w) := by
  refine CTx_of hl rfl (by rfl) (Nat.le_of_ble_eq_true rfl) ?_
  intro G C
  show G 0 0 w [some (.ref (ad 0)), some (.int (Z32 i))] 0 []
  refine i_aload_n C dX6_version_0 (kk := ?_)
  refine i_iload_n C dX6_version_1 (kk := ?_)
  refine i_callVX C lk_X6_67 (cx_X6_pageAt l hl D (hW := hW)) (hcl := rfl) (hst := rfl) dX6_version_2 (hw := hW.obj) (hxx := fun E w1 h => h) (kk := fun v2 w2 g2 => ?_)
  obtain ⟨⟨p, hp, hip, rfl⟩, q2⟩ := g2
  have q2 := q2.symm
  subst q2
  refine i_getf C f_X6_73 dX6_version_5 (hw := hW.page hp) (kk := ?_)
  refine i_getf C f_X6_77 dX6_version_8 (hw := hW.ver hp) (kk := ?_)
  exact i_iret C (d := dX6_version_11) (h := ⟨⟨p, hp, hip, rfl⟩, rfl⟩)

set_option maxRecDepth 100000 in
set_option maxHeartbeats 4000000 in
theorem c_X6_rankOf (l : Launch) (hl : l.stackTraces = false) (D : gD) {w : wW} {τ ad : Nat → Nat} {nb tb : Nat} {σ : Sg} {i : Int} (hW : WkI D w τ ad nb tb σ := by assumption) (hi : inR i := by omega) : CTx l D yX6_rankOf cX6_rankOf 2 (some .int) (rmL 8 2 12) [.ref (ad 0), .int (Z32 i)] w (fun u w1 => (∃ p : Nat, p < 12 ∧ i = (p : Int) ∧ u = some (.int (Z32 (sRk σ p (sNv σ p))))) ∧ w1 = w) (fun E w1 => E = "java/lang/IndexOutOfBoundsException" ∧ ¬ (0 ≤ i ∧ i < 12) ∧ w1 = w) := by
  refine CTx_of hl rfl (by rfl) (Nat.le_of_ble_eq_true rfl) ?_
  intro G C
  show G 0 0 w [some (.ref (ad 0)), some (.int (Z32 i))] 0 []
  refine i_aload_n C dX6_rankOf_0 (kk := ?_)
  refine i_iload_n C dX6_rankOf_1 (kk := ?_)
  refine i_callVX C lk_X6_67 (cx_X6_pageAt l hl D (hW := hW)) (hcl := rfl) (hst := rfl) dX6_rankOf_2 (hw := hW.obj) (hxx := fun E w1 h => h) (kk := fun v2 w2 g2 => ?_)
  obtain ⟨⟨p, hp, hip, rfl⟩, q2⟩ := g2
  have q2 := q2.symm
  subst q2
  refine i_getf C f_X6_73 dX6_rankOf_5 (hw := hW.page hp) (kk := ?_)
  refine i_getf C f_X6_110 dX6_rankOf_8 (hw := hW.ver hp) (kk := ?_)
  exact i_iret C (d := dX6_rankOf_11) (h := ⟨⟨p, hp, hip, rfl⟩, rfl⟩)

set_option maxRecDepth 100000 in
set_option maxHeartbeats 4000000 in
theorem c_X6_force (l : Launch) (hl : l.stackTraces = false) (D : gD) {w : wW} {τ ad : Nat → Nat} {nb tb : Nat} {σ : Sg} {i : Int} (hW : WkI D w τ ad nb tb σ := by assumption) (hi : inR i := by omega) : CTx l D yX6_force cX6_force 2 (some .int) (rmL 8 2 12) [.ref (ad 0), .int (Z32 i)] w (fun u w1 => (∃ p : Nat, p < 12 ∧ i = (p : Int) ∧ u = some (.int (Z32 (frcS σ p)))) ∧ w1 = w) (fun E w1 => E = "java/lang/IndexOutOfBoundsException" ∧ ¬ (0 ≤ i ∧ i < 12) ∧ w1 = w) := by
  refine CTx_of hl rfl (by rfl) (Nat.le_of_ble_eq_true rfl) ?_
  intro G C
  show G 0 0 w [some (.ref (ad 0)), some (.int (Z32 i))] 0 []
  refine i_iload_n C dX6_force_0 (kk := ?_)
  refine i_callSX C lk_X6_45 (c_X6_requirePage l hl D) (hst := rfl) dX6_force_1 (hxx := fun E w1 h => h) (kk := fun v1 w1 g1 => ?_)
  obtain ⟨rfl, hk, q1⟩ := g1
  have q1 := q1.symm
  subst q1
  obtain ⟨p, hp⟩ : ∃ p : Nat, i = (p : Int) := ⟨i.toNat, by omega⟩
  subst hp
  have hp : p < 12 := by omega
  obtain ⟨hb, -, ⟨fc, fo, fr, fd, fx, kN, kO⟩, -⟩ := hW.2.1
  refine i_aload_n C dX6_force_4 (kk := ?_)
  refine i_iload_n C dX6_force_5 (kk := ?_)
  refine i_callV C lk_X6_85 (c_X6_forceOn l hl D (hW := hW) (kN := kN)) (hcl := rfl) (hst := rfl) dX6_force_6 (hw := hW.obj) (kk := fun v6 w6 g6 => ?_)
  obtain ⟨rfl, q6⟩ := g6
  have q6 := q6.symm
  subst q6
  exact i_iret C (d := dX6_force_9) (h := ⟨⟨p, hp, rfl, by unfold frcS; rw [frcN_cong (kO.fr kN.2.2.2.2.2.2.2.2.2.2.2.2.2.2.1) 12 (Nat.le_refl _)]⟩, rfl⟩)

set_option maxRecDepth 100000 in
set_option maxHeartbeats 4000000 in
theorem c_X6_reaches (l : Launch) (hl : l.stackTraces = false) (D : gD) {w : wW} {τ ad : Nat → Nat} {nb tb : Nat} {σ : Sg} {i : Int} (hW : WkI D w τ ad nb tb σ := by assumption) (hi : inR i := by omega) : CTx l D yX6_reaches cX6_reaches 2 (some .int) (rmL 8 2 12) [.ref (ad 0), .int (Z32 i)] w (fun u w1 => (∃ p : Nat, p < 12 ∧ i = (p : Int) ∧ u = some (.int (Z32 (((rsT (sT σ) p : Nat) : Int))))) ∧ w1 = w) (fun E w1 => E = "java/lang/IndexOutOfBoundsException" ∧ ¬ (0 ≤ i ∧ i < 12) ∧ w1 = w) := by
  refine CTx_of hl rfl (by rfl) (Nat.le_of_ble_eq_true rfl) ?_
  intro G C
  show G 0 0 w [some (.ref (ad 0)), some (.int (Z32 i))] 0 []
  refine i_iload_n C dX6_reaches_0 (kk := ?_)
  refine i_callSX C lk_X6_45 (c_X6_requirePage l hl D) (hst := rfl) dX6_reaches_1 (hxx := fun E w1 h => h) (kk := fun v1 w1 g1 => ?_)
  obtain ⟨rfl, hk, q1⟩ := g1
  have q1 := q1.symm
  subst q1
  obtain ⟨p, hp⟩ : ∃ p : Nat, i = (p : Int) := ⟨i.toNat, by omega⟩
  subst hp
  have hp : p < 12 := by omega
  obtain ⟨hb, -, ⟨fc, fo, fr, fd, fx, kN, kO⟩, -⟩ := hW.2.1
  refine i_aload_n C dX6_reaches_4 (kk := ?_)
  refine i_getf C f_X6_23 dX6_reaches_5 (hw := hW.obj) (kk := ?_)
  refine i_iload_n C dX6_reaches_8 (kk := ?_)
  refine i_callV C lk_X6_123 (c_X0_reachedFrom l hl D (hN := kN)) (hcl := rfl) (hst := rfl) dX6_reaches_9 (hw := kN.2.2.2.2.2.2.1) (kk := fun v9 w9 g9 => ?_)
  obtain ⟨rfl, q9⟩ := g9
  have q9 := q9.symm
  subst q9
  exact i_iret C (d := dX6_reaches_12) (h := ⟨⟨p, hp, rfl, by rw [kO.fr kN.2.2.2.2.2.2.2.2.2.2.2.2.2.2.1 p hp]⟩, rfl⟩)

set_option maxRecDepth 100000 in
set_option maxHeartbeats 4000000 in
theorem c_X6_extent (l : Launch) (hl : l.stackTraces = false) (D : gD) {w : wW} {τ ad : Nat → Nat} {nb tb : Nat} {σ : Sg} {i : Int} (hW : WkI D w τ ad nb tb σ := by assumption) (hi : inR i := by omega) : CTx l D yX6_extent cX6_extent 2 (some .int) (rmL 8 2 12) [.ref (ad 0), .int (Z32 i)] w (fun u w1 => (∃ p : Nat, p < 12 ∧ i = (p : Int) ∧ u = some (.int (Z32 (((extT (sT σ) p : Nat) : Int))))) ∧ w1 = w) (fun E w1 => E = "java/lang/IndexOutOfBoundsException" ∧ ¬ (0 ≤ i ∧ i < 12) ∧ w1 = w) := by
  refine CTx_of hl rfl (by rfl) (Nat.le_of_ble_eq_true rfl) ?_
  intro G C
  show G 0 0 w [some (.ref (ad 0)), some (.int (Z32 i))] 0 []
  refine i_iload_n C dX6_extent_0 (kk := ?_)
  refine i_callSX C lk_X6_45 (c_X6_requirePage l hl D) (hst := rfl) dX6_extent_1 (hxx := fun E w1 h => h) (kk := fun v1 w1 g1 => ?_)
  obtain ⟨rfl, hk, q1⟩ := g1
  have q1 := q1.symm
  subst q1
  obtain ⟨p, hp⟩ : ∃ p : Nat, i = (p : Int) := ⟨i.toNat, by omega⟩
  subst hp
  have hp : p < 12 := by omega
  obtain ⟨hb, -, ⟨fc, fo, fr, fd, fx, kN, kO⟩, -⟩ := hW.2.1
  refine i_aload_n C dX6_extent_4 (kk := ?_)
  refine i_getf C f_X6_23 dX6_extent_5 (hw := hW.obj) (kk := ?_)
  refine i_iload_n C dX6_extent_8 (kk := ?_)
  refine i_callV C lk_X6_126 (c_X0_extentOf l hl D (hN := kN)) (hcl := rfl) (hst := rfl) dX6_extent_9 (hw := kN.2.2.2.2.2.2.1) (kk := fun v9 w9 g9 => ?_)
  obtain ⟨rfl, q9⟩ := g9
  have q9 := q9.symm
  subst q9
  exact i_iret C (d := dX6_extent_12) (h := ⟨⟨p, hp, rfl, by rw [(kO p hp).2.2.2]⟩, rfl⟩)

set_option maxRecDepth 100000 in
set_option maxHeartbeats 4000000 in
theorem c_X6_items (l : Launch) (hl : l.stackTraces = false) (D : gD) {w : wW} {τ ad : Nat → Nat} {nb tb : Nat} {σ : Sg} {i j : Int} (hW : WkI D w τ ad nb tb σ := by assumption) (hi : inR i := by omega) (hj : inR j := by omega) : CTx l D yX6_items cX6_items 4 (some .int) (rmL 8 3 18) [.ref (ad 0), .int (Z32 i), .int (Z32 j)] w (fun u w1 => (∃ p : Nat, p < 12 ∧ i = (p : Int) ∧ (-1 ≤ j ∧ j < 26) ∧ u = some (.int (Z32 (shc j (sprT (sT σ) p) : Int)))) ∧ w1 = w) (fun E w1 => ((E = "java/lang/IndexOutOfBoundsException" ∧ ¬ (0 ≤ i ∧ i < 12)) ∨ (E = "java/lang/IllegalArgumentException" ∧ (0 ≤ i ∧ i < 12) ∧ ¬ (-1 ≤ j ∧ j < 26))) ∧ w1 = w) := by
  refine CTx_of hl rfl (by rfl) (Nat.le_of_ble_eq_true rfl) ?_
  intro G C
  show G 0 0 w [some (.ref (ad 0)), some (.int (Z32 i)), some (.int (Z32 j)), none] 0 []
  refine i_aload_n C dX6_items_0 (kk := ?_)
  refine i_iload_n C dX6_items_1 (kk := ?_)
  refine i_callVX C lk_X6_67 (cx_X6_pageAt l hl D (hW := hW)) (hcl := rfl) (hst := rfl) dX6_items_2 (hw := hW.obj) (hxx := fun E w1 h => ⟨Or.inl ⟨h.1, h.2.1⟩, h.2.2⟩) (kk := fun v2 w2 g2 => ?_)
  obtain ⟨⟨p, hp, hip, rfl⟩, q2⟩ := g2
  have q2 := q2.symm
  subst q2
  refine i_getf C f_X6_129 dX6_items_5 (hw := hW.page hp) (kk := ?_)
  refine i_astore_n C dX6_items_8 (kk := ?_)
  refine i_iload_n C dX6_items_9 (kk := ?_)
  refine i_callSX C lk_X6_49 (c_X6_requireArgument l hl D) (hst := rfl) dX6_items_10 (hxx := fun E w1 h => ⟨Or.inr ⟨h.1, ⟨by omega, by omega⟩, h.2.1⟩, h.2.2⟩) (kk := fun v10 w10 g10 => ?_)
  obtain ⟨rfl, hk, q10⟩ := g10
  have q10 := q10.symm
  subst q10
  obtain ⟨os, kS⟩ := hW.spr hp
  refine i_aload_n C dX6_items_13 (kk := ?_)
  refine i_iload_n C dX6_items_14 (kk := ?_)
  refine i_callV C lk_X6_133 (c_X2_count l hl D (hS := kS)) (hcl := rfl) (hst := rfl) dX6_items_15 (hw := kS.2.2.2.2.2.2.1) (kk := fun v15 w15 g15 => ?_)
  obtain ⟨rfl, q15⟩ := g15
  have q15 := q15.symm
  subst q15
  exact i_iret C (d := dX6_items_18) (h := ⟨⟨p, hp, hip, hk, rfl⟩, rfl⟩)

set_option maxRecDepth 100000 in
set_option maxHeartbeats 4000000 in
theorem c_X6_setRank (l : Launch) (hl : l.stackTraces = false) (D : gD) {w : wW} {τ ad : Nat → Nat} {nb tb : Nat} {σ : Sg} {i j : Int} (hW : WkI D w τ ad nb tb σ := by assumption) (hi : inR i := by omega) (hj : inR j := by omega) : CTx l D yX6_setRank cX6_setRank 4 (some .int) (rmL 8 3 18) [.ref (ad 0), .int (Z32 i), .int (Z32 j)] w (fun u w1 => ∃ k : Nat, k < 6 ∧ i = (k : Int) ∧ (0 ≤ j ∧ j < 4) ∧ u = some (.int (Z32 (sUr σ k))) ∧ WkI D w1 τ ad nb tb (uUr σ k j) ∧ offR τ w w1 0 5000) (fun E w1 => ((E = "java/lang/IndexOutOfBoundsException" ∧ ¬ (0 ≤ i ∧ i < 6)) ∨ (E = "java/lang/IllegalArgumentException" ∧ (0 ≤ i ∧ i < 6) ∧ ¬ (0 ≤ j ∧ j < 4))) ∧ w1 = w) := by
  refine CTx_of hl rfl (by rfl) (Nat.le_of_ble_eq_true rfl) ?_
  intro G C
  show G 0 0 w [some (.ref (ad 0)), some (.int (Z32 i)), some (.int (Z32 j)), none] 0 []
  refine i_aload_n C dX6_setRank_0 (kk := ?_)
  refine i_iload_n C dX6_setRank_1 (kk := ?_)
  refine i_callVX C lk_X6_63 (c_X6_rankOfUser l hl D (hW := hW)) (hcl := rfl) (hst := rfl) dX6_setRank_2 (hw := hW.obj) (hxx := fun E w1 h => ⟨Or.inl ⟨h.1, h.2.1⟩, h.2.2⟩) (kk := fun v2 w2 g2 => ?_)
  obtain ⟨⟨k, hk, hik, rfl⟩, q2⟩ := g2
  have q2 := q2.symm
  subst q2
  have hur := hW.1.2.2 k hk
  refine i_istore_n C dX6_setRank_5 (kk := ?_)
  refine i_iload_n C dX6_setRank_6 (kk := ?_)
  refine i_iconst C dX6_setRank_7 (kk := ?_)
  refine i_callSX C lk_X6_37 (c_X6_requireBelow l hl D) (hst := rfl) dX6_setRank_8 (hxx := fun E w1 h => ⟨Or.inr ⟨h.1, ⟨by omega, by omega⟩, h.2.1⟩, h.2.2⟩) (kk := fun v8 w8 g8 => ?_)
  obtain ⟨rfl, hk4, q8⟩ := g8
  have q8 := q8.symm
  subst q8
  obtain ⟨a0, a1, a2, ⟨pf, b1, b2⟩, ⟨uf, c1, c2⟩, d1⟩ := hW.2.2.1
  refine i_aload_n C dX6_setRank_11 (kk := ?_)
  refine i_getf C f_X6_16 dX6_setRank_12 (hw := hW.obj) (kk := ?_)
  refine i_iload_n C dX6_setRank_15 (kk := ?_)
  refine i_iload_n C dX6_setRank_16 (kk := ?_)
  refine i_callS C lk_X6_119 (c_X6_put l hl D (hw := c1)) (hst := rfl) dX6_setRank_17 (kk := fun v17 w17 g17 => ?_)
  obtain ⟨rfl, rfl⟩ := g17
  rw [hik, putz_nat (by omega)]
  have hW2 := hW.setUr (k := k) (g := j) (f := upz uf k j) (by omega) (fun u hu => by show upz uf k j u = upz (sUr σ) k j u; by_cases q : u = k; (subst q; rw [upz_eq, upz_eq]); (rw [upz_ne q, upz_ne q]; exact c2 u hu))
  refine i_iload_n C dX6_setRank_20 (kk := ?_)
  exact i_iret C (d := dX6_setRank_21) (h := ⟨k, hk, by omega, hk4, rfl, hW2, offR.rf.put (by omega) (by omega)⟩)

set_option maxRecDepth 100000 in
set_option maxHeartbeats 4000000 in
theorem c_X6_lock (l : Launch) (hl : l.stackTraces = false) (D : gD) {w : wW} {τ ad : Nat → Nat} {nb tb : Nat} {σ : Sg} {i0 i j : Int} (hW : WkI D w τ ad nb tb σ := by assumption) (hi0 : inR i0 := by omega) (hi : inR i := by omega) (hj : inR j := by omega) : CTx l D yX6_lock cX6_lock 7 (some .int) (rmL 8 4 24) [.ref (ad 0), .int (Z32 i0), .int (Z32 i), .int (Z32 j)] w (fun u w1 => ∃ k p : Nat, k < 6 ∧ i0 = (k : Int) ∧ p < 12 ∧ i = (p : Int) ∧ (0 ≤ j ∧ j < 4) ∧ ((((sUr σ k < sLk σ p ∨ sUr σ k < j) ∧ u = some (.int (Z32 (-2)))) ∧ w1 = w) ∨ ((¬ (sUr σ k < sLk σ p ∨ sUr σ k < j) ∧ u = some (.int (Z32 (sLk σ p)))) ∧ WkI D w1 τ ad nb tb (uLk σ p j) ∧ offR τ w w1 0 5000))) (fun E w1 => ((E = "java/lang/IndexOutOfBoundsException" ∧ ¬ ((0 ≤ i0 ∧ i0 < 6) ∧ 0 ≤ i ∧ i < 12)) ∨ (E = "java/lang/IllegalArgumentException" ∧ ((0 ≤ i0 ∧ i0 < 6) ∧ 0 ≤ i ∧ i < 12) ∧ ¬ (0 ≤ j ∧ j < 4))) ∧ w1 = w) := by
  refine CTx_of hl rfl (by rfl) (Nat.le_of_ble_eq_true rfl) ?_
  intro G C
  show G 0 0 w [some (.ref (ad 0)), some (.int (Z32 i0)), some (.int (Z32 i)), some (.int (Z32 j)), none, none, none] 0 []
  refine i_aload_n C dX6_lock_0 (kk := ?_)
  refine i_iload_n C dX6_lock_1 (kk := ?_)
  refine i_callVX C lk_X6_63 (c_X6_rankOfUser l hl D (hW := hW)) (hcl := rfl) (hst := rfl) dX6_lock_2 (hw := hW.obj) (hxx := fun E w1 h => ⟨Or.inl ⟨h.1, fun q => h.2.1 q.1⟩, h.2.2⟩) (kk := fun v2 w2 g2 => ?_)
  obtain ⟨⟨k, hk, hik, rfl⟩, q2⟩ := g2
  have q2 := q2.symm
  subst q2
  have hur := hW.1.2.2 k hk
  refine i_istore C dX6_lock_5 (kk := ?_)
  refine i_aload_n C dX6_lock_7 (kk := ?_)
  refine i_iload_n C dX6_lock_8 (kk := ?_)
  refine i_callVX C lk_X6_67 (cx_X6_pageAt l hl D (hW := hW)) (hcl := rfl) (hst := rfl) dX6_lock_9 (hw := hW.obj) (hxx := fun E w1 h => ⟨Or.inl ⟨h.1, fun q => h.2.1 q.2⟩, h.2.2⟩) (kk := fun v9 w9 g9 => ?_)
  obtain ⟨⟨p, hp, hip, rfl⟩, q9⟩ := g9
  have q9 := q9.symm
  subst q9
  refine i_astore C dX6_lock_12 (kk := ?_)
  refine i_iload_n C dX6_lock_14 (kk := ?_)
  refine i_iconst C dX6_lock_15 (kk := ?_)
  refine i_callSX C lk_X6_37 (c_X6_requireBelow l hl D) (hst := rfl) dX6_lock_16 (hxx := fun E w1 h => ⟨Or.inr ⟨h.1, ⟨⟨by omega, by omega⟩, by omega, by omega⟩, h.2.1⟩, h.2.2⟩) (kk := fun v16 w16 g16 => ?_)
  obtain ⟨rfl, hk4, q16⟩ := g16
  have q16 := q16.symm
  subst q16
  have hlk := (hW.1.2.1 p hp).2.1
  refine i_aload C dX6_lock_19 (kk := ?_)
  refine i_getf C f_X6_116 dX6_lock_21 (hw := hW.page hp) (kk := ?_)
  refine i_istore C dX6_lock_24 (kk := ?_)
  refine i_iload C dX6_lock_26 (kk := ?_)
  refine i_iload C dX6_lock_28 (kk := ?_)
  refine i_icmp_lt C dX6_lock_30 (tgt := 39) (kt := fun hB30 => ?_) (kf := fun hB30 => ?_)
  · refine i_bipush C dX6_lock_39 (kk := ?_)
    exact i_iret C (d := dX6_lock_41) (h := ⟨k, p, hk, by omega, hp, by omega, hk4, Or.inl ⟨⟨by omega, rfl⟩, rfl⟩⟩)
  · refine i_iload C dX6_lock_33 (kk := ?_)
    refine i_iload_n C dX6_lock_35 (kk := ?_)
    refine i_icmp_ge C dX6_lock_36 (tgt := 42) (kt := fun hB36 => ?_) (kf := fun hB36 => ?_)
    · refine i_aload C dX6_lock_42 (kk := ?_)
      refine i_iload_n C dX6_lock_44 (kk := ?_)
      refine i_putf C fk_X6_116 dX6_lock_45 (hw := hW.page hp) (kk := ?_)
      refine i_iload C dX6_lock_48 (kk := ?_)
      exact i_iret C (d := dX6_lock_50) (h := ⟨k, p, hk, by omega, hp, by omega, hk4, Or.inr ⟨⟨by omega, rfl⟩, hW.setLk hp (by omega), offR.rf.put (by have := (hW.2.2.2.1 p hp).1; omega) (by have := (hW.2.2.2.1 p hp).1; omega)⟩⟩)
    · refine i_bipush C dX6_lock_39 (kk := ?_)
      exact i_iret C (d := dX6_lock_41) (h := ⟨k, p, hk, by omega, hp, by omega, hk4, Or.inl ⟨⟨by omega, rfl⟩, rfl⟩⟩)

set_option maxRecDepth 100000 in
set_option maxHeartbeats 4000000 in
theorem c_X6_approve (l : Launch) (hl : l.stackTraces = false) (D : gD) {w : wW} {τ ad : Nat → Nat} {nb tb : Nat} {σ : Sg} {i0 i : Int} (hW : WkI D w τ ad nb tb σ := by assumption) (hi0 : inR i0 := by omega) (hi : inR i := by omega) : CTx l D yX6_approve cX6_approve 5 (some .boolean) (rmL 8 3 18) [.ref (ad 0), .int (Z32 i0), .int (Z32 i)] w (fun u w1 => ∃ k p : Nat, k < 6 ∧ i0 = (k : Int) ∧ p < 12 ∧ i = (p : Int) ∧ (((¬ (frcS σ p ≤ sUr σ k ∧ sRk σ p (sNv σ p) < sUr σ k) ∧ u = some (.int (Z32 0))) ∧ w1 = w) ∨ (((frcS σ p ≤ sUr σ k ∧ sRk σ p (sNv σ p) < sUr σ k) ∧ u = some (.int (Z32 1))) ∧ WkI D w1 τ ad nb tb (uRk σ p (sNv σ p) (sUr σ k)) ∧ offR τ w w1 0 5000))) (fun E w1 => E = "java/lang/IndexOutOfBoundsException" ∧ ¬ ((0 ≤ i0 ∧ i0 < 6) ∧ 0 ≤ i ∧ i < 12) ∧ w1 = w) := by
  refine CTx_of hl rfl (by rfl) (Nat.le_of_ble_eq_true rfl) ?_
  intro G C
  show G 0 0 w [some (.ref (ad 0)), some (.int (Z32 i0)), some (.int (Z32 i)), none, none] 0 []
  refine i_aload_n C dX6_approve_0 (kk := ?_)
  refine i_iload_n C dX6_approve_1 (kk := ?_)
  refine i_callVX C lk_X6_63 (c_X6_rankOfUser l hl D (hW := hW)) (hcl := rfl) (hst := rfl) dX6_approve_2 (hw := hW.obj) (hxx := fun E w1 h => ⟨h.1, fun q => h.2.1 q.1, h.2.2⟩) (kk := fun v2 w2 g2 => ?_)
  obtain ⟨⟨k, hk, hik, rfl⟩, q2⟩ := g2
  have q2 := q2.symm
  subst q2
  have hur := hW.1.2.2 k hk
  refine i_istore_n C dX6_approve_5 (kk := ?_)
  refine i_aload_n C dX6_approve_6 (kk := ?_)
  refine i_iload_n C dX6_approve_7 (kk := ?_)
  refine i_callVX C lk_X6_67 (cx_X6_pageAt l hl D (hW := hW)) (hcl := rfl) (hst := rfl) dX6_approve_8 (hw := hW.obj) (hxx := fun E w1 h => ⟨h.1, fun q => h.2.1 q.2, h.2.2⟩) (kk := fun v8 w8 g8 => ?_)
  obtain ⟨⟨p, hp, hip, rfl⟩, q8⟩ := g8
  have q8 := q8.symm
  subst q8
  refine i_getf C f_X6_73 dX6_approve_11 (hw := hW.page hp) (kk := ?_)
  refine i_astore C dX6_approve_14 (kk := ?_)
  refine i_iload_n C dX6_approve_16 (kk := ?_)
  refine i_aload_n C dX6_approve_17 (kk := ?_)
  refine i_iload_n C dX6_approve_18 (kk := ?_)
  obtain ⟨hb, -, ⟨fc, fo, fr, fd, fx, kN, kO⟩, -⟩ := hW.2.1
  subst hip
  have hfr := frcS_R hW.1 hp
  have hrk := ((hW.1.2.1 p hp).2.2.2.2.2 _ (Nat.le_refl _)).2.2
  refine i_callV C lk_X6_85 (c_X6_forceOn l hl D (hW := hW) (kN := kN)) (hcl := rfl) (hst := rfl) dX6_approve_19 (hw := hW.obj) (kk := fun v19 w19 g19 => ?_)
  obtain ⟨rfl, q19⟩ := g19
  have q19 := q19.symm
  subst q19
  rw [frcN_cong (kO.fr kN.2.2.2.2.2.2.2.2.2.2.2.2.2.2.1) 12 (Nat.le_refl _)]
  show G _ _ _ _ _ (.int (Z32 (frcS σ p)) :: _)
  refine i_icmp_lt C dX6_approve_22 (tgt := 34) (kt := fun hB22 => ?_) (kf := fun hB22 => ?_)
  · refine i_iconst C dX6_approve_34 (kk := ?_)
    exact i_zret C (d := dX6_approve_35) (ha := Or.inl rfl) (h := ⟨k, p, hk, by omega, hp, rfl, Or.inl ⟨⟨by omega, rfl⟩, rfl⟩⟩)
  · refine i_iload_n C dX6_approve_25 (kk := ?_)
    refine i_aload C dX6_approve_26 (kk := ?_)
    refine i_getf C f_X6_110 dX6_approve_28 (hw := hW.ver hp) (kk := ?_)
    refine i_icmp_gt C dX6_approve_31 (tgt := 36) (kt := fun hB31 => ?_) (kf := fun hB31 => ?_)
    · refine i_aload C dX6_approve_36 (kk := ?_)
      refine i_iload_n C dX6_approve_38 (kk := ?_)
      refine i_putf C fk_X6_110 dX6_approve_39 (hw := hW.ver hp) (kk := ?_)
      refine i_iconst C dX6_approve_42 (kk := ?_)
      exact i_zret C (d := dX6_approve_43) (ha := Or.inr rfl) (h := ⟨k, p, hk, by omega, hp, rfl, Or.inr ⟨⟨by omega, rfl⟩, hW.setRk hp hur, offR.rf.put (by omega) (by rw [(hW.2.2.2.2.2 p hp _ (Nat.le_refl _)).1]; have := (hW.1.2.1 p hp).1; unfold vr; omega)⟩⟩)
    · refine i_iconst C dX6_approve_34 (kk := ?_)
      exact i_zret C (d := dX6_approve_35) (ha := Or.inl rfl) (h := ⟨k, p, hk, by omega, hp, rfl, Or.inl ⟨⟨by omega, rfl⟩, rfl⟩⟩)
