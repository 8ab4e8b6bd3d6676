theorem xl_50 : Cond.classLink RL 50 "java/util/NoSuchElementException" ∈ gT := gT_of 40 (by decide +kernel) (by decide +kernel)
theorem xc_50 : Cond.castable "java/util/NoSuchElementException" "java/util/NoSuchElementException" ∈ gN := gN_of 618 (by decide +kernel) (by decide +kernel)
theorem xl_139 : Cond.classLink RL 139 "java/lang/IllegalStateException" ∈ gT := gT_of 39 (by decide +kernel) (by decide +kernel)
theorem xc_139 : Cond.castable "java/lang/IllegalStateException" "java/lang/IllegalStateException" ∈ gN := gN_of 271 (by decide +kernel) (by decide +kernel)
/-- what sort answers -/
def sAt (L : List Sh3) (n : Int) : Int := match (if 0 ≤ n then L[n.toNat]? else none) with | some x => x.1 | none => -9
theorem sAt_in {L : List Sh3} {n : Nat} {x : Sh3} (h : L[n]? = some x) : sAt L (n : Int) = x.1 := by
  unfold sAt
  rw [if_pos (by omega), Int.toNat_natCast, h]
theorem sAt_out {L : List Sh3} {n : Int} (h : ∀ k : Nat, n = (k : Int) → L.length ≤ k) : sAt L n = -9 := by
  unfold sAt
  by_cases z : 0 ≤ n
  · rw [if_pos z, List.getElem?_eq_none (h n.toNat (by omega))]
  · rw [if_neg z]
def WkX (D : gD) (w : wW) (x0 : Nat) (σ : Sg) : Prop := ∃ (τ ad : Nat → Nat) (nb tb : Nat), WkI D w τ ad nb tb σ ∧ ad 0 = x0
theorem WkX.ok {D : gD} {w : wW} {x0 : Nat} {σ : Sg} (h : WkX D w x0 σ) : SgOK σ := by
  obtain ⟨τ, ad, nb, tb, h, -⟩ := h
  exact h.1
theorem WkX.it {D : gD} {w : wW} {x0 : Nat} {σ : Sg} (h : WkX D w x0 σ) {p : Nat} (hp : p < 12) : ∀ q ∈ sprT (sT σ) p, ItV q := by
  obtain ⟨τ, ad, nb, tb, h, -⟩ := h
  exact sprT_V h hp
theorem WkX.kept {D : gD} {w w1 : wW} {x0 : Nat} {σ : Sg} (h : WkX D w x0 σ) (hk : kW w w1) : WkX D w1 x0 σ := by
  obtain ⟨τ, ad, nb, tb, h, e⟩ := h
  have h2 : WkI D w (fun q => match w q with | none => 6000 | some _ => τ q) ad nb tb σ := h.retag (ad' := ad) (fun q hq => by
    cases hw : w q with
    | none => exact absurd hw hq
    | some y => simp only [hw]) (fun _ _ => rfl) (fun _ _ _ _ _ _ => rfl)
  refine ⟨_, ad, nb, tb, h2.far (w1 := w1) (lo := 6000) (hi := 6001) (fun q hq => hk q (fun hn => ?_)) (by decide), e⟩
  simp only [hn] at hq
  omega
theorem WkX.obj {D : gD} {w : wW} {x0 : Nat} {σ : Sg} (h : WkX D w x0 σ) : ∃ fs, w x0 = some (.inr (6, fs)) := by
  obtain ⟨τ, ad, nb, tb, h, rfl⟩ := h
  exact ⟨_, h.obj⟩
theorem x_version (l : Launch) (hl : l.stackTraces = false) (D : gD) {w : wW} {x0 : Nat} {σ : Sg} {i : Int} (hX : WkX D w x0 σ) (hi : inR i := by omega) : CTx l D yX6_version cX6_version 2 (some .int) (rmL 8 2 12) [.ref x0, .int (Z32 i)] w (fun u w1 => (∃ p : Nat, p < 12 ∧ i = (p : Int) ∧ u = some (.int (Z32 (((sNv σ p : Nat) : Int))))) ∧ w1 = w) (fun E w1 => E = "java/lang/IndexOutOfBoundsException" ∧ ¬ (0 ≤ i ∧ i < 12) ∧ w1 = w) := by
  obtain ⟨τ, ad, nb, tb, hW, rfl⟩ := hX
  exact c_X6_version l hl D (hW := hW) (hi := hi)
theorem x_rankOf (l : Launch) (hl : l.stackTraces = false) (D : gD) {w : wW} {x0 : Nat} {σ : Sg} {i : Int} (hX : WkX D w x0 σ) (hi : inR i := by omega) : CTx l D yX6_rankOf cX6_rankOf 2 (some .int) (rmL 8 2 12) [.ref x0, .int (Z32 i)] w (fun u w1 => (∃ p : Nat, p < 12 ∧ i = (p : Int) ∧ u = some (.int (Z32 (sRk σ p (sNv σ p))))) ∧ w1 = w) (fun E w1 => E = "java/lang/IndexOutOfBoundsException" ∧ ¬ (0 ≤ i ∧ i < 12) ∧ w1 = w) := by
  obtain ⟨τ, ad, nb, tb, hW, rfl⟩ := hX
  exact c_X6_rankOf l hl D (hW := hW) (hi := hi)
theorem x_force (l : Launch) (hl : l.stackTraces = false) (D : gD) {w : wW} {x0 : Nat} {σ : Sg} {i : Int} (hX : WkX D w x0 σ) (hi : inR i := by omega) : CTx l D yX6_force cX6_force 2 (some .int) (rmL 8 2 12) [.ref x0, .int (Z32 i)] w (fun u w1 => (∃ p : Nat, p < 12 ∧ i = (p : Int) ∧ u = some (.int (Z32 (frcS σ p)))) ∧ w1 = w) (fun E w1 => E = "java/lang/IndexOutOfBoundsException" ∧ ¬ (0 ≤ i ∧ i < 12) ∧ w1 = w) := by
  obtain ⟨τ, ad, nb, tb, hW, rfl⟩ := hX
  exact c_X6_force l hl D (hW := hW) (hi := hi)
theorem x_reaches (l : Launch) (hl : l.stackTraces = false) (D : gD) {w : wW} {x0 : Nat} {σ : Sg} {i : Int} (hX : WkX D w x0 σ) (hi : inR i := by omega) : CTx l D yX6_reaches cX6_reaches 2 (some .int) (rmL 8 2 12) [.ref x0, .int (Z32 i)] w (fun u w1 => (∃ p : Nat, p < 12 ∧ i = (p : Int) ∧ u = some (.int (Z32 (((rsT (sT σ) p : Nat) : Int))))) ∧ w1 = w) (fun E w1 => E = "java/lang/IndexOutOfBoundsException" ∧ ¬ (0 ≤ i ∧ i < 12) ∧ w1 = w) := by
  obtain ⟨τ, ad, nb, tb, hW, rfl⟩ := hX
  exact c_X6_reaches l hl D (hW := hW) (hi := hi)
theorem x_extent (l : Launch) (hl : l.stackTraces = false) (D : gD) {w : wW} {x0 : Nat} {σ : Sg} {i : Int} (hX : WkX D w x0 σ) (hi : inR i := by omega) : CTx l D yX6_extent cX6_extent 2 (some .int) (rmL 8 2 12) [.ref x0, .int (Z32 i)] w (fun u w1 => (∃ p : Nat, p < 12 ∧ i = (p : Int) ∧ u = some (.int (Z32 (((extT (sT σ) p : Nat) : Int))))) ∧ w1 = w) (fun E w1 => E = "java/lang/IndexOutOfBoundsException" ∧ ¬ (0 ≤ i ∧ i < 12) ∧ w1 = w) := by
  obtain ⟨τ, ad, nb, tb, hW, rfl⟩ := hX
  exact c_X6_extent l hl D (hW := hW) (hi := hi)
theorem x_items (l : Launch) (hl : l.stackTraces = false) (D : gD) {w : wW} {x0 : Nat} {σ : Sg} {i j : Int} (hX : WkX D w x0 σ) (hi : inR i := by omega) (hj : inR j := by omega) : CTx l D yX6_items cX6_items 4 (some .int) (rmL 8 3 18) [.ref x0, .int (Z32 i), .int (Z32 j)] w (fun u w1 => (∃ p : Nat, p < 12 ∧ i = (p : Int) ∧ (-1 ≤ j ∧ j < 26) ∧ u = some (.int (Z32 (shc j (sprT (sT σ) p) : Int)))) ∧ w1 = w) (fun E w1 => ((E = "java/lang/IndexOutOfBoundsException" ∧ ¬ (0 ≤ i ∧ i < 12)) ∨ (E = "java/lang/IllegalArgumentException" ∧ (0 ≤ i ∧ i < 12) ∧ ¬ (-1 ≤ j ∧ j < 26))) ∧ w1 = w) := by
  obtain ⟨τ, ad, nb, tb, hW, rfl⟩ := hX
  exact c_X6_items l hl D (hW := hW) (hi := hi) (hj := hj)
theorem x_sortAt (l : Launch) (hl : l.stackTraces = false) (D : gD) {w : wW} {x0 : Nat} {σ : Sg} {i j k : Int} (hX : WkX D w x0 σ) (hi : inR i := by omega) (hj : inR j := by omega) (hk : inR k := by omega) : CTx l D yX6_sortAt cX6_sortAt 5 (some .int) (rmL 10 3 18) [.ref x0, .int (Z32 i), .int (Z32 j), .int (Z32 k)] w (fun u w1 => (∃ p : Nat, p < 12 ∧ i = (p : Int) ∧ (-1 ≤ j ∧ j < 26) ∧ ∃ (n : Nat) (x : Sh3), k = (n : Int) ∧ (shl j (sprT (sT σ) p))[n]? = some x ∧ u = some (.int (Z32 x.1))) ∧ w1 = w) (fun E w1 => ((E = "java/lang/IndexOutOfBoundsException" ∧ ¬ (0 ≤ i ∧ i < 12)) ∨ (E = "java/lang/IllegalArgumentException" ∧ (0 ≤ i ∧ i < 12) ∧ ¬ (-1 ≤ j ∧ j < 26)) ∨ (E = "java/util/NoSuchElementException" ∧ (-1 ≤ j ∧ j < 26) ∧ ∃ p : Nat, p < 12 ∧ i = (p : Int) ∧ ∀ n : Nat, k = (n : Int) → (shl j (sprT (sT σ) p)).length ≤ n)) ∧ w1 = w) := by
  obtain ⟨τ, ad, nb, tb, hW, rfl⟩ := hX
  exact c_X6_sortAt l hl D (hW := hW) (hi := hi) (hj := hj) (hk := hk)
theorem x_itemAt (l : Launch) (hl : l.stackTraces = false) (D : gD) {w : wW} {x0 : Nat} {σ : Sg} {i j k : Int} (hX : WkX D w x0 σ) (hi : inR i := by omega) (hj : inR j := by omega) (hk : inR k := by omega) : CTx l D yX6_itemAt cX6_itemAt 5 (some .int) (rmL 10 3 18) [.ref x0, .int (Z32 i), .int (Z32 j), .int (Z32 k)] w (fun u w1 => (∃ p : Nat, p < 12 ∧ i = (p : Int) ∧ (-1 ≤ j ∧ j < 26) ∧ ∃ (n : Nat) (x : Sh3), k = (n : Int) ∧ (shl j (sprT (sT σ) p))[n]? = some x ∧ u = some (.int (Z32 x.2.1))) ∧ w1 = w) (fun E w1 => ((E = "java/lang/IndexOutOfBoundsException" ∧ ¬ (0 ≤ i ∧ i < 12)) ∨ (E = "java/lang/IllegalArgumentException" ∧ (0 ≤ i ∧ i < 12) ∧ ¬ (-1 ≤ j ∧ j < 26)) ∨ (E = "java/util/NoSuchElementException" ∧ (-1 ≤ j ∧ j < 26) ∧ ∃ p : Nat, p < 12 ∧ i = (p : Int) ∧ ∀ n : Nat, k = (n : Int) → (shl j (sprT (sT σ) p)).length ≤ n)) ∧ w1 = w) := by
  obtain ⟨τ, ad, nb, tb, hW, rfl⟩ := hX
  exact c_X6_itemAt l hl D (hW := hW) (hi := hi) (hj := hj) (hk := hk)
theorem x_sourceAt (l : Launch) (hl : l.stackTraces = false) (D : gD) {w : wW} {x0 : Nat} {σ : Sg} {i j k : Int} (hX : WkX D w x0 σ) (hi : inR i := by omega) (hj : inR j := by omega) (hk : inR k := by omega) : CTx l D yX6_sourceAt cX6_sourceAt 5 (some .int) (rmL 10 3 18) [.ref x0, .int (Z32 i), .int (Z32 j), .int (Z32 k)] w (fun u w1 => (∃ p : Nat, p < 12 ∧ i = (p : Int) ∧ (-1 ≤ j ∧ j < 26) ∧ ∃ (n : Nat) (x : Sh3), k = (n : Int) ∧ (shl j (sprT (sT σ) p))[n]? = some x ∧ u = some (.int (Z32 x.2.2))) ∧ w1 = w) (fun E w1 => ((E = "java/lang/IndexOutOfBoundsException" ∧ ¬ (0 ≤ i ∧ i < 12)) ∨ (E = "java/lang/IllegalArgumentException" ∧ (0 ≤ i ∧ i < 12) ∧ ¬ (-1 ≤ j ∧ j < 26)) ∨ (E = "java/util/NoSuchElementException" ∧ (-1 ≤ j ∧ j < 26) ∧ ∃ p : Nat, p < 12 ∧ i = (p : Int) ∧ ∀ n : Nat, k = (n : Int) → (shl j (sprT (sT σ) p)).length ≤ n)) ∧ w1 = w) := by
  obtain ⟨τ, ad, nb, tb, hW, rfl⟩ := hX
  exact c_X6_sourceAt l hl D (hW := hW) (hi := hi) (hj := hj) (hk := hk)
theorem x_standsFor (l : Launch) (hl : l.stackTraces = false) (D : gD) {w : wW} {x0 : Nat} {σ : Sg} {i : Int} (hX : WkX D w x0 σ) (hi : inR i := by omega) : CTx l D yX6_standsFor cX6_standsFor 2 (some .int) (rmL 8 1 6) [.ref x0, .int (Z32 i)] w (fun u w1 => (∃ p : Nat, p < 12 ∧ i = (p : Int) ∧ u = some (.int (Z32 (stT (sT σ) p)))) ∧ w1 = w) (fun E w1 => E = "java/lang/IndexOutOfBoundsException" ∧ ¬ (0 ≤ i ∧ i < 12) ∧ w1 = w) := by
  obtain ⟨τ, ad, nb, tb, hW, rfl⟩ := hX
  exact c_X6_standsFor l hl D (hW := hW) (hi := hi)
theorem x_links (l : Launch) (hl : l.stackTraces = false) (D : gD) {w : wW} {x0 : Nat} {σ : Sg} {i0 : Int} (hX : WkX D w x0 σ) (hi : inR i0 := by omega) : CTx l D yX6_links cX6_links 5 (some .int) (rmL 8 2 12) [.ref x0, .int (Z32 i0)] w (fun u w1 => (∃ p : Nat, p < 12 ∧ i0 = (p : Int) ∧ u = some (.int (Z32 ((cnb isl (sprT (sT σ) p) : Nat) : Int)))) ∧ w1 = w) (fun E w1 => E = "java/lang/IndexOutOfBoundsException" ∧ ¬ (0 ≤ i0 ∧ i0 < 12) ∧ w1 = w) := by
  obtain ⟨τ, ad, nb, tb, hW, rfl⟩ := hX
  exact c_X6_links l hl D (hW := hW) (hi := hi)
theorem x_broken (l : Launch) (hl : l.stackTraces = false) (D : gD) {w : wW} {x0 : Nat} {σ : Sg} {i0 : Int} (hX : WkX D w x0 σ) (hi : inR i0 := by omega) : CTx l D yX6_broken cX6_broken 5 (some .int) (rmL 8 2 12) [.ref x0, .int (Z32 i0)] w (fun u w1 => (∃ p : Nat, p < 12 ∧ i0 = (p : Int) ∧ u = some (.int (Z32 ((cnb (badb (sT σ)) (sprT (sT σ) p) : Nat) : Int)))) ∧ w1 = w) (fun E w1 => E = "java/lang/IndexOutOfBoundsException" ∧ ¬ (0 ≤ i0 ∧ i0 < 12) ∧ w1 = w) := by
  obtain ⟨τ, ad, nb, tb, hW, rfl⟩ := hX
  exact c_X6_broken l hl D (hW := hW) (hi := hi)
theorem x_firstBroken (l : Launch) (hl : l.stackTraces = false) (D : gD) {w : wW} {x0 : Nat} {σ : Sg} {i0 : Int} (hX : WkX D w x0 σ) (hi : inR i0 := by omega) : CTx l D yX6_firstBroken cX6_firstBroken 4 (some .int) (rmL 8 2 12) [.ref x0, .int (Z32 i0)] w (fun u w1 => (∃ p : Nat, p < 12 ∧ i0 = (p : Int) ∧ u = some (.int (Z32 (fbk (sT σ) (sprT (sT σ) p))))) ∧ w1 = w) (fun E w1 => E = "java/lang/IndexOutOfBoundsException" ∧ ¬ (0 ≤ i0 ∧ i0 < 12) ∧ w1 = w) := by
  obtain ⟨τ, ad, nb, tb, hW, rfl⟩ := hX
  exact c_X6_firstBroken l hl D (hW := hW) (hi := hi)
theorem x_linkedFrom (l : Launch) (hl : l.stackTraces = false) (D : gD) {w : wW} {x0 : Nat} {σ : Sg} {i : Int} (hX : WkX D w x0 σ) (hi : inR i := by omega) : CTx l D yX6_linkedFrom cX6_linkedFrom 4 (some .int) (rmL 8 1 6) [.ref x0, .int (Z32 i)] w (fun u w1 => (∃ p : Nat, p < 12 ∧ i = (p : Int) ∧ u = some (.int (Z32 ((lfs (sT σ) p 12 : Nat) : Int)))) ∧ w1 = w) (fun E w1 => E = "java/lang/IndexOutOfBoundsException" ∧ ¬ (0 ≤ i ∧ i < 12) ∧ w1 = w) := by
  obtain ⟨τ, ad, nb, tb, hW, rfl⟩ := hX
  exact c_X6_linkedFrom l hl D (hW := hW) (hi := hi)
theorem x_breaches (l : Launch) (hl : l.stackTraces = false) (D : gD) {w : wW} {x0 : Nat} {σ : Sg} {i : Int} (hX : WkX D w x0 σ) (hi : inR i := by omega) : CTx l D yX6_breaches cX6_breaches 2 (some .int) (rmL 8 1 6) [.ref x0, .int (Z32 i)] w (fun u w1 => (∃ p : Nat, p < 12 ∧ i = (p : Int) ∧ u = some (.int (Z32 ((brc σ p : Nat) : Int)))) ∧ w1 = w) (fun E w1 => E = "java/lang/IndexOutOfBoundsException" ∧ ¬ (0 ≤ i ∧ i < 12) ∧ w1 = w) := by
  obtain ⟨τ, ad, nb, tb, hW, rfl⟩ := hX
  exact c_X6_breaches l hl D (hW := hW) (hi := hi)
theorem x_breached (l : Launch) (hl : l.stackTraces = false) (D : gD) {w : wW} {x0 : Nat} {σ : Sg} (hX : WkX D w x0 σ) : CTm l D yX6_breached cX6_breached 3 (some .int) (rmL 5 0 0) [.ref x0] w (fun u w1 => u = some (.int (Z32 ((brs σ 12 : Nat) : Int))) ∧ w1 = w) := by
  obtain ⟨τ, ad, nb, tb, hW, rfl⟩ := hX
  exact c_X6_breached l hl D (hW := hW)
set_option maxRecDepth 100000 in
set_option maxHeartbeats 4000000 in
theorem c_L_sort (l : Launch) (hl : l.stackTraces = false) (D : gD) {w : wW} {x0 p : Nat} {g n : Int} {σ : Sg} (hX : WkX D w x0 σ) (hp : p < 5) (hg : -1 ≤ g ∧ g < 26) (hn : inR n) : CTh l D yL_sort cL_sort 5 (some .int) [(0, 7, 8, 50)] (rmL 11 3 18) [.ref x0, .int (Z32 (p : Int)), .int (Z32 g), .int (Z32 n)] w (fun u w1 => u = some (.int (Z32 (sAt (shl g (sprT (sT σ) p)) n))) ∧ w1 = w) := by
  obtain ⟨τ, ad, nb, tb, hW, rfl⟩ := hX
  refine CTh_of hl rfl (by rfl) (Nat.le_of_ble_eq_true rfl) ?_
  intro G C
  show G 0 0 w [some (.ref (ad 0)), some (.int (Z32 (p : Int))), some (.int (Z32 g)), some (.int (Z32 n)), none] 0 []
  refine i_aload_n C dL_sort_0 (kk := ?_)
  refine i_iload_n C dL_sort_1 (kk := ?_)
  refine i_iload_n C dL_sort_2 (kk := ?_)
  refine i_iload_n C dL_sort_3 (kk := ?_)
  refine i_callVC C lk_L_44 (c_X6_sortAt l hl D (hW := hW) (i := (p : Int)) (j := g) (k := n)) (hcl := rfl) (hst := rfl) dL_sort_4 (hw := hW.obj) (hxx := fun E w1 H9 => ?_) (kk := fun v4 w4 g4 => ?_)
  · obtain ⟨H9, hw⟩ := H9
    have hw := hw.symm
    subst hw
    rcases H9 with ⟨-, h9⟩ | ⟨-, -, h9⟩ | ⟨rfl, -, p9, hp9, e9, h9⟩
    · exact absurd (by omega) h9
    · exact absurd (by omega) h9
    · have e8 : p9 = p := by omega
      subst e8
      refine ⟨8, ⟨[], [], (0, 7, 8, 50), rfl, (fun z hz => nomatch hz), by decide, by decide, rfl, xl_50, xc_50⟩, fun q => ?_⟩
      refine i_astore C dL_sort_8 (kk := ?_)
      refine i_bipush C dL_sort_10 (kk := ?_)
      exact i_iret C (d := dL_sort_12) (h := ⟨by rw [sAt_out h9], rfl⟩)
  · obtain ⟨⟨p9, hp9, e9, -, n9, x9, e8, h9, rfl⟩, hw⟩ := g4
    have hw := hw.symm
    subst hw
    have e7 : p9 = p := by omega
    subst e7
    exact i_iret C (d := dL_sort_7) (h := ⟨by rw [e8, sAt_in h9], rfl⟩)

/-- what walk counts -/
def fnd1 (σ : Sg) (a num : Int) (p : Nat) (x : Sh3) : Nat := if (a = 1 ∧ x.1 = 1 ∧ x.2.1 = num) ∨ (a = 2 ∧ sRk σ x.2.2.toNat (sNv σ x.2.2.toNat) < sLk σ p) ∨ (a = 3 ∧ x.1 = 2) then 1 else 0
def fndS (σ : Sg) (a num : Int) (p : Nat) : List Sh3 → Nat
  | [] => 0
  | x :: L => fnd1 σ a num p x + fndS σ a num p L
theorem fndS_app {σ : Sg} {a num : Int} {p : Nat} : ∀ (A B : List Sh3), fndS σ a num p (A ++ B) = fndS σ a num p A + fndS σ a num p B
  | [], B => (Nat.zero_add _).symm
  | x :: A, B => by
    show _ + fndS σ a num p (A ++ B) = _ + fndS σ a num p A + fndS σ a num p B
    rw [fndS_app A B, Nat.add_assoc]
theorem fndS_snoc {σ : Sg} {a num : Int} {p : Nat} {L : List Sh3} {n : Nat} {x : Sh3} (h : L[n]? = some x) : fndS σ a num p (L.take (n + 1)) = fndS σ a num p (L.take n) + fnd1 σ a num p x := by
  rw [take_snoc h, fndS_app]; rfl
theorem fndS_le {σ : Sg} {a num : Int} {p : Nat} : ∀ (L : List Sh3), fndS σ a num p L ≤ L.length
  | [] => Nat.le_refl 0
  | x :: L => by
    have ih := fndS_le (σ := σ) (a := a) (num := num) (p := p) L
    have h1 : fnd1 σ a num p x ≤ 1 := by unfold fnd1; split <;> omega
    show fnd1 σ a num p x + fndS σ a num p L ≤ L.length + 1
    omega
theorem fnd1_yes {σ : Sg} {a num s v : Int} {p q : Nat} (h : (a = 1 ∧ s = 1 ∧ v = num) ∨ (a = 2 ∧ sRk σ q (sNv σ q) < sLk σ p) ∨ (a = 3 ∧ s = 2)) : (1 : Int) = ((fnd1 σ a num p (s, v, (q : Int)) : Nat) : Int) := by
  have e : fnd1 σ a num p (s, v, (q : Int)) = 1 := if_pos h
  rw [e]; rfl
theorem fnd1_no {σ : Sg} {a num s v : Int} {p q : Nat} (h : ¬ ((a = 1 ∧ s = 1 ∧ v = num) ∨ (a = 2 ∧ sRk σ q (sNv σ q) < sLk σ p) ∨ (a = 3 ∧ s = 2))) : (0 : Int) = ((fnd1 σ a num p (s, v, (q : Int)) : Nat) : Int) := by
  have e : fnd1 σ a num p (s, v, (q : Int)) = 0 := if_neg h
  rw [e]; rfl
abbrev NK (a : Int) (N K n : Nat) : Prop := (a = 0 ∧ N ≤ 1 + 9 * n ∧ K ≤ 24 + 54 * n) ∨ (a ≠ 0 ∧ N ≤ 1 ∧ K ≤ 24)
def wkA (σ : Sg) (a num : Int) (p : Nat) (L : List Sh3) : Nat := if a = 0 then L.length else fndS σ a num p L
theorem dow6 {c : Nat} (h : c < 50) : (dow (dc6 c).1 = 1 ↔ (29 ≤ c ∧ c < 32)) ∧ (dow (dc6 c).1 = -1 ↔ c = 32) ∧ ((¬ (29 ≤ c ∧ c < 32) ∧ c ≠ 32) → dow (dc6 c).1 = 0) := by
  refine dc6_all (P := fun c pc => (dow pc.1 = 1 ↔ (29 ≤ c ∧ c < 32)) ∧ (dow pc.1 = -1 ↔ c = 32) ∧ ((¬ (29 ≤ c ∧ c < 32) ∧ c ≠ 32) → dow pc.1 = 0)) ?_ ?_ ?_ ?_ ?_ ?_ ?_ ?_ ?_ c h
  all_goals (try intro c h1); (try intro h2); unfold dow; simp <;> omega
theorem drop_cons {L : List Sh3} {n : Nat} {x : Sh3} {R : List Sh3} (h : L.drop n = x :: R) : n < L.length ∧ L[n]? = some x ∧ L.drop (n + 1) = R := by
  have hn : n < L.length := by
    apply Decidable.byContradiction
    intro z
    rw [List.drop_of_length_le (by omega)] at h
    cases h
  rw [List.drop_eq_getElem_cons hn] at h
  injection h with h1 h2
  exact ⟨hn, by rw [List.getElem?_eq_getElem hn, h1], h2⟩
set_option maxRecDepth 100000 in
set_option maxHeartbeats 4000000 in
theorem c_L_walk (l : Launch) (hl : l.stackTraces = false) (D : gD) {w : wW} {x0 a1 a2 a3 a4 p : Nat} {g0 a num : Int} {CC SS : Nat} {σ : Sg} {ft : Nat → Int64} {fz fr fv : Nat → Int} (h1 : w a1 = some (lar D 60 ft) := by assumption) (h2 : w a2 = some (iar D 60 fz) := by assumption) (h3 : w a3 = some (iar D 60 fr) := by assumption) (h4 : w a4 = some (iar D 16 fv) := by assumption) (hR : LwR σ ft fz fr fv := by assumption) (hX : WkX D w x0 σ) (hp : p < 5) (hg0 : -1 ≤ g0 ∧ g0 ≤ 25) (ha : 0 ≤ a ∧ a ≤ 3) (hnum : inR num) (hCC : (a = 0 ∧ 901 ≤ CC ∧ 5424 ≤ SS) ∨ (a ≠ 0 ∧ 1 ≤ CC ∧ 24 ≤ SS)) : CTm l D yL_walk cL_walk 21 (some .int) (rmL 12 CC SS) [.ref x0, .ref a1, .ref a2, .ref a3, .ref a4, .int (Z32 (p : Int)), .int (Z32 g0), .int (Z32 a), .int (Z32 num)] w (fun u w1 => u = some (.int (Z32 ((wkA σ a num p (shl g0 (sprT (sT σ) p)) : Nat) : Int))) ∧ kW w w1) := by
  refine CTm_of hl false rfl (by rfl) (Nat.le_of_ble_eq_true rfl) (fun h => nomatch h) ?_
  intro G C
  show G 0 0 w [some (.ref x0), some (.ref a1), some (.ref a2), some (.ref a3), some (.ref a4), some (.int (Z32 (p : Int))), some (.int (Z32 g0)), some (.int (Z32 a)), some (.int (Z32 num)), none, none, none, none, none, none, none, none, none, none, none, none] 0 []
  refine i_bipush C dL_walk_0 (kk := ?_)
  refine i_newint C (harr := ta_int) (N := 24) (d := dL_walk_2) (hcells := by show 0 + 1 ≤ CC; omega) (hslots := by show 0 + 24 ≤ SS; omega) (kk := fun qp nqp => ?_)
  have ne1 := ne_live h1 nqp
  have ne2 := ne_live h2 nqp
  have ne3 := ne_live h3 nqp
  have ne4 := ne_live h4 nqp
  have hkp : ∀ f9, kW w (wset w qp (iar D 24 f9)) := fun f9 => kW.rf.put nqp
  have hXp := fun f9 => hX.kept (hkp f9)
  have hS := hX.ok
  obtain ⟨L0, hL0⟩ : ∃ L0, L0 = shl g0 (sprT (sT σ) p) := ⟨_, rfl⟩
  have hL1 : L0.length ≤ 100 := by rw [hL0]; exact shl_le hS (by omega) g0
  refine i_astore C dL_walk_4 (kk := ?_)
  refine i_iconst C dL_walk_6 (kk := ?_)
  refine i_istore C dL_walk_7 (kk := ?_)
  refine i_iconst C dL_walk_9 (kk := ?_)
  refine i_istore C dL_walk_10 (kk := ?_)
  refine i_iconst C dL_walk_12 (kk := ?_)
  refine i_istore C dL_walk_13 (kk := ?_)
  refine i_aload C dL_walk_15 (kk := ?_)
  refine i_iconst C dL_walk_17 (kk := ?_)
  refine i_iload C dL_walk_18 (kk := ?_)
  refine i_iastore C dL_walk_20 (hw := wset_eq) (kk := ?_)
  rw [wset_twice]
  refine i_aload C dL_walk_21 (kk := ?_)
  refine i_iconst C dL_walk_23 (kk := ?_)
  refine i_iload C dL_walk_24 (kk := ?_)
  refine i_iastore C dL_walk_26 (hw := wset_eq) (kk := ?_)
  rw [wset_twice]
  obtain ⟨f, hf⟩ : ∃ f, f = upz (upz (fun _ => (0 : Int)) (0 : Int).toNat (p : Int)) (2 : Int).toNat g0 := ⟨_, rfl⟩
  rw [← hf]
  have main : ∀ (d m t q i n N K : Nat) (g : Int) (f : Nat → Int) (R : List Sh3) (o13 o14 o15 o16 o17 o18 o19 o20 : Option Value), depT (sT σ) q < d → (sT σ q).length < m + i → t + depT (sT σ) q ≤ 5 → q < 5 → i ≤ (sT σ q).length → (-1 ≤ g ∧ g ≤ 25) → f (3 * t) = (q : Int) → f (3 * t + 1) = (i : Int) → f (3 * t + 2) = g → n ≤ L0.length → NK a N K n → L0.drop n = RS (sT σ) q g i ++ R → (∀ (n1 N1 K1 : Nat) (f1 : Nat → Int) (o13 o14 o15 o16 o17 o18 o19 o20 : Option Value), n1 ≤ L0.length → NK a N1 K1 n1 → (∀ j, j < 3 * t → f1 j = f j) → L0.drop n1 = R → G N1 K1 (wset w qp (iar D 24 f1)) [some (.ref x0), some (.ref a1), some (.ref a2), some (.ref a3), some (.ref a4), some (.int (Z32 (p : Int))), some (.int (Z32 g0)), some (.int (Z32 a)), some (.int (Z32 num)), some (.ref qp), some (.int (Z32 ((t : Int) - 1))), some (.int (Z32 (n1 : Int))), some (.int (Z32 ((fndS σ a num p (L0.take (n1)) : Nat) : Int))), o13, o14, o15, o16, o17, o18, o19, o20] 27 []) → G N K (wset w qp (iar D 24 f)) [some (.ref x0), some (.ref a1), some (.ref a2), some (.ref a3), some (.ref a4), some (.int (Z32 (p : Int))), some (.int (Z32 g0)), some (.int (Z32 a)), some (.int (Z32 num)), some (.ref qp), some (.int (Z32 ((t : Int)))), some (.int (Z32 (n : Int))), some (.int (Z32 ((fndS σ a num p (L0.take (n)) : Nat) : Int))), o13, o14, o15, o16, o17, o18, o19, o20] 27 [] := by
    intro d
    induction d with
    | zero => intro m t q i n N K g f R o13 o14 o15 o16 o17 o18 o19 o20 hd; exact absurd hd (Nat.not_lt_zero _)
    | succ d ihd =>
    intro m
    induction m with
    | zero => intro t q i n N K g f R o13 o14 o15 o16 o17 o18 o19 o20 _ hm _ _ hi; omega
    | succ m ihm =>
    intro t q i n N K g f R o13 o14 o15 o16 o17 o18 o19 o20 hd hm ht5 hq hi hg hf0 hf1 hf2 hn hN hL cont
    have k1 := fun f9 => (hkp f9).at h1
    have k2 := fun f9 => (hkp f9).at h2
    have k3 := fun f9 => (hkp f9).at h3
    have k4 := fun f9 => (hkp f9).at h4
    have hn11 := (hR.nv hq).2
    have hlen9 := (hR.tx hq).len
    have hfl := fndS_le (σ := σ) (a := a) (num := num) (p := p) (L0.take n)
    rw [List.length_take] at hfl
    refine i_iload C dL_walk_27 (kk := ?_)
    refine i_if_lt C dL_walk_29 (tgt := 540) (kt := fun hB29 => ?_) (kf := fun hB29 => ?_)
    · exfalso; omega
    · refine i_aload C dL_walk_32 (kk := ?_)
      refine i_iconst C dL_walk_34 (kk := ?_)
      refine i_iload C dL_walk_35 (kk := ?_)
      refine i_imul C dL_walk_37 (kk := ?_)
      rw [show (3 : Int) * (t : Int) = ((3 * t : Nat) : Int) by omega]
      refine i_iaload C dL_walk_38 (hw := wset_eq) (kk := ?_)
      rw [Int.toNat_natCast, hf0]
      refine i_istore C dL_walk_39 (kk := ?_)
      refine i_aload C dL_walk_41 (kk := ?_)
      refine i_iconst C dL_walk_43 (kk := ?_)
      refine i_iload C dL_walk_44 (kk := ?_)
      refine i_imul C dL_walk_46 (kk := ?_)
      refine i_iconst C dL_walk_47 (kk := ?_)
      refine i_iadd C dL_walk_48 (kk := ?_)
      rw [show (3 : Int) * (t : Int) + 1 = ((3 * t + 1 : Nat) : Int) by omega]
      refine i_iaload C dL_walk_49 (hw := wset_eq) (kk := ?_)
      rw [Int.toNat_natCast, hf1]
      refine i_istore C dL_walk_50 (kk := ?_)
      refine i_aload C dL_walk_52 (kk := ?_)
      refine i_iconst C dL_walk_54 (kk := ?_)
      refine i_iload C dL_walk_55 (kk := ?_)
      refine i_imul C dL_walk_57 (kk := ?_)
      refine i_iconst C dL_walk_58 (kk := ?_)
      refine i_iadd C dL_walk_59 (kk := ?_)
      rw [show (3 : Int) * (t : Int) + 2 = ((3 * t + 2 : Nat) : Int) by omega]
      refine i_iaload C dL_walk_60 (hw := wset_eq) (kk := ?_)
      rw [Int.toNat_natCast, hf2]
      refine i_istore C dL_walk_61 (kk := ?_)
      refine i_iload C dL_walk_63 (kk := ?_)
      refine i_aload_n C dL_walk_65 (kk := ?_)
      refine i_aload C dL_walk_66 (kk := ?_)
      refine i_iload C dL_walk_68 (kk := ?_)
      refine i_callS C lk_L_24 (c_L_now l hl D (w := wset w qp (iar D 24 f)) (h4 := k4 f) (hR := hR) (p := q)) (hst := rfl) dL_walk_70 (hf := ⟨by show _ ≤ CC; (try simp only [rmL]); omega, by show _ ≤ SS; (try simp only [rmL]); omega⟩) (kk := fun v70 w70 g70 => ?_)
      obtain ⟨rfl, q70⟩ := g70
      have q70 := q70.symm
      subst q70
      refine i_iaload C dL_walk_73 (hw := k2 f) (kk := ?_)
      rw [Int.toNat_natCast, hR.sz hq]
      refine i_icmp_lt C dL_walk_74 (tgt := 83) (kt := fun hB74 => ?_) (kf := fun hB74 => ?_)
      · have hTx := hR.tx hq
        have hPV := (hS.txt q (by omega)).1
        have hlen9 := hTx.len
        obtain ⟨cs, hcs, hc, h9, hx9⟩ := hTx
        have hlen : (sT σ q).length = cs.length := by rw [hcs, List.length_map]
        have hilt : i < (sT σ q).length := by omega
        obtain ⟨c, hcg⟩ : ∃ c, cs.getD i 0 = c := ⟨_, rfl⟩
        have hc5 : c < 50 := by rw [← hcg]; exact getD_lt hc i
        have epc : pcs (sT σ q) i = dc6 c := by rw [hcs, ← hcg]; exact pcs_map (by omega)
        refine i_aload_n C dL_walk_83 (kk := ?_)
        refine i_aload C dL_walk_84 (kk := ?_)
        refine i_iload C dL_walk_86 (kk := ?_)
        refine i_callS C lk_L_24 (c_L_now l hl D (w := wset w qp (iar D 24 f)) (h4 := k4 f) (hR := hR) (p := q)) (hst := rfl) dL_walk_88 (hf := ⟨by show _ ≤ CC; (try simp only [rmL]); omega, by show _ ≤ SS; (try simp only [rmL]); omega⟩) (kk := fun v88 w88 g88 => ?_)
        obtain ⟨rfl, q88⟩ := g88
        have q88 := q88.symm
        subst q88
        refine i_laload C dL_walk_91 (hw := k1 f) (kk := ?_)
        rw [Int.toNat_natCast, hx9]
        refine i_iload C dL_walk_92 (kk := ?_)
        refine i_callS C lk_L_11 (c_L_piece l hl D (cs := cs) (i := i) hc h9 (by omega)) (hst := rfl) dL_walk_94 (hf := ⟨by show _ ≤ CC; (try simp only [rmL]); omega, by show _ ≤ SS; (try simp only [rmL]); omega⟩) (kk := fun v94 w94 g94 => ?_)
        obtain ⟨rfl, q94⟩ := g94
        have q94 := q94.symm
        subst q94
        rw [hcg]
        refine i_istore C dL_walk_97 (kk := ?_)
        have jI : ∀ (s v : Int) (o17 o20 : Option Value) (N2 K2 : Nat), NK a N2 K2 n → inR s → inR v → clD (dc6 c) = -1 → RS (sT σ) q g i = (s, v, (q : Int)) :: RS (sT σ) q g (i + 1) → G N2 K2 (wset w qp (iar D 24 (upz f (3 * t + 1) ((i : Int) + 1)))) [some (.ref x0), some (.ref a1), some (.ref a2), some (.ref a3), some (.ref a4), some (.int (Z32 (p : Int))), some (.int (Z32 g0)), some (.int (Z32 a)), some (.int (Z32 num)), some (.ref qp), some (.int (Z32 ((t : Int)))), some (.int (Z32 (n : Int))), some (.int (Z32 ((fndS σ a num p (L0.take (n)) : Nat) : Int))), some (.int (Z32 (q : Int))), some (.int (Z32 (i : Int))), some (.int (Z32 g)), some (.int (Z32 (c : Int))), o17, some (.int (Z32 s)), some (.int (Z32 v)), o20] 342 [] := by
          intro s v o17 o20 N2 K2 hN2 hsR hvR hcl hRS
          rw [hRS] at hL
          obtain ⟨hn1, hx, hL2⟩ := drop_cons hL
          have hsn := fndS_snoc (σ := σ) (a := a) (num := num) (p := p) hx
          have hrk := hR.rk hq
          have hrkR := (hS.2.1 q (by omega)).2.2.2.2.2 _ (Nat.le_refl _)
          have hlkp := (hR.1 p hp).2.2.1
          have hlkR := (hS.2.1 p (by omega)).2.1
          refine i_iload C dL_walk_342 (kk := ?_)
          have jF : ∀ (N3 K3 : Nat), NK a N3 K3 (n + 1) → G N3 K3 (wset w qp (iar D 24 (upz f (3 * t + 1) ((i : Int) + 1)))) [some (.ref x0), some (.ref a1), some (.ref a2), some (.ref a3), some (.ref a4), some (.int (Z32 (p : Int))), some (.int (Z32 g0)), some (.int (Z32 a)), some (.int (Z32 num)), some (.ref qp), some (.int (Z32 ((t : Int)))), some (.int (Z32 (n : Int))), some (.int (Z32 ((fndS σ a num p (L0.take (n)) : Nat) : Int))), some (.int (Z32 (q : Int))), some (.int (Z32 (i : Int))), some (.int (Z32 g)), some (.int (Z32 (c : Int))), o17, some (.int (Z32 s)), some (.int (Z32 v)), o20] 394 [] := by
            intro N3 K3 hN3
            refine i_iload C dL_walk_394 (kk := ?_)
            refine i_iload C dL_walk_396 (kk := ?_)
            refine i_iconst C dL_walk_398 (kk := ?_)
            have jA : ∀ b : Int, b = ((fnd1 σ a num p (s, v, (q : Int)) : Nat) : Int) → ∀ (N4 K4 : Nat), NK a N4 K4 (n + 1) → G N4 K4 (wset w qp (iar D 24 (upz f (3 * t + 1) ((i : Int) + 1)))) [some (.ref x0), some (.ref a1), some (.ref a2), some (.ref a3), some (.ref a4), some (.int (Z32 (p : Int))), some (.int (Z32 g0)), some (.int (Z32 a)), some (.int (Z32 num)), some (.ref qp), some (.int (Z32 ((t : Int)))), some (.int (Z32 (n : Int))), some (.int (Z32 ((fndS σ a num p (L0.take (n)) : Nat) : Int))), some (.int (Z32 (q : Int))), some (.int (Z32 (i : Int))), some (.int (Z32 g)), some (.int (Z32 (c : Int))), o17, some (.int (Z32 s)), some (.int (Z32 v)), o20] 457 [.int (Z32 b), .int (Z32 ((fndS σ a num p (L0.take n) : Nat) : Int))] := by
              intro b hb N4 K4 hN4
              refine i_iadd C dL_walk_457 (kk := ?_)
              rw [show ((fndS σ a num p (L0.take n) : Nat) : Int) + b = ((fndS σ a num p (L0.take (n + 1)) : Nat) : Int) by rw [hsn, hb]; omega]
              refine i_istore C dL_walk_458 (kk := ?_)
              refine i_iinc C dL_walk_460 (kk := ?_)
              rw [show (n : Int) + 1 = ((n + 1 : Nat) : Int) by omega]
              refine i_iload C dL_walk_463 (kk := ?_)
              refine i_callS C lk_L_17 (c_L_called l hl D hc5) (hst := rfl) dL_walk_465 (hf := ⟨by show _ ≤ CC; (try simp only [rmL]); omega, by show _ ≤ SS; (try simp only [rmL]); omega⟩) (kk := fun v465 w465 g465 => ?_)
              obtain ⟨rfl, q465⟩ := g465
              have q465 := q465.symm
              subst q465
              rw [hcl]
              refine i_if_lt C dL_walk_468 (tgt := 537) (kt := fun hB468 => ?_) (kf := fun hB468 => ?_)
              · refine i_goto C dL_walk_537 (tgt := 27) (kk := ?_)
                exact ihm t q (i + 1) (n + 1) _ _ g _ R _ _ _ _ _ _ _ _ hd (by omega) ht5 hq (by omega) hg (by rw [upz_ne (by omega)]; exact hf0) (by rw [upz_eq]; omega) (by rw [upz_ne (by omega)]; exact hf2) (by omega) (by (try simp only [rmL]); omega) hL2 (fun n1 N1 K1 f1 o13 o14 o15 o16 o17 o18 o19 o20 q1 q2 q4 q5 => cont n1 N1 K1 f1 o13 o14 o15 o16 o17 o18 o19 o20 q1 q2 (fun j hj => by rw [q4 j hj, upz_ne (by omega)]) q5)
              · exact absurd hB468 (by decide)
            refine i_icmp_ne C dL_walk_399 (tgt := 415) (kt := fun hB399 => ?_) (kf := fun hB399 => ?_)
            · refine i_iload C dL_walk_415 (kk := ?_)
              refine i_iconst C dL_walk_417 (kk := ?_)
              refine i_icmp_ne C dL_walk_418 (tgt := 440) (kt := fun hB418 => ?_) (kf := fun hB418 => ?_)
              · refine i_iload C dL_walk_440 (kk := ?_)
                refine i_iconst C dL_walk_442 (kk := ?_)
                refine i_icmp_ne C dL_walk_443 (tgt := 456) (kt := fun hB443 => ?_) (kf := fun hB443 => ?_)
                · refine i_iconst C dL_walk_456 (kk := ?_)
                  first | exact jA 1 (fnd1_yes (by omega)) _ _ (by (try simp only [rmL]); omega) | exact jA 0 (fnd1_no (by omega)) _ _ (by (try simp only [rmL]); omega)
                · refine i_iload C dL_walk_446 (kk := ?_)
                  refine i_iconst C dL_walk_448 (kk := ?_)
                  refine i_icmp_ne C dL_walk_449 (tgt := 456) (kt := fun hB449 => ?_) (kf := fun hB449 => ?_)
                  · refine i_iconst C dL_walk_456 (kk := ?_)
                    first | exact jA 1 (fnd1_yes (by omega)) _ _ (by (try simp only [rmL]); omega) | exact jA 0 (fnd1_no (by omega)) _ _ (by (try simp only [rmL]); omega)
                  · refine i_iconst C dL_walk_452 (kk := ?_)
                    refine i_goto C dL_walk_453 (tgt := 457) (kk := ?_)
                    first | exact jA 1 (fnd1_yes (by omega)) _ _ (by (try simp only [rmL]); omega) | exact jA 0 (fnd1_no (by omega)) _ _ (by (try simp only [rmL]); omega)
              · refine i_aload_n C dL_walk_421 (kk := ?_)
                refine i_aload C dL_walk_422 (kk := ?_)
                refine i_iload C dL_walk_424 (kk := ?_)
                refine i_callS C lk_L_24 (c_L_now l hl D (w := wset w qp (iar D 24 (upz f (3 * t + 1) ((i : Int) + 1)))) (h4 := k4 _) (hR := hR) (p := q)) (hst := rfl) dL_walk_426 (hf := ⟨by show _ ≤ CC; (try simp only [rmL]); omega, by show _ ≤ SS; (try simp only [rmL]); omega⟩) (kk := fun v426 w426 g426 => ?_)
                obtain ⟨rfl, q426⟩ := g426
                have q426 := q426.symm
                subst q426
                refine i_iaload C dL_walk_429 (hw := k3 _) (kk := ?_)
                rw [Int.toNat_natCast, hrk]
                refine i_aload C dL_walk_430 (kk := ?_)
                refine i_iconst C dL_walk_432 (kk := ?_)
                refine i_iload C dL_walk_433 (kk := ?_)
                refine i_iadd C dL_walk_435 (kk := ?_)
                rw [show (5 : Int) + (p : Int) = ((5 + p : Nat) : Int) by omega]
                refine i_iaload C dL_walk_436 (hw := k4 _) (kk := ?_)
                rw [Int.toNat_natCast, hlkp]
                refine i_icmp_lt C dL_walk_437 (tgt := 452) (kt := fun hB437 => ?_) (kf := fun hB437 => ?_)
                · refine i_iconst C dL_walk_452 (kk := ?_)
                  refine i_goto C dL_walk_453 (tgt := 457) (kk := ?_)
                  first | exact jA 1 (fnd1_yes (by omega)) _ _ (by (try simp only [rmL]); omega) | exact jA 0 (fnd1_no (by omega)) _ _ (by (try simp only [rmL]); omega)
                · refine i_iload C dL_walk_440 (kk := ?_)
                  refine i_iconst C dL_walk_442 (kk := ?_)
                  refine i_icmp_ne C dL_walk_443 (tgt := 456) (kt := fun hB443 => ?_) (kf := fun hB443 => ?_)
                  · refine i_iconst C dL_walk_456 (kk := ?_)
                    first | exact jA 1 (fnd1_yes (by omega)) _ _ (by (try simp only [rmL]); omega) | exact jA 0 (fnd1_no (by omega)) _ _ (by (try simp only [rmL]); omega)
                  · refine i_iload C dL_walk_446 (kk := ?_)
                    refine i_iconst C dL_walk_448 (kk := ?_)
                    refine i_icmp_ne C dL_walk_449 (tgt := 456) (kt := fun hB449 => ?_) (kf := fun hB449 => ?_)
                    · refine i_iconst C dL_walk_456 (kk := ?_)
                      first | exact jA 1 (fnd1_yes (by omega)) _ _ (by (try simp only [rmL]); omega) | exact jA 0 (fnd1_no (by omega)) _ _ (by (try simp only [rmL]); omega)
                    · refine i_iconst C dL_walk_452 (kk := ?_)
                      refine i_goto C dL_walk_453 (tgt := 457) (kk := ?_)
                      first | exact jA 1 (fnd1_yes (by omega)) _ _ (by (try simp only [rmL]); omega) | exact jA 0 (fnd1_no (by omega)) _ _ (by (try simp only [rmL]); omega)
            · refine i_iload C dL_walk_402 (kk := ?_)
              refine i_iconst C dL_walk_404 (kk := ?_)
              refine i_icmp_ne C dL_walk_405 (tgt := 415) (kt := fun hB405 => ?_) (kf := fun hB405 => ?_)
              · refine i_iload C dL_walk_415 (kk := ?_)
                refine i_iconst C dL_walk_417 (kk := ?_)
                refine i_icmp_ne C dL_walk_418 (tgt := 440) (kt := fun hB418 => ?_) (kf := fun hB418 => ?_)
                · refine i_iload C dL_walk_440 (kk := ?_)
                  refine i_iconst C dL_walk_442 (kk := ?_)
                  refine i_icmp_ne C dL_walk_443 (tgt := 456) (kt := fun hB443 => ?_) (kf := fun hB443 => ?_)
                  · refine i_iconst C dL_walk_456 (kk := ?_)
                    first | exact jA 1 (fnd1_yes (by omega)) _ _ (by (try simp only [rmL]); omega) | exact jA 0 (fnd1_no (by omega)) _ _ (by (try simp only [rmL]); omega)
                  · refine i_iload C dL_walk_446 (kk := ?_)
                    refine i_iconst C dL_walk_448 (kk := ?_)
                    refine i_icmp_ne C dL_walk_449 (tgt := 456) (kt := fun hB449 => ?_) (kf := fun hB449 => ?_)
                    · refine i_iconst C dL_walk_456 (kk := ?_)
                      first | exact jA 1 (fnd1_yes (by omega)) _ _ (by (try simp only [rmL]); omega) | exact jA 0 (fnd1_no (by omega)) _ _ (by (try simp only [rmL]); omega)
                    · refine i_iconst C dL_walk_452 (kk := ?_)
                      refine i_goto C dL_walk_453 (tgt := 457) (kk := ?_)
                      first | exact jA 1 (fnd1_yes (by omega)) _ _ (by (try simp only [rmL]); omega) | exact jA 0 (fnd1_no (by omega)) _ _ (by (try simp only [rmL]); omega)
                · refine i_aload_n C dL_walk_421 (kk := ?_)
                  refine i_aload C dL_walk_422 (kk := ?_)
                  refine i_iload C dL_walk_424 (kk := ?_)
                  refine i_callS C lk_L_24 (c_L_now l hl D (w := wset w qp (iar D 24 (upz f (3 * t + 1) ((i : Int) + 1)))) (h4 := k4 _) (hR := hR) (p := q)) (hst := rfl) dL_walk_426 (hf := ⟨by show _ ≤ CC; (try simp only [rmL]); omega, by show _ ≤ SS; (try simp only [rmL]); omega⟩) (kk := fun v426 w426 g426 => ?_)
                  obtain ⟨rfl, q426⟩ := g426
                  have q426 := q426.symm
                  subst q426
                  refine i_iaload C dL_walk_429 (hw := k3 _) (kk := ?_)
                  rw [Int.toNat_natCast, hrk]
                  refine i_aload C dL_walk_430 (kk := ?_)
                  refine i_iconst C dL_walk_432 (kk := ?_)
                  refine i_iload C dL_walk_433 (kk := ?_)
                  refine i_iadd C dL_walk_435 (kk := ?_)
                  rw [show (5 : Int) + (p : Int) = ((5 + p : Nat) : Int) by omega]
                  refine i_iaload C dL_walk_436 (hw := k4 _) (kk := ?_)
                  rw [Int.toNat_natCast, hlkp]
                  refine i_icmp_lt C dL_walk_437 (tgt := 452) (kt := fun hB437 => ?_) (kf := fun hB437 => ?_)
                  · refine i_iconst C dL_walk_452 (kk := ?_)
                    refine i_goto C dL_walk_453 (tgt := 457) (kk := ?_)
                    first | exact jA 1 (fnd1_yes (by omega)) _ _ (by (try simp only [rmL]); omega) | exact jA 0 (fnd1_no (by omega)) _ _ (by (try simp only [rmL]); omega)
                  · refine i_iload C dL_walk_440 (kk := ?_)
                    refine i_iconst C dL_walk_442 (kk := ?_)
                    refine i_icmp_ne C dL_walk_443 (tgt := 456) (kt := fun hB443 => ?_) (kf := fun hB443 => ?_)
                    · refine i_iconst C dL_walk_456 (kk := ?_)
                      first | exact jA 1 (fnd1_yes (by omega)) _ _ (by (try simp only [rmL]); omega) | exact jA 0 (fnd1_no (by omega)) _ _ (by (try simp only [rmL]); omega)
                    · refine i_iload C dL_walk_446 (kk := ?_)
                      refine i_iconst C dL_walk_448 (kk := ?_)
                      refine i_icmp_ne C dL_walk_449 (tgt := 456) (kt := fun hB449 => ?_) (kf := fun hB449 => ?_)
                      · refine i_iconst C dL_walk_456 (kk := ?_)
                        first | exact jA 1 (fnd1_yes (by omega)) _ _ (by (try simp only [rmL]); omega) | exact jA 0 (fnd1_no (by omega)) _ _ (by (try simp only [rmL]); omega)
                      · refine i_iconst C dL_walk_452 (kk := ?_)
                        refine i_goto C dL_walk_453 (tgt := 457) (kk := ?_)
                        first | exact jA 1 (fnd1_yes (by omega)) _ _ (by (try simp only [rmL]); omega) | exact jA 0 (fnd1_no (by omega)) _ _ (by (try simp only [rmL]); omega)
              · refine i_iload C dL_walk_408 (kk := ?_)
                refine i_iload C dL_walk_410 (kk := ?_)
                refine i_icmp_eq C dL_walk_412 (tgt := 452) (kt := fun hB412 => ?_) (kf := fun hB412 => ?_)
                · refine i_iconst C dL_walk_452 (kk := ?_)
                  refine i_goto C dL_walk_453 (tgt := 457) (kk := ?_)
                  first | exact jA 1 (fnd1_yes (by omega)) _ _ (by (try simp only [rmL]); omega) | exact jA 0 (fnd1_no (by omega)) _ _ (by (try simp only [rmL]); omega)
                · refine i_iload C dL_walk_415 (kk := ?_)
                  refine i_iconst C dL_walk_417 (kk := ?_)
                  refine i_icmp_ne C dL_walk_418 (tgt := 440) (kt := fun hB418 => ?_) (kf := fun hB418 => ?_)
                  · refine i_iload C dL_walk_440 (kk := ?_)
                    refine i_iconst C dL_walk_442 (kk := ?_)
                    refine i_icmp_ne C dL_walk_443 (tgt := 456) (kt := fun hB443 => ?_) (kf := fun hB443 => ?_)
                    · refine i_iconst C dL_walk_456 (kk := ?_)
                      first | exact jA 1 (fnd1_yes (by omega)) _ _ (by (try simp only [rmL]); omega) | exact jA 0 (fnd1_no (by omega)) _ _ (by (try simp only [rmL]); omega)
                    · refine i_iload C dL_walk_446 (kk := ?_)
                      refine i_iconst C dL_walk_448 (kk := ?_)
                      refine i_icmp_ne C dL_walk_449 (tgt := 456) (kt := fun hB449 => ?_) (kf := fun hB449 => ?_)
                      · refine i_iconst C dL_walk_456 (kk := ?_)
                        first | exact jA 1 (fnd1_yes (by omega)) _ _ (by (try simp only [rmL]); omega) | exact jA 0 (fnd1_no (by omega)) _ _ (by (try simp only [rmL]); omega)
                      · refine i_iconst C dL_walk_452 (kk := ?_)
                        refine i_goto C dL_walk_453 (tgt := 457) (kk := ?_)
                        first | exact jA 1 (fnd1_yes (by omega)) _ _ (by (try simp only [rmL]); omega) | exact jA 0 (fnd1_no (by omega)) _ _ (by (try simp only [rmL]); omega)
                  · refine i_aload_n C dL_walk_421 (kk := ?_)
                    refine i_aload C dL_walk_422 (kk := ?_)
                    refine i_iload C dL_walk_424 (kk := ?_)
                    refine i_callS C lk_L_24 (c_L_now l hl D (w := wset w qp (iar D 24 (upz f (3 * t + 1) ((i : Int) + 1)))) (h4 := k4 _) (hR := hR) (p := q)) (hst := rfl) dL_walk_426 (hf := ⟨by show _ ≤ CC; (try simp only [rmL]); omega, by show _ ≤ SS; (try simp only [rmL]); omega⟩) (kk := fun v426 w426 g426 => ?_)
                    obtain ⟨rfl, q426⟩ := g426
                    have q426 := q426.symm
                    subst q426
                    refine i_iaload C dL_walk_429 (hw := k3 _) (kk := ?_)
                    rw [Int.toNat_natCast, hrk]
                    refine i_aload C dL_walk_430 (kk := ?_)
                    refine i_iconst C dL_walk_432 (kk := ?_)
                    refine i_iload C dL_walk_433 (kk := ?_)
                    refine i_iadd C dL_walk_435 (kk := ?_)
                    rw [show (5 : Int) + (p : Int) = ((5 + p : Nat) : Int) by omega]
                    refine i_iaload C dL_walk_436 (hw := k4 _) (kk := ?_)
                    rw [Int.toNat_natCast, hlkp]
                    refine i_icmp_lt C dL_walk_437 (tgt := 452) (kt := fun hB437 => ?_) (kf := fun hB437 => ?_)
                    · refine i_iconst C dL_walk_452 (kk := ?_)
                      refine i_goto C dL_walk_453 (tgt := 457) (kk := ?_)
                      first | exact jA 1 (fnd1_yes (by omega)) _ _ (by (try simp only [rmL]); omega) | exact jA 0 (fnd1_no (by omega)) _ _ (by (try simp only [rmL]); omega)
                    · refine i_iload C dL_walk_440 (kk := ?_)
                      refine i_iconst C dL_walk_442 (kk := ?_)
                      refine i_icmp_ne C dL_walk_443 (tgt := 456) (kt := fun hB443 => ?_) (kf := fun hB443 => ?_)
                      · refine i_iconst C dL_walk_456 (kk := ?_)
                        first | exact jA 1 (fnd1_yes (by omega)) _ _ (by (try simp only [rmL]); omega) | exact jA 0 (fnd1_no (by omega)) _ _ (by (try simp only [rmL]); omega)
                      · refine i_iload C dL_walk_446 (kk := ?_)
                        refine i_iconst C dL_walk_448 (kk := ?_)
                        refine i_icmp_ne C dL_walk_449 (tgt := 456) (kt := fun hB449 => ?_) (kf := fun hB449 => ?_)
                        · refine i_iconst C dL_walk_456 (kk := ?_)
                          first | exact jA 1 (fnd1_yes (by omega)) _ _ (by (try simp only [rmL]); omega) | exact jA 0 (fnd1_no (by omega)) _ _ (by (try simp only [rmL]); omega)
                        · refine i_iconst C dL_walk_452 (kk := ?_)
                          refine i_goto C dL_walk_453 (tgt := 457) (kk := ?_)
                          first | exact jA 1 (fnd1_yes (by omega)) _ _ (by (try simp only [rmL]); omega) | exact jA 0 (fnd1_no (by omega)) _ _ (by (try simp only [rmL]); omega)
          refine i_if_ne C dL_walk_344 (tgt := 394) (kt := fun hB344 => ?_) (kf := fun hB344 => ?_)
          · exact jF _ _ (by (try simp only [rmL]); omega)
          · have hXq := hXp (upz f (3 * t + 1) ((i : Int) + 1))
            obtain ⟨fsq, hOq⟩ := hXq.obj
            refine i_aload_n C dL_walk_347 (kk := ?_)
            refine i_iload C dL_walk_348 (kk := ?_)
            refine i_iload C dL_walk_350 (kk := ?_)
            refine i_iload C dL_walk_352 (kk := ?_)
            refine i_callSH C lk_L_52 (c_L_sort l hl D (hXp (upz f (3 * t + 1) ((i : Int) + 1))) hp (g := g0) (n := (n : Int)) (by omega) (by omega)) (hst := rfl) dL_walk_354 (hf := ⟨by show _ ≤ CC; (try simp only [rmL]); omega, by show _ ≤ SS; (try simp only [rmL]); omega⟩) (kk := fun v354 w354 g354 => ?_)
            obtain ⟨rfl, q354⟩ := g354
            have q354 := q354.symm
            subst q354
            rw [← hL0, sAt_in hx]
            refine i_iload C dL_walk_357 (kk := ?_)
            refine i_icmp_ne C dL_walk_359 (tgt := 392) (kt := fun hB359 => ?_) (kf := fun hB359 => ?_)
            · exact absurd rfl hB359
            · refine i_aload_n C dL_walk_362 (kk := ?_)
              refine i_iload C dL_walk_363 (kk := ?_)
              refine i_iload C dL_walk_365 (kk := ?_)
              refine i_iload C dL_walk_367 (kk := ?_)
              refine i_callVF C lk_L_56 (x_itemAt l hl D hXq (i := (p : Int)) (j := g0) (k := (n : Int))) (hcl := rfl) (hst := rfl) dL_walk_369 (hw := hOq) (hxx := fun E w1 h => by (obtain ⟨h, -⟩ := h; rcases h with ⟨-, h⟩ | ⟨-, -, h⟩ | ⟨-, -, p9, hp9, e9, h⟩; exact h (by omega); exact h (by omega); (have e8 : p9 = p := by omega); subst e8; (have h7 := h n rfl); (rw [← hL0] at h7); omega)) (hf := ⟨by show _ ≤ CC; (try simp only [rmL]); omega, by show _ ≤ SS; (try simp only [rmL]); omega⟩) (kk := fun v369 w369 g369 => ?_)
              obtain ⟨⟨p9, hp9, e9, -, n9, y9, e8, hy9, rfl⟩, q369⟩ := g369
              have q369 := q369.symm
              subst q369
              have e7 : p = p9 := by omega
              subst e7
              have e6 : n = n9 := by omega
              subst e6
              rw [← hL0, hx] at hy9
              cases hy9
              dsimp only
              refine i_iload C dL_walk_372 (kk := ?_)
              refine i_icmp_ne C dL_walk_374 (tgt := 392) (kt := fun hB374 => ?_) (kf := fun hB374 => ?_)
              · exact absurd rfl hB374
              · refine i_aload_n C dL_walk_377 (kk := ?_)
                refine i_iload C dL_walk_378 (kk := ?_)
                refine i_iload C dL_walk_380 (kk := ?_)
                refine i_iload C dL_walk_382 (kk := ?_)
                refine i_callVF C lk_L_59 (x_sourceAt l hl D hXq (i := (p : Int)) (j := g0) (k := (n : Int))) (hcl := rfl) (hst := rfl) dL_walk_384 (hw := hOq) (hxx := fun E w1 h => by (obtain ⟨h, -⟩ := h; rcases h with ⟨-, h⟩ | ⟨-, -, h⟩ | ⟨-, -, p9, hp9, e9, h⟩; exact h (by omega); exact h (by omega); (have e8 : p9 = p := by omega); subst e8; (have h7 := h n rfl); (rw [← hL0] at h7); omega)) (hf := ⟨by show _ ≤ CC; (try simp only [rmL]); omega, by show _ ≤ SS; (try simp only [rmL]); omega⟩) (kk := fun v384 w384 g384 => ?_)
                obtain ⟨⟨p9, hp9, e9, -, n9, y9, e8, hy9, rfl⟩, q384⟩ := g384
                have q384 := q384.symm
                subst q384
                have e7 : p = p9 := by omega
                subst e7
                have e6 : n = n9 := by omega
                subst e6
                rw [← hL0, hx] at hy9
                cases hy9
                dsimp only
                refine i_iload C dL_walk_387 (kk := ?_)
                refine i_icmp_eq C dL_walk_389 (tgt := 394) (kt := fun hB389 => ?_) (kf := fun hB389 => ?_)
                · exact jF _ _ (by (try simp only [rmL]); omega)
                · exact absurd rfl hB389
        have hknd : (c < 3) ∨ (c = 3 ∧ 0 ≤ g) ∨ (c = 3 ∧ g = -1) ∨ (4 ≤ c ∧ c < 24) ∨ (24 ≤ c ∧ c < 29) ∨ (29 ≤ c ∧ c < 32 ∧ g = (c : Int) - 29) ∨ (29 ≤ c ∧ c < 32 ∧ g ≠ (c : Int) - 29) ∨ (c = 32) ∨ (33 ≤ c ∧ c < 35) ∨ (35 ≤ c ∧ c < 45) ∨ (45 ≤ c) := by omega
        rcases hknd with hz | hz | hz | hz | hz | hz | hz | hz | hz | hz | hz
        · have hrs : RS (sT σ) q g i = (0, (c : Int), (q : Int)) :: RS (sT σ) q g (i + 1) := by rw [RS_one hilt (Or.inl (by rw [epc, dc6_0 hz])), epc, dc6_0 hz]; rfl
          refine i_iload C dL_walk_99 (kk := ?_)
          refine i_iconst C dL_walk_101 (kk := ?_)
          refine i_icmp_lt C dL_walk_102 (tgt := 130) (kt := fun hB102 => ?_) (kf := fun hB102 => ?_)
          · refine i_iconst C dL_walk_130 (kk := ?_)
            refine i_goto C dL_walk_131 (tgt := 135) (kk := ?_)
            refine i_istore C dL_walk_135 (kk := ?_)
            refine i_aload C dL_walk_137 (kk := ?_)
            refine i_iconst C dL_walk_139 (kk := ?_)
            refine i_iload C dL_walk_140 (kk := ?_)
            refine i_imul C dL_walk_142 (kk := ?_)
            refine i_iconst C dL_walk_143 (kk := ?_)
            refine i_iadd C dL_walk_144 (kk := ?_)
            refine i_dup2 C dL_walk_145 (kk := ?_)
            rw [show (3 : Int) * (t : Int) + 1 = ((3 * t + 1 : Nat) : Int) by omega]
            refine i_iaload C dL_walk_146 (hw := wset_eq) (kk := ?_)
            rw [Int.toNat_natCast, hf1]
            refine i_iconst C dL_walk_147 (kk := ?_)
            refine i_iadd C dL_walk_148 (kk := ?_)
            refine i_iastore C dL_walk_149 (hw := wset_eq) (kk := ?_)
            rw [Int.toNat_natCast, wset_twice]
            refine i_iload C dL_walk_150 (kk := ?_)
            refine i_bipush C dL_walk_152 (kk := ?_)
            refine i_icmp_lt C dL_walk_154 (tgt := 256) (kt := fun hB154 => ?_) (kf := fun hB154 => ?_)
            · refine i_iload C dL_walk_256 (kk := ?_)
              refine i_if_eq C dL_walk_258 (tgt := 463) (kt := fun hB258 => ?_) (kf := fun hB258 => ?_)
              · exfalso; omega
              · refine i_iload C dL_walk_261 (kk := ?_)
                refine i_iconst C dL_walk_263 (kk := ?_)
                refine i_icmp_ge C dL_walk_264 (tgt := 271) (kt := fun hB264 => ?_) (kf := fun hB264 => ?_)
                · exfalso; omega
                · refine i_iconst C dL_walk_267 (kk := ?_)
                  refine i_goto C dL_walk_268 (tgt := 283) (kk := ?_)
                  refine i_istore C dL_walk_283 (kk := ?_)
                  refine i_iload C dL_walk_285 (kk := ?_)
                  refine i_iconst C dL_walk_287 (kk := ?_)
                  refine i_icmp_ge C dL_walk_288 (tgt := 296) (kt := fun hB288 => ?_) (kf := fun hB288 => ?_)
                  · exfalso; omega
                  · refine i_iload C dL_walk_291 (kk := ?_)
                    refine i_goto C dL_walk_293 (tgt := 340) (kk := ?_)
                    refine i_istore C dL_walk_340 (kk := ?_)
                    exact jI _ _ _ _ _ _ (by (try simp only [rmL]); omega) (by omega) (by omega) (by first | exact no_call (by omega)) hrs
            · exfalso; omega
          · exfalso; omega
        · obtain ⟨hz3, hz0⟩ := hz
          subst hz3
          have hrs : RS (sT σ) q g i = (0, g, (q : Int)) :: RS (sT σ) q g (i + 1) := RS_arg hilt (by rw [epc]; rfl) (by omega)
          refine i_iload C dL_walk_99 (kk := ?_)
          refine i_iconst C dL_walk_101 (kk := ?_)
          refine i_icmp_lt C dL_walk_102 (tgt := 130) (kt := fun hB102 => ?_) (kf := fun hB102 => ?_)
          · exfalso; omega
          · refine i_iload C dL_walk_105 (kk := ?_)
            refine i_iconst C dL_walk_107 (kk := ?_)
            refine i_icmp_ne C dL_walk_108 (tgt := 116) (kt := fun hB108 => ?_) (kf := fun hB108 => ?_)
            · exfalso; omega
            · refine i_iload C dL_walk_111 (kk := ?_)
              refine i_if_ge C dL_walk_113 (tgt := 130) (kt := fun hB113 => ?_) (kf := fun hB113 => ?_)
              · refine i_iconst C dL_walk_130 (kk := ?_)
                refine i_goto C dL_walk_131 (tgt := 135) (kk := ?_)
                refine i_istore C dL_walk_135 (kk := ?_)
                refine i_aload C dL_walk_137 (kk := ?_)
                refine i_iconst C dL_walk_139 (kk := ?_)
                refine i_iload C dL_walk_140 (kk := ?_)
                refine i_imul C dL_walk_142 (kk := ?_)
                refine i_iconst C dL_walk_143 (kk := ?_)
                refine i_iadd C dL_walk_144 (kk := ?_)
                refine i_dup2 C dL_walk_145 (kk := ?_)
                rw [show (3 : Int) * (t : Int) + 1 = ((3 * t + 1 : Nat) : Int) by omega]
                refine i_iaload C dL_walk_146 (hw := wset_eq) (kk := ?_)
                rw [Int.toNat_natCast, hf1]
                refine i_iconst C dL_walk_147 (kk := ?_)
                refine i_iadd C dL_walk_148 (kk := ?_)
                refine i_iastore C dL_walk_149 (hw := wset_eq) (kk := ?_)
                rw [Int.toNat_natCast, wset_twice]
                refine i_iload C dL_walk_150 (kk := ?_)
                refine i_bipush C dL_walk_152 (kk := ?_)
                refine i_icmp_lt C dL_walk_154 (tgt := 256) (kt := fun hB154 => ?_) (kf := fun hB154 => ?_)
                · refine i_iload C dL_walk_256 (kk := ?_)
                  refine i_if_eq C dL_walk_258 (tgt := 463) (kt := fun hB258 => ?_) (kf := fun hB258 => ?_)
                  · exfalso; omega
                  · refine i_iload C dL_walk_261 (kk := ?_)
                    refine i_iconst C dL_walk_263 (kk := ?_)
                    refine i_icmp_ge C dL_walk_264 (tgt := 271) (kt := fun hB264 => ?_) (kf := fun hB264 => ?_)
                    · exfalso; omega
                    · refine i_iconst C dL_walk_267 (kk := ?_)
                      refine i_goto C dL_walk_268 (tgt := 283) (kk := ?_)
                      refine i_istore C dL_walk_283 (kk := ?_)
                      refine i_iload C dL_walk_285 (kk := ?_)
                      refine i_iconst C dL_walk_287 (kk := ?_)
                      refine i_icmp_ge C dL_walk_288 (tgt := 296) (kt := fun hB288 => ?_) (kf := fun hB288 => ?_)
                      · refine i_iload C dL_walk_296 (kk := ?_)
                        refine i_iconst C dL_walk_298 (kk := ?_)
                        refine i_icmp_ne C dL_walk_299 (tgt := 307) (kt := fun hB299 => ?_) (kf := fun hB299 => ?_)
                        · exfalso; omega
                        · refine i_iload C dL_walk_302 (kk := ?_)
                          refine i_goto C dL_walk_304 (tgt := 340) (kk := ?_)
                          refine i_istore C dL_walk_340 (kk := ?_)
                          exact jI _ _ _ _ _ _ (by (try simp only [rmL]); omega) (by omega) (by omega) (by first | exact no_call (by omega)) hrs
                      · exfalso; omega
                · exfalso; omega
              · exfalso; omega
        · obtain ⟨hz3, hz0⟩ := hz
          subst hz3
          have hno : RS (sT σ) q g i = RS (sT σ) q g (i + 1) := RS_no hilt (Or.inl ⟨by rw [epc]; rfl, hz0⟩)
          refine i_iload C dL_walk_99 (kk := ?_)
          refine i_iconst C dL_walk_101 (kk := ?_)
          refine i_icmp_lt C dL_walk_102 (tgt := 130) (kt := fun hB102 => ?_) (kf := fun hB102 => ?_)
          · exfalso; omega
          · refine i_iload C dL_walk_105 (kk := ?_)
            refine i_iconst C dL_walk_107 (kk := ?_)
            refine i_icmp_ne C dL_walk_108 (tgt := 116) (kt := fun hB108 => ?_) (kf := fun hB108 => ?_)
            · exfalso; omega
            · refine i_iload C dL_walk_111 (kk := ?_)
              refine i_if_ge C dL_walk_113 (tgt := 130) (kt := fun hB113 => ?_) (kf := fun hB113 => ?_)
              · exfalso; omega
              · refine i_iload C dL_walk_116 (kk := ?_)
                refine i_bipush C dL_walk_118 (kk := ?_)
                refine i_icmp_lt C dL_walk_120 (tgt := 134) (kt := fun hB120 => ?_) (kf := fun hB120 => ?_)
                · refine i_iconst C dL_walk_134 (kk := ?_)
                  refine i_istore C dL_walk_135 (kk := ?_)
                  refine i_aload C dL_walk_137 (kk := ?_)
                  refine i_iconst C dL_walk_139 (kk := ?_)
                  refine i_iload C dL_walk_140 (kk := ?_)
                  refine i_imul C dL_walk_142 (kk := ?_)
                  refine i_iconst C dL_walk_143 (kk := ?_)
                  refine i_iadd C dL_walk_144 (kk := ?_)
                  refine i_dup2 C dL_walk_145 (kk := ?_)
                  rw [show (3 : Int) * (t : Int) + 1 = ((3 * t + 1 : Nat) : Int) by omega]
                  refine i_iaload C dL_walk_146 (hw := wset_eq) (kk := ?_)
                  rw [Int.toNat_natCast, hf1]
                  refine i_iconst C dL_walk_147 (kk := ?_)
                  refine i_iadd C dL_walk_148 (kk := ?_)
                  refine i_iastore C dL_walk_149 (hw := wset_eq) (kk := ?_)
                  rw [Int.toNat_natCast, wset_twice]
                  refine i_iload C dL_walk_150 (kk := ?_)
                  refine i_bipush C dL_walk_152 (kk := ?_)
                  refine i_icmp_lt C dL_walk_154 (tgt := 256) (kt := fun hB154 => ?_) (kf := fun hB154 => ?_)
                  · refine i_iload C dL_walk_256 (kk := ?_)
                    refine i_if_eq C dL_walk_258 (tgt := 463) (kt := fun hB258 => ?_) (kf := fun hB258 => ?_)
                    · refine i_iload C dL_walk_463 (kk := ?_)
                      refine i_callS C lk_L_17 (c_L_called l hl D hc5) (hst := rfl) dL_walk_465 (hf := ⟨by show _ ≤ CC; (try simp only [rmL]); omega, by show _ ≤ SS; (try simp only [rmL]); omega⟩) (kk := fun v465 w465 g465 => ?_)
                      obtain ⟨rfl, q465⟩ := g465
                      have q465 := q465.symm
                      subst q465
                      rw [show clD (dc6 3) = -1 from rfl]
                      refine i_if_lt C dL_walk_468 (tgt := 537) (kt := fun hB468 => ?_) (kf := fun hB468 => ?_)
                      · refine i_goto C dL_walk_537 (tgt := 27) (kk := ?_)
                        exact ihm t q (i + 1) (n) _ _ g _ R _ _ _ _ _ _ _ _ hd (by omega) ht5 hq (by omega) hg (by rw [upz_ne (by omega)]; exact hf0) (by rw [upz_eq]; omega) (by rw [upz_ne (by omega)]; exact hf2) (by omega) (by (try simp only [rmL]); omega) (by rw [hL, hno]) (fun n1 N1 K1 f1 o13 o14 o15 o16 o17 o18 o19 o20 q1 q2 q4 q5 => cont n1 N1 K1 f1 o13 o14 o15 o16 o17 o18 o19 o20 q1 q2 (fun j hj => by rw [q4 j hj, upz_ne (by omega)]) q5)
                      · exact absurd hB468 (by first | decide | omega)
                    · exfalso; omega
                  · exfalso; omega
                · exfalso; omega
        · have e4 := dc6_4 hz.1 hz.2
          have ecl : clD (dc6 c) = (((c - 4) / 4 : Nat) : Int) := by rw [e4]; rfl
          obtain ⟨q2, hq2⟩ : ∃ q2, (c - 4) / 4 = q2 := ⟨_, rfl⟩
          rw [hq2] at ecl e4
          obtain ⟨g2, hg2⟩ : ∃ g2 : Int, g2 = if (c - 4) % 4 = 3 then -1 else (((c - 4) % 4 : Nat) : Int) := ⟨_, rfl⟩
          have hg2R : -1 ≤ g2 ∧ g2 ≤ 2 := by rw [hg2]; split <;> omega
          rw [← hg2] at e4
          have hcall := RS_call hilt (q := q2) (g := g) (by rw [epc, e4]) g2 (Or.inl ⟨by rw [epc, e4], by rw [epc, e4]⟩)
          have hmem := pcs_mem (ps := sT σ q) (i := i) hilt
          rw [epc, e4] at hmem
          refine i_iload C dL_walk_99 (kk := ?_)
          refine i_iconst C dL_walk_101 (kk := ?_)
          refine i_icmp_lt C dL_walk_102 (tgt := 130) (kt := fun hB102 => ?_) (kf := fun hB102 => ?_)
          · exfalso; omega
          · refine i_iload C dL_walk_105 (kk := ?_)
            refine i_iconst C dL_walk_107 (kk := ?_)
            refine i_icmp_ne C dL_walk_108 (tgt := 116) (kt := fun hB108 => ?_) (kf := fun hB108 => ?_)
            · refine i_iload C dL_walk_116 (kk := ?_)
              refine i_bipush C dL_walk_118 (kk := ?_)
              refine i_icmp_lt C dL_walk_120 (tgt := 134) (kt := fun hB120 => ?_) (kf := fun hB120 => ?_)
              · refine i_iconst C dL_walk_134 (kk := ?_)
                refine i_istore C dL_walk_135 (kk := ?_)
                refine i_aload C dL_walk_137 (kk := ?_)
                refine i_iconst C dL_walk_139 (kk := ?_)
                refine i_iload C dL_walk_140 (kk := ?_)
                refine i_imul C dL_walk_142 (kk := ?_)
                refine i_iconst C dL_walk_143 (kk := ?_)
                refine i_iadd C dL_walk_144 (kk := ?_)
                refine i_dup2 C dL_walk_145 (kk := ?_)
                rw [show (3 : Int) * (t : Int) + 1 = ((3 * t + 1 : Nat) : Int) by omega]
                refine i_iaload C dL_walk_146 (hw := wset_eq) (kk := ?_)
                rw [Int.toNat_natCast, hf1]
                refine i_iconst C dL_walk_147 (kk := ?_)
                refine i_iadd C dL_walk_148 (kk := ?_)
                refine i_iastore C dL_walk_149 (hw := wset_eq) (kk := ?_)
                rw [Int.toNat_natCast, wset_twice]
                refine i_iload C dL_walk_150 (kk := ?_)
                refine i_bipush C dL_walk_152 (kk := ?_)
                refine i_icmp_lt C dL_walk_154 (tgt := 256) (kt := fun hB154 => ?_) (kf := fun hB154 => ?_)
                · refine i_iload C dL_walk_256 (kk := ?_)
                  refine i_if_eq C dL_walk_258 (tgt := 463) (kt := fun hB258 => ?_) (kf := fun hB258 => ?_)
                  · refine i_iload C dL_walk_463 (kk := ?_)
                    refine i_callS C lk_L_17 (c_L_called l hl D hc5) (hst := rfl) dL_walk_465 (hf := ⟨by show _ ≤ CC; (try simp only [rmL]); omega, by show _ ≤ SS; (try simp only [rmL]); omega⟩) (kk := fun v465 w465 g465 => ?_)
                    obtain ⟨rfl, q465⟩ := g465
                    have q465 := q465.symm
                    subst q465
                    rw [ecl]
                    refine i_if_lt C dL_walk_468 (tgt := 537) (kt := fun hB468 => ?_) (kf := fun hB468 => ?_)
                    · exfalso; omega
                    · refine i_iinc C dL_walk_471 (kk := ?_)
                      rw [show (t : Int) + 1 = ((t + 1 : Nat) : Int) by omega]
                      refine i_aload C dL_walk_474 (kk := ?_)
                      refine i_iconst C dL_walk_476 (kk := ?_)
                      refine i_iload C dL_walk_477 (kk := ?_)
                      refine i_imul C dL_walk_479 (kk := ?_)
                      refine i_iload C dL_walk_480 (kk := ?_)
                      refine i_callS C lk_L_17 (c_L_called l hl D hc5) (hst := rfl) dL_walk_482 (hf := ⟨by show _ ≤ CC; (try simp only [rmL]); omega, by show _ ≤ SS; (try simp only [rmL]); omega⟩) (kk := fun v482 w482 g482 => ?_)
                      obtain ⟨rfl, q482⟩ := g482
                      have q482 := q482.symm
                      subst q482
                      rw [ecl, show (3 : Int) * ((t + 1 : Nat) : Int) = ((3 * (t + 1) : Nat) : Int) by omega]
                      refine i_iastore C dL_walk_485 (hw := wset_eq) (kk := ?_)
                      rw [Int.toNat_natCast, wset_twice]
                      refine i_aload C dL_walk_486 (kk := ?_)
                      refine i_iconst C dL_walk_488 (kk := ?_)
                      refine i_iload C dL_walk_489 (kk := ?_)
                      refine i_imul C dL_walk_491 (kk := ?_)
                      refine i_iconst C dL_walk_492 (kk := ?_)
                      refine i_iadd C dL_walk_493 (kk := ?_)
                      refine i_iconst C dL_walk_494 (kk := ?_)
                      rw [show (3 : Int) * ((t + 1 : Nat) : Int) + 1 = ((3 * (t + 1) + 1 : Nat) : Int) by omega]
                      refine i_iastore C dL_walk_495 (hw := wset_eq) (kk := ?_)
                      rw [Int.toNat_natCast, wset_twice]
                      refine i_aload C dL_walk_496 (kk := ?_)
                      refine i_iconst C dL_walk_498 (kk := ?_)
                      refine i_iload C dL_walk_499 (kk := ?_)
                      refine i_imul C dL_walk_501 (kk := ?_)
                      refine i_iconst C dL_walk_502 (kk := ?_)
                      refine i_iadd C dL_walk_503 (kk := ?_)
                      refine i_iload C dL_walk_504 (kk := ?_)
                      refine i_bipush C dL_walk_506 (kk := ?_)
                      refine i_icmp_lt C dL_walk_508 (tgt := 516) (kt := fun hB508 => ?_) (kf := fun hB508 => ?_)
                      · refine i_iload C dL_walk_516 (kk := ?_)
                        refine i_iconst C dL_walk_518 (kk := ?_)
                        refine i_isub C dL_walk_519 (kk := ?_)
                        refine i_iconst C dL_walk_520 (kk := ?_)
                        refine i_irem C dL_walk_521 (kk := ?_)
                        refine i_iconst C dL_walk_522 (kk := ?_)
                        refine i_icmp_ne C dL_walk_523 (tgt := 530) (kt := fun hB523 => ?_) (kf := fun hB523 => ?_)
                        · have eg : (((c : Int) - 4) % 4) = g2 := by rw [hg2, if_neg (by omega)]; omega
                          refine i_iload C dL_walk_530 (kk := ?_)
                          refine i_iconst C dL_walk_532 (kk := ?_)
                          refine i_isub C dL_walk_533 (kk := ?_)
                          refine i_iconst C dL_walk_534 (kk := ?_)
                          refine i_irem C dL_walk_535 (kk := ?_)
                          rw [show (3 : Int) * ((t + 1 : Nat) : Int) + 2 = ((3 * (t + 1) + 2 : Nat) : Int) by omega]
                          refine i_iastore C dL_walk_536 (hw := wset_eq) (kk := ?_)
                          rw [Int.toNat_natCast, wset_twice]
                          refine i_goto C dL_walk_537 (tgt := 27) (kk := ?_)
                          obtain ⟨d1, d2, d3⟩ := hS.dx
                          obtain ⟨q3, b1, b2, b3, b4⟩ := dep_call d1 hS.acy (p := q) (by omega) hmem (by first | exact Or.inl rfl | exact Or.inr rfl)
                          have b5 : q3 = q2 := by have b6 : (q2 : Int) = (q3 : Int) := b2; omega
                          subst b5
                          refine ihd ((sT σ q3).length + 1) (t + 1) q3 0 n _ _ g2 _ (RS (sT σ) q g (i + 1) ++ R) _ _ _ _ _ _ _ _ (by omega) (by omega) (by omega) (by omega) (Nat.zero_le _) (by omega) (by rw [upz_ne (by omega), upz_ne (by omega), upz_eq]) (by rw [upz_ne (by omega), upz_eq]; rfl) (by rw [upz_eq]; exact eg) hn (by (try simp only [rmL]); omega) (by rw [hL, hcall, shl_RS hS (by omega) hg2R.1, List.append_assoc]) (fun n1 N1 K1 f1 p13 p14 p15 p16 p17 p18 p19 p20 q1 q2 q4 q5 => ?_)
                          rw [show ((t + 1 : Nat) : Int) - 1 = (t : Int) by omega]
                          have q6 : ∀ j, j < 3 * (t + 1) → f1 j = (upz f (3 * t + 1) ((i : Int) + 1)) j := fun j hj => by rw [q4 j hj, upz_ne (by omega), upz_ne (by omega), upz_ne (by omega)]
                          exact ihm t q (i + 1) n1 _ _ g f1 R _ _ _ _ _ _ _ _ hd (by omega) ht5 hq (by omega) hg (by rw [q6 _ (by omega), upz_ne (by omega)]; exact hf0) (by rw [q6 _ (by omega), upz_eq]; omega) (by rw [q6 _ (by omega), upz_ne (by omega)]; exact hf2) q1 q2 q5 (fun n2 N2 K2 f2 r13 r14 r15 r16 r17 r18 r19 r20 s1 s2 s4 s5 => cont n2 N2 K2 f2 _ _ _ _ _ _ _ _ s1 s2 (fun j hj => by rw [s4 j hj, q6 _ (by omega), upz_ne (by omega)]) s5)
                        · have eg : (-1 : Int) = g2 := by rw [hg2, if_pos (by omega)]
                          refine i_iconst C dL_walk_526 (kk := ?_)
                          refine i_goto C dL_walk_527 (tgt := 536) (kk := ?_)
                          rw [show (3 : Int) * ((t + 1 : Nat) : Int) + 2 = ((3 * (t + 1) + 2 : Nat) : Int) by omega]
                          refine i_iastore C dL_walk_536 (hw := wset_eq) (kk := ?_)
                          rw [Int.toNat_natCast, wset_twice]
                          refine i_goto C dL_walk_537 (tgt := 27) (kk := ?_)
                          obtain ⟨d1, d2, d3⟩ := hS.dx
                          obtain ⟨q3, b1, b2, b3, b4⟩ := dep_call d1 hS.acy (p := q) (by omega) hmem (by first | exact Or.inl rfl | exact Or.inr rfl)
                          have b5 : q3 = q2 := by have b6 : (q2 : Int) = (q3 : Int) := b2; omega
                          subst b5
                          refine ihd ((sT σ q3).length + 1) (t + 1) q3 0 n _ _ g2 _ (RS (sT σ) q g (i + 1) ++ R) _ _ _ _ _ _ _ _ (by omega) (by omega) (by omega) (by omega) (Nat.zero_le _) (by omega) (by rw [upz_ne (by omega), upz_ne (by omega), upz_eq]) (by rw [upz_ne (by omega), upz_eq]; rfl) (by rw [upz_eq]; exact eg) hn (by (try simp only [rmL]); omega) (by rw [hL, hcall, shl_RS hS (by omega) hg2R.1, List.append_assoc]) (fun n1 N1 K1 f1 p13 p14 p15 p16 p17 p18 p19 p20 q1 q2 q4 q5 => ?_)
                          rw [show ((t + 1 : Nat) : Int) - 1 = (t : Int) by omega]
                          have q6 : ∀ j, j < 3 * (t + 1) → f1 j = (upz f (3 * t + 1) ((i : Int) + 1)) j := fun j hj => by rw [q4 j hj, upz_ne (by omega), upz_ne (by omega), upz_ne (by omega)]
                          exact ihm t q (i + 1) n1 _ _ g f1 R _ _ _ _ _ _ _ _ hd (by omega) ht5 hq (by omega) hg (by rw [q6 _ (by omega), upz_ne (by omega)]; exact hf0) (by rw [q6 _ (by omega), upz_eq]; omega) (by rw [q6 _ (by omega), upz_ne (by omega)]; exact hf2) q1 q2 q5 (fun n2 N2 K2 f2 r13 r14 r15 r16 r17 r18 r19 r20 s1 s2 s4 s5 => cont n2 N2 K2 f2 _ _ _ _ _ _ _ _ s1 s2 (fun j hj => by rw [s4 j hj, q6 _ (by omega), upz_ne (by omega)]) s5)
                      · exfalso; omega
                  · exfalso; omega
                · exfalso; omega
              · exfalso; omega
            · exfalso; omega
        · have e4 := dc6_5 hz.1 hz.2
          have ecl : clD (dc6 c) = ((c - 24 : Nat) : Int) := by rw [e4]; rfl
          obtain ⟨q2, hq2⟩ : ∃ q2, c - 24 = q2 := ⟨_, rfl⟩
          rw [hq2] at ecl e4
          obtain ⟨g2, hg2⟩ : ∃ g2 : Int, g2 = g := ⟨_, rfl⟩
          have hg2R : -1 ≤ g2 ∧ g2 ≤ 25 := by omega
          have hcall := RS_call hilt (q := q2) (g := g) (by rw [epc, e4]) g2 (Or.inr ⟨by rw [epc, e4], hg2.symm⟩)
          have hmem := pcs_mem (ps := sT σ q) (i := i) hilt
          rw [epc, e4] at hmem
          refine i_iload C dL_walk_99 (kk := ?_)
          refine i_iconst C dL_walk_101 (kk := ?_)
          refine i_icmp_lt C dL_walk_102 (tgt := 130) (kt := fun hB102 => ?_) (kf := fun hB102 => ?_)
          · exfalso; omega
          · refine i_iload C dL_walk_105 (kk := ?_)
            refine i_iconst C dL_walk_107 (kk := ?_)
            refine i_icmp_ne C dL_walk_108 (tgt := 116) (kt := fun hB108 => ?_) (kf := fun hB108 => ?_)
            · refine i_iload C dL_walk_116 (kk := ?_)
              refine i_bipush C dL_walk_118 (kk := ?_)
              refine i_icmp_lt C dL_walk_120 (tgt := 134) (kt := fun hB120 => ?_) (kf := fun hB120 => ?_)
              · refine i_iconst C dL_walk_134 (kk := ?_)
                refine i_istore C dL_walk_135 (kk := ?_)
                refine i_aload C dL_walk_137 (kk := ?_)
                refine i_iconst C dL_walk_139 (kk := ?_)
                refine i_iload C dL_walk_140 (kk := ?_)
                refine i_imul C dL_walk_142 (kk := ?_)
                refine i_iconst C dL_walk_143 (kk := ?_)
                refine i_iadd C dL_walk_144 (kk := ?_)
                refine i_dup2 C dL_walk_145 (kk := ?_)
                rw [show (3 : Int) * (t : Int) + 1 = ((3 * t + 1 : Nat) : Int) by omega]
                refine i_iaload C dL_walk_146 (hw := wset_eq) (kk := ?_)
                rw [Int.toNat_natCast, hf1]
                refine i_iconst C dL_walk_147 (kk := ?_)
                refine i_iadd C dL_walk_148 (kk := ?_)
                refine i_iastore C dL_walk_149 (hw := wset_eq) (kk := ?_)
                rw [Int.toNat_natCast, wset_twice]
                refine i_iload C dL_walk_150 (kk := ?_)
                refine i_bipush C dL_walk_152 (kk := ?_)
                refine i_icmp_lt C dL_walk_154 (tgt := 256) (kt := fun hB154 => ?_) (kf := fun hB154 => ?_)
                · refine i_iload C dL_walk_256 (kk := ?_)
                  refine i_if_eq C dL_walk_258 (tgt := 463) (kt := fun hB258 => ?_) (kf := fun hB258 => ?_)
                  · refine i_iload C dL_walk_463 (kk := ?_)
                    refine i_callS C lk_L_17 (c_L_called l hl D hc5) (hst := rfl) dL_walk_465 (hf := ⟨by show _ ≤ CC; (try simp only [rmL]); omega, by show _ ≤ SS; (try simp only [rmL]); omega⟩) (kk := fun v465 w465 g465 => ?_)
                    obtain ⟨rfl, q465⟩ := g465
                    have q465 := q465.symm
                    subst q465
                    rw [ecl]
                    refine i_if_lt C dL_walk_468 (tgt := 537) (kt := fun hB468 => ?_) (kf := fun hB468 => ?_)
                    · exfalso; omega
                    · refine i_iinc C dL_walk_471 (kk := ?_)
                      rw [show (t : Int) + 1 = ((t + 1 : Nat) : Int) by omega]
                      refine i_aload C dL_walk_474 (kk := ?_)
                      refine i_iconst C dL_walk_476 (kk := ?_)
                      refine i_iload C dL_walk_477 (kk := ?_)
                      refine i_imul C dL_walk_479 (kk := ?_)
                      refine i_iload C dL_walk_480 (kk := ?_)
                      refine i_callS C lk_L_17 (c_L_called l hl D hc5) (hst := rfl) dL_walk_482 (hf := ⟨by show _ ≤ CC; (try simp only [rmL]); omega, by show _ ≤ SS; (try simp only [rmL]); omega⟩) (kk := fun v482 w482 g482 => ?_)
                      obtain ⟨rfl, q482⟩ := g482
                      have q482 := q482.symm
                      subst q482
                      rw [ecl, show (3 : Int) * ((t + 1 : Nat) : Int) = ((3 * (t + 1) : Nat) : Int) by omega]
                      refine i_iastore C dL_walk_485 (hw := wset_eq) (kk := ?_)
                      rw [Int.toNat_natCast, wset_twice]
                      refine i_aload C dL_walk_486 (kk := ?_)
                      refine i_iconst C dL_walk_488 (kk := ?_)
                      refine i_iload C dL_walk_489 (kk := ?_)
                      refine i_imul C dL_walk_491 (kk := ?_)
                      refine i_iconst C dL_walk_492 (kk := ?_)
                      refine i_iadd C dL_walk_493 (kk := ?_)
                      refine i_iconst C dL_walk_494 (kk := ?_)
                      rw [show (3 : Int) * ((t + 1 : Nat) : Int) + 1 = ((3 * (t + 1) + 1 : Nat) : Int) by omega]
                      refine i_iastore C dL_walk_495 (hw := wset_eq) (kk := ?_)
                      rw [Int.toNat_natCast, wset_twice]
                      refine i_aload C dL_walk_496 (kk := ?_)
                      refine i_iconst C dL_walk_498 (kk := ?_)
                      refine i_iload C dL_walk_499 (kk := ?_)
                      refine i_imul C dL_walk_501 (kk := ?_)
                      refine i_iconst C dL_walk_502 (kk := ?_)
                      refine i_iadd C dL_walk_503 (kk := ?_)
                      refine i_iload C dL_walk_504 (kk := ?_)
                      refine i_bipush C dL_walk_506 (kk := ?_)
                      refine i_icmp_lt C dL_walk_508 (tgt := 516) (kt := fun hB508 => ?_) (kf := fun hB508 => ?_)
                      · exfalso; omega
                      · refine i_iload C dL_walk_511 (kk := ?_)
                        refine i_goto C dL_walk_513 (tgt := 536) (kk := ?_)
                        rw [show (3 : Int) * ((t + 1 : Nat) : Int) + 2 = ((3 * (t + 1) + 2 : Nat) : Int) by omega]
                        refine i_iastore C dL_walk_536 (hw := wset_eq) (kk := ?_)
                        rw [Int.toNat_natCast, wset_twice]
                        refine i_goto C dL_walk_537 (tgt := 27) (kk := ?_)
                        obtain ⟨d1, d2, d3⟩ := hS.dx
                        obtain ⟨q3, b1, b2, b3, b4⟩ := dep_call d1 hS.acy (p := q) (by omega) hmem (by first | exact Or.inl rfl | exact Or.inr rfl)
                        have b5 : q3 = q2 := by have b6 : (q2 : Int) = (q3 : Int) := b2; omega
                        subst b5
                        refine ihd ((sT σ q3).length + 1) (t + 1) q3 0 n _ _ g2 _ (RS (sT σ) q g (i + 1) ++ R) _ _ _ _ _ _ _ _ (by omega) (by omega) (by omega) (by omega) (Nat.zero_le _) (by omega) (by rw [upz_ne (by omega), upz_ne (by omega), upz_eq]) (by rw [upz_ne (by omega), upz_eq]; rfl) (by rw [upz_eq]; exact hg2.symm) hn (by (try simp only [rmL]); omega) (by rw [hL, hcall, shl_RS hS (by omega) hg2R.1, List.append_assoc]) (fun n1 N1 K1 f1 p13 p14 p15 p16 p17 p18 p19 p20 q1 q2 q4 q5 => ?_)
                        rw [show ((t + 1 : Nat) : Int) - 1 = (t : Int) by omega]
                        have q6 : ∀ j, j < 3 * (t + 1) → f1 j = (upz f (3 * t + 1) ((i : Int) + 1)) j := fun j hj => by rw [q4 j hj, upz_ne (by omega), upz_ne (by omega), upz_ne (by omega)]
                        exact ihm t q (i + 1) n1 _ _ g f1 R _ _ _ _ _ _ _ _ hd (by omega) ht5 hq (by omega) hg (by rw [q6 _ (by omega), upz_ne (by omega)]; exact hf0) (by rw [q6 _ (by omega), upz_eq]; omega) (by rw [q6 _ (by omega), upz_ne (by omega)]; exact hf2) q1 q2 q5 (fun n2 N2 K2 f2 r13 r14 r15 r16 r17 r18 r19 r20 s1 s2 s4 s5 => cont n2 N2 K2 f2 _ _ _ _ _ _ _ _ s1 s2 (fun j hj => by rw [s4 j hj, q6 _ (by omega), upz_ne (by omega)]) s5)
                  · exfalso; omega
                · exfalso; omega
              · exfalso; omega
            · exfalso; omega
        · have hno : RS (sT σ) q g i = RS (sT σ) q g (i + 1) := RS_no hilt (Or.inr (Or.inr (Or.inr ⟨by rw [epc, dc6_6 hz.1 hz.2.1], by rw [epc, dc6_6 hz.1 hz.2.1]; show ((c - 29 : Nat) : Int) = g; omega⟩)))
          refine i_iload C dL_walk_99 (kk := ?_)
          refine i_iconst C dL_walk_101 (kk := ?_)
          refine i_icmp_lt C dL_walk_102 (tgt := 130) (kt := fun hB102 => ?_) (kf := fun hB102 => ?_)
          · exfalso; omega
          · refine i_iload C dL_walk_105 (kk := ?_)
            refine i_iconst C dL_walk_107 (kk := ?_)
            refine i_icmp_ne C dL_walk_108 (tgt := 116) (kt := fun hB108 => ?_) (kf := fun hB108 => ?_)
            · refine i_iload C dL_walk_116 (kk := ?_)
              refine i_bipush C dL_walk_118 (kk := ?_)
              refine i_icmp_lt C dL_walk_120 (tgt := 134) (kt := fun hB120 => ?_) (kf := fun hB120 => ?_)
              · refine i_iconst C dL_walk_134 (kk := ?_)
                refine i_istore C dL_walk_135 (kk := ?_)
                refine i_aload C dL_walk_137 (kk := ?_)
                refine i_iconst C dL_walk_139 (kk := ?_)
                refine i_iload C dL_walk_140 (kk := ?_)
                refine i_imul C dL_walk_142 (kk := ?_)
                refine i_iconst C dL_walk_143 (kk := ?_)
                refine i_iadd C dL_walk_144 (kk := ?_)
                refine i_dup2 C dL_walk_145 (kk := ?_)
                rw [show (3 : Int) * (t : Int) + 1 = ((3 * t + 1 : Nat) : Int) by omega]
                refine i_iaload C dL_walk_146 (hw := wset_eq) (kk := ?_)
                rw [Int.toNat_natCast, hf1]
                refine i_iconst C dL_walk_147 (kk := ?_)
                refine i_iadd C dL_walk_148 (kk := ?_)
                refine i_iastore C dL_walk_149 (hw := wset_eq) (kk := ?_)
                rw [Int.toNat_natCast, wset_twice]
                refine i_iload C dL_walk_150 (kk := ?_)
                refine i_bipush C dL_walk_152 (kk := ?_)
                refine i_icmp_lt C dL_walk_154 (tgt := 256) (kt := fun hB154 => ?_) (kf := fun hB154 => ?_)
                · exfalso; omega
                · refine i_iload C dL_walk_157 (kk := ?_)
                  refine i_bipush C dL_walk_159 (kk := ?_)
                  refine i_icmp_ge C dL_walk_161 (tgt := 256) (kt := fun hB161 => ?_) (kf := fun hB161 => ?_)
                  · exfalso; omega
                  · refine i_iload C dL_walk_164 (kk := ?_)
                    refine i_iload C dL_walk_166 (kk := ?_)
                    refine i_bipush C dL_walk_168 (kk := ?_)
                    refine i_isub C dL_walk_170 (kk := ?_)
                    refine i_icmp_eq C dL_walk_171 (tgt := 256) (kt := fun hB171 => ?_) (kf := fun hB171 => ?_)
                    · refine i_iload C dL_walk_256 (kk := ?_)
                      refine i_if_eq C dL_walk_258 (tgt := 463) (kt := fun hB258 => ?_) (kf := fun hB258 => ?_)
                      · refine i_iload C dL_walk_463 (kk := ?_)
                        refine i_callS C lk_L_17 (c_L_called l hl D hc5) (hst := rfl) dL_walk_465 (hf := ⟨by show _ ≤ CC; (try simp only [rmL]); omega, by show _ ≤ SS; (try simp only [rmL]); omega⟩) (kk := fun v465 w465 g465 => ?_)
                        obtain ⟨rfl, q465⟩ := g465
                        have q465 := q465.symm
                        subst q465
                        rw [no_call (by omega)]
                        refine i_if_lt C dL_walk_468 (tgt := 537) (kt := fun hB468 => ?_) (kf := fun hB468 => ?_)
                        · refine i_goto C dL_walk_537 (tgt := 27) (kk := ?_)
                          exact ihm t q (i + 1) (n) _ _ g _ R _ _ _ _ _ _ _ _ hd (by omega) ht5 hq (by omega) hg (by rw [upz_ne (by omega)]; exact hf0) (by rw [upz_eq]; omega) (by rw [upz_ne (by omega)]; exact hf2) (by omega) (by (try simp only [rmL]); omega) (by rw [hL, hno]) (fun n1 N1 K1 f1 o13 o14 o15 o16 o17 o18 o19 o20 q1 q2 q4 q5 => cont n1 N1 K1 f1 o13 o14 o15 o16 o17 o18 o19 o20 q1 q2 (fun j hj => by rw [q4 j hj, upz_ne (by omega)]) q5)
                        · exact absurd hB468 (by first | decide | omega)
                      · exfalso; omega
                    · exfalso; omega
              · exfalso; omega
            · exfalso; omega
        · have hown := (hS.2.1 q (by omega)).2.2.2.2.2 _ (Nat.le_refl _)
          have howp : OWp (sT σ q) := hown.1.2.1
          have how0 : owc (sT σ q) = 0 := hown.2.1
          have hsk0 : RS (sT σ) q g i = shR (fun q a => shl a (sprT (sT σ) q)) q g 1 ((sT σ q).drop (i + 1)) := by
            rw [RS_at hilt, if_pos ⟨by rw [epc, dc6_6 hz.1 hz.2.1], by rw [epc, dc6_6 hz.1 hz.2.1]; show ((c - 29 : Nat) : Int) ≠ g; omega⟩]
          have how1 : owc ((sT σ q).take (i + 1)) = owc ((sT σ q).take i) + 1 := by
            rw [owc_take hilt, epc, dc6_6 hz.1 hz.2.1]; rfl
          have how2 := howp i
          refine i_iload C dL_walk_99 (kk := ?_)
          refine i_iconst C dL_walk_101 (kk := ?_)
          refine i_icmp_lt C dL_walk_102 (tgt := 130) (kt := fun hB102 => ?_) (kf := fun hB102 => ?_)
          · exfalso; omega
          · refine i_iload C dL_walk_105 (kk := ?_)
            refine i_iconst C dL_walk_107 (kk := ?_)
            refine i_icmp_ne C dL_walk_108 (tgt := 116) (kt := fun hB108 => ?_) (kf := fun hB108 => ?_)
            · refine i_iload C dL_walk_116 (kk := ?_)
              refine i_bipush C dL_walk_118 (kk := ?_)
              refine i_icmp_lt C dL_walk_120 (tgt := 134) (kt := fun hB120 => ?_) (kf := fun hB120 => ?_)
              · refine i_iconst C dL_walk_134 (kk := ?_)
                refine i_istore C dL_walk_135 (kk := ?_)
                refine i_aload C dL_walk_137 (kk := ?_)
                refine i_iconst C dL_walk_139 (kk := ?_)
                refine i_iload C dL_walk_140 (kk := ?_)
                refine i_imul C dL_walk_142 (kk := ?_)
                refine i_iconst C dL_walk_143 (kk := ?_)
                refine i_iadd C dL_walk_144 (kk := ?_)
                refine i_dup2 C dL_walk_145 (kk := ?_)
                rw [show (3 : Int) * (t : Int) + 1 = ((3 * t + 1 : Nat) : Int) by omega]
                refine i_iaload C dL_walk_146 (hw := wset_eq) (kk := ?_)
                rw [Int.toNat_natCast, hf1]
                refine i_iconst C dL_walk_147 (kk := ?_)
                refine i_iadd C dL_walk_148 (kk := ?_)
                refine i_iastore C dL_walk_149 (hw := wset_eq) (kk := ?_)
                rw [Int.toNat_natCast, wset_twice]
                refine i_iload C dL_walk_150 (kk := ?_)
                refine i_bipush C dL_walk_152 (kk := ?_)
                refine i_icmp_lt C dL_walk_154 (tgt := 256) (kt := fun hB154 => ?_) (kf := fun hB154 => ?_)
                · exfalso; omega
                · refine i_iload C dL_walk_157 (kk := ?_)
                  refine i_bipush C dL_walk_159 (kk := ?_)
                  refine i_icmp_ge C dL_walk_161 (tgt := 256) (kt := fun hB161 => ?_) (kf := fun hB161 => ?_)
                  · exfalso; omega
                  · refine i_iload C dL_walk_164 (kk := ?_)
                    refine i_iload C dL_walk_166 (kk := ?_)
                    refine i_bipush C dL_walk_168 (kk := ?_)
                    refine i_isub C dL_walk_170 (kk := ?_)
                    refine i_icmp_eq C dL_walk_171 (tgt := 256) (kt := fun hB171 => ?_) (kf := fun hB171 => ?_)
                    · exfalso; omega
                    · refine i_iconst C dL_walk_174 (kk := ?_)
                      refine i_istore C dL_walk_175 (kk := ?_)
                      refine i_iload C dL_walk_177 (kk := ?_)
                      refine i_istore C dL_walk_179 (kk := ?_)
                      have lpk : ∀ (m2 y e N2 K2 : Nat) (u20 : Option Value), (sT σ q).length < m2 + y → i ≤ y → y < (sT σ q).length → NK a N2 K2 n → owc ((sT σ q).take (y + 1)) = owc ((sT σ q).take i) + (e : Int) → RS (sT σ) q g i = shR (fun q a => shl a (sprT (sT σ) q)) q g e ((sT σ q).drop (y + 1)) → G N2 K2 (wset w qp (iar D 24 (upz f (3 * t + 1) ((i : Int) + 1)))) [some (.ref x0), some (.ref a1), some (.ref a2), some (.ref a3), some (.ref a4), some (.int (Z32 (p : Int))), some (.int (Z32 g0)), some (.int (Z32 a)), some (.int (Z32 num)), some (.ref qp), some (.int (Z32 ((t : Int)))), some (.int (Z32 (n : Int))), some (.int (Z32 ((fndS σ a num p (L0.take (n)) : Nat) : Int))), some (.int (Z32 (q : Int))), some (.int (Z32 (i : Int))), some (.int (Z32 g)), some (.int (Z32 (c : Int))), some (.int (Z32 0)), some (.int (Z32 ((e : Int)))), some (.int (Z32 (y : Int))), u20] 181 [] := by
                        intro m2
                        induction m2 with
                        | zero => intro y e N2 K2 u20 hm2 _ hy; omega
                        | succ m2 ihk =>
                        intro y e N2 K2 u20 hm2 hiy hy hN2 hye hsk
                        have howR := owc_le (ps := (sT σ q).take (y + 1))
                        rw [List.length_take] at howR
                        refine i_iload C dL_walk_181 (kk := ?_)
                        refine i_if_le C dL_walk_183 (tgt := 243) (kt := fun hB183 => ?_) (kf := fun hB183 => ?_)
                        · have ee : e = 0 := by omega
                          subst ee
                          refine i_aload C dL_walk_243 (kk := ?_)
                          refine i_iconst C dL_walk_245 (kk := ?_)
                          refine i_iload C dL_walk_246 (kk := ?_)
                          refine i_imul C dL_walk_248 (kk := ?_)
                          refine i_iconst C dL_walk_249 (kk := ?_)
                          refine i_iadd C dL_walk_250 (kk := ?_)
                          refine i_iload C dL_walk_251 (kk := ?_)
                          refine i_iconst C dL_walk_253 (kk := ?_)
                          refine i_iadd C dL_walk_254 (kk := ?_)
                          rw [show (3 : Int) * (t : Int) + 1 = ((3 * t + 1 : Nat) : Int) by omega, show (y : Int) + 1 = ((y + 1 : Nat) : Int) by omega]
                          refine i_iastore C dL_walk_255 (hw := wset_eq) (kk := ?_)
                          rw [Int.toNat_natCast, wset_twice]
                          refine i_iload C dL_walk_256 (kk := ?_)
                          refine i_if_eq C dL_walk_258 (tgt := 463) (kt := fun hB258 => ?_) (kf := fun hB258 => ?_)
                          · refine i_iload C dL_walk_463 (kk := ?_)
                            refine i_callS C lk_L_17 (c_L_called l hl D hc5) (hst := rfl) dL_walk_465 (hf := ⟨by show _ ≤ CC; (try simp only [rmL]); omega, by show _ ≤ SS; (try simp only [rmL]); omega⟩) (kk := fun v465 w465 g465 => ?_)
                            obtain ⟨rfl, q465⟩ := g465
                            have q465 := q465.symm
                            subst q465
                            rw [no_call (by omega)]
                            refine i_if_lt C dL_walk_468 (tgt := 537) (kt := fun hB468 => ?_) (kf := fun hB468 => ?_)
                            · refine i_goto C dL_walk_537 (tgt := 27) (kk := ?_)
                              exact ihm t q (y + 1) (n) _ _ g _ R _ _ _ _ _ _ _ _ hd (by omega) ht5 hq (by omega) hg (by rw [upz_ne (by omega), upz_ne (by omega)]; exact hf0) (by rw [upz_eq]) (by rw [upz_ne (by omega), upz_ne (by omega)]; exact hf2) (by omega) (by (try simp only [rmL]); omega) (by rw [hL, hsk]; rfl) (fun n1 N1 K1 f1 o13 o14 o15 o16 o17 o18 o19 o20 q1 q2 q4 q5 => cont n1 N1 K1 f1 o13 o14 o15 o16 o17 o18 o19 o20 q1 q2 (fun j hj => by rw [q4 j hj, upz_ne (by omega), upz_ne (by omega)]) q5)
                            · exact absurd hB468 (by first | decide | omega)
                          · exact absurd rfl hB258
                        · have hy1 : y + 1 < (sT σ q).length := by
                            apply Decidable.byContradiction
                            intro z
                            rw [List.take_of_length_le (by omega), how0] at hye
                            omega
                          obtain ⟨c2, hc2⟩ : ∃ c2, cs.getD (y + 1) 0 = c2 := ⟨_, rfl⟩
                          have hc25 : c2 < 50 := by rw [← hc2]; exact getD_lt hc (y + 1)
                          have epc2 : pcs (sT σ q) (y + 1) = dc6 c2 := by rw [hcs, ← hc2]; exact pcs_map (by omega)
                          have hdw := dow6 hc25
                          have hot := owc_take (ps := sT σ q) (i := y + 1) hy1
                          rw [epc2] at hot
                          refine i_iinc C dL_walk_186 (kk := ?_)
                          rw [show (y : Int) + 1 = ((y + 1 : Nat) : Int) by omega]
                          refine i_aload_n C dL_walk_189 (kk := ?_)
                          refine i_aload C dL_walk_190 (kk := ?_)
                          refine i_iload C dL_walk_192 (kk := ?_)
                          refine i_callS C lk_L_24 (c_L_now l hl D (w := wset w qp (iar D 24 (upz f (3 * t + 1) ((i : Int) + 1)))) (h4 := k4 _) (hR := hR) (p := q)) (hst := rfl) dL_walk_194 (hf := ⟨by show _ ≤ CC; (try simp only [rmL]); omega, by show _ ≤ SS; (try simp only [rmL]); omega⟩) (kk := fun v194 w194 g194 => ?_)
                          obtain ⟨rfl, q194⟩ := g194
                          have q194 := q194.symm
                          subst q194
                          refine i_laload C dL_walk_197 (hw := k1 _) (kk := ?_)
                          rw [Int.toNat_natCast, hx9]
                          refine i_iload C dL_walk_198 (kk := ?_)
                          refine i_callS C lk_L_11 (c_L_piece l hl D (cs := cs) (i := y + 1) hc h9 (by omega)) (hst := rfl) dL_walk_200 (hf := ⟨by show _ ≤ CC; (try simp only [rmL]); omega, by show _ ≤ SS; (try simp only [rmL]); omega⟩) (kk := fun v200 w200 g200 => ?_)
                          obtain ⟨rfl, q200⟩ := g200
                          have q200 := q200.symm
                          subst q200
                          rw [hc2]
                          refine i_istore C dL_walk_203 (kk := ?_)
                          refine i_iload C dL_walk_205 (kk := ?_)
                          refine i_iload C dL_walk_207 (kk := ?_)
                          refine i_bipush C dL_walk_209 (kk := ?_)
                          have jK : ∀ b : Int, b = dow (dc6 c2).1 → ∀ (N4 K4 : Nat), NK a N4 K4 n → G N4 K4 (wset w qp (iar D 24 (upz f (3 * t + 1) ((i : Int) + 1)))) [some (.ref x0), some (.ref a1), some (.ref a2), some (.ref a3), some (.ref a4), some (.int (Z32 (p : Int))), some (.int (Z32 g0)), some (.int (Z32 a)), some (.int (Z32 num)), some (.ref qp), some (.int (Z32 ((t : Int)))), some (.int (Z32 (n : Int))), some (.int (Z32 ((fndS σ a num p (L0.take (n)) : Nat) : Int))), some (.int (Z32 (q : Int))), some (.int (Z32 (i : Int))), some (.int (Z32 g)), some (.int (Z32 (c : Int))), some (.int (Z32 0)), some (.int (Z32 ((e : Int)))), some (.int (Z32 ((y + 1 : Nat) : Int))), some (.int (Z32 (c2 : Int)))] 237 [.int (Z32 b), .int (Z32 (e : Int))] := by
                            intro b hb N4 K4 hN4
                            have hge := howp (y + 2)
                            have hst := shR_step (rec := fun q a => shl a (sprT (sT σ) q)) (p := q) (arg := g) (ps := sT σ q) (z := y + 1) (d := e) (d' := (e + b).toNat) hy1 (by omega) (by rw [epc2, ← hb]; omega)
                            refine i_iadd C dL_walk_237 (kk := ?_)
                            rw [show (e : Int) + b = (((e + b).toNat : Nat) : Int) by omega]
                            refine i_istore C dL_walk_238 (kk := ?_)
                            refine i_goto C dL_walk_240 (tgt := 181) (kk := ?_)
                            exact ihk (y + 1) ((e : Int) + b).toNat _ _ _ (by omega) (by omega) (by omega) (by (try simp only [rmL]); omega) (by rw [hot, hye, hb.symm]; omega) (by rw [hsk, hst])
                          refine i_icmp_lt C dL_walk_211 (tgt := 225) (kt := fun hB211 => ?_) (kf := fun hB211 => ?_)
                          · refine i_iload C dL_walk_225 (kk := ?_)
                            refine i_bipush C dL_walk_227 (kk := ?_)
                            refine i_icmp_ne C dL_walk_229 (tgt := 236) (kt := fun hB229 => ?_) (kf := fun hB229 => ?_)
                            · have hd1 := hdw.2.2 (by omega)
                              refine i_iconst C dL_walk_236 (kk := ?_)
                              exact jK _ (by omega) _ _ (by (try simp only [rmL]); omega)
                            · have hd1 := hdw.2.1.mpr (by omega)
                              refine i_iconst C dL_walk_232 (kk := ?_)
                              refine i_goto C dL_walk_233 (tgt := 237) (kk := ?_)
                              exact jK _ (by omega) _ _ (by (try simp only [rmL]); omega)
                          · refine i_iload C dL_walk_214 (kk := ?_)
                            refine i_bipush C dL_walk_216 (kk := ?_)
                            refine i_icmp_ge C dL_walk_218 (tgt := 225) (kt := fun hB218 => ?_) (kf := fun hB218 => ?_)
                            · refine i_iload C dL_walk_225 (kk := ?_)
                              refine i_bipush C dL_walk_227 (kk := ?_)
                              refine i_icmp_ne C dL_walk_229 (tgt := 236) (kt := fun hB229 => ?_) (kf := fun hB229 => ?_)
                              · have hd1 := hdw.2.2 (by omega)
                                refine i_iconst C dL_walk_236 (kk := ?_)
                                exact jK _ (by omega) _ _ (by (try simp only [rmL]); omega)
                              · have hd1 := hdw.2.1.mpr (by omega)
                                refine i_iconst C dL_walk_232 (kk := ?_)
                                refine i_goto C dL_walk_233 (tgt := 237) (kk := ?_)
                                exact jK _ (by omega) _ _ (by (try simp only [rmL]); omega)
                            · have hd1 := hdw.1.mpr (by omega)
                              refine i_iconst C dL_walk_221 (kk := ?_)
                              refine i_goto C dL_walk_222 (tgt := 237) (kk := ?_)
                              exact jK _ (by omega) _ _ (by (try simp only [rmL]); omega)
                      exact lpk ((sT σ q).length + 1) i 1 _ _ _ (by omega) (Nat.le_refl _) hilt (by (try simp only [rmL]); omega) (by rw [how1]; rfl) hsk0
              · exfalso; omega
            · exfalso; omega
        · subst hz
          have hno : RS (sT σ) q g i = RS (sT σ) q g (i + 1) := RS_no hilt (Or.inr (Or.inl (by rw [epc]; rfl)))
          refine i_iload C dL_walk_99 (kk := ?_)
          refine i_iconst C dL_walk_101 (kk := ?_)
          refine i_icmp_lt C dL_walk_102 (tgt := 130) (kt := fun hB102 => ?_) (kf := fun hB102 => ?_)
          · exfalso; omega
          · refine i_iload C dL_walk_105 (kk := ?_)
            refine i_iconst C dL_walk_107 (kk := ?_)
            refine i_icmp_ne C dL_walk_108 (tgt := 116) (kt := fun hB108 => ?_) (kf := fun hB108 => ?_)
            · refine i_iload C dL_walk_116 (kk := ?_)
              refine i_bipush C dL_walk_118 (kk := ?_)
              refine i_icmp_lt C dL_walk_120 (tgt := 134) (kt := fun hB120 => ?_) (kf := fun hB120 => ?_)
              · refine i_iconst C dL_walk_134 (kk := ?_)
                refine i_istore C dL_walk_135 (kk := ?_)
                refine i_aload C dL_walk_137 (kk := ?_)
                refine i_iconst C dL_walk_139 (kk := ?_)
                refine i_iload C dL_walk_140 (kk := ?_)
                refine i_imul C dL_walk_142 (kk := ?_)
                refine i_iconst C dL_walk_143 (kk := ?_)
                refine i_iadd C dL_walk_144 (kk := ?_)
                refine i_dup2 C dL_walk_145 (kk := ?_)
                rw [show (3 : Int) * (t : Int) + 1 = ((3 * t + 1 : Nat) : Int) by omega]
                refine i_iaload C dL_walk_146 (hw := wset_eq) (kk := ?_)
                rw [Int.toNat_natCast, hf1]
                refine i_iconst C dL_walk_147 (kk := ?_)
                refine i_iadd C dL_walk_148 (kk := ?_)
                refine i_iastore C dL_walk_149 (hw := wset_eq) (kk := ?_)
                rw [Int.toNat_natCast, wset_twice]
                refine i_iload C dL_walk_150 (kk := ?_)
                refine i_bipush C dL_walk_152 (kk := ?_)
                refine i_icmp_lt C dL_walk_154 (tgt := 256) (kt := fun hB154 => ?_) (kf := fun hB154 => ?_)
                · exfalso; omega
                · refine i_iload C dL_walk_157 (kk := ?_)
                  refine i_bipush C dL_walk_159 (kk := ?_)
                  refine i_icmp_ge C dL_walk_161 (tgt := 256) (kt := fun hB161 => ?_) (kf := fun hB161 => ?_)
                  · refine i_iload C dL_walk_256 (kk := ?_)
                    refine i_if_eq C dL_walk_258 (tgt := 463) (kt := fun hB258 => ?_) (kf := fun hB258 => ?_)
                    · refine i_iload C dL_walk_463 (kk := ?_)
                      refine i_callS C lk_L_17 (c_L_called l hl D hc5) (hst := rfl) dL_walk_465 (hf := ⟨by show _ ≤ CC; (try simp only [rmL]); omega, by show _ ≤ SS; (try simp only [rmL]); omega⟩) (kk := fun v465 w465 g465 => ?_)
                      obtain ⟨rfl, q465⟩ := g465
                      have q465 := q465.symm
                      subst q465
                      rw [show clD (dc6 32) = -1 from rfl]
                      refine i_if_lt C dL_walk_468 (tgt := 537) (kt := fun hB468 => ?_) (kf := fun hB468 => ?_)
                      · refine i_goto C dL_walk_537 (tgt := 27) (kk := ?_)
                        exact ihm t q (i + 1) (n) _ _ g _ R _ _ _ _ _ _ _ _ hd (by omega) ht5 hq (by omega) hg (by rw [upz_ne (by omega)]; exact hf0) (by rw [upz_eq]; omega) (by rw [upz_ne (by omega)]; exact hf2) (by omega) (by (try simp only [rmL]); omega) (by rw [hL, hno]) (fun n1 N1 K1 f1 o13 o14 o15 o16 o17 o18 o19 o20 q1 q2 q4 q5 => cont n1 N1 K1 f1 o13 o14 o15 o16 o17 o18 o19 o20 q1 q2 (fun j hj => by rw [q4 j hj, upz_ne (by omega)]) q5)
                      · exact absurd hB468 (by first | decide | omega)
                    · exfalso; omega
                  · exfalso; omega
              · exfalso; omega
            · exfalso; omega
        · have hrs : RS (sT σ) q g i = (1, (c : Int) - 33, (q : Int)) :: RS (sT σ) q g (i + 1) := by rw [RS_one hilt (Or.inr (Or.inl (by rw [epc, dc6_1 hz.1 hz.2]))), epc, dc6_1 hz.1 hz.2, show (c : Int) - 33 = ((c - 33 : Nat) : Int) by omega]; rfl
          refine i_iload C dL_walk_99 (kk := ?_)
          refine i_iconst C dL_walk_101 (kk := ?_)
          refine i_icmp_lt C dL_walk_102 (tgt := 130) (kt := fun hB102 => ?_) (kf := fun hB102 => ?_)
          · exfalso; omega
          · refine i_iload C dL_walk_105 (kk := ?_)
            refine i_iconst C dL_walk_107 (kk := ?_)
            refine i_icmp_ne C dL_walk_108 (tgt := 116) (kt := fun hB108 => ?_) (kf := fun hB108 => ?_)
            · refine i_iload C dL_walk_116 (kk := ?_)
              refine i_bipush C dL_walk_118 (kk := ?_)
              refine i_icmp_lt C dL_walk_120 (tgt := 134) (kt := fun hB120 => ?_) (kf := fun hB120 => ?_)
              · exfalso; omega
              · refine i_iload C dL_walk_123 (kk := ?_)
                refine i_bipush C dL_walk_125 (kk := ?_)
                refine i_icmp_ge C dL_walk_127 (tgt := 134) (kt := fun hB127 => ?_) (kf := fun hB127 => ?_)
                · exfalso; omega
                · refine i_iconst C dL_walk_130 (kk := ?_)
                  refine i_goto C dL_walk_131 (tgt := 135) (kk := ?_)
                  refine i_istore C dL_walk_135 (kk := ?_)
                  refine i_aload C dL_walk_137 (kk := ?_)
                  refine i_iconst C dL_walk_139 (kk := ?_)
                  refine i_iload C dL_walk_140 (kk := ?_)
                  refine i_imul C dL_walk_142 (kk := ?_)
                  refine i_iconst C dL_walk_143 (kk := ?_)
                  refine i_iadd C dL_walk_144 (kk := ?_)
                  refine i_dup2 C dL_walk_145 (kk := ?_)
                  rw [show (3 : Int) * (t : Int) + 1 = ((3 * t + 1 : Nat) : Int) by omega]
                  refine i_iaload C dL_walk_146 (hw := wset_eq) (kk := ?_)
                  rw [Int.toNat_natCast, hf1]
                  refine i_iconst C dL_walk_147 (kk := ?_)
                  refine i_iadd C dL_walk_148 (kk := ?_)
                  refine i_iastore C dL_walk_149 (hw := wset_eq) (kk := ?_)
                  rw [Int.toNat_natCast, wset_twice]
                  refine i_iload C dL_walk_150 (kk := ?_)
                  refine i_bipush C dL_walk_152 (kk := ?_)
                  refine i_icmp_lt C dL_walk_154 (tgt := 256) (kt := fun hB154 => ?_) (kf := fun hB154 => ?_)
                  · exfalso; omega
                  · refine i_iload C dL_walk_157 (kk := ?_)
                    refine i_bipush C dL_walk_159 (kk := ?_)
                    refine i_icmp_ge C dL_walk_161 (tgt := 256) (kt := fun hB161 => ?_) (kf := fun hB161 => ?_)
                    · refine i_iload C dL_walk_256 (kk := ?_)
                      refine i_if_eq C dL_walk_258 (tgt := 463) (kt := fun hB258 => ?_) (kf := fun hB258 => ?_)
                      · exfalso; omega
                      · refine i_iload C dL_walk_261 (kk := ?_)
                        refine i_iconst C dL_walk_263 (kk := ?_)
                        refine i_icmp_ge C dL_walk_264 (tgt := 271) (kt := fun hB264 => ?_) (kf := fun hB264 => ?_)
                        · refine i_iload C dL_walk_271 (kk := ?_)
                          refine i_bipush C dL_walk_273 (kk := ?_)
                          refine i_icmp_ge C dL_walk_275 (tgt := 282) (kt := fun hB275 => ?_) (kf := fun hB275 => ?_)
                          · exfalso; omega
                          · refine i_iconst C dL_walk_278 (kk := ?_)
                            refine i_goto C dL_walk_279 (tgt := 283) (kk := ?_)
                            refine i_istore C dL_walk_283 (kk := ?_)
                            refine i_iload C dL_walk_285 (kk := ?_)
                            refine i_iconst C dL_walk_287 (kk := ?_)
                            refine i_icmp_ge C dL_walk_288 (tgt := 296) (kt := fun hB288 => ?_) (kf := fun hB288 => ?_)
                            · refine i_iload C dL_walk_296 (kk := ?_)
                              refine i_iconst C dL_walk_298 (kk := ?_)
                              refine i_icmp_ne C dL_walk_299 (tgt := 307) (kt := fun hB299 => ?_) (kf := fun hB299 => ?_)
                              · refine i_iload C dL_walk_307 (kk := ?_)
                                refine i_bipush C dL_walk_309 (kk := ?_)
                                refine i_icmp_ge C dL_walk_311 (tgt := 322) (kt := fun hB311 => ?_) (kf := fun hB311 => ?_)
                                · exfalso; omega
                                · refine i_iload C dL_walk_314 (kk := ?_)
                                  refine i_bipush C dL_walk_316 (kk := ?_)
                                  refine i_isub C dL_walk_318 (kk := ?_)
                                  refine i_goto C dL_walk_319 (tgt := 340) (kk := ?_)
                                  refine i_istore C dL_walk_340 (kk := ?_)
                                  exact jI _ _ _ _ _ _ (by (try simp only [rmL]); omega) (by omega) (by omega) (by first | exact no_call (by omega)) hrs
                              · exfalso; omega
                            · exfalso; omega
                        · exfalso; omega
                    · exfalso; omega
            · exfalso; omega
        · have hrs : RS (sT σ) q g i = (2, 10 * (((c : Int) - 35) / 2) + ((c : Int) - 35) % 2, (q : Int)) :: RS (sT σ) q g (i + 1) := by rw [RS_one hilt (Or.inr (Or.inr (by rw [epc, dc6_2 hz.1 hz.2]))), epc, dc6_2 hz.1 hz.2, show ((c : Int) - 35) / 2 = (((c - 35) / 2 : Nat) : Int) by omega, show ((c : Int) - 35) % 2 = (((c - 35) % 2 : Nat) : Int) by omega]; rfl
          refine i_iload C dL_walk_99 (kk := ?_)
          refine i_iconst C dL_walk_101 (kk := ?_)
          refine i_icmp_lt C dL_walk_102 (tgt := 130) (kt := fun hB102 => ?_) (kf := fun hB102 => ?_)
          · exfalso; omega
          · refine i_iload C dL_walk_105 (kk := ?_)
            refine i_iconst C dL_walk_107 (kk := ?_)
            refine i_icmp_ne C dL_walk_108 (tgt := 116) (kt := fun hB108 => ?_) (kf := fun hB108 => ?_)
            · refine i_iload C dL_walk_116 (kk := ?_)
              refine i_bipush C dL_walk_118 (kk := ?_)
              refine i_icmp_lt C dL_walk_120 (tgt := 134) (kt := fun hB120 => ?_) (kf := fun hB120 => ?_)
              · exfalso; omega
              · refine i_iload C dL_walk_123 (kk := ?_)
                refine i_bipush C dL_walk_125 (kk := ?_)
                refine i_icmp_ge C dL_walk_127 (tgt := 134) (kt := fun hB127 => ?_) (kf := fun hB127 => ?_)
                · exfalso; omega
                · refine i_iconst C dL_walk_130 (kk := ?_)
                  refine i_goto C dL_walk_131 (tgt := 135) (kk := ?_)
                  refine i_istore C dL_walk_135 (kk := ?_)
                  refine i_aload C dL_walk_137 (kk := ?_)
                  refine i_iconst C dL_walk_139 (kk := ?_)
                  refine i_iload C dL_walk_140 (kk := ?_)
                  refine i_imul C dL_walk_142 (kk := ?_)
                  refine i_iconst C dL_walk_143 (kk := ?_)
                  refine i_iadd C dL_walk_144 (kk := ?_)
                  refine i_dup2 C dL_walk_145 (kk := ?_)
                  rw [show (3 : Int) * (t : Int) + 1 = ((3 * t + 1 : Nat) : Int) by omega]
                  refine i_iaload C dL_walk_146 (hw := wset_eq) (kk := ?_)
                  rw [Int.toNat_natCast, hf1]
                  refine i_iconst C dL_walk_147 (kk := ?_)
                  refine i_iadd C dL_walk_148 (kk := ?_)
                  refine i_iastore C dL_walk_149 (hw := wset_eq) (kk := ?_)
                  rw [Int.toNat_natCast, wset_twice]
                  refine i_iload C dL_walk_150 (kk := ?_)
                  refine i_bipush C dL_walk_152 (kk := ?_)
                  refine i_icmp_lt C dL_walk_154 (tgt := 256) (kt := fun hB154 => ?_) (kf := fun hB154 => ?_)
                  · exfalso; omega
                  · refine i_iload C dL_walk_157 (kk := ?_)
                    refine i_bipush C dL_walk_159 (kk := ?_)
                    refine i_icmp_ge C dL_walk_161 (tgt := 256) (kt := fun hB161 => ?_) (kf := fun hB161 => ?_)
                    · refine i_iload C dL_walk_256 (kk := ?_)
                      refine i_if_eq C dL_walk_258 (tgt := 463) (kt := fun hB258 => ?_) (kf := fun hB258 => ?_)
                      · exfalso; omega
                      · refine i_iload C dL_walk_261 (kk := ?_)
                        refine i_iconst C dL_walk_263 (kk := ?_)
                        refine i_icmp_ge C dL_walk_264 (tgt := 271) (kt := fun hB264 => ?_) (kf := fun hB264 => ?_)
                        · refine i_iload C dL_walk_271 (kk := ?_)
                          refine i_bipush C dL_walk_273 (kk := ?_)
                          refine i_icmp_ge C dL_walk_275 (tgt := 282) (kt := fun hB275 => ?_) (kf := fun hB275 => ?_)
                          · refine i_iconst C dL_walk_282 (kk := ?_)
                            refine i_istore C dL_walk_283 (kk := ?_)
                            refine i_iload C dL_walk_285 (kk := ?_)
                            refine i_iconst C dL_walk_287 (kk := ?_)
                            refine i_icmp_ge C dL_walk_288 (tgt := 296) (kt := fun hB288 => ?_) (kf := fun hB288 => ?_)
                            · refine i_iload C dL_walk_296 (kk := ?_)
                              refine i_iconst C dL_walk_298 (kk := ?_)
                              refine i_icmp_ne C dL_walk_299 (tgt := 307) (kt := fun hB299 => ?_) (kf := fun hB299 => ?_)
                              · refine i_iload C dL_walk_307 (kk := ?_)
                                refine i_bipush C dL_walk_309 (kk := ?_)
                                refine i_icmp_ge C dL_walk_311 (tgt := 322) (kt := fun hB311 => ?_) (kf := fun hB311 => ?_)
                                · refine i_bipush C dL_walk_322 (kk := ?_)
                                  refine i_iload C dL_walk_324 (kk := ?_)
                                  refine i_bipush C dL_walk_326 (kk := ?_)
                                  refine i_isub C dL_walk_328 (kk := ?_)
                                  refine i_iconst C dL_walk_329 (kk := ?_)
                                  refine i_idiv C dL_walk_330 (kk := ?_)
                                  refine i_imul C dL_walk_331 (kk := ?_)
                                  refine i_iload C dL_walk_332 (kk := ?_)
                                  refine i_bipush C dL_walk_334 (kk := ?_)
                                  refine i_isub C dL_walk_336 (kk := ?_)
                                  refine i_iconst C dL_walk_337 (kk := ?_)
                                  refine i_irem C dL_walk_338 (kk := ?_)
                                  refine i_iadd C dL_walk_339 (kk := ?_)
                                  refine i_istore C dL_walk_340 (kk := ?_)
                                  exact jI _ _ _ _ _ _ (by (try simp only [rmL]); omega) (by omega) (by omega) (by first | exact no_call (by omega)) hrs
                                · exfalso; omega
                              · exfalso; omega
                            · exfalso; omega
                          · exfalso; omega
                        · exfalso; omega
                    · exfalso; omega
            · exfalso; omega
        · have hno : RS (sT σ) q g i = RS (sT σ) q g (i + 1) := RS_no hilt (Or.inr (Or.inr (Or.inl (by rw [epc, dc6_8 hz]))))
          refine i_iload C dL_walk_99 (kk := ?_)
          refine i_iconst C dL_walk_101 (kk := ?_)
          refine i_icmp_lt C dL_walk_102 (tgt := 130) (kt := fun hB102 => ?_) (kf := fun hB102 => ?_)
          · exfalso; omega
          · refine i_iload C dL_walk_105 (kk := ?_)
            refine i_iconst C dL_walk_107 (kk := ?_)
            refine i_icmp_ne C dL_walk_108 (tgt := 116) (kt := fun hB108 => ?_) (kf := fun hB108 => ?_)
            · refine i_iload C dL_walk_116 (kk := ?_)
              refine i_bipush C dL_walk_118 (kk := ?_)
              refine i_icmp_lt C dL_walk_120 (tgt := 134) (kt := fun hB120 => ?_) (kf := fun hB120 => ?_)
              · exfalso; omega
              · refine i_iload C dL_walk_123 (kk := ?_)
                refine i_bipush C dL_walk_125 (kk := ?_)
                refine i_icmp_ge C dL_walk_127 (tgt := 134) (kt := fun hB127 => ?_) (kf := fun hB127 => ?_)
                · refine i_iconst C dL_walk_134 (kk := ?_)
                  refine i_istore C dL_walk_135 (kk := ?_)
                  refine i_aload C dL_walk_137 (kk := ?_)
                  refine i_iconst C dL_walk_139 (kk := ?_)
                  refine i_iload C dL_walk_140 (kk := ?_)
                  refine i_imul C dL_walk_142 (kk := ?_)
                  refine i_iconst C dL_walk_143 (kk := ?_)
                  refine i_iadd C dL_walk_144 (kk := ?_)
                  refine i_dup2 C dL_walk_145 (kk := ?_)
                  rw [show (3 : Int) * (t : Int) + 1 = ((3 * t + 1 : Nat) : Int) by omega]
                  refine i_iaload C dL_walk_146 (hw := wset_eq) (kk := ?_)
                  rw [Int.toNat_natCast, hf1]
                  refine i_iconst C dL_walk_147 (kk := ?_)
                  refine i_iadd C dL_walk_148 (kk := ?_)
                  refine i_iastore C dL_walk_149 (hw := wset_eq) (kk := ?_)
                  rw [Int.toNat_natCast, wset_twice]
                  refine i_iload C dL_walk_150 (kk := ?_)
                  refine i_bipush C dL_walk_152 (kk := ?_)
                  refine i_icmp_lt C dL_walk_154 (tgt := 256) (kt := fun hB154 => ?_) (kf := fun hB154 => ?_)
                  · exfalso; omega
                  · refine i_iload C dL_walk_157 (kk := ?_)
                    refine i_bipush C dL_walk_159 (kk := ?_)
                    refine i_icmp_ge C dL_walk_161 (tgt := 256) (kt := fun hB161 => ?_) (kf := fun hB161 => ?_)
                    · refine i_iload C dL_walk_256 (kk := ?_)
                      refine i_if_eq C dL_walk_258 (tgt := 463) (kt := fun hB258 => ?_) (kf := fun hB258 => ?_)
                      · refine i_iload C dL_walk_463 (kk := ?_)
                        refine i_callS C lk_L_17 (c_L_called l hl D hc5) (hst := rfl) dL_walk_465 (hf := ⟨by show _ ≤ CC; (try simp only [rmL]); omega, by show _ ≤ SS; (try simp only [rmL]); omega⟩) (kk := fun v465 w465 g465 => ?_)
                        obtain ⟨rfl, q465⟩ := g465
                        have q465 := q465.symm
                        subst q465
                        rw [no_call (by omega)]
                        refine i_if_lt C dL_walk_468 (tgt := 537) (kt := fun hB468 => ?_) (kf := fun hB468 => ?_)
                        · refine i_goto C dL_walk_537 (tgt := 27) (kk := ?_)
                          exact ihm t q (i + 1) (n) _ _ g _ R _ _ _ _ _ _ _ _ hd (by omega) ht5 hq (by omega) hg (by rw [upz_ne (by omega)]; exact hf0) (by rw [upz_eq]; omega) (by rw [upz_ne (by omega)]; exact hf2) (by omega) (by (try simp only [rmL]); omega) (by rw [hL, hno]) (fun n1 N1 K1 f1 o13 o14 o15 o16 o17 o18 o19 o20 q1 q2 q4 q5 => cont n1 N1 K1 f1 o13 o14 o15 o16 o17 o18 o19 o20 q1 q2 (fun j hj => by rw [q4 j hj, upz_ne (by omega)]) q5)
                        · exact absurd hB468 (by first | decide | omega)
                      · exfalso; omega
                    · exfalso; omega
                · exfalso; omega
            · exfalso; omega
      · refine i_iinc C dL_walk_77 (kk := ?_)
        refine i_goto C dL_walk_80 (tgt := 537) (kk := ?_)
        refine i_goto C dL_walk_537 (tgt := 27) (kk := ?_)
        exact cont n _ _ f _ _ _ _ _ _ _ _ hn (by (try simp only [rmL]); omega) (fun _ _ => rfl) (by rw [hL, RS_end (by omega)]; rfl)
  refine main (depT (sT σ) p + 1) ((sT σ p).length + 1) 0 p 0 0 1 24 g0 f [] none none none none none none none none (by omega) (by omega) (by have := (hS.2.1 p (by omega)).2.2.1; omega) hp (Nat.zero_le _) (by omega) (by rw [hf, upz_ne (by decide)]; rfl) (by rw [hf, upz_ne (by decide), upz_ne (by decide)]; rfl) (by rw [hf]; rfl) (Nat.zero_le _) (by omega) (by rw [List.append_nil, ← shl_RS hS (by omega) hg0.1, ← hL0]; rfl) (fun n1 N1 K1 f1 o13 o14 o15 o16 o17 o18 o19 o20 q1 q2 q4 q5 => ?_)
  have en : n1 = L0.length := by
    have h := congrArg List.length q5
    rw [List.length_drop] at h
    have h9 : L0.length - n1 = 0 := h
    omega
  subst en
  rw [List.take_of_length_le (Nat.le_refl _)]
  refine i_iload C dL_walk_27 (kk := ?_)
  refine i_if_lt C dL_walk_29 (tgt := 540) (kt := fun _ => ?_) (kf := fun hB => absurd hB (by omega))
  refine i_iload C dL_walk_540 (kk := ?_)
  have hfl := fndS_le (σ := σ) (a := a) (num := num) (p := p) L0
  refine i_if_ne C dL_walk_542 (tgt := 550) (kt := fun hB => ?_) (kf := fun hB => ?_)
  · refine i_iload C dL_walk_550 (kk := ?_)
    exact i_iret C (d := dL_walk_552) (hn := by show _ ≤ CC; omega) (hk := by show _ ≤ SS; omega) (h := ⟨by unfold wkA; rw [if_neg hB, ← hL0], hkp _⟩)
  · refine i_iload C dL_walk_545 (kk := ?_)
    refine i_goto C dL_walk_547 (tgt := 552) (kk := ?_)
    exact i_iret C (d := dL_walk_552) (hn := by show _ ≤ CC; omega) (hk := by show _ ≤ SS; omega) (h := ⟨by unfold wkA; rw [if_pos hB, ← hL0], hkp _⟩)
