set_option maxRecDepth 100000 in
set_option maxHeartbeats 4000000 in
theorem c_X6_undo (l : Launch) (hl : l.stackTraces = false) (D : gD) {w : wW} {τ ad : Nat → Nat} {nb tb : Nat} {σ : Sg} {i0 i : Int} (hW : WkI D w τ ad nb tb σ := by assumption) (hi0 : inR i0 := by omega) (hi : inR i := by omega) : CTx l D yX6_undo cX6_undo 8 (some .int) (rmL 8 3 24) [.ref (ad 0), .int (Z32 i0), .int (Z32 i)] w (fun u w1 => ∃ k p : Nat, k < 6 ∧ i0 = (k : Int) ∧ p < 12 ∧ i = (p : Int) ∧ 0 < sNv σ p ∧ offR τ w w1 0 5000 ∧ ((unS σ k p ≠ -1 ∧ u = some (.int (Z32 (unS σ k p))) ∧ WkI D w1 τ ad nb tb σ) ∨ (unS σ k p = -1 ∧ u = some (.int (Z32 ((sNv σ p - 1 : Nat) : Int))) ∧ WkI D w1 τ ad tb nb (uVn σ p (sNv σ p - 1))))) (fun E w1 => ((E = "java/lang/IndexOutOfBoundsException" ∧ ¬ ((0 ≤ i0 ∧ i0 < 6) ∧ 0 ≤ i ∧ i < 12)) ∨ (E = "java/lang/IllegalStateException" ∧ ∃ k p : Nat, k < 6 ∧ i0 = (k : Int) ∧ p < 12 ∧ i = (p : Int) ∧ sNv σ p = 0)) ∧ w1 = w) := by
  refine CTx_of hl rfl (by rfl) (Nat.le_of_ble_eq_true rfl) ?_
  intro G C
  show G 0 0 w [some (.ref (ad 0)), some (.int (Z32 i0)), some (.int (Z32 i)), none, none, none, none, none] 0 []
  refine i_aload_n C dX6_undo_0 (kk := ?_)
  refine i_iload_n C dX6_undo_1 (kk := ?_)
  refine i_callVX C lk_X6_63 (c_X6_rankOfUser l hl D (hW := hW)) (hcl := rfl) (hst := rfl) dX6_undo_2 (hw := hW.obj) (hxx := fun E w1 h => ⟨Or.inl ⟨h.1, fun q => h.2.1 q.1⟩, h.2.2⟩) (kk := fun v2 w2 g2 => ?_)
  obtain ⟨⟨k, hk, hik, rfl⟩, q2⟩ := g2
  have q2 := q2.symm
  subst q2
  have hur := hW.1.2.2 k hk
  refine i_istore_n C dX6_undo_5 (kk := ?_)
  refine i_aload_n C dX6_undo_6 (kk := ?_)
  refine i_iload_n C dX6_undo_7 (kk := ?_)
  refine i_callVX C lk_X6_67 (cx_X6_pageAt l hl D (hW := hW)) (hcl := rfl) (hst := rfl) dX6_undo_8 (hw := hW.obj) (hxx := fun E w1 h => ⟨Or.inl ⟨h.1, fun q => h.2.1 q.2⟩, h.2.2⟩) (kk := fun v8 w8 g8 => ?_)
  obtain ⟨⟨p, hp, hip, rfl⟩, q8⟩ := g8
  have q8 := q8.symm
  subst q8
  refine i_astore C dX6_undo_11 (kk := ?_)
  refine i_aload C dX6_undo_13 (kk := ?_)
  refine i_getf C f_X6_73 dX6_undo_15 (hw := hW.page hp) (kk := ?_)
  rcases Nat.eq_zero_or_pos (sNv σ p) with z | z
  · have hv := hW.ver hp
    rw [if_pos z] at hv
    refine i_getf C f_X6_105 dX6_undo_18 (hw := hv) (kk := ?_)
    refine i_astoreN C dX6_undo_21 (kk := ?_)
    refine i_aloadN C dX6_undo_23 (kk := ?_)
    refine i_ifnonnullN C dX6_undo_25 (kk := ?_)
    exact i_throw C th_56_108_60 dX6_undo_28 dX6_undo_31 dX6_undo_32 dX6_undo_34 dX6_undo_37 (hX := ⟨Or.inr ⟨rfl, k, p, hk, hik, hp, hip, z⟩, rfl⟩)
  have hv := hW.ver hp
  rw [if_neg (by omega)] at hv
  obtain ⟨u1, u2, u3⟩ := hW.2.2.2.2.2 p hp (sNv σ p - 1) (by omega)
  refine i_getf C f_X6_105 dX6_undo_18 (hw := hv) (kk := ?_)
  refine i_astore C dX6_undo_21 (kk := ?_)
  refine i_aload C dX6_undo_23 (kk := ?_)
  refine i_ifnonnull C dX6_undo_25 (tgt := 38) (kk := ?_)
  refine i_aload_n C dX6_undo_38 (kk := ?_)
  refine i_iload_n C dX6_undo_39 (kk := ?_)
  obtain ⟨hb, -, ⟨fc, fo, fr, fd, fx, kN, kO⟩, -⟩ := hW.2.1
  subst hip
  have hfr := frcS_R hW.1 hp
  have hn20 := (hW.1.2.1 p hp).1
  have hsg := (hW.1.2.1 p hp).2.2.2.2.2 (sNv σ p - 1) (by omega)
  refine i_callV C lk_X6_85 (c_X6_forceOn l hl D (hW := hW) (kN := kN)) (hcl := rfl) (hst := rfl) dX6_undo_40 (hw := hW.obj) (kk := fun v40 w40 g40 => ?_)
  obtain ⟨rfl, q40⟩ := g40
  have q40 := q40.symm
  subst q40
  rw [frcN_cong (kO.fr kN.2.2.2.2.2.2.2.2.2.2.2.2.2.2.1) 12 (Nat.le_refl _)]
  show G _ _ _ _ _ (.int (Z32 (frcS σ p)) :: _)
  refine i_istore C dX6_undo_43 (kk := ?_)
  refine i_iload_n C dX6_undo_45 (kk := ?_)
  refine i_iload C dX6_undo_46 (kk := ?_)
  refine i_icmp_lt C dX6_undo_48 (tgt := 61) (kt := fun hB48 => ?_) (kf := fun hB48 => ?_)
  · have er : unS σ k p = -2 := if_pos (Or.inl (by omega))
    refine i_bipush C dX6_undo_61 (kk := ?_)
    refine i_goto C dX6_undo_63 (tgt := 76) (kk := ?_)
    refine i_istore C dX6_undo_76 (kk := ?_)
    refine i_iload C dX6_undo_78 (kk := ?_)
    refine i_iconst C dX6_undo_80 (kk := ?_)
    refine i_icmp_eq C dX6_undo_81 (tgt := 87) (kt := fun hB => ?_) (kf := fun hB => ?_)
    · exfalso; omega
    · refine i_iload C dX6_undo_84 (kk := ?_)
      exact i_iret C (d := dX6_undo_86) (h := ⟨k, p, hk, by omega, hp, rfl, z, offR.rf, Or.inl ⟨by rw [er]; decide, by rw [er], hW⟩⟩)
  · refine i_aload C dX6_undo_51 (kk := ?_)
    refine i_getf C f_X6_110 dX6_undo_53 (hw := u2) (kk := ?_)
    refine i_iload C dX6_undo_56 (kk := ?_)
    refine i_icmp_ge C dX6_undo_58 (tgt := 66) (kt := fun hB58 => ?_) (kf := fun hB58 => ?_)
    · have er : unS σ k p = refS σ p (sTx σ p (sNv σ p - 1)) := if_neg (by omega)
      refine i_aload_n C dX6_undo_66 (kk := ?_)
      refine i_iload_n C dX6_undo_67 (kk := ?_)
      refine i_aload C dX6_undo_68 (kk := ?_)
      refine i_getf C f_X6_113 dX6_undo_70 (hw := u2) (kk := ?_)
      refine i_callV C lk_X6_88 (c_X6_refusalOf l hl D (hW := hW) (p := p) (hT := u3) (Or.inr (by unfold vr; omega))) (hcl := rfl) (hst := rfl) dX6_undo_73 (hw := hW.obj) (kk := fun v73 w73 g73 => ?_)
      obtain ⟨rfl, hW3, o3, hTr⟩ := g73
      rw [← er]
      rw [← er] at hTr
      have hrn := refS_neg (σ := σ) (p := p) (ps := sTx σ p (sNv σ p - 1))
      rw [← er] at hrn
      have u4 := hW3.page hp
      have o4 := o3.wide (lo' := 0) (hi' := 5000) (by omega) (by omega)
      obtain ⟨y1, y2, y3⟩ := hW3.2.2.2.2.2 p hp (sNv σ p - 1) (by omega)
      refine i_istore C dX6_undo_76 (kk := ?_)
      refine i_iload C dX6_undo_78 (kk := ?_)
      refine i_iconst C dX6_undo_80 (kk := ?_)
      refine i_icmp_eq C dX6_undo_81 (tgt := 87) (kt := fun hB81 => ?_) (kf := fun hB81 => ?_)
      · refine i_aload C dX6_undo_87 (kk := ?_)
        refine i_aload C dX6_undo_89 (kk := ?_)
        refine i_putf C fk_X6_73 dX6_undo_91 (hw := u4) (kk := ?_)
        have hS := hW3.to (hTr hB81) hp (by omega) (fun x hx => (hW.1.2.1 p hp).2.2.2.2.2 x (by omega)) (fun x hx => hW3.2.2.2.2.2 p hp x (by omega))
        obtain ⟨j1, j2, j3, j4, j5, j6, j7, j8, j9⟩ := hS
        refine i_aload_n C dX6_undo_94 (kk := ?_)
        refine i_callV C lk_X6_99 (c_X6_settle l hl D j1 j2 j3 j4 j5 j6 j7 j8 j9) (hcl := rfl) (hst := rfl) dX6_undo_95 (hw := j3) (kk := fun v95 w95 g95 => ?_)
        obtain ⟨rfl, hW5, o5⟩ := g95
        obtain ⟨x1, x2, x3⟩ := hW5.2.2.2.2.2 p hp (sNv σ p - 1) (by show sNv σ p - 1 ≤ upz (sNv σ) p (sNv σ p - 1) p; rw [upz_eq]; exact Nat.le_refl _)
        refine i_aload C dX6_undo_98 (kk := ?_)
        refine i_getf C f_X6_77 dX6_undo_100 (hw := x2) (kk := ?_)
        exact i_iret C (d := dX6_undo_103) (h := ⟨k, p, hk, by omega, hp, rfl, z, (o4.put (by have := (hW.2.2.2.1 p hp).1; omega) (by have := (hW.2.2.2.1 p hp).1; omega)).trans o5, Or.inr ⟨hB81, rfl, hW5⟩⟩)
      · refine i_iload C dX6_undo_84 (kk := ?_)
        exact i_iret C (d := dX6_undo_86) (h := ⟨k, p, hk, by omega, hp, rfl, z, o4, Or.inl ⟨hB81, rfl, hW3⟩⟩)
    · have er : unS σ k p = -2 := if_pos (Or.inr (by omega))
      refine i_bipush C dX6_undo_61 (kk := ?_)
      refine i_goto C dX6_undo_63 (tgt := 76) (kk := ?_)
      refine i_istore C dX6_undo_76 (kk := ?_)
      refine i_iload C dX6_undo_78 (kk := ?_)
      refine i_iconst C dX6_undo_80 (kk := ?_)
      refine i_icmp_eq C dX6_undo_81 (tgt := 87) (kt := fun hB => ?_) (kf := fun hB => ?_)
      · exfalso; omega
      · refine i_iload C dX6_undo_84 (kk := ?_)
        exact i_iret C (d := dX6_undo_86) (h := ⟨k, p, hk, by omega, hp, rfl, z, offR.rf, Or.inl ⟨by rw [er]; decide, by rw [er], hW⟩⟩)
