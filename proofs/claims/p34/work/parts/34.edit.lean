theorem txOK_nil : txOK [] := ⟨(fun q hq => nomatch hq), OWp.nil, Nat.zero_le _⟩
set_option maxRecDepth 100000 in
set_option maxHeartbeats 4000000 in
theorem c_X6_edit (l : Launch) (hl : l.stackTraces = false) (D : gD) {w : wW} {τ ad : Nat → Nat} {nb tb : Nat} {σ : Sg} {i0 i : Int} (hW : WkI D w τ ad nb tb σ := by assumption) (hi0 : inR i0 := by omega) (hi : inR i := by omega) : CTx l D yX6_edit cX6_edit 7 (some .int) (rmL 8 8 160) [.ref (ad 0), .int (Z32 i0), .int (Z32 i)] w (fun u w1 => ∃ k p : Nat, k < 6 ∧ i0 = (k : Int) ∧ p < 12 ∧ i = (p : Int) ∧ owc (sDr σ) = 0 ∧ sNv σ p < 20 ∧ ((edS σ k p ≠ -1 ∧ u = some (.int (Z32 (edS σ k p))) ∧ WkI D w1 τ ad nb tb (uDr σ []) ∧ offR τ w w1 0 5000) ∨ (edS σ k p = -1 ∧ u = some (.int (Z32 ((sNv σ p + 1 : Nat) : Int))) ∧ ∃ τ2 ad2 : Nat → Nat, WkI D w1 τ2 ad2 tb nb (uEd σ k p) ∧ (∀ r, r < 1000 ∨ 5000 ≤ r → ad2 r = ad r) ∧ ∀ q, w q ≠ none → 5000 ≤ τ q → τ2 q = τ q ∧ w1 q = w q))) (fun E w1 => ((E = "java/lang/IndexOutOfBoundsException" ∧ ¬ ((0 ≤ i0 ∧ i0 < 6) ∧ 0 ≤ i ∧ i < 12)) ∨ (E = "java/lang/IllegalStateException" ∧ ∃ k p : Nat, k < 6 ∧ i0 = (k : Int) ∧ p < 12 ∧ i = (p : Int) ∧ (0 < owc (sDr σ) ∨ 20 ≤ sNv σ p))) ∧ w1 = w) := by
  refine CTx_of hl rfl (by rfl) (Nat.le_of_ble_eq_true rfl) ?_
  intro G C
  show G 0 0 w [some (.ref (ad 0)), some (.int (Z32 i0)), some (.int (Z32 i)), none, none, none, none] 0 []
  refine i_aload_n C dX6_edit_0 (kk := ?_)
  refine i_iload_n C dX6_edit_1 (kk := ?_)
  refine i_callVX C lk_X6_63 (c_X6_rankOfUser l hl D (hW := hW)) (hcl := rfl) (hst := rfl) dX6_edit_2 (hw := hW.obj) (hxx := fun E w1 h => ⟨Or.inl ⟨h.1, fun q => h.2.1 q.1⟩, h.2.2⟩) (kk := fun v2 w2 g2 => ?_)
  obtain ⟨⟨k, hk, hik, rfl⟩, q2⟩ := g2
  have q2 := q2.symm
  subst q2
  have hur := hW.1.2.2 k hk
  refine i_istore_n C dX6_edit_5 (kk := ?_)
  refine i_aload_n C dX6_edit_6 (kk := ?_)
  refine i_iload_n C dX6_edit_7 (kk := ?_)
  refine i_callVX C lk_X6_67 (cx_X6_pageAt l hl D (hW := hW)) (hcl := rfl) (hst := rfl) dX6_edit_8 (hw := hW.obj) (hxx := fun E w1 h => ⟨Or.inl ⟨h.1, fun q => h.2.1 q.2⟩, h.2.2⟩) (kk := fun v8 w8 g8 => ?_)
  obtain ⟨⟨p, hp, hip, rfl⟩, q8⟩ := g8
  have q8 := q8.symm
  subst q8
  have hDW := hW.2.2.1.2.2.2.2.2
  refine i_astore C dX6_edit_11 (kk := ?_)
  refine i_aload_n C dX6_edit_13 (kk := ?_)
  refine i_getf C f_X6_12 dX6_edit_14 (hw := hW.obj) (kk := ?_)
  refine i_callV C lk_X6_52 (c_X3_hasOpenWhen l hl D (hT := hDW)) (hcl := rfl) (hst := rfl) dX6_edit_17 (hw := hDW.2.2.2.2.1) (kk := fun v17 w17 g17 => ?_)
  obtain ⟨rfl, q17⟩ := g17
  have q17 := q17.symm
  subst q17
  refine i_if_eq C dX6_edit_20 (tgt := 33) (ha := by split <;> decide) (kt := fun hB20 => ?_) (kf := fun hB20 => ?_)
  · have e8 : ¬ 0 < owc (sDr σ) := by intro q; rw [if_pos q] at hB20; cases hB20
    have hop : owc (sDr σ) = 0 := by have := hW.1.1.2.1.all; omega
    refine i_aload C dX6_edit_33 (kk := ?_)
    refine i_getf C f_X6_73 dX6_edit_35 (hw := hW.page hp) (kk := ?_)
    have h20 := (hW.1.2.1 p hp).1
    refine i_getf C f_X6_77 dX6_edit_38 (hw := hW.ver hp) (kk := ?_)
    refine i_bipush C dX6_edit_41 (kk := ?_)
    refine i_icmp_lt C dX6_edit_43 (tgt := 56) (kt := fun hB43 => ?_) (kf := fun hB43 => ?_)
    · have hn20 : sNv σ p < 20 := by omega
      refine i_iload_n C dX6_edit_56 (kk := ?_)
      refine i_aload_n C dX6_edit_57 (kk := ?_)
      refine i_iload_n C dX6_edit_58 (kk := ?_)
      obtain ⟨hb, -, ⟨fc, fo, fr, fd, fx, kN, kO⟩, -⟩ := hW.2.1
      subst hip
      have hfr := frcS_R hW.1 hp
      refine i_callV C lk_X6_85 (c_X6_forceOn l hl D (hW := hW) (kN := kN)) (hcl := rfl) (hst := rfl) dX6_edit_59 (hw := hW.obj) (kk := fun v59 w59 g59 => ?_)
      obtain ⟨rfl, q59⟩ := g59
      have q59 := q59.symm
      subst q59
      rw [frcN_cong (kO.fr kN.2.2.2.2.2.2.2.2.2.2.2.2.2.2.1) 12 (Nat.le_refl _)]
      show G _ _ _ _ _ (.int (Z32 (frcS σ p)) :: _)
      refine i_icmp_ge C dX6_edit_62 (tgt := 70) (kt := fun hB62 => ?_) (kf := fun hB62 => ?_)
      · have er : edS σ k p = refS σ p (sDr σ) := if_neg (by omega)
        refine i_aload_n C dX6_edit_70 (kk := ?_)
        refine i_iload_n C dX6_edit_71 (kk := ?_)
        refine i_aload_n C dX6_edit_72 (kk := ?_)
        refine i_getf C f_X6_12 dX6_edit_73 (hw := hW.obj) (kk := ?_)
        refine i_callV C lk_X6_88 (c_X6_refusalOf l hl D (hW := hW) (p := p) (hT := hDW) (Or.inl (by decide))) (hcl := rfl) (hst := rfl) dX6_edit_76 (hw := hW.obj) (kk := fun v76 w76 g76 => ?_)
        obtain ⟨rfl, hW3, o3, hTr⟩ := g76
        have hrn := refS_neg (σ := σ) (p := p) (ps := sDr σ)
        have o4 := o3.wide (lo' := 0) (hi' := 5000) (by omega) (by omega)
        refine i_istore C dX6_edit_79 (kk := ?_)
        refine i_iload C dX6_edit_81 (kk := ?_)
        refine i_iconst C dX6_edit_83 (kk := ?_)
        refine i_icmp_ne C dX6_edit_84 (tgt := 139) (kt := fun hB84 => ?_) (kf := fun hB84 => ?_)
        · refine i_aload_n C dX6_edit_139 (kk := ?_)
          refine i_getf C f_X6_12 dX6_edit_140 (hw := hW3.obj) (kk := ?_)
          refine i_callV C lk_X6_102 (c_X3_clear l hl D (hT := hW3.2.2.1.2.2.2.2.2)) (hcl := rfl) (hst := rfl) dX6_edit_143 (hw := hW3.2.2.1.2.2.2.2.2.2.2.2.2.1) (kk := fun v143 w143 g143 => ?_)
          obtain ⟨rfl, hC9, oC9⟩ := g143
          have hW9 := hW3.draft hC9 txOK_nil oC9
          refine i_iload C dX6_edit_146 (kk := ?_)
          refine i_iconst C dX6_edit_148 (kk := ?_)
          refine i_icmp_ne C dX6_edit_149 (tgt := 163) (kt := fun hB149 => ?_) (kf := fun hB149 => ?_)
          · refine i_iload C dX6_edit_163 (kk := ?_)
            exact i_iret C (d := dX6_edit_165) (h := ⟨k, p, hk, by omega, hp, rfl, hop, hn20, Or.inl ⟨by rw [er]; omega, by rw [er], hW9, o4.trans (oC9.wide (by omega) (by omega))⟩⟩)
          · exfalso; omega
        · have h1 : refS σ p (sDr σ) = -1 := by omega
          have hT3 := hTr h1
          have hv9 : 1000 ≤ vr p (sNv σ p + 1) := by unfold vr; omega
          have hv10 : vr p (sNv σ p + 1) + 5 ≤ 2260 := by unfold vr; omega
          refine i_new C nw_X6_9 dX6_edit_87 (kk := fun q87 nq87 => ?_)
          refine i_dup C dX6_edit_90 (kk := ?_)
          refine i_callI C lk_X6_11 (c_X3_init l hl D (hw := wset_eq)) (hst := rfl) dX6_edit_91 (kk := fun v91 w91 g91 => ?_)
          obtain ⟨rfl, a, b, c, f1, f2, f3, d1, d2, d3, k0, k1, k2, k3, kf⟩ := g91
          have nta : a ≠ q87 := fun e => by rw [e, wset_eq] at f1; cases f1
          have ntb : b ≠ q87 := fun e => by rw [e, wset_eq] at f2; cases f2
          have ntc : c ≠ q87 := fun e => by rw [e, wset_eq] at f3; cases f3
          rw [wset_ne nta] at f1
          rw [wset_ne ntb] at f2
          rw [wset_ne ntc] at f3
          have hqf : ∀ q, q ≠ q87 → q ≠ a → q ≠ b → q ≠ c → w91 q = w76 q := fun q z1 z2 z3 z4 => by rw [kf q z1 z2 z3 z4, wset_ne z1]
          obtain ⟨τ1, ad1, m1, m2, hW4, kT4, mT, n1, n2, n3, n4⟩ := hW3.grow1 hp (by omega) nq87 f1 f2 f3 nta ntb ntc d1 d2 d3 k0 k1 k2 k3 hqf
          have hT4 := mT _ hT3
          have e0 : ad1 0 = ad 0 := m2 0 (by omega)
          have hX4 := hW4.obj
          rw [e0] at hX4
          have hD4 := hW4.2.2.1.2.2.2.2.2
          refine i_astore C dX6_edit_94 (kk := ?_)
          refine i_aload C dX6_edit_96 (kk := ?_)
          refine i_aload_n C dX6_edit_98 (kk := ?_)
          refine i_getf C f_X6_12 dX6_edit_99 (hw := hX4) (kk := ?_)
          refine i_callV C lk_X6_92 (c_X3_addAll l hl D (hT := kT4) (hQ := hD4) (by omega)) (hcl := rfl) (hst := rfl) dX6_edit_102 (hw := kT4.2.2.2.2.1) (kk := fun v102 w102 g102 => ?_)
          obtain ⟨rfl, kT5, o5⟩ := g102
          have hW5 := hW4.away hp hn20 (o5.wide (by omega) (by omega))
          have hT5 := hT4.off o5 (by omega)
          refine i_aload C dX6_edit_105 (kk := ?_)
          refine i_new C nw_X6_78 dX6_edit_107 (kk := fun q107 nq107 => ?_)
          obtain ⟨τ2, ad2, l1, l2, hW6, kT6, mT6, lV, lτ⟩ := hW5.grow2 (w1 := wset w102 q107 (.inr (4, [.null, .int 0, .null, .int 0]))) hp (by omega) nq107 (fun q hq => wset_ne hq)
          have hT6 := mT6 _ hT5
          have kT7 := kT6 _ _ _ _ _ kT5
          have e100 : ad2 (100 + p) = ad (100 + p) := by rw [l2 _ (by omega), m2 _ (by omega)]
          have e02 : ad2 0 = ad 0 := by rw [l2 _ (by omega), m2 _ (by omega)]
          have hP6 := hW6.page hp
          rw [e100] at hP6
          refine i_dup C dX6_edit_110 (kk := ?_)
          refine i_aload C dX6_edit_111 (kk := ?_)
          refine i_getf C f_X6_73 dX6_edit_113 (hw := hP6) (kk := ?_)
          refine i_aload C dX6_edit_116 (kk := ?_)
          refine i_getf C f_X6_73 dX6_edit_118 (hw := hP6) (kk := ?_)
          refine i_getf C f_X6_77 dX6_edit_121 (hw := hW6.ver hp) (kk := ?_)
          refine i_iconst C dX6_edit_124 (kk := ?_)
          refine i_iadd C dX6_edit_125 (kk := ?_)
          refine i_aload C dX6_edit_126 (kk := ?_)
          refine i_iload_n C dX6_edit_128 (kk := ?_)
          refine i_callI C lk_X6_96 (c_X4_init l hl D (hw := wset_eq)) (hst := rfl) dX6_edit_129 (kk := fun v129 w129 g129 => ?_)
          obtain ⟨rfl, rfl⟩ := g129
          obtain ⟨W7, hW7e⟩ : ∃ W7 : wW, W7 = wset (wset w102 q107 (.inr (4, [.null, .int 0, .null, .int 0]))) q107 (.inr (4, [.ref (ad2 (vr p (sNv σ p))), .int (Z32 ((sNv σ p : Int) + 1)), .ref q87, .int (Z32 (sUr σ k))])) := ⟨_, rfl⟩
          rw [← hW7e]
          have o7 : offR τ2 (wset w102 q107 (.inr (4, [.null, .int 0, .null, .int 0]))) W7 (vr p (sNv σ p + 1)) (vr p (sNv σ p + 1) + 1) := by rw [hW7e]; exact offR.rf.put (by omega) (by omega)
          have hW7a := hW6.away hp hn20 (o7.wide (by omega) (by omega))
          have hW7 := hW7a.uTv (v := sNv σ p + 1) (ps := sDr σ) (g := sUr σ k) (Nat.lt_succ_self _)
          have hT7 := hT6.off o7 (by omega)
          have kT8 := kT7.off o7 (by omega)
          have hV7 : W7 q107 = some (.inr (4, [.ref (ad2 (vr p (sNv σ p))), .int (Z32 ((sNv σ p : Int) + 1)), .ref q87, .int (Z32 (sUr σ k))])) := by rw [hW7e]; exact wset_eq
          have hP7 := hW7a.page hp
          rw [e100] at hP7
          refine i_putf C fk_X6_73 dX6_edit_132 (hw := hP7) (kk := ?_)
          have hS := hW7.to (p := p) (v := sNv σ p + 1) (by rw [uTv_sT (Nat.lt_succ_self _), uTv_txv]; exact hT7) hp (by omega) (fun x hx => by
            by_cases z : x = sNv σ p + 1
            · subst z; rw [uTv_txv, uTv_rkv]; exact ⟨hW.1.1, by have := hW.1.1.2.1.all; omega, hur⟩
            · exact (hW7.1.2.1 p hp).2.2.2.2.2 x (by show x ≤ sNv σ p; omega)) (fun x hx => by
            by_cases z : x = sNv σ p + 1
            · subst z
              rw [uTv_txv, uTv_rkv, lV, if_neg (by omega), l2 (vr p (sNv σ p + 1) + 1) (by omega), n1]
              refine ⟨lτ, hV7, ?_⟩
              unfold TxD
              rw [l2 (vr p (sNv σ p + 1) + 1) (by omega), l2 (vr p (sNv σ p + 1) + 1 + 1) (by omega), l2 (vr p (sNv σ p + 1) + 1 + 2) (by omega), l2 (vr p (sNv σ p + 1) + 1 + 3) (by omega), n1, show vr p (sNv σ p + 1) + 1 + 1 = vr p (sNv σ p + 1) + 2 from rfl, n2, show vr p (sNv σ p + 1) + 1 + 2 = vr p (sNv σ p + 1) + 3 from rfl, n3, show vr p (sNv σ p + 1) + 1 + 3 = vr p (sNv σ p + 1) + 4 from rfl, n4]
              exact kT8
            · exact hW7.2.2.2.2.2 p hp x (by show x ≤ sNv σ p; omega))
          rw [e100, lV] at hS
          obtain ⟨j1, j2, j3, j4, j5, j6, j7, j8, j9⟩ := hS
          rw [← e02]
          refine i_aload_n C dX6_edit_135 (kk := ?_)
          refine i_callV C lk_X6_99 (c_X6_settle l hl D j1 j2 j3 j4 j5 j6 j7 j8 j9) (hcl := rfl) (hst := rfl) dX6_edit_136 (hw := j3) (kk := fun v136 w136 g136 => ?_)
          obtain ⟨rfl, hW8, o8⟩ := g136
          refine i_aload_n C dX6_edit_139 (kk := ?_)
          refine i_getf C f_X6_12 dX6_edit_140 (hw := hW8.obj) (kk := ?_)
          refine i_callV C lk_X6_102 (c_X3_clear l hl D (hT := hW8.2.2.1.2.2.2.2.2)) (hcl := rfl) (hst := rfl) dX6_edit_143 (hw := hW8.2.2.1.2.2.2.2.2.2.2.2.2.1) (kk := fun v143 w143 g143 => ?_)
          obtain ⟨rfl, hC9, oC9⟩ := g143
          have hW9 := hW8.draft hC9 txOK_nil oC9
          have hP9 := hW9.page hp
          rw [e100] at hP9
          refine i_iload C dX6_edit_146 (kk := ?_)
          refine i_iconst C dX6_edit_148 (kk := ?_)
          refine i_icmp_ne C dX6_edit_149 (tgt := 163) (kt := fun hB149 => ?_) (kf := fun hB149 => ?_)
          · exfalso; omega
          · refine i_aload C dX6_edit_152 (kk := ?_)
            refine i_getf C f_X6_73 dX6_edit_154 (hw := hP9) (kk := ?_)
            refine i_getf C f_X6_77 dX6_edit_157 (hw := hW9.ver hp) (kk := ?_)
            refine i_goto C dX6_edit_160 (tgt := 165) (kk := ?_)
            have hkeep : ∀ q, w q ≠ none → 5000 ≤ τ q → τ2 q = τ q ∧ w143 q = w q := fun q hq h5 => by
              have c1 : w76 q = w q := o3 q (by omega)
              have c2 : w76 q ≠ none := by rw [c1]; exact hq
              have c3 : τ1 q = τ q := m1 q c2
              have c4 : w91 q = w76 q := hqf q (fun e => c2 (by rw [e]; exact nq87)) (fun e => c2 (by rw [e]; exact f1)) (fun e => c2 (by rw [e]; exact f2)) (fun e => c2 (by rw [e]; exact f3))
              have c5 : w102 q = w91 q := o5 q (by rw [c3]; omega)
              have c6 : w102 q ≠ none := by rw [c5, c4]; exact c2
              have c7 : τ2 q = τ1 q := l1 q c6
              have c8 : q ≠ q107 := fun e => c6 (by rw [e]; exact nq107)
              have c9 : W7 q = w102 q := by rw [hW7e, wset_ne c8, wset_ne c8]
              have c10 : q ≠ ad (100 + p) := fun e => by rw [e, (hW.2.2.2.1 p hp).1] at h5; omega
              have c11 := o8 q (by rw [c7, c3]; omega)
              rw [wset_ne c10] at c11
              have c12 := oC9 q (by rw [c7, c3]; omega)
              exact ⟨by rw [c7, c3], by rw [c12, c11, c9, c5, c4, c1]⟩
            exact i_iret C (d := dX6_edit_165) (h := ⟨k, p, hk, by omega, hp, rfl, hop, hn20, Or.inr ⟨by rw [er]; exact h1, by show some (Value.int (Z32 ((upz (sNv σ) p (sNv σ p + 1) p : Nat) : Int))) = _; rw [upz_eq], τ2, ad2, hW9, fun r hr => by rw [l2 r (by unfold vr at *; omega), m2 r hr], hkeep⟩⟩)
      · have er : edS σ k p = -2 := if_pos (by omega)
        refine i_bipush C dX6_edit_65 (kk := ?_)
        refine i_goto C dX6_edit_67 (tgt := 79) (kk := ?_)
        refine i_istore C dX6_edit_79 (kk := ?_)
        refine i_iload C dX6_edit_81 (kk := ?_)
        refine i_iconst C dX6_edit_83 (kk := ?_)
        refine i_icmp_ne C dX6_edit_84 (tgt := 139) (kt := fun hB => ?_) (kf := fun hB => ?_)
        · refine i_aload_n C dX6_edit_139 (kk := ?_)
          refine i_getf C f_X6_12 dX6_edit_140 (hw := hW.obj) (kk := ?_)
          refine i_callV C lk_X6_102 (c_X3_clear l hl D (hT := hW.2.2.1.2.2.2.2.2)) (hcl := rfl) (hst := rfl) dX6_edit_143 (hw := hW.2.2.1.2.2.2.2.2.2.2.2.2.1) (kk := fun v143 w143 g143 => ?_)
          obtain ⟨rfl, hC9, oC9⟩ := g143
          have hW9 := hW.draft hC9 txOK_nil oC9
          refine i_iload C dX6_edit_146 (kk := ?_)
          refine i_iconst C dX6_edit_148 (kk := ?_)
          refine i_icmp_ne C dX6_edit_149 (tgt := 163) (kt := fun hB149 => ?_) (kf := fun hB149 => ?_)
          · refine i_iload C dX6_edit_163 (kk := ?_)
            exact i_iret C (d := dX6_edit_165) (h := ⟨k, p, hk, by omega, hp, rfl, hop, hn20, Or.inl ⟨by rw [er]; decide, by rw [er], hW9, (offR.rf : offR τ w w 0 5000).trans (oC9.wide (by omega) (by omega))⟩⟩)
          · exfalso; omega
        · exfalso; omega
    · exact i_throw C th_56_83_60 dX6_edit_46 dX6_edit_49 dX6_edit_50 dX6_edit_52 dX6_edit_55 (hX := ⟨Or.inr ⟨rfl, k, p, hk, hik, hp, hip, Or.inr (by omega)⟩, rfl⟩)
  · have e8 : 0 < owc (sDr σ) := by apply Decidable.byContradiction; intro q; rw [if_neg q] at hB20; exact hB20 rfl
    exact i_throw C th_56_71_60 dX6_edit_23 dX6_edit_26 dX6_edit_27 dX6_edit_29 dX6_edit_32 (hX := ⟨Or.inr ⟨rfl, k, p, hk, hik, hp, hip, Or.inl e8⟩, rfl⟩)
