def kW (w w1 : wW) : Prop := ∀ q, w q ≠ none → w1 q = w q
theorem kW.rf {w : wW} : kW w w := fun _ _ => rfl
theorem kW.trans {w w1 w2 : wW} (h : kW w w1) (h2 : kW w1 w2) : kW w w2 := fun q hq => (h2 q (by rw [h q hq]; exact hq)).trans (h q hq)
theorem kW.at {w w1 : wW} {q : Nat} {e : va_E} (h : kW w w1) (hq : w q = some e) : w1 q = some e := by rw [h q (by rw [hq]; exact nofun)]; exact hq
theorem kW.put {w w1 : wW} {q : Nat} {X : va_E} (h : kW w w1) (hq : w q = none) : kW w (wset w1 q X) := fun a ha => by
  rw [wset_ne (fun e => ha (by rw [e]; exact hq))]
  exact h a ha
def rf0 (r : Int) : Int := if r = -1 then 0 else r
def rfS (σ : Sg) (k p : Nat) (ps : List Pc3) (rk : Int) : Int := if sUr σ k < frcS σ p ∨ rk < frcS σ p then -2 else refS σ p ps
theorem dOC_0 {fc f : Nat → Nat} {p : Nat} (h : ∀ q, q < 12 → fc (12 * p + q) = 0) : ∀ n, n ≤ 12 → dOC fc f p n = 0
  | 0, _ => rfl
  | n + 1, hn => by
    have ih := dOC_0 (f := f) h n (by omega)
    unfold dOC
    rw [h n (by omega), if_neg (Nat.lt_irrefl 0), ih]
theorem eOC_0 {fc fo f : Nat → Nat} {p : Nat} (h : ∀ q, q < 12 → fc (12 * p + q) = 0) : ∀ n, n ≤ 12 → eOC fc fo f p n = fo p
  | 0, _ => rfl
  | n + 1, hn => by
    have ih := eOC_0 (fo := fo) (f := f) h n (by omega)
    unfold eOC
    rw [h n (by omega), Nat.zero_mul, ih]; rfl
theorem dx_nil {T : Nat → List Pc3} {q : Nat} (hq : q < 12) (h : T q = []) : depT T q = 0 ∧ extT T q = 0 := by
  have h0 : ∀ j, j < 12 → fcT T (12 * q + j) = 0 := fun j hj => by rw [fcT_at T hj, h]; rfl
  refine ⟨dOC_0 h0 12 (Nat.le_refl _), ?_⟩
  have h1 : extT T q = foT T q := eOC_0 h0 12 (Nat.le_refl _)
  rw [h1]
  unfold foT
  rw [h]; rfl
theorem rs_hi {T : Nat → List Pc3} (hs : ∀ q, q < 12 → ∀ pc ∈ T q, Sm6 pc) {p q : Nat} (hp : p < 12) (hq : q < 12) (h : (rsT T p).testBit q = true) : q < 5 := by
  obtain ⟨L, f, hL, f0, fL, fs⟩ := (rsT_bit hp hq).mp h
  have hg := fs (L - 1) (by omega)
  rw [show L - 1 + 1 = L by omega, fL] at hg
  exact fc_s5 hs hg.1 hg.2.1 hg.2.2
section REF
variable {σ : Sg} {p : Nat} {ps : List Pc3}
theorem refS_3 (h : (rsT (upT (sT σ) p ps) p).testBit p = true) : refS σ p ps = -3 := if_pos h
theorem refS_4 (h : ¬ (rsT (upT (sT σ) p ps) p).testBit p = true) {j : Nat} (hj : j < 12) (h4 : 5 < depT (upT (sT σ) p ps) j) : refS σ p ps = -4 := by
  have := gtz_ge (f := cz (depT (upT (sT σ) p ps))) hj
  have h5 : cz (depT (upT (sT σ) p ps)) j = ((depT (upT (sT σ) p ps) j : Nat) : Int) := rfl
  unfold refS
  rw [if_neg h, if_pos (by omega)]
theorem refS_d (h : ∀ j, j < 12 → depT (upT (sT σ) p ps) j ≤ 5) : ¬ 5 < gtz (cz (depT (upT (sT σ) p ps))) 12 := by
  have h2 := (gtz_le (f := cz (depT (upT (sT σ) p ps))) (c := 5) (n := 12)).mpr ⟨by decide, fun j hj => by have := h j hj; show ((depT (upT (sT σ) p ps) j : Nat) : Int) ≤ 5; omega⟩
  omega
theorem refS_5 (h : ¬ (rsT (upT (sT σ) p ps) p).testBit p = true) (hd : ∀ j, j < 12 → depT (upT (sT σ) p ps) j ≤ 5) {j : Nat} (hj : j < 12) (h5 : 100 < extT (upT (sT σ) p ps) j) : refS σ p ps = -5 := by
  have := gtz_ge (f := cz (extT (upT (sT σ) p ps))) hj
  have h6 : cz (extT (upT (sT σ) p ps)) j = ((extT (upT (sT σ) p ps) j : Nat) : Int) := rfl
  unfold refS
  rw [if_neg h, if_neg (refS_d hd), if_pos (by omega)]
theorem refS_x (h : ∀ j, j < 12 → extT (upT (sT σ) p ps) j ≤ 100) : ¬ 100 < gtz (cz (extT (upT (sT σ) p ps))) 12 := by
  have h2 := (gtz_le (f := cz (extT (upT (sT σ) p ps))) (c := 100) (n := 12)).mpr ⟨by decide, fun j hj => by have := h j hj; show ((extT (upT (sT σ) p ps) j : Nat) : Int) ≤ 100; omega⟩
  omega
theorem refS_6 (h : ¬ (rsT (upT (sT σ) p ps) p).testBit p = true) (hd : ∀ j, j < 12 → depT (upT (sT σ) p ps) j ≤ 5) (hx : ∀ j, j < 12 → extT (upT (sT σ) p ps) j ≤ 100) {j : Nat} (hj : j < 12) (hb : (rsT (upT (sT σ) p ps) p &&& (rsT (sT σ) p ^^^ 4095)).testBit j = true) (h6 : sRk σ j (sNv σ j) < frcS σ p) : refS σ p ps = -6 := by
  unfold refS
  rw [if_neg h, if_neg (refS_d hd), if_neg (refS_x hx), if_pos (hrb_iff.mpr ⟨j, hj, hb, h6⟩)]
theorem refS_1 (h : ¬ (rsT (upT (sT σ) p ps) p).testBit p = true) (hd : ∀ j, j < 12 → depT (upT (sT σ) p ps) j ≤ 5) (hx : ∀ j, j < 12 → extT (upT (sT σ) p ps) j ≤ 100) (hs : ∀ q, q < 12 → ∀ pc ∈ upT (sT σ) p ps q, Sm6 pc) (hp : p < 12) (hn : ∀ j, j < 5 → ¬ ((rsT (upT (sT σ) p ps) p &&& (rsT (sT σ) p ^^^ 4095)).testBit j = true ∧ sRk σ j (sNv σ j) < frcS σ p)) : refS σ p ps = -1 := by
  unfold refS
  rw [if_neg h, if_neg (refS_d hd), if_neg (refS_x hx), if_neg]
  intro z
  obtain ⟨j, hj, hb, h6⟩ := hrb_iff.mp z
  have hb2 := hb
  rw [Nat.testBit_and, Bool.and_eq_true] at hb2
  exact hn j (rs_hi hs hp hj hb2.1) ⟨hb, h6⟩
end REF
set_option maxRecDepth 100000 in
set_option maxHeartbeats 4000000 in
theorem c_L_refusal (l : Launch) (hl : l.stackTraces = false) (D : gD) {w : wW} {a1 a2 a3 a4 k p : Nat} {rk : Int} {x : Int64} {ps : List Pc3} {σ : Sg} {ft : Nat → Int64} {fz fr fv : Nat → Int} (h1 : w a1 = some (lar D 60 ft) := by assumption) (h2 : w a2 = some (iar D 60 fz) := by assumption) (h3 : w a3 = some (iar D 60 fr) := by assumption) (h4 : w a4 = some (iar D 16 fv) := by assumption) (hR : LwR σ ft fz fr fv := by assumption) (hS : SgOK σ) (hk : k < 6) (hp : p < 5) (hx : Tx64 ps x) (hrk : 0 ≤ rk ∧ rk ≤ 3) : CTm l D yL_refusal cL_refusal 15 (some .int) (rmL 6 1 5) [.ref a1, .ref a2, .ref a3, .ref a4, .int (Z32 (k : Int)), .int (Z32 (p : Int)), .long x, .int (Z32 (ps.length : Int)), .int (Z32 rk)] w (fun u w1 => u = some (.int (Z32 (rf0 (rfS σ k p ps rk)))) ∧ kW w w1) := by
  refine CTm_ofL hl false rfl [some (.ref a1), some (.ref a2), some (.ref a3), some (.ref a4), some (.int (Z32 (k : Int))), some (.int (Z32 (p : Int))), some (.long x), none, some (.int (Z32 (ps.length : Int))), some (.int (Z32 rk)), none, none, none, none, none] (by rfl) (Nat.le_of_ble_eq_true rfl) (fun h => nomatch h) ?_
  intro G C
  refine i_iconst C dL_refusal_0 (kk := ?_)
  refine i_newint C (harr := ta_int) (N := 5) (d := dL_refusal_1) (kk := fun q1 nq1 => ?_)
  have ne1 := ne_live h1 nq1
  have ne2 := ne_live h2 nq1
  have ne4 := ne_live h4 nq1
  obtain ⟨W, hW⟩ : ∃ W, W = wset w q1 (iar D 5 (fun _ => 0)) := ⟨_, rfl⟩
  rw [← hW]
  have hkW : kW w W := by rw [hW]; exact kW.rf.put nq1
  have k1 := hkW.at h1
  have k2 := hkW.at h2
  have k3 := hkW.at h3
  have k4 := hkW.at h4
  have k5 : W q1 = some (iar D 5 (fun _ => 0)) := by rw [hW, wset_eq]
  have hfR := frcS_R hS (p := p) (by omega)
  have hs := fun q (hq : q < 12) => (TO.up hR hp ps).sm hR hx hq
  refine i_astore C dL_refusal_3 (kk := ?_)
  refine i_aload_n C dL_refusal_5 (kk := ?_)
  refine i_aload_n C dL_refusal_6 (kk := ?_)
  refine i_aload_n C dL_refusal_7 (kk := ?_)
  refine i_iload C dL_refusal_8 (kk := ?_)
  refine i_callS C lk_L_32 (c_L_force l hl D (w := W) (hp := hp) (hS := hS)) (hst := rfl) dL_refusal_10 (kk := fun v10 w10 g10 => ?_)
  obtain ⟨rfl, q10⟩ := g10
  have q10 := q10.symm
  subst q10
  refine i_istore C dL_refusal_13 (kk := ?_)
  refine i_aload_n C dL_refusal_15 (kk := ?_)
  refine i_aload_n C dL_refusal_16 (kk := ?_)
  refine i_aload_n C dL_refusal_17 (kk := ?_)
  refine i_iload C dL_refusal_18 (kk := ?_)
  refine i_iconst C dL_refusal_20 (kk := ?_)
  refine i_lconst C dL_refusal_21 (kk := ?_)
  refine i_iconst C dL_refusal_22 (kk := ?_)
  refine i_callS C lk_L_28 (c_L_reach l hl D (w := W) (hp := hp) (hx := Tx64.nil) (hT := TO.now hR)) (hst := rfl) dL_refusal_23 (kk := fun v23 w23 g23 => ?_)
  obtain ⟨rfl, q23⟩ := g23
  have q23 := q23.symm
  subst q23
  refine i_istore C dL_refusal_26 (kk := ?_)
  refine i_aload_n C dL_refusal_28 (kk := ?_)
  refine i_aload_n C dL_refusal_29 (kk := ?_)
  refine i_aload_n C dL_refusal_30 (kk := ?_)
  refine i_iload C dL_refusal_31 (kk := ?_)
  refine i_iload C dL_refusal_33 (kk := ?_)
  refine i_lload C dL_refusal_35 (kk := ?_)
  refine i_iload C dL_refusal_37 (kk := ?_)
  refine i_callS C lk_L_28 (c_L_reach l hl D (w := W) (hp := hp) (hx := hx) (hT := TO.up hR hp ps)) (hst := rfl) dL_refusal_39 (kk := fun v39 w39 g39 => ?_)
  obtain ⟨rfl, q39⟩ := g39
  have q39 := q39.symm
  subst q39
  have hr1 := rsT_lt (T := sT σ) (p := p)
  have hr2 := rsT_lt (T := upT (sT σ) p ps) (p := p)
  have hur := hS.2.2 k hk
  refine i_istore C dL_refusal_42 (kk := ?_)
  refine i_aload_n C dL_refusal_44 (kk := ?_)
  refine i_bipush C dL_refusal_45 (kk := ?_)
  refine i_iload C dL_refusal_47 (kk := ?_)
  refine i_iadd C dL_refusal_49 (kk := ?_)
  rw [show (10 : Int) + (k : Int) = ((10 + k : Nat) : Int) by omega]
  refine i_iaload C dL_refusal_50 (kk := ?_)
  rw [Int.toNat_natCast, hR.2.1 k hk]
  refine i_iload C dL_refusal_51 (kk := ?_)
  refine i_icmp_lt C dL_refusal_53 (tgt := 63) (kt := fun hB53 => ?_) (kf := fun hB53 => ?_)
  · have e2 : rf0 (rfS σ k p ps rk) = -2 := by unfold rfS; rw [if_pos (by omega)]; rfl
    refine i_bipush C dL_refusal_63 (kk := ?_)
    exact i_iret C (d := dL_refusal_65) (h := ⟨by rw [e2], hkW⟩)
  · refine i_iload C dL_refusal_56 (kk := ?_)
    refine i_iload C dL_refusal_58 (kk := ?_)
    refine i_icmp_ge C dL_refusal_60 (tgt := 66) (kt := fun hB60 => ?_) (kf := fun hB60 => ?_)
    · have eS : rfS σ k p ps rk = refS σ p ps := if_neg (by omega)
      refine i_iload C dL_refusal_66 (kk := ?_)
      refine i_iload C dL_refusal_68 (kk := ?_)
      refine i_ishr C dL_refusal_70 (hz := Z32_shr (by omega) (by omega)) (kk := ?_)
      refine i_iconst C dL_refusal_71 (kk := ?_)
      refine i_iand C dL_refusal_72 (hz := Z32_and1 _) (kk := ?_)
      refine i_iconst C dL_refusal_73 (kk := ?_)
      have hb74 := bit_mod (rsT (upT (sT σ) p ps) p) p
      rw [hb74]
      refine i_icmp_ne C dL_refusal_74 (tgt := 80) (ha := by split <;> decide) (kt := fun hB74 => ?_) (kf := fun hB74 => ?_)
      · have hz9 : ¬ (rsT (upT (sT σ) p ps) p).testBit p = true := fun z => hB74 (by rw [if_pos z]; rfl)
        have hac := gAcy_upT hS (p := p) (ps := ps) (by omega) hz9
        have hnb := hz9
        clear hz9
        refine i_aload_n C dL_refusal_80 (kk := ?_)
        refine i_aload_n C dL_refusal_81 (kk := ?_)
        refine i_aload_n C dL_refusal_82 (kk := ?_)
        refine i_iload C dL_refusal_83 (kk := ?_)
        refine i_lload C dL_refusal_85 (kk := ?_)
        refine i_iload C dL_refusal_87 (kk := ?_)
        refine i_aload C dL_refusal_89 (kk := ?_)
        refine i_callS C lk_L_36 (c_L_extents l hl D (w := W) (hx := hx) (hT := TO.up hR hp ps)) (hst := rfl) dL_refusal_91 (kk := fun v91 w91 g91 => ?_)
        obtain ⟨rfl, fx, hw91, hfb, hfx⟩ := g91
        have hkX : kW w w91 := by rw [hw91]; exact hkW.put nq1
        have l1 := hkX.at h1
        have l2 := hkX.at h2
        have l3 := hkX.at h3
        have l4 := hkX.at h4
        have l5 : w91 q1 = some (iar D 5 (cz fx)) := by rw [hw91, wset_eq]
        have hd5 : ∀ j, 5 ≤ j → j < 12 → depT (upT (sT σ) p ps) j = 0 ∧ extT (upT (sT σ) p ps) j = 0 := fun j h5 hj => dx_nil hj ((TO.up hR hp ps).2 j h5 hj)
        refine i_iconst C dL_refusal_94 (kk := ?_)
        refine i_istore C dL_refusal_95 (kk := ?_)
        have lp1 : ∀ (m i : Nat), 5 + 1 ≤ m + i → i ≤ 5 → (∀ j, j < i → depT (upT (sT σ) p ps) j ≤ 5) → G 1 5 w91 [some (.ref a1), some (.ref a2), some (.ref a3), some (.ref a4), some (.int (Z32 (k : Int))), some (.int (Z32 (p : Int))), some (.long x), none, some (.int (Z32 (ps.length : Int))), some (.int (Z32 rk)), some (.ref q1), some (.int (Z32 (frcS σ p))), some (.int (Z32 ((rsT (sT σ) p : Nat) : Int))), some (.int (Z32 ((rsT (upT (sT σ) p ps) p : Nat) : Int))), some (.int (Z32 (i : Int)))] 97 [] := by
          intro m
          induction m with
          | zero => intro i h1 h2; omega
          | succ m ih =>
          intro i h1 h2 hI
          refine i_iload C dL_refusal_97 (kk := ?_)
          refine i_iconst C dL_refusal_99 (kk := ?_)
          refine i_icmp_ge C dL_refusal_100 (tgt := 136) (kt := fun hB100 => ?_) (kf := fun hB100 => ?_)
          · have e5 : i = 5 := by omega
            subst e5
            have hdp : ∀ j, j < 12 → depT (upT (sT σ) p ps) j ≤ 5 := fun j hj => by (by_cases z : j < 5; exact hI j z; (rw [(hd5 j (by omega) hj).1]; omega))
            refine i_iconst C dL_refusal_136 (kk := ?_)
            refine i_istore C dL_refusal_137 (kk := ?_)
            have lp2 : ∀ (m i : Nat), 5 + 1 ≤ m + i → i ≤ 5 → (∀ j, j < i → extT (upT (sT σ) p ps) j ≤ 100) → G 1 5 w91 [some (.ref a1), some (.ref a2), some (.ref a3), some (.ref a4), some (.int (Z32 (k : Int))), some (.int (Z32 (p : Int))), some (.long x), none, some (.int (Z32 (ps.length : Int))), some (.int (Z32 rk)), some (.ref q1), some (.int (Z32 (frcS σ p))), some (.int (Z32 ((rsT (sT σ) p : Nat) : Int))), some (.int (Z32 ((rsT (upT (sT σ) p ps) p : Nat) : Int))), some (.int (Z32 (i : Int)))] 139 [] := by
              intro m
              induction m with
              | zero => intro i h1 h2; omega
              | succ m ih2 =>
              intro i h1 h2 hI
              refine i_iload C dL_refusal_139 (kk := ?_)
              refine i_iconst C dL_refusal_141 (kk := ?_)
              refine i_icmp_ge C dL_refusal_142 (tgt := 164) (kt := fun hB142 => ?_) (kf := fun hB142 => ?_)
              · have e5 : i = 5 := by omega
                subst e5
                have hxt : ∀ j, j < 12 → extT (upT (sT σ) p ps) j ≤ 100 := fun j hj => by (by_cases z : j < 5; exact hI j z; (rw [(hd5 j (by omega) hj).2]; omega))
                refine i_iconst C dL_refusal_164 (kk := ?_)
                refine i_istore C dL_refusal_165 (kk := ?_)
                have lp3 : ∀ (m i : Nat), 5 + 1 ≤ m + i → i ≤ 5 → (∀ j, j < i → ¬ ((rsT (upT (sT σ) p ps) p &&& (rsT (sT σ) p ^^^ 4095)).testBit j = true ∧ sRk σ j (sNv σ j) < frcS σ p)) → G 1 5 w91 [some (.ref a1), some (.ref a2), some (.ref a3), some (.ref a4), some (.int (Z32 (k : Int))), some (.int (Z32 (p : Int))), some (.long x), none, some (.int (Z32 (ps.length : Int))), some (.int (Z32 rk)), some (.ref q1), some (.int (Z32 (frcS σ p))), some (.int (Z32 ((rsT (sT σ) p : Nat) : Int))), some (.int (Z32 ((rsT (upT (sT σ) p ps) p : Nat) : Int))), some (.int (Z32 (i : Int)))] 167 [] := by
                  intro m
                  induction m with
                  | zero => intro i h1 h2; omega
                  | succ m ih3 =>
                  intro i h1 h2 hI
                  refine i_iload C dL_refusal_167 (kk := ?_)
                  refine i_iconst C dL_refusal_169 (kk := ?_)
                  refine i_icmp_ge C dL_refusal_170 (tgt := 211) (kt := fun hB170 => ?_) (kf := fun hB170 => ?_)
                  · have e5 : i = 5 := by omega
                    subst e5
                    refine i_iconst C dL_refusal_211 (kk := ?_)
                    exact i_iret C (d := dL_refusal_212) (h := ⟨by rw [eS, refS_1 hnb hdp hxt hs (by omega) hI]; rfl, hkX⟩)
                  · have hn11 := (hR.nv (p := i) (by omega)).2
                    have hal := andnot_lt (b := rsT (sT σ) p) hr2
                    have hrki := hR.rk (p := i) (by omega)
                    have hrkR := (hS.2.1 i (by omega)).2.2.2.2.2 _ (Nat.le_refl _)
                    refine i_iload C dL_refusal_173 (kk := ?_)
                    refine i_iload C dL_refusal_175 (kk := ?_)
                    refine i_iconst C dL_refusal_177 (kk := ?_)
                    refine i_ixor C dL_refusal_178 (hz := rfl) (kk := ?_)
                    refine i_iand C dL_refusal_179 (hz := Z32_andnot hr2) (kk := ?_)
                    refine i_iload C dL_refusal_180 (kk := ?_)
                    refine i_ishr C dL_refusal_182 (hz := Z32_shr (by omega) (by omega)) (kk := ?_)
                    refine i_iconst C dL_refusal_183 (kk := ?_)
                    refine i_iand C dL_refusal_184 (hz := Z32_and1 _) (kk := ?_)
                    refine i_iconst C dL_refusal_185 (kk := ?_)
                    have hb186 := bit_mod (rsT (upT (sT σ) p ps) p &&& (rsT (sT σ) p ^^^ 4095)) i
                    rw [hb186]
                    refine i_icmp_ne C dL_refusal_186 (tgt := 205) (ha := by split <;> decide) (kt := fun hB186 => ?_) (kf := fun hB186 => ?_)
                    · have hz9 : ¬ (rsT (upT (sT σ) p ps) p &&& (rsT (sT σ) p ^^^ 4095)).testBit i = true := fun z => hB186 (by rw [if_pos z]; rfl)
                      refine i_iinc C dL_refusal_205 (kk := ?_)
                      refine i_goto C dL_refusal_208 (tgt := 167) (kk := ?_)
                      exact ih3 (i + 1) (by omega) (by omega) (fun j hj => by (by_cases z : j = i; (subst z; rintro ⟨z1, z2⟩; first | exact hz9 z1 | omega); exact hI j (by omega)))
                    · have hz9 : (rsT (upT (sT σ) p ps) p &&& (rsT (sT σ) p ^^^ 4095)).testBit i = true := by apply Decidable.byContradiction; intro z; rw [if_neg z] at hB186; exact absurd hB186 (by decide)
                      refine i_aload_n C dL_refusal_189 (kk := ?_)
                      refine i_aload_n C dL_refusal_190 (kk := ?_)
                      refine i_iload C dL_refusal_191 (kk := ?_)
                      refine i_callS C lk_L_24 (c_L_now l hl D (w := w91) (p := i)) (hst := rfl) dL_refusal_193 (kk := fun v193 w193 g193 => ?_)
                      obtain ⟨rfl, q193⟩ := g193
                      have q193 := q193.symm
                      subst q193
                      refine i_iaload C dL_refusal_196 (kk := ?_)
                      rw [Int.toNat_natCast, hrki]
                      refine i_iload C dL_refusal_197 (kk := ?_)
                      refine i_icmp_ge C dL_refusal_199 (tgt := 205) (kt := fun hB199 => ?_) (kf := fun hB199 => ?_)
                      · refine i_iinc C dL_refusal_205 (kk := ?_)
                        refine i_goto C dL_refusal_208 (tgt := 167) (kk := ?_)
                        exact ih3 (i + 1) (by omega) (by omega) (fun j hj => by (by_cases z : j = i; (subst z; rintro ⟨z1, z2⟩; first | exact hz9 z1 | omega); exact hI j (by omega)))
                      · have e4 : rf0 (rfS σ k p ps rk) = -6 := by rw [eS, refS_6 hnb hdp hxt (j := i) (by omega) hz9 (by omega)]; rfl
                        refine i_bipush C dL_refusal_202 (kk := ?_)
                        exact i_iret C (d := dL_refusal_204) (h := ⟨by rw [e4], hkX⟩)
                exact lp3 6 0 (by omega) (by omega) (fun j hj => absurd hj (Nat.not_lt_zero j))
              · have hfi := hfx hac hdp i (by omega)
                have hfc : cz fx i = ((fx i : Nat) : Int) := rfl
                refine i_aload C dL_refusal_145 (kk := ?_)
                refine i_iload C dL_refusal_147 (kk := ?_)
                refine i_iaload C dL_refusal_149 (kk := ?_)
                rw [Int.toNat_natCast, hfc]
                refine i_bipush C dL_refusal_150 (kk := ?_)
                refine i_icmp_le C dL_refusal_152 (tgt := 158) (kt := fun hB152 => ?_) (kf := fun hB152 => ?_)
                · refine i_iinc C dL_refusal_158 (kk := ?_)
                  refine i_goto C dL_refusal_161 (tgt := 139) (kk := ?_)
                  exact ih2 (i + 1) (by omega) (by omega) (fun j hj => by (by_cases z : j = i; (subst z; omega); exact hI j (by omega)))
                · have e4 : rf0 (rfS σ k p ps rk) = -5 := by rw [eS, refS_5 hnb hdp (j := i) (by omega) (by omega)]; rfl
                  refine i_bipush C dL_refusal_155 (kk := ?_)
                  exact i_iret C (d := dL_refusal_157) (h := ⟨by rw [e4], hkX⟩)
            exact lp2 6 0 (by omega) (by omega) (fun j hj => absurd hj (Nat.not_lt_zero j))
          · refine i_aload_n C dL_refusal_103 (kk := ?_)
            refine i_aload_n C dL_refusal_104 (kk := ?_)
            refine i_aload_n C dL_refusal_105 (kk := ?_)
            refine i_iload C dL_refusal_106 (kk := ?_)
            refine i_lload C dL_refusal_108 (kk := ?_)
            refine i_iload C dL_refusal_110 (kk := ?_)
            refine i_callS C lk_L_40 (c_L_depths l hl D (w := w91) (hx := hx) (hT := TO.up hR hp ps)) (hst := rfl) dL_refusal_112 (kk := fun v112 w112 g112 => ?_)
            obtain ⟨rfl, q112⟩ := g112
            have q112 := q112.symm
            subst q112
            have hf16 : ∀ j, (fun j => if j < 12 then dpN (fcT (upT (sT σ) p ps)) 6 j else 0) j < 16 := fun j => by (dsimp only; split; (have := dpN_le (fc := fcT (upT (sT σ) p ps)) 6 j (by omega); omega); omega)
            rw [pk4_cong (f := dpN (fcT (upT (sT σ) p ps)) 6) (g := fun j => if j < 12 then dpN (fcT (upT (sT σ) p ps)) 6 j else 0) (n := 5) (fun j hj => (if_pos (by omega)).symm)]
            have hpl := pk4_lt5 hf16 (n := 5) (Nat.le_refl _)
            refine i_iconst C dL_refusal_115 (kk := ?_)
            refine i_iload C dL_refusal_116 (kk := ?_)
            refine i_imul C dL_refusal_118 (kk := ?_)
            rw [show (4 : Int) * (i : Int) = ((4 * i : Nat) : Int) by omega]
            refine i_ishr C dL_refusal_119 (hz := Z32_shr (by omega) (by omega)) (kk := ?_)
            refine i_bipush C dL_refusal_120 (kk := ?_)
            refine i_iand C dL_refusal_122 (hz := Z32_and15 _) (kk := ?_)
            rw [pk4_at hf16 5 (by omega), show (if i < 12 then dpN (fcT (upT (sT σ) p ps)) 6 i else 0) = dpN (fcT (upT (sT σ) p ps)) 6 i from if_pos (by omega)]
            have h6i := dp6 (fc := fcT (upT (sT σ) p ps)) (p := i) (by omega)
            have h6j := dpN_le (fc := fcT (upT (sT σ) p ps)) 6 i (by omega)
            have h6k : depT (upT (sT σ) p ps) i = dpN (fcT (upT (sT σ) p ps)) 11 i := rfl
            refine i_iconst C dL_refusal_123 (kk := ?_)
            refine i_icmp_le C dL_refusal_124 (tgt := 130) (kt := fun hB124 => ?_) (kf := fun hB124 => ?_)
            · refine i_iinc C dL_refusal_130 (kk := ?_)
              refine i_goto C dL_refusal_133 (tgt := 97) (kk := ?_)
              exact ih (i + 1) (by omega) (by omega) (fun j hj => by (by_cases z : j = i; (subst z; omega); exact hI j (by omega)))
            · have e4 : rf0 (rfS σ k p ps rk) = -4 := by rw [eS, refS_4 hnb (j := i) (by omega) (by omega)]; rfl
              refine i_bipush C dL_refusal_127 (kk := ?_)
              exact i_iret C (d := dL_refusal_129) (h := ⟨by rw [e4], hkX⟩)
        exact lp1 6 0 (by omega) (by omega) (fun j hj => absurd hj (Nat.not_lt_zero j))
      · have hz9 : (rsT (upT (sT σ) p ps) p).testBit p = true := by apply Decidable.byContradiction; intro z; rw [if_neg z] at hB74; exact absurd hB74 (by decide)
        have e3 : rf0 (rfS σ k p ps rk) = -3 := by rw [eS, refS_3 hz9]; rfl
        refine i_bipush C dL_refusal_77 (kk := ?_)
        exact i_iret C (d := dL_refusal_79) (h := ⟨by rw [e3], hkW⟩)
    · have e2 : rf0 (rfS σ k p ps rk) = -2 := by unfold rfS; rw [if_pos (by omega)]; rfl
      refine i_bipush C dL_refusal_63 (kk := ?_)
      exact i_iret C (d := dL_refusal_65) (h := ⟨by rw [e2], hkW⟩)
