theorem WkI.grow {D : gD} {w : wW} {τ ad : Nat → Nat} {nb tb q r : Nat} {σ : Sg} (h : WkI D w τ ad nb tb σ) (hq : w q = none) (X : va_E) (hr : 2260 ≤ r) : WkI D (wset w q X) (upz τ q r) ad nb tb σ := by
  have h2 : WkI D w (upz τ q r) ad nb tb σ := h.retag (ad' := ad) (fun y hy => upz_ne (fun e => hy (by rw [e]; exact hq))) (fun _ _ => rfl) (fun _ _ _ _ _ _ => rfl)
  exact h2.far (lo := r) (hi := r + 1) (offR.rf.put (by rw [upz_eq]; omega) (by rw [upz_eq]; omega)) hr
theorem LwR.start {fr : Nat → Int} (h : ∀ p, p < 5 → fr (12 * p) = 3) : LwR sg0 (fun _ => 0) (fun _ => 0) fr (fun _ => 0) := by
  refine ⟨fun p hp => ⟨rfl, Nat.zero_le _, rfl, fun x hx => ?_⟩, fun u hu => rfl, fun q _ _ => ⟨rfl, rfl, rfl⟩⟩
  have hx0 : x = 0 := Nat.le_zero.mp hx
  subst hx0
  exact ⟨Tx64.nil, rfl, h p hp⟩
set_option maxRecDepth 100000 in
set_option maxHeartbeats 4000000 in
theorem c_L_holds (l : Launch) (hl : l.stackTraces = false) (D : gD) {w : wW} (hL : D.2.2.2.2.2.1 ≤ 260) : CTm l D yL_holds cL_holds 8 (some .boolean) (rmL 14 130000 900000) [.ref D.2.2.2.2.1] w (fun u w1 => u = some (.int (Z32 1))) := by
  refine CTm_of hl false rfl (by rfl) (Nat.le_of_ble_eq_true rfl) (fun h => nomatch h) ?_
  intro G C
  show G 0 0 w [some (.ref D.2.2.2.2.1), none, none, none, none, none, none, none] 0 []
  refine i_new C nw_L_45 dL_holds_0 (kk := fun q0 nq0 => ?_)
  refine i_dup C dL_holds_3 (kk := ?_)
  refine i_callI C lk_L_174 (c_X6_init l hl D (hw := wset_eq)) (hst := rfl) dL_holds_4 (kk := fun v4 w4 g4 => ?_)
  obtain ⟨rfl, τ, ad, hW, e0, -⟩ := g4
  refine i_astore_n C dL_holds_7 (kk := ?_)
  refine i_bipush C dL_holds_8 (kk := ?_)
  refine i_newlong C (harr := ta_long) (N := 60) (d := dL_holds_10) (kk := fun q10 nq10 => ?_)
  refine i_astore_n C dL_holds_12 (kk := ?_)
  refine i_bipush C dL_holds_13 (kk := ?_)
  refine i_newint C (harr := ta_int) (N := 60) (d := dL_holds_15) (kk := fun q15 nq15 => ?_)
  refine i_astore_n C dL_holds_17 (kk := ?_)
  refine i_bipush C dL_holds_18 (kk := ?_)
  refine i_newint C (harr := ta_int) (N := 60) (d := dL_holds_20) (kk := fun q20 nq20 => ?_)
  refine i_astore C dL_holds_22 (kk := ?_)
  refine i_bipush C dL_holds_24 (kk := ?_)
  refine i_newint C (harr := ta_int) (N := 16) (d := dL_holds_26) (kk := fun q26 nq26 => ?_)
  have hG1 := hW.grow nq10 (lar D 60 (fun _ => 0)) (r := 5001) (by decide)
  have hG2 := hG1.grow nq15 (iar D 60 (fun _ => 0)) (r := 5002) (by decide)
  have hG3 := hG2.grow nq20 (iar D 60 (fun _ => 0)) (r := 5003) (by decide)
  have hG4 := hG3.grow nq26 (iar D 16 (fun _ => 0)) (r := 5004) (by decide)
  have y1 : q10 ≠ q15 := fun e => by rw [← e, wset_eq] at nq15; cases nq15
  have y2 : q15 ≠ q20 := fun e => by rw [← e, wset_eq] at nq20; cases nq20
  have y3 : q20 ≠ q26 := fun e => by rw [← e, wset_eq] at nq26; cases nq26
  have y4 : q10 ≠ q20 := fun e => by rw [← e, wset_ne y1, wset_eq] at nq20; cases nq20
  have y5 : q15 ≠ q26 := fun e => by rw [← e, wset_ne y2, wset_eq] at nq26; cases nq26
  have y6 : q10 ≠ q26 := fun e => by rw [← e, wset_ne y4, wset_ne y1, wset_eq] at nq26; cases nq26
  obtain ⟨W0, hW0⟩ : ∃ W0, W0 = wset (wset (wset (wset w4 q10 (lar D 60 (fun _ => 0))) q15 (iar D 60 (fun _ => 0))) q20 (iar D 60 (fun _ => 0))) q26 (iar D 16 (fun _ => 0)) := ⟨_, rfl⟩
  rw [← hW0] at hG4 ⊢
  have hL0 : LwS D W0 q0 q10 q15 q20 q26 sg0 (fun _ => 0) (fun _ => 0) (fun _ => 0) (fun _ => 0) := ⟨_, ad, 10, 20, hG4, e0, ⟨by rw [upz_ne y6, upz_ne y4, upz_ne y1, upz_eq], by rw [upz_ne y5, upz_ne y2, upz_eq], by rw [upz_ne y3, upz_eq], upz_eq⟩, by rw [hW0, wset_ne y6, wset_ne y4, wset_ne y1, wset_eq], by rw [hW0, wset_ne y5, wset_ne y2, wset_eq], by rw [hW0, wset_ne y3, wset_eq], by rw [hW0, wset_eq]⟩
  refine i_astore C dL_holds_28 (kk := ?_)
  refine i_iconst C dL_holds_30 (kk := ?_)
  refine i_istore C dL_holds_31 (kk := ?_)
  refine i_iconst C dL_holds_33 (kk := ?_)
  refine i_istore C dL_holds_34 (kk := ?_)
  have lp1 : ∀ (m i : Nat) (W : wW) (fr : Nat → Int), 5 + 1 ≤ m + i → i ≤ 5 → LwS D W q0 q10 q15 q20 q26 sg0 (fun _ => 0) (fun _ => 0) fr (fun _ => 0) → (∀ p, p < i → fr (12 * p) = 3) → G 175 7401 W [some (.ref D.2.2.2.2.1), some (.ref q0), some (.ref q10), some (.ref q15), some (.ref q20), some (.ref q26), some (.int (Z32 1)), some (.int (Z32 ((i : Int))))] 36 [] := by
    intro m
    induction m with
    | zero => intro i W fr h1 h2; omega
    | succ m ih =>
    intro i W fr h1 h2 hLS hfr
    refine i_iload C dL_holds_36 (kk := ?_)
    refine i_iconst C dL_holds_38 (kk := ?_)
    refine i_icmp_ge C dL_holds_39 (tgt := 57) (kt := fun hB39 => ?_) (kf := fun hB39 => ?_)
    · have e5 : i = 5 := by omega
      subst e5
      refine i_iconst C dL_holds_57 (kk := ?_)
      refine i_istore C dL_holds_58 (kk := ?_)
      have lp2 : ∀ (m i : Nat) (W : wW) (N K : Nat), 90 + 1 ≤ m + i → i ≤ 90 → N ≤ 500 + 80 * i + 4800 * (i / 5) + 3600 * (i / 15) → K ≤ 9000 + 700 * i + 28700 * (i / 5) + 30300 * (i / 15) → (∃ (σ : Sg) (ft : Nat → Int64) (fz fr fv : Nat → Int), LwS D W q0 q10 q15 q20 q26 σ ft fz fr fv ∧ LwR σ ft fz fr fv ∧ sDr σ = []) → G N K W [some (.ref D.2.2.2.2.1), some (.ref q0), some (.ref q10), some (.ref q15), some (.ref q20), some (.ref q26), some (.int (Z32 1)), some (.int (Z32 ((i : Int))))] 60 [] := by
        intro m
        induction m with
        | zero => intro i W N K h1 h2; omega
        | succ m ih2 =>
        intro i W N K h1 h2 hN hK hE
        refine i_iload C dL_holds_60 (kk := ?_)
        refine i_bipush C dL_holds_62 (kk := ?_)
        refine i_icmp_ge C dL_holds_64 (tgt := 183) (kt := fun hB64 => ?_) (kf := fun hB64 => ?_)
        · have e5 : i = 90 := by omega
          subst e5
          refine i_iload C dL_holds_183 (kk := ?_)
          refine i_if_eq C dL_holds_185 (tgt := 219) (kt := fun hB185 => ?_) (kf := fun hB185 => ?_)
          · exact absurd hB185 (by decide)
          · obtain ⟨σ, ft, fz, fr, fv, hLS, hR, hd⟩ := hE
            obtain ⟨k1, k2, k3, k4⟩ := hLS.arr
            refine i_aload_n C dL_holds_188 (kk := ?_)
            refine i_aload_n C dL_holds_189 (kk := ?_)
            refine i_aload_n C dL_holds_190 (kk := ?_)
            refine i_aload C dL_holds_191 (kk := ?_)
            refine i_aload C dL_holds_193 (kk := ?_)
            refine i_iconst C dL_holds_195 (kk := ?_)
            refine i_callS C lk_L_179 (c_L_arePages l hl D (h1 := k1) (h2 := k2) (h3 := k3) (h4 := k4) (hR := hR) (hX := hLS.x) (hg := by omega)) (hst := rfl) dL_holds_196 (hf := ⟨by show _ ≤ 130000; (try simp only [rmL]); omega, by show _ ≤ 900000; (try simp only [rmL]); omega⟩) (kk := fun v196 w196 g196 => ?_)
            obtain ⟨rfl, hk196⟩ := g196
            have hLSp := hLS.kept hk196
            obtain ⟨m1, m2, m3, m4⟩ := hLSp.arr
            refine i_if_eq C dL_holds_199 (tgt := 219) (kt := fun hB199 => ?_) (kf := fun hB199 => ?_)
            · exact absurd hB199 (by decide)
            · refine i_aload_n C dL_holds_202 (kk := ?_)
              refine i_aload_n C dL_holds_203 (kk := ?_)
              refine i_aload_n C dL_holds_204 (kk := ?_)
              refine i_aload C dL_holds_205 (kk := ?_)
              refine i_aload C dL_holds_207 (kk := ?_)
              refine i_callS C lk_L_183 (c_L_areLinks l hl D (h1 := m1) (h2 := m2) (h3 := m3) (h4 := m4) (hR := hR) (hX := hLSp.x)) (hst := rfl) dL_holds_209 (hf := ⟨by show _ ≤ 130000; (try simp only [rmL]); omega, by show _ ≤ 900000; (try simp only [rmL]); omega⟩) (kk := fun v209 w209 g209 => ?_)
              obtain ⟨rfl, hk209⟩ := g209
              refine i_if_eq C dL_holds_212 (tgt := 219) (kt := fun hB212 => ?_) (kf := fun hB212 => ?_)
              · exact absurd hB212 (by decide)
              · refine i_iconst C dL_holds_215 (kk := ?_)
                refine i_goto C dL_holds_216 (tgt := 220) (kk := ?_)
                exact i_zret C (d := dL_holds_220) (hn := by show _ ≤ 130000; (try simp only [rmL]); omega) (hk := by show _ ≤ 900000; (try simp only [rmL]); omega) (ha := Or.inr rfl) (h := rfl)
        · obtain ⟨σ, ft, fz, fr, fv, hLS, hR, hd⟩ := hE
          refine i_iload C dL_holds_67 (kk := ?_)
          refine i_if_eq C dL_holds_69 (tgt := 183) (kt := fun hB69 => ?_) (kf := fun hB69 => ?_)
          · exact absurd hB69 (by decide)
          · refine i_aload_n C dL_holds_72 (kk := ?_)
            refine i_aload_n C dL_holds_73 (kk := ?_)
            refine i_aload_n C dL_holds_74 (kk := ?_)
            refine i_aload C dL_holds_75 (kk := ?_)
            refine i_aload C dL_holds_77 (kk := ?_)
            refine i_aload_n C dL_holds_79 (kk := ?_)
            refine i_sipush C dL_holds_80 (kk := ?_)
            refine i_bipush C dL_holds_83 (kk := ?_)
            refine i_iload C dL_holds_85 (kk := ?_)
            refine i_imul C dL_holds_87 (kk := ?_)
            refine i_iadd C dL_holds_88 (kk := ?_)
            refine i_aload_n C dL_holds_89 (kk := ?_)
            refine i_iconst C dL_holds_90 (kk := ?_)
            refine i_iload C dL_holds_91 (kk := ?_)
            refine i_imul C dL_holds_93 (kk := ?_)
            refine i_bipush C dL_holds_94 (kk := ?_)
            refine i_callS C lk_L_141 (c_L_from l hl D hL (k := 2 * (i : Int)) (bl := 22) (by omega) (by omega) (by omega)) (hst := rfl) dL_holds_96 (hf := ⟨by show _ ≤ 130000; (try simp only [rmL]); omega, by show _ ≤ 900000; (try simp only [rmL]); omega⟩) (kk := fun v96 w96 g96 => ?_)
            obtain ⟨⟨wy, rfl, hwy⟩, q96⟩ := g96
            have q96 := q96.symm
            subst q96
            refine i_aload_n C dL_holds_99 (kk := ?_)
            refine i_iconst C dL_holds_100 (kk := ?_)
            refine i_iload C dL_holds_101 (kk := ?_)
            refine i_imul C dL_holds_103 (kk := ?_)
            refine i_iconst C dL_holds_104 (kk := ?_)
            refine i_iadd C dL_holds_105 (kk := ?_)
            refine i_ldc C k_L_175 dL_holds_106 (kk := ?_)
            refine i_callS C lk_L_141 (c_L_from l hl D hL (k := 2 * (i : Int) + 1) (bl := 1000000) (by omega) (by omega) (by omega)) (hst := rfl) dL_holds_108 (hf := ⟨by show _ ≤ 130000; (try simp only [rmL]); omega, by show _ ≤ 900000; (try simp only [rmL]); omega⟩) (kk := fun v108 w108 g108 => ?_)
            obtain ⟨⟨zi, rfl, hzi⟩, q108⟩ := g108
            have q108 := q108.symm
            subst q108
            refine i_callS C lk_L_176 (c_L_acts l hl D hL hLS hR hd (at0 := 300 + 13 * (i : Int)) (by omega) (by omega) (by omega)) (hst := rfl) dL_holds_111 (hf := ⟨by show _ ≤ 130000; (try simp only [rmL]); omega, by show _ ≤ 900000; (try simp only [rmL]); omega⟩) (kk := fun v111 w111 g111 => ?_)
            obtain ⟨rfl, hE2⟩ := g111
            obtain ⟨σ2, ft2, fz2, fr2, fv2, hLS2, hR2, hd2⟩ := hE2
            refine i_if_eq C dL_holds_114 (tgt := 174) (kt := fun hB114 => ?_) (kf := fun hB114 => ?_)
            · exact absurd hB114 (by decide)
            · refine i_iload C dL_holds_117 (kk := ?_)
              refine i_iconst C dL_holds_119 (kk := ?_)
              refine i_irem C dL_holds_120 (kk := ?_)
              refine i_iconst C dL_holds_121 (kk := ?_)
              have jA : ∀ (W3 : wW) (N3 K3 : Nat), LwS D W3 q0 q10 q15 q20 q26 σ2 ft2 fz2 fr2 fv2 → N3 ≤ 500 + 80 * (i + 1) + 4800 * ((i + 1) / 5) + 3600 * (i / 15) → K3 ≤ 9000 + 700 * (i + 1) + 28700 * ((i + 1) / 5) + 30300 * (i / 15) → G N3 K3 W3 [some (.ref D.2.2.2.2.1), some (.ref q0), some (.ref q10), some (.ref q15), some (.ref q20), some (.ref q26), some (.int (Z32 1)), some (.int (Z32 ((i : Int))))] 147 [] := by
                intro W3 N3 K3 hLS3 hN3 hK3
                refine i_iload C dL_holds_147 (kk := ?_)
                refine i_bipush C dL_holds_149 (kk := ?_)
                refine i_irem C dL_holds_151 (kk := ?_)
                refine i_bipush C dL_holds_152 (kk := ?_)
                have jB : ∀ (W4 : wW) (N4 K4 : Nat), LwS D W4 q0 q10 q15 q20 q26 σ2 ft2 fz2 fr2 fv2 → N4 ≤ 500 + 80 * (i + 1) + 4800 * ((i + 1) / 5) + 3600 * ((i + 1) / 15) → K4 ≤ 9000 + 700 * (i + 1) + 28700 * ((i + 1) / 5) + 30300 * ((i + 1) / 15) → G N4 K4 W4 [some (.ref D.2.2.2.2.1), some (.ref q0), some (.ref q10), some (.ref q15), some (.ref q20), some (.ref q26), some (.int (Z32 1)), some (.int (Z32 ((i : Int))))] 170 [] := by
                  intro W4 N4 K4 hLS4 hN4 hK4
                  refine i_iconst C dL_holds_170 (kk := ?_)
                  refine i_goto C dL_holds_171 (tgt := 175) (kk := ?_)
                  refine i_istore C dL_holds_175 (kk := ?_)
                  refine i_iinc C dL_holds_177 (kk := ?_)
                  rw [show (i : Int) + 1 = ((i + 1 : Nat) : Int) by omega]
                  refine i_goto C dL_holds_180 (tgt := 60) (kk := ?_)
                  exact ih2 (i + 1) _ _ _ (by omega) (by omega) hN4 hK4 ⟨σ2, ft2, fz2, fr2, fv2, hLS4, hR2, hd2⟩
                refine i_icmp_lt C dL_holds_154 (tgt := 170) (kt := fun hB154 => ?_) (kf := fun hB154 => ?_)
                · first | exact jB _ _ _ hLS3 (by (try simp only [rmL]); omega) (by (try simp only [rmL]); omega) | exact jB _ _ _ hLSl (by (try simp only [rmL]); omega) (by (try simp only [rmL]); omega)
                · refine i_aload_n C dL_holds_157 (kk := ?_)
                  refine i_aload_n C dL_holds_158 (kk := ?_)
                  refine i_aload_n C dL_holds_159 (kk := ?_)
                  refine i_aload C dL_holds_160 (kk := ?_)
                  refine i_aload C dL_holds_162 (kk := ?_)
                  obtain ⟨k1, k2, k3, k4⟩ := hLS3.arr
                  refine i_callS C lk_L_183 (c_L_areLinks l hl D (h1 := k1) (h2 := k2) (h3 := k3) (h4 := k4) (hR := hR2) (hX := hLS3.x)) (hst := rfl) dL_holds_164 (hf := ⟨by show _ ≤ 130000; (try simp only [rmL]); omega, by show _ ≤ 900000; (try simp only [rmL]); omega⟩) (kk := fun v164 w164 g164 => ?_)
                  obtain ⟨rfl, hk164⟩ := g164
                  have hLSl := hLS3.kept hk164
                  refine i_if_eq C dL_holds_167 (tgt := 174) (kt := fun hB167 => ?_) (kf := fun hB167 => ?_)
                  · exact absurd hB167 (by decide)
                  · first | exact jB _ _ _ hLS3 (by (try simp only [rmL]); omega) (by (try simp only [rmL]); omega) | exact jB _ _ _ hLSl (by (try simp only [rmL]); omega) (by (try simp only [rmL]); omega)
              refine i_icmp_lt C dL_holds_122 (tgt := 147) (kt := fun hB122 => ?_) (kf := fun hB122 => ?_)
              · first | exact jA _ _ _ hLS2 (by (try simp only [rmL]); omega) (by (try simp only [rmL]); omega) | exact jA _ _ _ hLSp (by (try simp only [rmL]); omega) (by (try simp only [rmL]); omega)
              · refine i_aload_n C dL_holds_125 (kk := ?_)
                refine i_aload_n C dL_holds_126 (kk := ?_)
                refine i_aload_n C dL_holds_127 (kk := ?_)
                refine i_aload C dL_holds_128 (kk := ?_)
                refine i_aload C dL_holds_130 (kk := ?_)
                refine i_iload C dL_holds_132 (kk := ?_)
                refine i_bipush C dL_holds_134 (kk := ?_)
                refine i_irem C dL_holds_136 (kk := ?_)
                refine i_iconst C dL_holds_137 (kk := ?_)
                refine i_idiv C dL_holds_138 (kk := ?_)
                refine i_iconst C dL_holds_139 (kk := ?_)
                refine i_isub C dL_holds_140 (kk := ?_)
                obtain ⟨k1, k2, k3, k4⟩ := hLS2.arr
                refine i_callS C lk_L_179 (c_L_arePages l hl D (h1 := k1) (h2 := k2) (h3 := k3) (h4 := k4) (hR := hR2) (hX := hLS2.x) (hg := by omega)) (hst := rfl) dL_holds_141 (hf := ⟨by show _ ≤ 130000; (try simp only [rmL]); omega, by show _ ≤ 900000; (try simp only [rmL]); omega⟩) (kk := fun v141 w141 g141 => ?_)
                obtain ⟨rfl, hk141⟩ := g141
                have hLSp := hLS2.kept hk141
                refine i_if_eq C dL_holds_144 (tgt := 174) (kt := fun hB144 => ?_) (kf := fun hB144 => ?_)
                · exact absurd hB144 (by decide)
                · first | exact jA _ _ _ hLS2 (by (try simp only [rmL]); omega) (by (try simp only [rmL]); omega) | exact jA _ _ _ hLSp (by (try simp only [rmL]); omega) (by (try simp only [rmL]); omega)
      exact lp2 91 0 _ _ _ (by omega) (by omega) (by decide) (by decide) ⟨sg0, _, _, _, _, hLS, LwR.start hfr, rfl⟩
    · refine i_aload C dL_holds_42 (kk := ?_)
      refine i_bipush C dL_holds_44 (kk := ?_)
      refine i_iload C dL_holds_46 (kk := ?_)
      refine i_imul C dL_holds_48 (kk := ?_)
      refine i_iconst C dL_holds_49 (kk := ?_)
      rw [show (12 : Int) * (i : Int) = ((12 * i : Nat) : Int) by omega]
      refine i_iastore C dL_holds_50 (hw := hLS.arr.2.2.1) (kk := ?_)
      rw [Int.toNat_natCast]
      have hLS2 := hLS.put3 (fr2 := upz fr (12 * i) 3)
      refine i_iinc C dL_holds_51 (kk := ?_)
      refine i_goto C dL_holds_54 (tgt := 36) (kk := ?_)
      exact ih (i + 1) _ _ (by omega) (by omega) hLS2 (fun p hp => by by_cases z : p = i; (subst z; rw [upz_eq]); (rw [upz_ne (by omega)]; exact hfr p (by omega)))
  exact lp1 6 0 _ _ (by omega) (by omega) hL0 (fun p hp => absurd hp (Nat.not_lt_zero p))

set_option maxRecDepth 100000 in
set_option maxHeartbeats 4000000 in
theorem c_L_isHeld (l : Launch) (hl : l.stackTraces = false) (D : gD) {w : wW} (hL : D.2.2.2.2.2.1 ≤ 260) : CTh l D yL_isHeld cL_isHeld 2 (some .boolean) [(0, 4, 5, 191), (0, 4, 8, 193), (0, 4, 11, 139), (0, 4, 14, 50)] (rmL 15 130000 900000) [.ref D.2.2.2.2.1] w (fun u w1 => u = some (.int (Z32 1))) := by
  refine CTh_of hl rfl (by rfl) (Nat.le_of_ble_eq_true rfl) ?_
  intro G C
  show G 0 0 w [some (.ref D.2.2.2.2.1), none] 0 []
  refine i_aload_n C dL_isHeld_0 (kk := ?_)
  refine i_callS C lk_L_187 (c_L_holds l hl D hL) (hst := rfl) dL_isHeld_1 (kk := fun v1 w1 g1 => ?_)
  subst g1
  exact i_zret C (d := dL_isHeld_4) (ha := Or.inr rfl) (h := rfl)
set_option maxRecDepth 100000 in
set_option maxHeartbeats 4000000 in
theorem law_start {l : Launch} (hl : l.stackTraces = false) {D : gD} {G : gG} (C : Cx l D RL cL_law 1 room_1 (some .boolean) false none (fun v _ => v = some (.int 1)) (fun _ _ => False) G) (hL : D.2.2.2.2.2.1 ≤ 260) : G 0 0 (fun _ => none) [some (.ref D.2.2.2.2.1)] 0 [] := by
  refine i_aload_n C dL_law_0 (kk := ?_)
  refine i_callSH C lk_L_195 (c_L_isHeld l hl D hL) (hst := rfl) dL_law_1 (kk := fun v1 w1 g1 => ?_)
  subst g1
  exact i_zret C (d := dL_law_4) (ha := Or.inr rfl) (h := rfl)
