/-- the law's arrays in the world -/
def LwA (D : gD) (w : wW) (τ : Nat → Nat) (a1 a2 a3 a4 : Nat) (ft : Nat → Int64) (fz fr fv : Nat → Int) : Prop := (τ a1 = 5001 ∧ τ a2 = 5002 ∧ τ a3 = 5003 ∧ τ a4 = 5004) ∧ w a1 = some (lar D 60 ft) ∧ w a2 = some (iar D 60 fz) ∧ w a3 = some (iar D 60 fr) ∧ w a4 = some (iar D 16 fv)
def LwS (D : gD) (w : wW) (x0 a1 a2 a3 a4 : Nat) (σ : Sg) (ft : Nat → Int64) (fz fr fv : Nat → Int) : Prop := ∃ (τ ad : Nat → Nat) (nb tb : Nat), WkI D w τ ad nb tb σ ∧ ad 0 = x0 ∧ LwA D w τ a1 a2 a3 a4 ft fz fr fv
section LSS
variable {D : gD} {w w1 : wW} {τ τ2 ad : Nat → Nat} {x0 a1 a2 a3 a4 nb tb : Nat} {σ : Sg} {ft ft2 : Nat → Int64} {fz fr fv fz2 fr2 fv2 : Nat → Int}
theorem LwA.off (h : LwA D w τ a1 a2 a3 a4 ft fz fr fv) (ho : offR τ w w1 0 5000) : LwA D w1 τ a1 a2 a3 a4 ft fz fr fv := by
  obtain ⟨⟨t1, t2, t3, t4⟩, k1, k2, k3, k4⟩ := h
  exact ⟨⟨t1, t2, t3, t4⟩, by rw [ho _ (by omega)]; exact k1, by rw [ho _ (by omega)]; exact k2, by rw [ho _ (by omega)]; exact k3, by rw [ho _ (by omega)]; exact k4⟩
theorem LwA.ret (h : LwA D w τ a1 a2 a3 a4 ft fz fr fv) (hk : ∀ q, w q ≠ none → 5000 ≤ τ q → τ2 q = τ q ∧ w1 q = w q) : LwA D w1 τ2 a1 a2 a3 a4 ft fz fr fv := by
  obtain ⟨⟨t1, t2, t3, t4⟩, k1, k2, k3, k4⟩ := h
  have g1 := hk a1 (by rw [k1]; exact nofun) (by omega)
  have g2 := hk a2 (by rw [k2]; exact nofun) (by omega)
  have g3 := hk a3 (by rw [k3]; exact nofun) (by omega)
  have g4 := hk a4 (by rw [k4]; exact nofun) (by omega)
  exact ⟨⟨by rw [g1.1]; exact t1, by rw [g2.1]; exact t2, by rw [g3.1]; exact t3, by rw [g4.1]; exact t4⟩, by rw [g1.2]; exact k1, by rw [g2.2]; exact k2, by rw [g3.2]; exact k3, by rw [g4.2]; exact k4⟩
theorem LwS.x (h : LwS D w x0 a1 a2 a3 a4 σ ft fz fr fv) : WkX D w x0 σ := by
  obtain ⟨τ, ad, nb, tb, h, e, -⟩ := h
  exact ⟨τ, ad, nb, tb, h, e⟩
theorem LwS.arr (h : LwS D w x0 a1 a2 a3 a4 σ ft fz fr fv) : w a1 = some (lar D 60 ft) ∧ w a2 = some (iar D 60 fz) ∧ w a3 = some (iar D 60 fr) ∧ w a4 = some (iar D 16 fv) := by
  obtain ⟨τ, ad, nb, tb, -, -, h⟩ := h
  exact h.2
theorem LwS.kept (h : LwS D w x0 a1 a2 a3 a4 σ ft fz fr fv) (hk : kW w w1) : LwS D w1 x0 a1 a2 a3 a4 σ ft fz fr fv := by
  obtain ⟨τ, ad, nb, tb, h, e, hA⟩ := h
  have hτ : ∀ q, w q ≠ none → (fun q => match w q with | none => 6000 | some _ => τ q) q = τ q := fun q hq => by
    cases hw : w q with
    | none => exact absurd hw hq
    | some y => simp only [hw]
  have h2 : WkI D w (fun q => match w q with | none => 6000 | some _ => τ q) ad nb tb σ := h.retag (ad' := ad) hτ (fun _ _ => rfl) (fun _ _ _ _ _ _ => rfl)
  refine ⟨_, ad, nb, tb, h2.far (w1 := w1) (lo := 6000) (hi := 6001) (fun q hq => hk q (fun hn => ?_)) (by decide), e, hA.ret (fun q hq _ => ⟨hτ q hq, hk q hq⟩)⟩
  simp only [hn] at hq
  omega
theorem LwS.put1 (h : LwS D w x0 a1 a2 a3 a4 σ ft fz fr fv) : LwS D (wset w a1 (lar D 60 ft2)) x0 a1 a2 a3 a4 σ ft2 fz fr fv := by
  obtain ⟨τ, ad, nb, tb, h, e, ⟨t1, t2, t3, t4⟩, k1, k2, k3, k4⟩ := h
  exact ⟨τ, ad, nb, tb, h.far (offR.rf.put (lo := 5001) (hi := 5002) (by omega) (by omega)) (by decide), e, ⟨t1, t2, t3, t4⟩, wset_eq, by rw [wset_ne (tne (τ := τ) (by omega))]; exact k2, by rw [wset_ne (tne (τ := τ) (by omega))]; exact k3, by rw [wset_ne (tne (τ := τ) (by omega))]; exact k4⟩
theorem LwS.put2 (h : LwS D w x0 a1 a2 a3 a4 σ ft fz fr fv) : LwS D (wset w a2 (iar D 60 fz2)) x0 a1 a2 a3 a4 σ ft fz2 fr fv := by
  obtain ⟨τ, ad, nb, tb, h, e, ⟨t1, t2, t3, t4⟩, k1, k2, k3, k4⟩ := h
  exact ⟨τ, ad, nb, tb, h.far (offR.rf.put (lo := 5002) (hi := 5003) (by omega) (by omega)) (by decide), e, ⟨t1, t2, t3, t4⟩, by rw [wset_ne (tne (τ := τ) (by omega))]; exact k1, wset_eq, by rw [wset_ne (tne (τ := τ) (by omega))]; exact k3, by rw [wset_ne (tne (τ := τ) (by omega))]; exact k4⟩
theorem LwS.put3 (h : LwS D w x0 a1 a2 a3 a4 σ ft fz fr fv) : LwS D (wset w a3 (iar D 60 fr2)) x0 a1 a2 a3 a4 σ ft fz fr2 fv := by
  obtain ⟨τ, ad, nb, tb, h, e, ⟨t1, t2, t3, t4⟩, k1, k2, k3, k4⟩ := h
  exact ⟨τ, ad, nb, tb, h.far (offR.rf.put (lo := 5003) (hi := 5004) (by omega) (by omega)) (by decide), e, ⟨t1, t2, t3, t4⟩, by rw [wset_ne (tne (τ := τ) (by omega))]; exact k1, by rw [wset_ne (tne (τ := τ) (by omega))]; exact k2, wset_eq, by rw [wset_ne (tne (τ := τ) (by omega))]; exact k4⟩
theorem LwS.put4 (h : LwS D w x0 a1 a2 a3 a4 σ ft fz fr fv) : LwS D (wset w a4 (iar D 16 fv2)) x0 a1 a2 a3 a4 σ ft fz fr fv2 := by
  obtain ⟨τ, ad, nb, tb, h, e, ⟨t1, t2, t3, t4⟩, k1, k2, k3, k4⟩ := h
  exact ⟨τ, ad, nb, tb, h.far (offR.rf.put (lo := 5004) (hi := 5005) (by omega) (by omega)) (by decide), e, ⟨t1, t2, t3, t4⟩, by rw [wset_ne (tne (τ := τ) (by omega))]; exact k1, by rw [wset_ne (tne (τ := τ) (by omega))]; exact k2, by rw [wset_ne (tne (τ := τ) (by omega))]; exact k3, wset_eq⟩
end LSS
set_option maxRecDepth 100000 in
set_option maxHeartbeats 4000000 in
theorem c_L_added (l : Launch) (hl : l.stackTraces = false) (D : gD) {w : wW} {x0 a1 a2 a3 a4 c n : Nat} {σ : Sg} {ft : Nat → Int64} {fz fr fv : Nat → Int} (hX : LwS D w x0 a1 a2 a3 a4 σ ft fz fr fv) (hc : c < 50) (hln : (sDr σ).length = n) (hn : n < 30) (how : c = 32 → 0 < owc (sDr σ)) : CTm l D yL_added cL_added 2 (some .int) (rmL 9 3 18) [.ref x0, .int (Z32 (c : Int))] w (fun u w1 => u = some (.int (Z32 ((n + 1 : Nat) : Int))) ∧ LwS D w1 x0 a1 a2 a3 a4 (uDr σ (sDr σ ++ [dc6 c])) ft fz fr fv) := by
  refine CTm_of hl false rfl (by rfl) (Nat.le_of_ble_eq_true rfl) (fun h => nomatch h) ?_
  intro G C
  show G 0 0 w [some (.ref x0), some (.int (Z32 (c : Int)))] 0 []
  obtain ⟨τ, ad, nb, tb, hW, rfl, hA⟩ := hX
  refine i_iload_n C dL_added_0 (kk := ?_)
  refine i_iconst C dL_added_1 (kk := ?_)
  refine i_icmp_ge C dL_added_2 (tgt := 13) (kt := fun hB2 => ?_) (kf := fun hB2 => ?_)
  · refine i_iload_n C dL_added_13 (kk := ?_)
    refine i_iconst C dL_added_14 (kk := ?_)
    refine i_icmp_ne C dL_added_15 (tgt := 25) (kt := fun hB15 => ?_) (kf := fun hB15 => ?_)
    · refine i_iload_n C dL_added_25 (kk := ?_)
      refine i_bipush C dL_added_26 (kk := ?_)
      refine i_icmp_ge C dL_added_28 (tgt := 61) (kt := fun hB28 => ?_) (kf := fun hB28 => ?_)
      · refine i_iload_n C dL_added_61 (kk := ?_)
        refine i_bipush C dL_added_62 (kk := ?_)
        refine i_icmp_ge C dL_added_64 (tgt := 78) (kt := fun hB64 => ?_) (kf := fun hB64 => ?_)
        · refine i_iload_n C dL_added_78 (kk := ?_)
          refine i_bipush C dL_added_79 (kk := ?_)
          refine i_icmp_ge C dL_added_81 (tgt := 95) (kt := fun hB81 => ?_) (kf := fun hB81 => ?_)
          · refine i_iload_n C dL_added_95 (kk := ?_)
            refine i_bipush C dL_added_96 (kk := ?_)
            refine i_icmp_ne C dL_added_98 (tgt := 108) (kt := fun hB98 => ?_) (kf := fun hB98 => ?_)
            · refine i_iload_n C dL_added_108 (kk := ?_)
              refine i_bipush C dL_added_109 (kk := ?_)
              refine i_icmp_ge C dL_added_111 (tgt := 125) (kt := fun hB111 => ?_) (kf := fun hB111 => ?_)
              · refine i_iload_n C dL_added_125 (kk := ?_)
                refine i_bipush C dL_added_126 (kk := ?_)
                refine i_icmp_ge C dL_added_128 (tgt := 150) (kt := fun hB128 => ?_) (kf := fun hB128 => ?_)
                · refine i_aload_n C dL_added_150 (kk := ?_)
                  refine i_iload_n C dL_added_151 (kk := ?_)
                  refine i_bipush C dL_added_152 (kk := ?_)
                  refine i_isub C dL_added_154 (kk := ?_)
                  obtain ⟨u, hu⟩ : ∃ u : Nat, u = c - 45 := ⟨_, rfl⟩
                  rw [show (c : Int) - 45 = (u : Int) by omega]
                  have hdc : dc6 c = (8, (u : Int), -1) := by rw [dc6_8 (by omega), ← hu]
                  refine i_callVF C lk_L_133 (c_X6_redirect l hl D (hW := hW) (p := (u : Int))) (hcl := rfl) (hst := rfl) dL_added_155 (hw := hW.obj) (hxx := fun E w1 h => by (obtain ⟨h, -⟩ := h; rcases h with ⟨-, h⟩ | ⟨-, -, h⟩ <;> exact h (by omega))) (kk := fun v155 w155 g155 => ?_)
                  obtain ⟨-, -, rfl, kW9, kO⟩ := g155
                  rw [← hdc] at kW9
                  
                  exact i_iret C (d := dL_added_158) (h := ⟨by rw [hln], τ, ad, nb, tb, kW9, rfl, hA.off kO⟩)
                · refine i_aload_n C dL_added_131 (kk := ?_)
                  refine i_iload_n C dL_added_132 (kk := ?_)
                  refine i_bipush C dL_added_133 (kk := ?_)
                  refine i_isub C dL_added_135 (kk := ?_)
                  refine i_iconst C dL_added_136 (kk := ?_)
                  refine i_idiv C dL_added_137 (kk := ?_)
                  refine i_iload_n C dL_added_138 (kk := ?_)
                  refine i_bipush C dL_added_139 (kk := ?_)
                  refine i_isub C dL_added_141 (kk := ?_)
                  refine i_iconst C dL_added_142 (kk := ?_)
                  refine i_irem C dL_added_143 (kk := ?_)
                  obtain ⟨u, hu⟩ : ∃ u : Nat, u = (c - 35) / 2 := ⟨_, rfl⟩
                  obtain ⟨v, hv⟩ : ∃ v : Nat, v = (c - 35) % 2 := ⟨_, rfl⟩
                  rw [show ((c : Int) - 35) / 2 = (u : Int) by omega, show ((c : Int) - 35) % 2 = (v : Int) by omega]
                  have hdc : dc6 c = (2, (u : Int), (v : Int)) := by rw [dc6_2 (by omega) (by omega), ← hu, ← hv]
                  refine i_callVF C lk_L_130 (c_X6_link l hl D (hW := hW) (p := (u : Int)) (q := (v : Int))) (hcl := rfl) (hst := rfl) dL_added_144 (hw := hW.obj) (hxx := fun E w1 h => by (obtain ⟨h, -⟩ := h; rcases h with ⟨-, h⟩ | ⟨-, -, h⟩ | ⟨-, -, -, h⟩ <;> exact h (by omega))) (kk := fun v144 w144 g144 => ?_)
                  obtain ⟨-, -, -, rfl, kW9, kO⟩ := g144
                  rw [← hdc] at kW9
                  
                  refine i_goto C dL_added_147 (tgt := 158) (kk := ?_)
                  exact i_iret C (d := dL_added_158) (h := ⟨by rw [hln], τ, ad, nb, tb, kW9, rfl, hA.off kO⟩)
              · refine i_aload_n C dL_added_114 (kk := ?_)
                refine i_iload_n C dL_added_115 (kk := ?_)
                refine i_bipush C dL_added_116 (kk := ?_)
                refine i_isub C dL_added_118 (kk := ?_)
                obtain ⟨u, hu⟩ : ∃ u : Nat, u = c - 33 := ⟨_, rfl⟩
                rw [show (c : Int) - 33 = (u : Int) by omega]
                have hdc : dc6 c = (1, -1, (u : Int)) := by rw [dc6_1 (by omega) (by omega), ← hu]
                refine i_callVF C lk_L_127 (c_X6_anchor l hl D (hW := hW) (p := (u : Int))) (hcl := rfl) (hst := rfl) dL_added_119 (hw := hW.obj) (hxx := fun E w1 h => by (obtain ⟨h, -⟩ := h; rcases h with ⟨-, h⟩ | ⟨-, -, h⟩ <;> exact h (by omega))) (kk := fun v119 w119 g119 => ?_)
                obtain ⟨-, -, rfl, kW9, kO⟩ := g119
                rw [← hdc] at kW9
                
                refine i_goto C dL_added_122 (tgt := 158) (kk := ?_)
                exact i_iret C (d := dL_added_158) (h := ⟨by rw [hln], τ, ad, nb, tb, kW9, rfl, hA.off kO⟩)
            · refine i_aload_n C dL_added_101 (kk := ?_)
              refine i_callVF C lk_L_124 (c_X6_end l hl D (hW := hW)) (hcl := rfl) (hst := rfl) dL_added_102 (hw := hW.obj) (hxx := fun E w1 h => h.2.1 ⟨how (by omega), by omega⟩) (kk := fun v102 w102 g102 => ?_)
              obtain ⟨-, -, rfl, kW9, kO⟩ := g102
              rw [← dc6_7] at kW9
              have ec : c = 32 := by omega
              subst ec
              refine i_goto C dL_added_105 (tgt := 158) (kk := ?_)
              exact i_iret C (d := dL_added_158) (h := ⟨by rw [hln], τ, ad, nb, tb, kW9, rfl, hA.off kO⟩)
          · refine i_aload_n C dL_added_84 (kk := ?_)
            refine i_iload_n C dL_added_85 (kk := ?_)
            refine i_bipush C dL_added_86 (kk := ?_)
            refine i_isub C dL_added_88 (kk := ?_)
            obtain ⟨u, hu⟩ : ∃ u : Nat, u = c - 29 := ⟨_, rfl⟩
            rw [show (c : Int) - 29 = (u : Int) by omega]
            have hdc : dc6 c = (6, -1, (u : Int)) := by rw [dc6_6 (by omega) (by omega), ← hu]
            refine i_callVF C lk_L_121 (c_X6_when l hl D (hW := hW) (p := (u : Int))) (hcl := rfl) (hst := rfl) dL_added_89 (hw := hW.obj) (hxx := fun E w1 h => by (obtain ⟨h, -⟩ := h; rcases h with ⟨-, h⟩ | ⟨-, -, h⟩ <;> exact h (by omega))) (kk := fun v89 w89 g89 => ?_)
            obtain ⟨-, -, rfl, kW9, kO⟩ := g89
            rw [← hdc] at kW9
            
            refine i_goto C dL_added_92 (tgt := 158) (kk := ?_)
            exact i_iret C (d := dL_added_158) (h := ⟨by rw [hln], τ, ad, nb, tb, kW9, rfl, hA.off kO⟩)
        · refine i_aload_n C dL_added_67 (kk := ?_)
          refine i_iload_n C dL_added_68 (kk := ?_)
          refine i_bipush C dL_added_69 (kk := ?_)
          refine i_isub C dL_added_71 (kk := ?_)
          obtain ⟨u, hu⟩ : ∃ u : Nat, u = c - 24 := ⟨_, rfl⟩
          rw [show (c : Int) - 24 = (u : Int) by omega]
          have hdc : dc6 c = (5, (u : Int), -1) := by rw [dc6_5 (by omega) (by omega), ← hu]
          refine i_callVF C lk_L_118 (c_X6_callOn l hl D (hW := hW) (p := (u : Int))) (hcl := rfl) (hst := rfl) dL_added_72 (hw := hW.obj) (hxx := fun E w1 h => by (obtain ⟨h, -⟩ := h; rcases h with ⟨-, h⟩ | ⟨-, -, h⟩ <;> exact h (by omega))) (kk := fun v72 w72 g72 => ?_)
          obtain ⟨-, -, rfl, kW9, kO⟩ := g72
          rw [← hdc] at kW9
          
          refine i_goto C dL_added_75 (tgt := 158) (kk := ?_)
          exact i_iret C (d := dL_added_158) (h := ⟨by rw [hln], τ, ad, nb, tb, kW9, rfl, hA.off kO⟩)
      · refine i_aload_n C dL_added_31 (kk := ?_)
        refine i_iload_n C dL_added_32 (kk := ?_)
        refine i_iconst C dL_added_33 (kk := ?_)
        refine i_isub C dL_added_34 (kk := ?_)
        refine i_iconst C dL_added_35 (kk := ?_)
        refine i_idiv C dL_added_36 (kk := ?_)
        refine i_iload_n C dL_added_37 (kk := ?_)
        refine i_iconst C dL_added_38 (kk := ?_)
        refine i_isub C dL_added_39 (kk := ?_)
        refine i_iconst C dL_added_40 (kk := ?_)
        refine i_irem C dL_added_41 (kk := ?_)
        refine i_iconst C dL_added_42 (kk := ?_)
        obtain ⟨u, hu⟩ : ∃ u : Nat, u = (c - 4) / 4 := ⟨_, rfl⟩
        rw [show ((c : Int) - 4) / 4 = (u : Int) by omega]
        have jC : ∀ z : Int, (-1 ≤ z ∧ z ≤ 2) → z = (if (c - 4) % 4 = 3 then -1 else (((c - 4) % 4 : Nat) : Int)) → G 0 0 w [some (.ref (ad 0)), some (.int (Z32 (c : Int)))] 55 [.int (Z32 z), .int (Z32 (u : Int)), .ref (ad 0)] := by
          intro z hz1 hz2
          refine i_callVF C lk_L_115 (c_X6_call l hl D (hW := hW) (p := (u : Int)) (q := z)) (hcl := rfl) (hst := rfl) dL_added_55 (hw := hW.obj) (hxx := fun E w1 h => by (obtain ⟨h, -⟩ := h; rcases h with ⟨-, h⟩ | ⟨-, -, h⟩ | ⟨-, -, -, h⟩ <;> exact h (by omega))) (kk := fun v55 w55 g55 => ?_)
          have hdc : dc6 c = (4, (u : Int), z) := by rw [dc6_4 (by omega) (by omega), ← hu, ← hz2]
          obtain ⟨-, -, -, rfl, kW9, kO⟩ := g55
          rw [← hdc] at kW9
          
          refine i_goto C dL_added_58 (tgt := 158) (kk := ?_)
          exact i_iret C (d := dL_added_158) (h := ⟨by rw [hln], τ, ad, nb, tb, kW9, rfl, hA.off kO⟩)
        refine i_icmp_ne C dL_added_43 (tgt := 50) (kt := fun hB43 => ?_) (kf := fun hB43 => ?_)
        · refine i_iload_n C dL_added_50 (kk := ?_)
          refine i_iconst C dL_added_51 (kk := ?_)
          refine i_isub C dL_added_52 (kk := ?_)
          refine i_iconst C dL_added_53 (kk := ?_)
          refine i_irem C dL_added_54 (kk := ?_)
          exact jC _ (by omega) (by first | (rw [if_pos (by omega)]; done) | (rw [if_neg (by omega)]; omega))
        · refine i_iconst C dL_added_46 (kk := ?_)
          refine i_goto C dL_added_47 (tgt := 55) (kk := ?_)
          exact jC _ (by omega) (by first | (rw [if_pos (by omega)]; done) | (rw [if_neg (by omega)]; omega))
    · refine i_aload_n C dL_added_18 (kk := ?_)
      refine i_callVF C lk_L_112 (c_X6_argument l hl D (hW := hW)) (hcl := rfl) (hst := rfl) dL_added_19 (hw := hW.obj) (hxx := fun E w1 h => by (obtain ⟨⟨-, h⟩, -⟩ := h; exact h (by omega))) (kk := fun v19 w19 g19 => ?_)
      obtain ⟨-, rfl, kW9, kO⟩ := g19
      rw [← dc6_3] at kW9
      have ec : c = 3 := by omega
      subst ec
      refine i_goto C dL_added_22 (tgt := 158) (kk := ?_)
      exact i_iret C (d := dL_added_158) (h := ⟨by rw [hln], τ, ad, nb, tb, kW9, rfl, hA.off kO⟩)
  · refine i_aload_n C dL_added_5 (kk := ?_)
    refine i_iload_n C dL_added_6 (kk := ?_)
    refine i_callVF C lk_L_109 (c_X6_letter l hl D (hW := hW) (p := (c : Int))) (hcl := rfl) (hst := rfl) dL_added_7 (hw := hW.obj) (hxx := fun E w1 h => by (obtain ⟨h, -⟩ := h; rcases h with ⟨-, h⟩ | ⟨-, -, h⟩ <;> exact h (by omega))) (kk := fun v7 w7 g7 => ?_)
    obtain ⟨-, -, rfl, kW9, kO⟩ := g7
    rw [← (dc6_0 (c := c) (by omega))] at kW9
    
    refine i_goto C dL_added_10 (tgt := 158) (kk := ?_)
    exact i_iret C (d := dL_added_158) (h := ⟨by rw [hln], τ, ad, nb, tb, kW9, rfl, hA.off kO⟩)

def unR (σ : Sg) (k p : Nat) : Int := if sNv σ p = 0 then -9 else if unS σ k p = -1 then ((sNv σ p - 1 : Nat) : Int) else unS σ k p
def unT (σ : Sg) (k p : Nat) : Sg := if sNv σ p = 0 then σ else if unS σ k p = -1 then uVn σ p (sNv σ p - 1) else σ
set_option maxRecDepth 100000 in
set_option maxHeartbeats 4000000 in
theorem c_L_undone (l : Launch) (hl : l.stackTraces = false) (D : gD) {w : wW} {x0 a1 a2 a3 a4 k p : Nat} {σ : Sg} {ft : Nat → Int64} {fz fr fv : Nat → Int} (hX : LwS D w x0 a1 a2 a3 a4 σ ft fz fr fv) (hk : k < 6) (hp : p < 5) : CTh l D yL_undone cL_undone 4 (some .int) [(0, 6, 7, 139)] (rmL 9 3 24) [.ref x0, .int (Z32 (k : Int)), .int (Z32 (p : Int))] w (fun u w1 => u = some (.int (Z32 (unR σ k p))) ∧ LwS D w1 x0 a1 a2 a3 a4 (unT σ k p) ft fz fr fv) := by
  obtain ⟨τ, ad, nb, tb, hW, rfl, hA⟩ := hX
  refine CTh_of hl rfl (by rfl) (Nat.le_of_ble_eq_true rfl) ?_
  intro G C
  show G 0 0 w [some (.ref (ad 0)), some (.int (Z32 (k : Int))), some (.int (Z32 (p : Int))), none] 0 []
  refine i_aload_n C dL_undone_0 (kk := ?_)
  refine i_iload_n C dL_undone_1 (kk := ?_)
  refine i_iload_n C dL_undone_2 (kk := ?_)
  refine i_callVC C lk_L_136 (c_X6_undo l hl D (hW := hW) (i0 := (k : Int)) (i := (p : Int))) (hcl := rfl) (hst := rfl) dL_undone_3 (hw := hW.obj) (hxx := fun E w1 H9 => ?_) (kk := fun v3 w3 g3 => ?_)
  · obtain ⟨H9, hw⟩ := H9
    have hw := hw.symm
    subst hw
    rcases H9 with ⟨-, h9⟩ | ⟨rfl, k9, p9, hk9, e8, hp9, e9, h9⟩
    · exact absurd ⟨by omega, by omega, by omega⟩ h9
    · have e7 : p = p9 := by omega
      subst e7
      have eR : unR σ k p = -9 := if_pos h9
      have eT : unT σ k p = σ := if_pos h9
      refine ⟨7, ⟨[], [], (0, 6, 7, 139), rfl, (fun z hz => nomatch hz), by decide, by decide, rfl, xl_139, xc_139⟩, fun q => ?_⟩
      refine i_astore_n C dL_undone_7 (kk := ?_)
      refine i_bipush C dL_undone_8 (kk := ?_)
      exact i_iret C (d := dL_undone_10) (h := ⟨by rw [eR], by rw [eT]; exact ⟨τ, ad, nb, tb, hW, rfl, hA⟩⟩)
  · obtain ⟨k9, p9, hk9, e8, hp9, e9, h0, kO, hc⟩ := g3
    have e7 : p = p9 := by omega
    subst e7
    have e6 : k = k9 := by omega
    subst e6
    rcases hc with ⟨hn, rfl, kW9⟩ | ⟨hn, rfl, kW9⟩
    · have eR : unR σ k p = unS σ k p := (if_neg (by omega)).trans (if_neg hn)
      have eT : unT σ k p = σ := (if_neg (by omega)).trans (if_neg hn)
      exact i_iret C (d := dL_undone_6) (h := ⟨by rw [eR], by rw [eT]; exact ⟨τ, ad, nb, tb, kW9, rfl, hA.off kO⟩⟩)
    · have eR : unR σ k p = ((sNv σ p - 1 : Nat) : Int) := (if_neg (by omega)).trans (if_pos hn)
      have eT : unT σ k p = uVn σ p (sNv σ p - 1) := (if_neg (by omega)).trans (if_pos hn)
      exact i_iret C (d := dL_undone_6) (h := ⟨by rw [eR], by rw [eT]; exact ⟨τ, ad, tb, nb, kW9, rfl, hA.off kO⟩⟩)
