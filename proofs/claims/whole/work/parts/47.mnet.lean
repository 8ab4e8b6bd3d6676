theorem upz_twice {α : Type} {f : Nat → α} {k : Nat} {x y : α} : upz (upz f k x) k y = upz f k y := by
  funext j
  unfold upz
  by_cases h : j = k
  · rw [if_pos h, if_pos h]
  · rw [if_neg h, if_neg h, if_neg h]
section MF
variable {l : Launch} {D : gD} {own : String} {cc : ByteArray} {nL : Nat} {R : Room} {rt : Option FieldType} {ini : Bool} {hh : Option (List (Nat × Nat × Nat × Nat))} {Rp : Option Value → wW → Prop} {Xp : String → wW → Prop} {G : gG} {n k : Nat} {w : wW} {L : List (Option Value)} {pc : Nat} {st : List Value}
variable {w0 : wW} {τ ad : Nat → Nat} {F : Nat → Nat → Int} {dn op sh la : Int}
theorem m_iasF (C : Cx l D own cc nL R rt ini hh Rp Xp G) (hM : MdR D w0 w τ ad F dn op sh la) (a i : Nat) {N : Nat} {e x : Int} (d : decode cc pc = .ok (.iastore, 1)) (hk : mK a = true := by rfl) (hN : msz a = N := by rfl) (he : e = (i : Int) := by omega) (hi : i < N := by omega) (hN2 : N ≤ 7560 := by decide) (kk : ∀ (w1 : wW) (F1 : Nat → Nat → Int), MdR D w0 w1 τ ad F1 dn op sh la → F1 a = upz (F a) i x → (∀ j, j ≠ a → F1 j = F j) → G n k w1 L (pc + 1) st) : G n k w L pc (.int (Z32 x) :: .int (Z32 e) :: .ref (ad (5001 + a)) :: st) :=
  m_ias C hM a i d hk hN he hi hN2 (fun w1 h => kk w1 _ h upz_eq (fun j hj => upz_ne hj))
end MF
set_option maxRecDepth 100000 in
set_option maxHeartbeats 4000000 in
theorem c_X7_now (l : Launch) (hl : l.stackTraces = false) (D : gD) {w0 w : wW} {τ ad : Nat → Nat} {F : Nat → Nat → Int} {dn op sh la : Int} {p v : Nat} (hM : MdR D w0 w τ ad F dn op sh la := by assumption) (hp : p < 12 := by omega) (hv : F 6 p = (v : Int)) (hv2 : v ≤ 20) : CTm l D yX7_now cX7_now 2 (some .int) (rmL 1 0 0) [.ref (ad 5000), .int (Z32 (p : Int))] w (fun u w1 => u = some (.int (Z32 ((21 * p + v : Nat) : Int))) ∧ w1 = w) := by
  refine CTm_of hl false rfl (by rfl) (Nat.le_of_ble_eq_true rfl) (fun h => nomatch h) ?_
  intro G C
  show G 0 0 w [some (.ref (ad 5000)), some (.int (Z32 (p : Int)))] 0 []
  refine i_bipush C dX7_now_0 (kk := ?_)
  refine i_iload_n C dX7_now_2 (kk := ?_)
  refine i_imul C dX7_now_3 (kk := ?_)
  refine i_aload_n C dX7_now_4 (kk := ?_)
  refine i_getf C f_X7_22 dX7_now_5 (hw := hM.obj) (kk := ?_)
  refine i_iload_n C dX7_now_8 (kk := ?_)
  refine m_ial C hM 6 (p) (N := 12) dX7_now_9 (kk := ?_)
  rw [hv]
  refine i_iadd C dX7_now_10 (kk := ?_)
  exact i_iret C (d := dX7_now_11) (h := ⟨by rw [show (21 * (p : Int) + (v : Int)) = ((21 * p + v : Nat) : Int) by omega], rfl⟩)

set_option maxRecDepth 100000 in
set_option maxHeartbeats 4000000 in
theorem c_X7_laysCalls (l : Launch) (hl : l.stackTraces = false) (D : gD) {w0 w : wW} {τ ad : Nat → Nat} {F : Nat → Nat → Int} {dn op sh la : Int} {p : Nat} {ver : Int} {ps : List Pc3} (hM : MdR D w0 w τ ad F dn op sh la := by assumption) (hSrc : Src F dn ver ps) (hp : p < 12 := by omega) (hvr : inR ver := by omega) : CTm l D yX7_laysCalls cX7_laysCalls 7 none (rmL 1 0 0) [.ref (ad 5000), .int (Z32 (p : Int)), .int (Z32 ver)] w (fun u w1 => u = none ∧ ∃ F1, MdR D w0 w1 τ ad F1 dn op sh la ∧ (∀ k, k ≠ 9 → k ≠ 10 → F1 k = F k) ∧ F1 10 = upz (F 10) p (oxn ps : Int) ∧ (∀ q, q < 12 → F1 9 (12 * p + q) = (ccn q ps : Int)) ∧ ∀ m, ¬ (12 * p ≤ m ∧ m < 12 * p + 12) → F1 9 m = F 9 m) := by
  refine CTm_of hl false rfl (by rfl) (Nat.le_of_ble_eq_true rfl) (fun h => nomatch h) ?_
  intro G C
  show G 0 0 w [some (.ref (ad 5000)), some (.int (Z32 (p : Int))), some (.int (Z32 ver)), none, none, none, none] 0 []
  obtain ⟨hPV, h30, hsr⟩ := id hSrc
  refine i_iload_n C dX7_laysCalls_0 (kk := ?_)
  refine i_iconst C dX7_laysCalls_1 (kk := ?_)
  have jn : G 0 0 w [some (.ref (ad 5000)), some (.int (Z32 (p : Int))), some (.int (Z32 ver)), none, none, none, none] 18 [.int (Z32 (ps.length : Int))] := by
    refine i_istore_n C dX7_laysCalls_18 (kk := ?_)
    refine i_aload_n C dX7_laysCalls_19 (kk := ?_)
    refine i_getf C f_X7_34 dX7_laysCalls_20 (hw := hM.obj) (kk := ?_)
    refine i_iload_n C dX7_laysCalls_23 (kk := ?_)
    refine i_iconst C dX7_laysCalls_24 (kk := ?_)
    refine m_iasF C hM 10 (p) (N := 12) dX7_laysCalls_25 (kk := fun w25 F25 hM u25 n25 => ?_)
    refine i_iconst C dX7_laysCalls_26 (kk := ?_)
    refine i_istore C dX7_laysCalls_27 (kk := ?_)
    have lp1 : ∀ (m k : Nat) (w1 : wW) (F1 : Nat → Nat → Int), 12 + 1 ≤ m + k → k ≤ 12 → MdR D w0 w1 τ ad F1 dn op sh la → (∀ k, k ≠ 9 → k ≠ 10 → F1 k = F k) → F1 10 = upz (F 10) p 0 → (∀ m, F1 9 m = if 12 * p ≤ m ∧ m < 12 * p + k then 0 else F 9 m) → G 0 0 w1 [some (.ref (ad 5000)), some (.int (Z32 (p : Int))), some (.int (Z32 ver)), some (.int (Z32 (ps.length : Int))), some (.int (Z32 (k : Int))), none, none] 29 [] := by
      intro m
      induction m with
      | zero => intro k w1 F1 h1 h2; omega
      | succ m ih =>
      intro k w1 F1 h1 h2 hM er e10 e9
      refine i_iload C dX7_laysCalls_29 (kk := ?_)
      refine i_bipush C dX7_laysCalls_31 (kk := ?_)
      refine i_icmp_ge C dX7_laysCalls_33 (tgt := 55) (kt := fun hB33 => ?_) (kf := fun hB33 => ?_)
      · refine i_iconst C dX7_laysCalls_55 (kk := ?_)
        refine i_istore C dX7_laysCalls_56 (kk := ?_)
        have lp2 : ∀ (m i : Nat) (w1 : wW) (F1 : Nat → Nat → Int) (o5 o6 : Option Value), ps.length + 1 ≤ m + i → i ≤ ps.length → MdR D w0 w1 τ ad F1 dn op sh la → (∀ k, k ≠ 9 → k ≠ 10 → F1 k = F k) → F1 10 = upz (F 10) p (oxn (ps.take i) : Int) → (∀ q, q < 12 → F1 9 (12 * p + q) = (ccn q (ps.take i) : Int)) → (∀ m, ¬ (12 * p ≤ m ∧ m < 12 * p + 12) → F1 9 m = F 9 m) → G 0 0 w1 [some (.ref (ad 5000)), some (.int (Z32 (p : Int))), some (.int (Z32 ver)), some (.int (Z32 (ps.length : Int))), some (.int (Z32 (i : Int))), o5, o6] 58 [] := by
          intro m
          induction m with
          | zero => intro i w1 F1 o5 o6 h1 h2; omega
          | succ m ih =>
          intro i w1 F1 o5 o6 h1 h2 hM er e10 e9 ew
          refine i_iload C dX7_laysCalls_58 (kk := ?_)
          refine i_iload_n C dX7_laysCalls_60 (kk := ?_)
          refine i_icmp_ge C dX7_laysCalls_61 (tgt := 180) (kt := fun hB61 => ?_) (kf := fun hB61 => ?_)
          · exact i_vret C (d := dX7_laysCalls_180) (h := ⟨rfl, F1, hM, er, by rw [e10, show i = ps.length by omega, List.take_of_length_le (Nat.le_refl _)], fun q hq => by rw [e9 q hq, List.take_of_length_le (by omega)], ew⟩)
          · have hE := enc_R (hPV _ (pcs_mem (i := i) (by omega)))
            have hvR := (hPV _ (pcs_mem (i := i) (by omega))).R
            have hpv := hPV _ (pcs_mem (i := i) (by omega))
            have hK := kd_iff (s := (pcs ps i).1) ⟨by omega, by omega⟩
            have hox := oxn_takele ps i
            refine i_iload_n C dX7_laysCalls_64 (kk := ?_)
            refine i_iconst C dX7_laysCalls_65 (kk := ?_)
            have jp : G 0 0 w1 [some (.ref (ad 5000)), some (.int (Z32 (p : Int))), some (.int (Z32 ver)), some (.int (Z32 (ps.length : Int))), some (.int (Z32 (i : Int))), o5, o6] 91 [.int (Z32 (enc (pcs ps i)))] := by
              refine i_istore C dX7_laysCalls_91 (kk := ?_)
              refine i_iload C dX7_laysCalls_93 (kk := ?_)
              refine i_sipush C dX7_laysCalls_95 (kk := ?_)
              refine i_idiv C dX7_laysCalls_98 (kk := ?_)
              rw [hE.2.2.1]
              refine i_istore C dX7_laysCalls_99 (kk := ?_)
              refine i_aload_n C dX7_laysCalls_101 (kk := ?_)
              refine i_getf C f_X7_34 dX7_laysCalls_102 (hw := hM.obj) (kk := ?_)
              refine i_iload_n C dX7_laysCalls_105 (kk := ?_)
              refine i_dup2 C dX7_laysCalls_106 (kk := ?_)
              refine m_ial C hM 10 (p) (N := 12) dX7_laysCalls_107 (kk := ?_)
              rw [e10, upz_eq]
              refine i_iload C dX7_laysCalls_108 (kk := ?_)
              have jo : ∀ x : Int, x = (if (pcs ps i).1 < 4 then 1 else 0) → G 0 0 w1 [some (.ref (ad 5000)), some (.int (Z32 (p : Int))), some (.int (Z32 ver)), some (.int (Z32 (ps.length : Int))), some (.int (Z32 (i : Int))), some (.int (Z32 (enc (pcs ps i)))), some (.int (Z32 (kd (pcs ps i).1)))] 138 [.int (Z32 x), .int (Z32 (oxn (ps.take i) : Int)), .int (Z32 (p : Int)), .ref (ad 5011)] := by
                intro x hx
                refine i_iadd C dX7_laysCalls_138 (kk := ?_)
                refine m_iasF C hM 10 (p) (N := 12) dX7_laysCalls_139 (kk := fun w139 F139 hM u139 n139 => ?_)
                have e10' : F139 10 = upz (F 10) p (oxn (ps.take (i + 1)) : Int) := by
                  rw [u139, e10, upz_twice, oxn_take (by omega), Int.natCast_add, hx]
                  congr 2
                  split <;> rfl
                have er' : ∀ k, k ≠ 9 → k ≠ 10 → F139 k = F k := fun k h1 h2 => by rw [n139 k h2]; exact er k h1 h2
                have e9' : F139 9 = F1 9 := n139 9 (by decide)
                refine i_iload C dX7_laysCalls_140 (kk := ?_)
                refine i_iconst C dX7_laysCalls_142 (kk := ?_)
                refine i_icmp_eq C dX7_laysCalls_143 (tgt := 152) (kt := fun hB143 => ?_) (kf := fun hB143 => ?_)
                · obtain ⟨q, hq⟩ : ∃ q : Nat, (pcs ps i).2.1 = q := ⟨(pcs ps i).2.1.toNat, by unfold PV at hpv; omega⟩
                  have hq12 : q < 12 := by unfold PV at hpv; omega
                  have hq9 : enc (pcs ps i) / 100 % 100 = (q : Int) := by rw [← hq]; exact hE.2.2.2.2.2.2.2.2.2.1 (by omega)
                  have hcc := ccn_takele q ps i
                  refine i_aload_n C dX7_laysCalls_152 (kk := ?_)
                  refine i_getf C f_X7_31 dX7_laysCalls_153 (hw := hM.obj) (kk := ?_)
                  refine i_bipush C dX7_laysCalls_156 (kk := ?_)
                  refine i_iload_n C dX7_laysCalls_158 (kk := ?_)
                  refine i_imul C dX7_laysCalls_159 (kk := ?_)
                  refine i_iload C dX7_laysCalls_160 (kk := ?_)
                  refine i_bipush C dX7_laysCalls_162 (kk := ?_)
                  refine i_idiv C dX7_laysCalls_164 (kk := ?_)
                  refine i_bipush C dX7_laysCalls_165 (kk := ?_)
                  refine i_irem C dX7_laysCalls_167 (kk := ?_)
                  refine i_iadd C dX7_laysCalls_168 (kk := ?_)
                  refine i_dup2 C dX7_laysCalls_169 (kk := ?_)
                  refine m_ial C hM 9 (12 * p + q) (N := 144) dX7_laysCalls_170 (kk := ?_)
                  rw [e9', e9 q hq12]
                  refine i_iconst C dX7_laysCalls_171 (kk := ?_)
                  refine i_iadd C dX7_laysCalls_172 (kk := ?_)
                  refine m_iasF C hM 9 (12 * p + q) (N := 144) dX7_laysCalls_173 (kk := fun w173 F173 hM u173 n173 => ?_)
                  have e9q : ∀ z, z < 12 → F173 9 (12 * p + z) = (ccn z (ps.take (i + 1)) : Int) := fun z hz => by
                    rw [u173, ccn_take z (by omega)]
                    by_cases y : z = q
                    · subst y; rw [upz_eq, if_pos ⟨by omega, hq⟩]; rfl
                    · rw [upz_ne (by omega), e9', e9 z hz, if_neg (by omega)]; rfl
                  have e9w : ∀ m, ¬ (12 * p ≤ m ∧ m < 12 * p + 12) → F173 9 m = F 9 m := fun m hm => by rw [u173, upz_ne (by omega), e9']; exact ew m hm
                  have er2 : ∀ k, k ≠ 9 → k ≠ 10 → F173 k = F k := fun k h1 h2 => by rw [n173 k h1]; exact er' k h1 h2
                  have e102 : F173 10 = upz (F 10) p (oxn (ps.take (i + 1)) : Int) := by rw [n173 10 (by decide)]; exact e10'
                  refine i_iinc C dX7_laysCalls_174 (kk := ?_)
                  refine i_goto C dX7_laysCalls_177 (tgt := 58) (kk := ?_)
                  first | exact ih (i + 1) _ _ _ _ (by omega) (by omega) hM er2 e102 e9q e9w | exact ih (i + 1) _ _ _ _ (by omega) (by omega) hM er' e10' (fun q hq => by rw [e9', e9 q hq, ccn_take q (by omega), if_neg (by omega)]; rfl) (fun m hm => by rw [e9']; exact ew m hm)
                · refine i_iload C dX7_laysCalls_146 (kk := ?_)
                  refine i_iconst C dX7_laysCalls_148 (kk := ?_)
                  refine i_icmp_ne C dX7_laysCalls_149 (tgt := 174) (kt := fun hB149 => ?_) (kf := fun hB149 => ?_)
                  · refine i_iinc C dX7_laysCalls_174 (kk := ?_)
                    refine i_goto C dX7_laysCalls_177 (tgt := 58) (kk := ?_)
                    first | exact ih (i + 1) _ _ _ _ (by omega) (by omega) hM er2 e102 e9q e9w | exact ih (i + 1) _ _ _ _ (by omega) (by omega) hM er' e10' (fun q hq => by rw [e9', e9 q hq, ccn_take q (by omega), if_neg (by omega)]; rfl) (fun m hm => by rw [e9']; exact ew m hm)
                  · obtain ⟨q, hq⟩ : ∃ q : Nat, (pcs ps i).2.1 = q := ⟨(pcs ps i).2.1.toNat, by unfold PV at hpv; omega⟩
                    have hq12 : q < 12 := by unfold PV at hpv; omega
                    have hq9 : enc (pcs ps i) / 100 % 100 = (q : Int) := by rw [← hq]; exact hE.2.2.2.2.2.2.2.2.2.1 (by omega)
                    have hcc := ccn_takele q ps i
                    refine i_aload_n C dX7_laysCalls_152 (kk := ?_)
                    refine i_getf C f_X7_31 dX7_laysCalls_153 (hw := hM.obj) (kk := ?_)
                    refine i_bipush C dX7_laysCalls_156 (kk := ?_)
                    refine i_iload_n C dX7_laysCalls_158 (kk := ?_)
                    refine i_imul C dX7_laysCalls_159 (kk := ?_)
                    refine i_iload C dX7_laysCalls_160 (kk := ?_)
                    refine i_bipush C dX7_laysCalls_162 (kk := ?_)
                    refine i_idiv C dX7_laysCalls_164 (kk := ?_)
                    refine i_bipush C dX7_laysCalls_165 (kk := ?_)
                    refine i_irem C dX7_laysCalls_167 (kk := ?_)
                    refine i_iadd C dX7_laysCalls_168 (kk := ?_)
                    refine i_dup2 C dX7_laysCalls_169 (kk := ?_)
                    refine m_ial C hM 9 (12 * p + q) (N := 144) dX7_laysCalls_170 (kk := ?_)
                    rw [e9', e9 q hq12]
                    refine i_iconst C dX7_laysCalls_171 (kk := ?_)
                    refine i_iadd C dX7_laysCalls_172 (kk := ?_)
                    refine m_iasF C hM 9 (12 * p + q) (N := 144) dX7_laysCalls_173 (kk := fun w173 F173 hM u173 n173 => ?_)
                    have e9q : ∀ z, z < 12 → F173 9 (12 * p + z) = (ccn z (ps.take (i + 1)) : Int) := fun z hz => by
                      rw [u173, ccn_take z (by omega)]
                      by_cases y : z = q
                      · subst y; rw [upz_eq, if_pos ⟨by omega, hq⟩]; rfl
                      · rw [upz_ne (by omega), e9', e9 z hz, if_neg (by omega)]; rfl
                    have e9w : ∀ m, ¬ (12 * p ≤ m ∧ m < 12 * p + 12) → F173 9 m = F 9 m := fun m hm => by rw [u173, upz_ne (by omega), e9']; exact ew m hm
                    have er2 : ∀ k, k ≠ 9 → k ≠ 10 → F173 k = F k := fun k h1 h2 => by rw [n173 k h1]; exact er' k h1 h2
                    have e102 : F173 10 = upz (F 10) p (oxn (ps.take (i + 1)) : Int) := by rw [n173 10 (by decide)]; exact e10'
                    refine i_iinc C dX7_laysCalls_174 (kk := ?_)
                    refine i_goto C dX7_laysCalls_177 (tgt := 58) (kk := ?_)
                    first | exact ih (i + 1) _ _ _ _ (by omega) (by omega) hM er2 e102 e9q e9w | exact ih (i + 1) _ _ _ _ (by omega) (by omega) hM er' e10' (fun q hq => by rw [e9', e9 q hq, ccn_take q (by omega), if_neg (by omega)]; rfl) (fun m hm => by rw [e9']; exact ew m hm)
              refine i_if_eq C dX7_laysCalls_110 (tgt := 133) (kt := fun hB110 => ?_) (kf := fun hB110 => ?_)
              · refine i_iconst C dX7_laysCalls_133 (kk := ?_)
                refine i_goto C dX7_laysCalls_134 (tgt := 138) (kk := ?_)
                exact jo _ (by first | (rw [if_pos (by omega)]; done) | (rw [if_neg (by omega)]; done))
              · refine i_iload C dX7_laysCalls_113 (kk := ?_)
                refine i_iconst C dX7_laysCalls_115 (kk := ?_)
                refine i_icmp_eq C dX7_laysCalls_116 (tgt := 133) (kt := fun hB116 => ?_) (kf := fun hB116 => ?_)
                · refine i_iconst C dX7_laysCalls_133 (kk := ?_)
                  refine i_goto C dX7_laysCalls_134 (tgt := 138) (kk := ?_)
                  exact jo _ (by first | (rw [if_pos (by omega)]; done) | (rw [if_neg (by omega)]; done))
                · refine i_iload C dX7_laysCalls_119 (kk := ?_)
                  refine i_bipush C dX7_laysCalls_121 (kk := ?_)
                  refine i_icmp_eq C dX7_laysCalls_123 (tgt := 133) (kt := fun hB123 => ?_) (kf := fun hB123 => ?_)
                  · refine i_iconst C dX7_laysCalls_133 (kk := ?_)
                    refine i_goto C dX7_laysCalls_134 (tgt := 138) (kk := ?_)
                    exact jo _ (by first | (rw [if_pos (by omega)]; done) | (rw [if_neg (by omega)]; done))
                  · refine i_iload C dX7_laysCalls_126 (kk := ?_)
                    refine i_bipush C dX7_laysCalls_128 (kk := ?_)
                    refine i_icmp_ne C dX7_laysCalls_130 (tgt := 137) (kt := fun hB130 => ?_) (kf := fun hB130 => ?_)
                    · refine i_iconst C dX7_laysCalls_137 (kk := ?_)
                      exact jo _ (by first | (rw [if_pos (by omega)]; done) | (rw [if_neg (by omega)]; done))
                    · refine i_iconst C dX7_laysCalls_133 (kk := ?_)
                      refine i_goto C dX7_laysCalls_134 (tgt := 138) (kk := ?_)
                      exact jo _ (by first | (rw [if_pos (by omega)]; done) | (rw [if_neg (by omega)]; done))
            refine i_icmp_ne C dX7_laysCalls_66 (tgt := 79) (kt := fun hB66 => ?_) (kf := fun hB66 => ?_)
            · obtain ⟨v, hv, hv2, hv3, hv4⟩ := hsr.resolve_left (fun q => hB66 q.1)
              refine i_aload_n C dX7_laysCalls_79 (kk := ?_)
              refine i_getf C f_X7_13 dX7_laysCalls_80 (hw := hM.obj) (kk := ?_)
              refine i_bipush C dX7_laysCalls_83 (kk := ?_)
              refine i_iload_n C dX7_laysCalls_85 (kk := ?_)
              refine i_imul C dX7_laysCalls_86 (kk := ?_)
              refine i_iload C dX7_laysCalls_87 (kk := ?_)
              refine i_iadd C dX7_laysCalls_89 (kk := ?_)
              refine m_ial C hM 3 (30 * v + i) (N := 7560) dX7_laysCalls_90 (kk := ?_)
              rw [er 3 (by decide) (by decide), hv4 i (by omega)]
              exact jp
            · have h2 := (hsr.resolve_right (fun ⟨v, q, _⟩ => by omega)).2
              refine i_aload_n C dX7_laysCalls_69 (kk := ?_)
              refine i_getf C f_X7_7 dX7_laysCalls_70 (hw := hM.obj) (kk := ?_)
              refine i_iload C dX7_laysCalls_73 (kk := ?_)
              refine m_ial C hM 0 (i) (N := 30) dX7_laysCalls_75 (kk := ?_)
              rw [er 0 (by decide) (by decide), h2.2 i (by omega)]
              refine i_goto C dX7_laysCalls_76 (tgt := 91) (kk := ?_)
              exact jp
        exact lp2 (ps.length + 1) 0 _ _ _ _ (by omega) (by omega) hM er e10 (fun q hq => by rw [e9, if_pos ⟨by omega, by omega⟩]; rfl) (fun m hm => by rw [e9, if_neg (by omega)])
      · refine i_aload_n C dX7_laysCalls_36 (kk := ?_)
        refine i_getf C f_X7_31 dX7_laysCalls_37 (hw := hM.obj) (kk := ?_)
        refine i_bipush C dX7_laysCalls_40 (kk := ?_)
        refine i_iload_n C dX7_laysCalls_42 (kk := ?_)
        refine i_imul C dX7_laysCalls_43 (kk := ?_)
        refine i_iload C dX7_laysCalls_44 (kk := ?_)
        refine i_iadd C dX7_laysCalls_46 (kk := ?_)
        refine i_iconst C dX7_laysCalls_47 (kk := ?_)
        refine m_iasF C hM 9 (((12 * p) + k)) (N := 144) dX7_laysCalls_48 (kk := fun w48 F48 hM u48 n48 => ?_)
        refine i_iinc C dX7_laysCalls_49 (kk := ?_)
        refine i_goto C dX7_laysCalls_52 (tgt := 29) (kk := ?_)
        exact ih (k + 1) _ _ (by omega) (by omega) hM (fun j h1 h2 => by rw [n48 j h1]; exact er j h1 h2) (by rw [n48 10 (by decide)]; exact e10) (fun m => by rw [u48]; by_cases z : m = 12 * p + k; (subst z; rw [upz_eq, if_pos ⟨by omega, by omega⟩]); (rw [upz_ne z, e9 m]; by_cases y : 12 * p ≤ m ∧ m < 12 * p + k; (rw [if_pos y, if_pos ⟨y.1, by omega⟩]); (rw [if_neg y, if_neg (by omega)])))
    exact lp1 13 0 _ _ (by omega) (by omega) hM (fun j h1 h2 => n25 j h2) u25 (fun m => by rw [if_neg (by omega), n25 9 (by decide)])
  refine i_icmp_ne C dX7_laysCalls_2 (tgt := 12) (kt := fun hB2 => ?_) (kf := fun hB2 => ?_)
  · obtain ⟨v, hv, hv2, hv3, hv4⟩ := hsr.resolve_left (fun q => hB2 q.1)
    refine i_aload_n C dX7_laysCalls_12 (kk := ?_)
    refine i_getf C f_X7_16 dX7_laysCalls_13 (hw := hM.obj) (kk := ?_)
    refine i_iload_n C dX7_laysCalls_16 (kk := ?_)
    refine m_ial C hM 4 (v) (N := 252) dX7_laysCalls_17 (kk := ?_)
    rw [hv3]
    exact jn
  · have h2 := (hsr.resolve_right (fun ⟨v, q, _⟩ => by omega)).2
    refine i_aload_n C dX7_laysCalls_5 (kk := ?_)
    refine i_getf C f_X7_72 dX7_laysCalls_6 (hw := hM.obj) (kk := ?_)
    rw [h2.1]
    refine i_goto C dX7_laysCalls_9 (tgt := 18) (kk := ?_)
    exact jn
