/-- the sum of a text, over the extents of the pages -/
def xsp (g : Nat → Nat) (pc : Pc3) : Nat := if 0 ≤ clD pc then g (clD pc).toNat else if pc.1 < 4 then 1 else 0
def xsm (g : Nat → Nat) : List Pc3 → Nat
  | [] => 0
  | pc :: ps => xsp g pc + xsm g ps
theorem xsm_app (g : Nat → Nat) : ∀ (ps qs : List Pc3), xsm g (ps ++ qs) = xsm g ps + xsm g qs
  | [], qs => (Nat.zero_add _).symm
  | p :: ps, qs => by
    show _ + xsm g (ps ++ qs) = _ + xsm g ps + xsm g qs
    rw [xsm_app g ps qs, Nat.add_assoc]
theorem xsm_take {g : Nat → Nat} {ps : List Pc3} {i : Nat} (h : i < ps.length) : xsm g (ps.take (i + 1)) = xsm g (ps.take i) + xsp g (pcs ps i) := by rw [pcs_take h, xsm_app]; rfl
theorem xsm_eq {g : Nat → Nat} : ∀ {ps : List Pc3}, (∀ pc ∈ ps, Sm6 pc) → xsm g ps = oxn ps + cS2 g ps 12
  | [], _ => by rw [cS2_nil]; rfl
  | pc :: ps, h => by
    have ih := xsm_eq (g := g) (ps := ps) (fun x hx => h x (List.mem_cons_of_mem _ hx))
    obtain ⟨hv, hc1, hc2, -⟩ := h pc List.mem_cons_self
    rw [cS2_cons]
    show xsp g pc + xsm g ps = (if pc.1 < 4 then 1 else 0) + oxn ps + (cS2 g ps 12 + _)
    rw [ih]
    unfold xsp clD at *
    by_cases z : pc.1 = 4 ∨ pc.1 = 5
    · rw [if_pos z] at hc1 hc2 ⊢
      have h0 : 0 ≤ pc.2.1 := by unfold PV at hv; omega
      rw [if_pos h0, if_neg (by omega), if_pos ⟨z, h0, by omega⟩]
      omega
    · rw [if_neg z, if_neg (by decide), if_neg (c := (pc.1 = 4 ∨ pc.1 = 5) ∧ 0 ≤ pc.2.1 ∧ pc.2.1 < ((12 : Nat) : Int)) (fun y => z y.1)]
      omega
theorem xsm_le {g : Nat → Nat} {M : Nat} (hM : 1 ≤ M) (hg : ∀ j, g j ≤ M) : ∀ (ps : List Pc3), xsm g ps ≤ ps.length * M
  | [] => Nat.zero_le _
  | pc :: ps => by
    have ih := xsm_le hM hg ps
    have h1 : xsp g pc ≤ M := by
      unfold xsp
      split
      · exact hg _
      · split <;> omega
    show xsp g pc + xsm g ps ≤ (ps.length + 1) * M
    rw [Nat.add_mul]
    omega
theorem fc_s5 {T : Nat → List Pc3} (hs : ∀ q, q < 12 → ∀ pc ∈ T q, Sm6 pc) {a b : Nat} (ha : a < 12) (hb : b < 12) (h : 0 < fcT T (12 * a + b)) : b < 5 := by
  apply Decidable.byContradiction
  intro z
  rw [fc_hi hs ha hb (by omega)] at h
  exact absurd h (Nat.lt_irrefl 0)
/-- a page's sum is right, where those of the called pages are -/
theorem xsm_right {T : Nat → List Pc3} (hs : ∀ q, q < 12 → ∀ pc ∈ T q, Sm6 pc) (ha : gAcy (fcT T)) {g : Nat → Nat} {p : Nat} (hp : p < 12) (h : ∀ q, q < 5 → depT T q < depT T p → g q = min (extT T q) 500) : min (xsm g (T p)) 500 = min (extT T p) 500 := by
  have e1 : xsm g (T p) = eOC (fcT T) (foT T) g p 12 := by rw [xsm_eq (hs p hp), eOC_cS2 12 (Nat.le_refl _)]
  have e2 : extT T p = eOC (fcT T) (foT T) (extT T) p 12 := (exN_fix ha hp).symm
  rw [e1, e2]
  exact eOC_cap (fun q hq hc => h q (fc_s5 hs hp hq hc) (dpN_lt ha hp hq hc)) 12 (Nat.le_refl _)
theorem itm_code {c : Nat} (h : c < 50) : (dc6 c).1 < 4 ↔ (c < 4 ∨ (33 ≤ c ∧ c < 45)) := by
  refine dc6_all (P := fun c pc => pc.1 < 4 ↔ (c < 4 ∨ (33 ≤ c ∧ c < 45))) ?_ ?_ ?_ ?_ ?_ ?_ ?_ ?_ ?_ c h
  all_goals (try intro c h1); (try intro h2); dsimp only; omega
theorem upz_zero (k : Nat) : upz (fun _ => (0 : Int)) k 0 = fun _ => 0 := by
  funext j
  unfold upz
  split <;> rfl
set_option maxRecDepth 100000 in
set_option maxHeartbeats 4000000 in
theorem c_L_extents (l : Launch) (hl : l.stackTraces = false) (D : gD) {w : wW} {a5 : Nat} {a1 a2 a4 : Nat} {σ : Sg} {ft : Nat → Int64} {fz fr fv : Nat → Int} {o : Int} {x : Int64} {ps : List Pc3} {T : Nat → List Pc3} (h1 : w a1 = some (lar D 60 ft) := by assumption) (h2 : w a2 = some (iar D 60 fz) := by assumption) (h4 : w a4 = some (iar D 16 fv) := by assumption) (hR : LwR σ ft fz fr fv := by assumption) (hx : Tx64 ps x) (hT : TO σ o ps T) (ho : inR o := by omega) (h5 : w a5 = some (iar D 5 (fun _ => 0)) := by assumption) (n1 : a1 ≠ a5 := by assumption) (n2 : a2 ≠ a5 := by assumption) (n4 : a4 ≠ a5 := by assumption) : CTm l D yL_extents cL_extents 17 none (rmL 2 0 0) [.ref a1, .ref a2, .ref a4, .int (Z32 o), .long x, .int (Z32 (ps.length : Int)), .ref a5] w (fun u w1 => u = none ∧ ∃ fx : Nat → Nat, w1 = wset w a5 (iar D 5 (cz fx)) ∧ (∀ q, fx q ≤ 500) ∧ (gAcy (fcT T) → (∀ q, q < 12 → depT T q ≤ 5) → ∀ q, q < 5 → fx q = min (extT T q) 500)) := by
  refine CTm_ofL hl false rfl [some (.ref a1), some (.ref a2), some (.ref a4), some (.int (Z32 o)), some (.long x), none, some (.int (Z32 (ps.length : Int))), some (.ref a5), none, none, none, none, none, none, none, none, none] (by rfl) (Nat.le_of_ble_eq_true rfl) (fun h => nomatch h) ?_
  intro G C
  have hs := fun q (hq : q < 12) => hT.sm hR hx hq
  have g1 := h1
  have g2 := h2
  have g4 := h4
  refine i_iconst C dL_extents_0 (kk := ?_)
  refine i_istore C dL_extents_1 (kk := ?_)
  have lp1 : ∀ (m i : Nat), 5 + 1 ≤ m + i → i ≤ 5 → G 0 0 w [some (.ref a1), some (.ref a2), some (.ref a4), some (.int (Z32 o)), some (.long x), none, some (.int (Z32 (ps.length : Int))), some (.ref a5), some (.int (Z32 (i : Int))), none, none, none, none, none, none, none, none] 3 [] := by
    intro m
    induction m with
    | zero => intro i h1 h2; omega
    | succ m ih1 =>
    intro i h1 h2
    refine i_iload C dL_extents_3 (kk := ?_)
    refine i_iconst C dL_extents_5 (kk := ?_)
    refine i_icmp_ge C dL_extents_6 (tgt := 21) (kt := fun hB6 => ?_) (kf := fun hB6 => ?_)
    · have e5 : i = 5 := by omega
      subst e5
      refine i_iconst C dL_extents_21 (kk := ?_)
      refine i_istore C dL_extents_22 (kk := ?_)
      have lp2 : ∀ (m k : Nat) (W : wW) (fx : Nat → Nat) (o9 o10 o11 o12 o13 o14 o15 o16 : Option Value), 6 + 1 ≤ m + k → k ≤ 6 → W = wset w a5 (iar D 5 (cz fx)) → (∀ q, fx q ≤ 500) → (gAcy (fcT T) → (∀ q, q < 12 → depT T q ≤ 5) → ∀ q, q < 5 → depT T q < k → fx q = min (extT T q) 500) → G 0 0 W [some (.ref a1), some (.ref a2), some (.ref a4), some (.int (Z32 o)), some (.long x), none, some (.int (Z32 (ps.length : Int))), some (.ref a5), some (.int (Z32 (k : Int))), o9, o10, o11, o12, o13, o14, o15, o16] 24 [] := by
        intro m
        induction m with
        | zero => intro k W fx o9 o10 o11 o12 o13 o14 o15 o16 h1 h2; omega
        | succ m ih2 =>
        intro k W fx o9 o10 o11 o12 o13 o14 o15 o16 h1 h2 hW hb hg
        refine i_iload C dL_extents_24 (kk := ?_)
        refine i_bipush C dL_extents_26 (kk := ?_)
        refine i_icmp_ge C dL_extents_28 (tgt := 193) (kt := fun hB28 => ?_) (kf := fun hB28 => ?_)
        · have e6 : k = 6 := by omega
          subst e6
          exact i_vret C (d := dL_extents_193) (h := ⟨rfl, fx, hW, hb, fun hac hdp q hq => hg hac hdp q hq (Nat.lt_succ_of_le (hdp q (by omega)))⟩)
        · refine i_iconst C dL_extents_31 (kk := ?_)
          refine i_istore C dL_extents_32 (kk := ?_)
          have lp3 : ∀ (m i : Nat) (W : wW) (fx : Nat → Nat) (o10 o11 o12 o13 o14 o15 o16 : Option Value), 5 + 1 ≤ m + i → i ≤ 5 → W = wset w a5 (iar D 5 (cz fx)) → (∀ q, fx q ≤ 500) → (gAcy (fcT T) → (∀ q, q < 12 → depT T q ≤ 5) → ∀ q, q < 5 → (depT T q < k ∨ (q < i ∧ depT T q < k + 1)) → fx q = min (extT T q) 500) → G 0 0 W [some (.ref a1), some (.ref a2), some (.ref a4), some (.int (Z32 o)), some (.long x), none, some (.int (Z32 (ps.length : Int))), some (.ref a5), some (.int (Z32 (k : Int))), some (.int (Z32 (i : Int))), o10, o11, o12, o13, o14, o15, o16] 34 [] := by
            intro m
            induction m with
            | zero => intro i W fx o10 o11 o12 o13 o14 o15 o16 h1 h2; omega
            | succ m ih3 =>
            intro i W fx o10 o11 o12 o13 o14 o15 o16 h1 h2 hW hb hg
            have k1 : W a1 = some (lar D 60 ft) := by rw [hW, wset_ne n1]; exact g1
            have k2 : W a2 = some (iar D 60 fz) := by rw [hW, wset_ne n2]; exact g2
            have k4 : W a4 = some (iar D 16 fv) := by rw [hW, wset_ne n4]; exact g4
            have k5 : W a5 = some (iar D 5 (cz fx)) := by rw [hW, wset_eq]
            refine i_iload C dL_extents_34 (kk := ?_)
            refine i_iconst C dL_extents_36 (kk := ?_)
            refine i_icmp_ge C dL_extents_37 (tgt := 187) (kt := fun hB37 => ?_) (kf := fun hB37 => ?_)
            · have e5 : i = 5 := by omega
              subst e5
              refine i_iinc C dL_extents_187 (kk := ?_)
              refine i_goto C dL_extents_190 (tgt := 24) (kk := ?_)
              exact ih2 (k + 1) _ _ _ _ _ _ _ _ _ _ (by omega) (by omega) hW hb (fun hac hdp q hq hd => hg hac hdp q hq (Or.inr ⟨hq, hd⟩))
            · have hTx : ∃ y, Tx64 (T i) y ∧ (((i : Int) = o ∧ y = x) ∨ ((i : Int) ≠ o ∧ y = ft (12 * i + sNv σ i))) := by
                by_cases z : (i : Int) = o
                · exact ⟨x, by rw [(hT.1 i (by omega)).1 z]; exact hx, Or.inl ⟨z, rfl⟩⟩
                · exact ⟨_, by rw [(hT.1 i (by omega)).2 z]; exact hR.tx (by omega), Or.inr ⟨z, rfl⟩⟩
              obtain ⟨y, hy, hyo⟩ := hTx
              have hn11 := (hR.nv (p := i) (by omega)).2
              have hps9 := hx.len
              refine i_iload C dL_extents_40 (kk := ?_)
              refine i_iload_n C dL_extents_42 (kk := ?_)
              have jt : ∀ y9 : Int64, y9 = y → G 0 0 W [some (.ref a1), some (.ref a2), some (.ref a4), some (.int (Z32 o)), some (.long x), none, some (.int (Z32 (ps.length : Int))), some (.ref a5), some (.int (Z32 (k : Int))), some (.int (Z32 (i : Int))), o10, o11, o12, o13, o14, o15, o16] 59 [.long y9] := by
                intro y9 hy9
                rw [hy9]
                refine i_lstore C dL_extents_59 (kk := ?_)
                refine i_iload C dL_extents_61 (kk := ?_)
                refine i_iload_n C dL_extents_63 (kk := ?_)
                have jz : ∀ z9 : Int, z9 = (((T i).length : Nat) : Int) → G 0 0 W [some (.ref a1), some (.ref a2), some (.ref a4), some (.int (Z32 o)), some (.long x), none, some (.int (Z32 (ps.length : Int))), some (.ref a5), some (.int (Z32 (k : Int))), some (.int (Z32 (i : Int))), some (.long y), none, o12, o13, o14, o15, o16] 80 [.int (Z32 z9)] := by
                  intro z9 hz9
                  subst hz9
                  refine i_istore C dL_extents_80 (kk := ?_)
                  have hsm := hy.sm
                  obtain ⟨cs, hcs, hc, h9, rfl⟩ := hy
                  have hlen : (T i).length = cs.length := by rw [hcs, List.length_map]
                  refine i_iconst C dL_extents_82 (kk := ?_)
                  refine i_istore C dL_extents_83 (kk := ?_)
                  refine i_iconst C dL_extents_85 (kk := ?_)
                  refine i_istore C dL_extents_86 (kk := ?_)
                  have lp4 : ∀ (m j : Nat) (o15 o16 : Option Value), (T i).length + 1 ≤ m + j → j ≤ (T i).length → G 0 0 W [some (.ref a1), some (.ref a2), some (.ref a4), some (.int (Z32 o)), some (.long x), none, some (.int (Z32 (ps.length : Int))), some (.ref a5), some (.int (Z32 (k : Int))), some (.int (Z32 (i : Int))), some (.long (X64 (tx6 cs))), none, some (.int (Z32 ((T i).length : Int))), some (.int (Z32 ((xsm fx ((T i).take j) : Nat) : Int))), some (.int (Z32 (j : Int))), o15, o16] 88 [] := by
                    intro m
                    induction m with
                    | zero => intro j o15 o16 h1 h2; omega
                    | succ m ih4 =>
                    intro j o15 o16 h1 h2 
                    refine i_iload C dL_extents_88 (kk := ?_)
                    refine i_iload C dL_extents_90 (kk := ?_)
                    refine i_icmp_ge C dL_extents_92 (tgt := 160) (kt := fun hB92 => ?_) (kf := fun hB92 => ?_)
                    · have ej : j = (T i).length := by omega
                      subst ej
                      have hxl := xsm_le (M := 500) (by decide) hb ((T i).take (T i).length)
                      rw [List.take_of_length_le (Nat.le_refl _)] at hxl
                      rw [List.take_of_length_le (Nat.le_refl _)]
                      refine i_aload C dL_extents_160 (kk := ?_)
                      refine i_iload C dL_extents_162 (kk := ?_)
                      refine i_iload C dL_extents_164 (kk := ?_)
                      refine i_sipush C dL_extents_166 (kk := ?_)
                      have jm : ∀ z9 : Int, z9 = ((min (xsm fx (T i)) 500 : Nat) : Int) → G 0 0 W [some (.ref a1), some (.ref a2), some (.ref a4), some (.int (Z32 o)), some (.long x), none, some (.int (Z32 (ps.length : Int))), some (.ref a5), some (.int (Z32 (k : Int))), some (.int (Z32 (i : Int))), some (.long (X64 (tx6 cs))), none, some (.int (Z32 ((T i).length : Int))), some (.int (Z32 ((xsm fx (T i) : Nat) : Int))), some (.int (Z32 (((T i).length : Nat) : Int))), o15, o16] 180 [.int (Z32 z9), .int (Z32 (i : Int)), .ref a5] := by
                        intro z9 hz9
                        subst hz9
                        refine i_iastore C dL_extents_180 (kk := ?_)
                        refine i_iinc C dL_extents_181 (kk := ?_)
                        refine i_goto C dL_extents_184 (tgt := 34) (kk := ?_)
                        exact ih3 (i + 1) _ (upz fx i (min (xsm fx (T i)) 500)) _ _ _ _ _ _ _ (by omega) (by omega) (by rw [hW, wset_twice, Int.toNat_natCast, cz_up]) (fun q => by by_cases z : q = i; (subst z; rw [upz_eq]; omega); (rw [upz_ne z]; exact hb q)) (fun hac hdp q hq hd => by
                          by_cases z : q = i
                          · subst z
                            rw [upz_eq]
                            exact xsm_right hs hac (by omega) (fun y hy hyd => hg hac hdp y hy (by omega))
                          · rw [upz_ne z]
                            exact hg hac hdp q hq (by omega))
                      refine i_icmp_le C dL_extents_169 (tgt := 178) (kt := fun hB169 => ?_) (kf := fun hB169 => ?_)
                      · have eM : ((xsm fx (T i) : Nat) : Int) = ((min (xsm fx (T i)) 500 : Nat) : Int) := by omega
                        refine i_iload C dL_extents_178 (kk := ?_)
                        exact jm _ eM
                      · have eM : (500 : Int) = ((min (xsm fx (T i)) 500 : Nat) : Int) := by omega
                        refine i_sipush C dL_extents_172 (kk := ?_)
                        refine i_goto C dL_extents_175 (tgt := 180) (kk := ?_)
                        exact jm _ eM
                    · have hgd := getD_lt hc j
                      have epc : pcs (T i) j = dc6 (cs.getD j 0) := by rw [hcs]; exact pcs_map (by omega)
                      have hS6 := dc6_Sm hgd
                      have hcR := hS6.2
                      have etk := xsm_take (g := fx) (ps := T i) (i := j) (by omega)
                      rw [epc] at etk
                      have hxl := xsm_le (M := 500) (by decide) hb ((T i).take j)
                      rw [List.length_take] at hxl
                      have hxsp : xsp fx (dc6 (cs.getD j 0)) = if 0 ≤ clD (dc6 (cs.getD j 0)) then fx (clD (dc6 (cs.getD j 0))).toNat else if (dc6 (cs.getD j 0)).1 < 4 then 1 else 0 := rfl
                      refine i_lload C dL_extents_95 (kk := ?_)
                      refine i_iload C dL_extents_97 (kk := ?_)
                      refine i_callS C lk_L_11 (c_L_piece l hl D (cs := cs) (i := j) hc h9 (by omega)) (hst := rfl) dL_extents_99 (kk := fun v99 w99 g99 => ?_)
                      obtain ⟨rfl, q99⟩ := g99
                      have q99 := q99.symm
                      subst q99
                      refine i_istore C dL_extents_102 (kk := ?_)
                      refine i_iload C dL_extents_104 (kk := ?_)
                      refine i_callS C lk_L_17 (c_L_called l hl D hgd) (hst := rfl) dL_extents_106 (kk := fun v106 w106 g106 => ?_)
                      obtain ⟨rfl, q106⟩ := g106
                      have q106 := q106.symm
                      subst q106
                      refine i_istore C dL_extents_109 (kk := ?_)
                      refine i_iload C dL_extents_111 (kk := ?_)
                      refine i_iload C dL_extents_113 (kk := ?_)
                      have jd : ∀ z9 : Int, z9 = ((xsp fx (dc6 (cs.getD j 0)) : Nat) : Int) → G 0 0 W [some (.ref a1), some (.ref a2), some (.ref a4), some (.int (Z32 o)), some (.long x), none, some (.int (Z32 (ps.length : Int))), some (.ref a5), some (.int (Z32 (k : Int))), some (.int (Z32 (i : Int))), some (.long (X64 (tx6 cs))), none, some (.int (Z32 ((T i).length : Int))), some (.int (Z32 ((xsm fx ((T i).take j) : Nat) : Int))), some (.int (Z32 (j : Int))), some (.int (Z32 ((cs.getD j 0 : Nat) : Int))), some (.int (Z32 (clD (dc6 (cs.getD j 0)))))] 151 [.int (Z32 z9), .int (Z32 ((xsm fx ((T i).take j) : Nat) : Int))] := by
                        intro z9 hz9
                        subst hz9
                        refine i_iadd C dL_extents_151 (kk := ?_)
                        rw [show ((xsm fx ((T i).take j) : Nat) : Int) + ((xsp fx (dc6 (cs.getD j 0)) : Nat) : Int) = ((xsm fx ((T i).take (j + 1)) : Nat) : Int) by rw [etk]; omega]
                        refine i_istore C dL_extents_152 (kk := ?_)
                        refine i_iinc C dL_extents_154 (kk := ?_)
                        refine i_goto C dL_extents_157 (tgt := 88) (kk := ?_)
                        exact ih4 (j + 1) _ _ (by omega) (by omega)
                      refine i_if_lt C dL_extents_115 (tgt := 126) (kt := fun hB115 => ?_) (kf := fun hB115 => ?_)
                      · rw [if_neg (by omega)] at hxsp
                        have hit := itm_code hgd
                        refine i_iload C dL_extents_126 (kk := ?_)
                        refine i_iconst C dL_extents_128 (kk := ?_)
                        refine i_icmp_lt C dL_extents_129 (tgt := 146) (kt := fun hB129 => ?_) (kf := fun hB129 => ?_)
                        · have eD : (1 : Int) = ((xsp fx (dc6 (cs.getD j 0)) : Nat) : Int) := by rw [hxsp, if_pos (hit.mpr (by omega))]; rfl
                          refine i_iconst C dL_extents_146 (kk := ?_)
                          refine i_goto C dL_extents_147 (tgt := 151) (kk := ?_)
                          exact jd _ eD
                        · refine i_iload C dL_extents_132 (kk := ?_)
                          refine i_bipush C dL_extents_134 (kk := ?_)
                          refine i_icmp_lt C dL_extents_136 (tgt := 150) (kt := fun hB136 => ?_) (kf := fun hB136 => ?_)
                          · have eD : (0 : Int) = ((xsp fx (dc6 (cs.getD j 0)) : Nat) : Int) := by rw [hxsp, if_neg (fun z => by have := hit.mp z; omega)]; rfl
                            refine i_iconst C dL_extents_150 (kk := ?_)
                            exact jd _ eD
                          · refine i_iload C dL_extents_139 (kk := ?_)
                            refine i_bipush C dL_extents_141 (kk := ?_)
                            refine i_icmp_ge C dL_extents_143 (tgt := 150) (kt := fun hB143 => ?_) (kf := fun hB143 => ?_)
                            · have eD : (0 : Int) = ((xsp fx (dc6 (cs.getD j 0)) : Nat) : Int) := by rw [hxsp, if_neg (fun z => by have := hit.mp z; omega)]; rfl
                              refine i_iconst C dL_extents_150 (kk := ?_)
                              exact jd _ eD
                            · have eD : (1 : Int) = ((xsp fx (dc6 (cs.getD j 0)) : Nat) : Int) := by rw [hxsp, if_pos (hit.mpr (by omega))]; rfl
                              refine i_iconst C dL_extents_146 (kk := ?_)
                              refine i_goto C dL_extents_147 (tgt := 151) (kk := ?_)
                              exact jd _ eD
                      · rw [if_pos (by omega)] at hxsp
                        refine i_aload C dL_extents_118 (kk := ?_)
                        refine i_iload C dL_extents_120 (kk := ?_)
                        refine i_iaload C dL_extents_122 (kk := ?_)
                        have eD : cz fx (clD (dc6 (cs.getD j 0))).toNat = ((xsp fx (dc6 (cs.getD j 0)) : Nat) : Int) := by rw [hxsp]; rfl
                        refine i_goto C dL_extents_123 (tgt := 151) (kk := ?_)
                        exact jd _ eD
                  exact lp4 ((T i).length + 1) 0 _ _ (by omega) (by omega)
                refine i_icmp_ne C dL_extents_64 (tgt := 72) (kt := fun hB64 => ?_) (kf := fun hB64 => ?_)
                · have ez : (((sT σ i).length : Nat) : Int) = (((T i).length : Nat) : Int) := by rw [(hT.1 i (by omega)).2 (by omega)]
                  refine i_aload_n C dL_extents_72 (kk := ?_)
                  refine i_aload_n C dL_extents_73 (kk := ?_)
                  refine i_iload C dL_extents_74 (kk := ?_)
                  refine i_callS C lk_L_24 (c_L_now l hl D (p := i)) (hst := rfl) dL_extents_76 (kk := fun v76 w76 g76 => ?_)
                  obtain ⟨rfl, q76⟩ := g76
                  have q76 := q76.symm
                  subst q76
                  refine i_iaload C dL_extents_79 (kk := ?_)
                  rw [Int.toNat_natCast, hR.sz (p := i) (by omega)]
                  exact jz _ ez
                · have ez : ((ps.length : Nat) : Int) = (((T i).length : Nat) : Int) := by rw [(hT.1 i (by omega)).1 (by omega)]
                  refine i_iload C dL_extents_67 (kk := ?_)
                  refine i_goto C dL_extents_69 (tgt := 80) (kk := ?_)
                  exact jz _ ez
              refine i_icmp_ne C dL_extents_43 (tgt := 51) (kt := fun hB43 => ?_) (kf := fun hB43 => ?_)
              · have ey : ft (12 * i + sNv σ i) = y := by rcases hyo with ⟨q1, q2⟩ | ⟨q1, q2⟩; exact absurd q1 (by omega); exact q2.symm
                refine i_aload_n C dL_extents_51 (kk := ?_)
                refine i_aload_n C dL_extents_52 (kk := ?_)
                refine i_iload C dL_extents_53 (kk := ?_)
                refine i_callS C lk_L_24 (c_L_now l hl D (p := i)) (hst := rfl) dL_extents_55 (kk := fun v55 w55 g55 => ?_)
                obtain ⟨rfl, q55⟩ := g55
                have q55 := q55.symm
                subst q55
                refine i_laload C dL_extents_58 (kk := ?_)
                rw [Int.toNat_natCast]
                exact jt _ ey
              · have ey : x = y := by rcases hyo with ⟨q1, q2⟩ | ⟨q1, q2⟩; exact q2.symm; exact absurd (by omega) q1
                refine i_lload C dL_extents_46 (kk := ?_)
                refine i_goto C dL_extents_48 (tgt := 59) (kk := ?_)
                exact jt _ ey
          exact lp3 6 0 W fx _ _ _ _ _ _ _ (by omega) (by omega) hW hb (fun hac hdp q hq hd => hg hac hdp q hq (by omega))
      exact lp2 7 0 w (fun _ => 0) _ _ _ _ _ _ _ _ (by omega) (by omega) (wset_same h5).symm (fun _ => by omega) (fun _ _ q _ hd => absurd hd (Nat.not_lt_zero _))
    · refine i_aload C dL_extents_9 (kk := ?_)
      refine i_iload C dL_extents_11 (kk := ?_)
      refine i_iconst C dL_extents_13 (kk := ?_)
      refine i_iastore C dL_extents_14 (kk := ?_)
      rw [upz_zero, wset_same h5]
      refine i_iinc C dL_extents_15 (kk := ?_)
      refine i_goto C dL_extents_18 (tgt := 3) (kk := ?_)
      exact ih1 (i + 1) (by omega) (by omega)
  exact lp1 6 0 (by omega) (by omega)

theorem rdr_code {cs : List Nat} (hc : ∀ c ∈ cs, c < 50) (h1 : cs.length = 1) : ((pcs (cs.map dc6) 0).1 = 8 ↔ 45 ≤ cs.getD 0 0) ∧ (45 ≤ cs.getD 0 0 → (pcs (cs.map dc6) 0).2.1.toNat = cs.getD 0 0 - 45) := by
  rw [pcs_map (by omega)]
  have h := getD_lt hc 0
  refine dc6_all (P := fun c pc => (pc.1 = 8 ↔ 45 ≤ c) ∧ (45 ≤ c → pc.2.1.toNat = c - 45)) ?_ ?_ ?_ ?_ ?_ ?_ ?_ ?_ ?_ _ h
  all_goals (try intro c h1); (try intro h2); dsimp only; omega
set_option maxRecDepth 100000 in
set_option maxHeartbeats 4000000 in
theorem c_L_stands (l : Launch) (hl : l.stackTraces = false) (D : gD) {w : wW} {p : Nat} {a1 a2 a4 : Nat} {σ : Sg} {ft : Nat → Int64} {fz fr fv : Nat → Int} (h1 : w a1 = some (lar D 60 ft) := by assumption) (h2 : w a2 = some (iar D 60 fz) := by assumption) (h4 : w a4 = some (iar D 16 fv) := by assumption) (hR : LwR σ ft fz fr fv := by assumption) (hp : p < 5) : CTm l D yL_stands cL_stands 7 (some .int) (rmL 2 0 0) [.ref a1, .ref a2, .ref a4, .int (Z32 (p : Int))] w (fun u w1 => u = some (.int (Z32 (stT (sT σ) p))) ∧ w1 = w) := by
  refine CTm_of hl false rfl (by rfl) (Nat.le_of_ble_eq_true rfl) (fun h => nomatch h) ?_
  intro G C
  show G 0 0 w [some (.ref a1), some (.ref a2), some (.ref a4), some (.int (Z32 (p : Int))), none, none, none] 0 []
  refine i_iload_n C dL_stands_0 (kk := ?_)
  refine i_istore C dL_stands_1 (kk := ?_)
  refine i_iconst C dL_stands_3 (kk := ?_)
  refine i_istore C dL_stands_4 (kk := ?_)
  have lp : ∀ (m i : Nat) (q : Nat) (o6 : Option Value), 4 + 1 ≤ m + i → i ≤ 4 → q < 5 → stN (sT σ) (4 - i) q = stT (sT σ) p → G 0 0 w [some (.ref a1), some (.ref a2), some (.ref a4), some (.int (Z32 (p : Int))), some (.int (Z32 (q : Int))), some (.int (Z32 (i : Int))), o6] 6 [] := by
    intro m
    induction m with
    | zero => intro i q o6 h1 h2; omega
    | succ m ih =>
    intro i q o6 h1 h2 hq hst
    refine i_iload C dL_stands_6 (kk := ?_)
    refine i_iconst C dL_stands_8 (kk := ?_)
    refine i_icmp_ge C dL_stands_9 (tgt := 65) (kt := fun hB9 => ?_) (kf := fun hB9 => ?_)
    · refine i_iconst C dL_stands_65 (kk := ?_)
      exact i_iret C (d := dL_stands_66) (h := ⟨by rw [← hst, show 4 - i = 0 by omega]; rfl, rfl⟩)
    · have hn11 := (hR.nv hq).2
      obtain ⟨cs, hcs, hc, h9, hx9⟩ := hR.tx hq
      have hlen : (sT σ q).length = cs.length := by rw [hcs, List.length_map]
      obtain ⟨j, hj⟩ : ∃ j, 4 - i = j + 1 := ⟨3 - i, by omega⟩
      rw [hj] at hst
      refine i_aload_n C dL_stands_12 (kk := ?_)
      refine i_aload_n C dL_stands_13 (kk := ?_)
      refine i_iload C dL_stands_14 (kk := ?_)
      refine i_callS C lk_L_24 (c_L_now l hl D (p := q)) (hst := rfl) dL_stands_16 (kk := fun v16 w16 g16 => ?_)
      obtain ⟨rfl, q16⟩ := g16
      have q16 := q16.symm
      subst q16
      refine i_iaload C dL_stands_19 (kk := ?_)
      rw [Int.toNat_natCast, hR.sz hq]
      refine i_iconst C dL_stands_20 (kk := ?_)
      have jd : ∀ c : Nat, c < 50 → ((45 ≤ c ∧ cs.length = 1 ∧ c = cs.getD 0 0) ∨ (c < 45 ∧ ¬ (cs.length = 1 ∧ 45 ≤ cs.getD 0 0))) → G 0 0 w [some (.ref a1), some (.ref a2), some (.ref a4), some (.int (Z32 (p : Int))), some (.int (Z32 (q : Int))), some (.int (Z32 (i : Int))), o6] 40 [.int (Z32 (c : Int))] := by
        intro c hc5 hcc
        refine i_istore C dL_stands_40 (kk := ?_)
        refine i_iload C dL_stands_42 (kk := ?_)
        refine i_bipush C dL_stands_44 (kk := ?_)
        refine i_icmp_ge C dL_stands_46 (tgt := 52) (kt := fun hB46 => ?_) (kf := fun hB46 => ?_)
        · have hr := rdr_code hc (by omega)
          have hc45 : 45 ≤ cs.getD 0 0 := by omega
          have e8 : (sT σ q).length = 1 ∧ (pcs (sT σ q) 0).1 = 8 := ⟨by omega, by rw [hcs]; exact hr.1.mpr hc45⟩
          rw [stN_yes e8, hcs, hr.2 hc45] at hst
          have ec : c = cs.getD 0 0 := by omega
          refine i_iload C dL_stands_52 (kk := ?_)
          refine i_bipush C dL_stands_54 (kk := ?_)
          refine i_isub C dL_stands_56 (kk := ?_)
          rw [show (c : Int) - 45 = ((cs.getD 0 0 - 45 : Nat) : Int) by omega]
          refine i_istore C dL_stands_57 (kk := ?_)
          refine i_iinc C dL_stands_59 (kk := ?_)
          refine i_goto C dL_stands_62 (tgt := 6) (kk := ?_)
          exact ih (i + 1) (cs.getD 0 0 - 45) _ (by omega) (by omega) (by omega) (by rw [show 4 - (i + 1) = j by omega]; exact hst)
        · have hr := rdr_code hc
          have hno : ¬ ((sT σ q).length = 1 ∧ (pcs (sT σ q) 0).1 = 8) := fun z => by
            have z1 : cs.length = 1 := by rw [← hlen]; exact z.1
            have z2 := (hr z1).1.mp (by rw [← hcs]; exact z.2)
            omega
          refine i_iload C dL_stands_49 (kk := ?_)
          exact i_iret C (d := dL_stands_51) (h := ⟨by rw [← hst, stN_no hno], rfl⟩)
      refine i_icmp_ne C dL_stands_21 (tgt := 39) (kt := fun hB21 => ?_) (kf := fun hB21 => ?_)
      · refine i_iconst C dL_stands_39 (kk := ?_)
        first | exact jd 0 (by omega) (by omega) | exact jd _ (by omega) (by omega)
      · have hgd := getD_lt hc 0
        refine i_aload_n C dL_stands_24 (kk := ?_)
        refine i_aload_n C dL_stands_25 (kk := ?_)
        refine i_iload C dL_stands_26 (kk := ?_)
        refine i_callS C lk_L_24 (c_L_now l hl D (p := q)) (hst := rfl) dL_stands_28 (kk := fun v28 w28 g28 => ?_)
        obtain ⟨rfl, q28⟩ := g28
        have q28 := q28.symm
        subst q28
        refine i_laload C dL_stands_31 (kk := ?_)
        rw [Int.toNat_natCast, hx9]
        refine i_iconst C dL_stands_32 (kk := ?_)
        refine i_callS C lk_L_11 (c_L_piece l hl D (cs := cs) (i := 0) hc h9 (by omega)) (hst := rfl) dL_stands_33 (kk := fun v33 w33 g33 => ?_)
        obtain ⟨rfl, q33⟩ := g33
        have q33 := q33.symm
        subst q33
        refine i_goto C dL_stands_36 (tgt := 40) (kk := ?_)
        first | exact jd 0 (by omega) (by omega) | exact jd _ (by omega) (by omega)
  exact lp 5 0 p _ (by omega) (by omega) hp rfl
