theorem gtzR {f : Nat → Int} (h : ∀ j, j < 12 → 0 ≤ f j ∧ f j ≤ 2000) : ∀ n, n ≤ 12 → 0 ≤ gtz f n ∧ gtz f n ≤ 2000
  | 0, _ => ⟨Int.le_refl 0, show (0 : Int) ≤ 2000 by decide⟩
  | n + 1, hn => by
    have h1 := gtzR h n (by omega)
    have h2 := h n (by omega)
    show 0 ≤ max (gtz f n) (f n) ∧ max (gtz f n) (f n) ≤ 2000
    omega
set_option maxRecDepth 100000 in
set_option maxHeartbeats 4000000 in
theorem c_X7_laysReached (l : Launch) (hl : l.stackTraces = false) (D : gD) {w0 w : wW} {τ ad : Nat → Nat} {F : Nat → Nat → Int} {dn op sh la : Int} {fc : Nat → Nat} (hM : MdR D w0 w τ ad F dn op sh la := by assumption) (hc : ∀ m, m < 144 → F 9 m = (fc m : Int)) (hc30 : ∀ m, m < 144 → fc m ≤ 30) : CTm l D yX7_laysReached cX7_laysReached 4 none (rmL 1 0 0) [.ref (ad 5000)] w (fun u w1 => u = none ∧ ∃ F1, MdR D w0 w1 τ ad F1 dn op sh la ∧ (∀ j, j ≠ 11 → F1 j = F j) ∧ ∃ g : Nat → Nat, (∀ p, p < 12 → F1 11 p = (g p : Int)) ∧ (∀ p, g p < 4096) ∧ ∀ p q, p < 12 → ((g p).testBit q = true ↔ gRc (gC12 fc) p q)) := by
  refine CTm_of hl false rfl (by rfl) (Nat.le_of_ble_eq_true rfl) (fun h => nomatch h) ?_
  intro G C
  show G 0 0 w [some (.ref (ad 5000)), none, none, none] 0 []
  refine i_iconst C dX7_laysReached_0 (kk := ?_)
  refine i_istore_n C dX7_laysReached_1 (kk := ?_)
  have lp1 : ∀ (m k : Nat) (w1 : wW) (F1 : Nat → Nat → Int), 12 + 1 ≤ m + k → k ≤ 12 → MdR D w0 w1 τ ad F1 dn op sh la → (∀ j, j ≠ 11 → F1 j = F j) → (∀ p, p < k → F1 11 p = 0) → G 0 0 w1 [some (.ref (ad 5000)), some (.int (Z32 (k : Int))), none, none] 2 [] := by
    intro m
    induction m with
    | zero => intro k w1 F1 h1 h2; omega
    | succ m ih =>
    intro k w1 F1 h1 h2 hM er ez
    refine i_iload_n C dX7_laysReached_2 (kk := ?_)
    refine i_bipush C dX7_laysReached_3 (kk := ?_)
    refine i_icmp_ge C dX7_laysReached_5 (tgt := 21) (kt := fun hB5 => ?_) (kf := fun hB5 => ?_)
    · refine i_iconst C dX7_laysReached_21 (kk := ?_)
      refine i_istore_n C dX7_laysReached_22 (kk := ?_)
      have lp2 : ∀ (m r : Nat) (w1 : wW) (F1 : Nat → Nat → Int) (g : Nat → Nat) (o2 o3 : Option Value), 12 + 1 ≤ m + r → r ≤ 12 → MdR D w0 w1 τ ad F1 dn op sh la → (∀ j, j ≠ 11 → F1 j = F j) → (∀ p, p < 12 → F1 11 p = (g p : Int)) → ri (gC12 fc) r 0 0 g → G 0 0 w1 [some (.ref (ad 5000)), some (.int (Z32 (r : Int))), o2, o3] 23 [] := by
        intro m
        induction m with
        | zero => intro r w1 F1 g o2 o3 h1 h2; omega
        | succ m ih =>
        intro r w1 F1 g o2 o3 h1 h2 hM er eg hr
        refine i_iload_n C dX7_laysReached_23 (kk := ?_)
        refine i_bipush C dX7_laysReached_24 (kk := ?_)
        refine i_icmp_ge C dX7_laysReached_26 (tgt := 100) (kt := fun hB26 => ?_) (kf := fun hB26 => ?_)
        · have hr12 : r = 12 := by omega
          subst hr12
          exact i_vret C (d := dX7_laysReached_100) (h := ⟨rfl, F1, hM, er, g, eg, hr.2.2.2.2, fun p q hp => hr.done hp⟩)
        · refine i_iconst C dX7_laysReached_29 (kk := ?_)
          refine i_istore_n C dX7_laysReached_30 (kk := ?_)
          have lp3 : ∀ (m k : Nat) (w1 : wW) (F1 : Nat → Nat → Int) (g : Nat → Nat) (o3 : Option Value), 12 + 1 ≤ m + k → k ≤ 12 → MdR D w0 w1 τ ad F1 dn op sh la → (∀ j, j ≠ 11 → F1 j = F j) → (∀ p, p < 12 → F1 11 p = (g p : Int)) → ri (gC12 fc) r k 0 g → G 0 0 w1 [some (.ref (ad 5000)), some (.int (Z32 (r : Int))), some (.int (Z32 (k : Int))), o3] 31 [] := by
            intro m
            induction m with
            | zero => intro k w1 F1 g o3 h1 h2; omega
            | succ m ihk =>
            intro k w1 F1 g o3 h1 h2 hM er eg hr
            refine i_iload_n C dX7_laysReached_31 (kk := ?_)
            refine i_bipush C dX7_laysReached_32 (kk := ?_)
            refine i_icmp_ge C dX7_laysReached_34 (tgt := 94) (kt := fun hB34 => ?_) (kf := fun hB34 => ?_)
            · have hk12 : k = 12 := by omega
              subst hk12
              refine i_iinc C dX7_laysReached_94 (kk := ?_)
              refine i_goto C dX7_laysReached_97 (tgt := 23) (kk := ?_)
              exact ih (r + 1) _ _ g _ _ (by omega) (by omega) hM er eg hr.rnd
            · refine i_iconst C dX7_laysReached_37 (kk := ?_)
              refine i_istore_n C dX7_laysReached_38 (kk := ?_)
              have lp4 : ∀ (m j : Nat) (w1 : wW) (F1 : Nat → Nat → Int) (g : Nat → Nat), 12 + 1 ≤ m + j → j ≤ 12 → MdR D w0 w1 τ ad F1 dn op sh la → (∀ j, j ≠ 11 → F1 j = F j) → (∀ p, p < 12 → F1 11 p = (g p : Int)) → ri (gC12 fc) r k j g → G 0 0 w1 [some (.ref (ad 5000)), some (.int (Z32 (r : Int))), some (.int (Z32 (k : Int))), some (.int (Z32 (j : Int)))] 39 [] := by
                intro m
                induction m with
                | zero => intro j w1 F1 g h1 h2; omega
                | succ m ihj =>
                intro j w1 F1 g h1 h2 hM er eg hr
                refine i_iload_n C dX7_laysReached_39 (kk := ?_)
                refine i_bipush C dX7_laysReached_40 (kk := ?_)
                refine i_icmp_ge C dX7_laysReached_42 (tgt := 88) (kt := fun hB42 => ?_) (kf := fun hB42 => ?_)
                · have hj12 : j = 12 := by omega
                  subst hj12
                  refine i_iinc C dX7_laysReached_88 (kk := ?_)
                  refine i_goto C dX7_laysReached_91 (tgt := 31) (kk := ?_)
                  exact ihk (k + 1) _ _ g _ (by omega) (by omega) hM er eg hr.row
                · refine i_aload_n C dX7_laysReached_45 (kk := ?_)
                  refine i_getf C f_X7_37 dX7_laysReached_46 (hw := hM.obj) (kk := ?_)
                  refine i_iload_n C dX7_laysReached_49 (kk := ?_)
                  refine i_dup2 C dX7_laysReached_50 (kk := ?_)
                  refine m_ial C hM 11 (k) (N := 12) dX7_laysReached_51 (kk := ?_)
                  rw [eg k (by omega)]
                  refine i_aload_n C dX7_laysReached_52 (kk := ?_)
                  refine i_getf C f_X7_31 dX7_laysReached_53 (hw := hM.obj) (kk := ?_)
                  refine i_bipush C dX7_laysReached_56 (kk := ?_)
                  refine i_iload_n C dX7_laysReached_58 (kk := ?_)
                  refine i_imul C dX7_laysReached_59 (kk := ?_)
                  refine i_iload_n C dX7_laysReached_60 (kk := ?_)
                  refine i_iadd C dX7_laysReached_61 (kk := ?_)
                  refine m_ial C hM 9 (12 * k + j) (N := 144) dX7_laysReached_62 (kk := ?_)
                  rw [er 9 (by decide), hc (12 * k + j) (by omega)]
                  have hcc := hc30 (12 * k + j) (by omega)
                  refine i_if_le C dX7_laysReached_63 (tgt := 79) (kt := fun hB63 => ?_) (kf := fun hB63 => ?_)
                  · have eX : rX (gC12 fc) g k j = 0 := if_neg (show ¬ 0 < fc (12 * k + j) by omega)
                    refine i_iconst C dX7_laysReached_79 (kk := ?_)
                    refine i_ior C dX7_laysReached_80 (hz := by first | exact Z32_or (g k) (g j ||| 2 ^ j) | exact Z32_or (g k) 0) (kk := ?_)
                    refine m_iasF C hM 11 (k) (N := 12) dX7_laysReached_81 (kk := fun w81 F81 hM u81 n81 => ?_)
                    refine i_iinc C dX7_laysReached_82 (kk := ?_)
                    refine i_goto C dX7_laysReached_85 (tgt := 39) (kk := ?_)
                    exact ihj (j + 1) _ _ (upz g k (g k ||| rX (gC12 fc) g k j)) (by omega) (by omega) hM (fun j h => by rw [n81 j h]; exact er j h) (fun p hp => by rw [u81, eX]; by_cases z : p = k; (subst z; rw [upz_eq, upz_eq]); (rw [upz_ne z, upz_ne z]; exact eg p hp)) (hr.step (by omega) (by omega)).1
                  · have eX : rX (gC12 fc) g k j = g j ||| 2 ^ j := if_pos (show 0 < fc (12 * k + j) by omega)
                    refine i_aload_n C dX7_laysReached_66 (kk := ?_)
                    refine i_getf C f_X7_37 dX7_laysReached_67 (hw := hM.obj) (kk := ?_)
                    refine i_iload_n C dX7_laysReached_70 (kk := ?_)
                    refine m_ial C hM 11 (j) (N := 12) dX7_laysReached_71 (kk := ?_)
                    rw [eg j (by omega)]
                    refine i_iconst C dX7_laysReached_72 (kk := ?_)
                    refine i_iload_n C dX7_laysReached_73 (kk := ?_)
                    refine i_ishl C dX7_laysReached_74 (hz := Z32_shl (by omega)) (kk := ?_)
                    refine i_ior C dX7_laysReached_75 (hz := Z32_or (g j) (2 ^ j)) (kk := ?_)
                    refine i_goto C dX7_laysReached_76 (tgt := 80) (kk := ?_)
                    refine i_ior C dX7_laysReached_80 (hz := by first | exact Z32_or (g k) (g j ||| 2 ^ j) | exact Z32_or (g k) 0) (kk := ?_)
                    refine m_iasF C hM 11 (k) (N := 12) dX7_laysReached_81 (kk := fun w81 F81 hM u81 n81 => ?_)
                    refine i_iinc C dX7_laysReached_82 (kk := ?_)
                    refine i_goto C dX7_laysReached_85 (tgt := 39) (kk := ?_)
                    exact ihj (j + 1) _ _ (upz g k (g k ||| rX (gC12 fc) g k j)) (by omega) (by omega) hM (fun j h => by rw [n81 j h]; exact er j h) (fun p hp => by rw [u81, eX]; by_cases z : p = k; (subst z; rw [upz_eq, upz_eq]); (rw [upz_ne z, upz_ne z]; exact eg p hp)) (hr.step (by omega) (by omega)).1
              exact lp4 13 0 _ _ g (by omega) (by omega) hM er eg hr
          exact lp3 13 0 _ _ g _ (by omega) (by omega) hM er eg hr
      exact lp2 13 0 _ _ (fun _ => 0) _ _ (by omega) (by omega) hM er (fun p hp => ez p (by omega)) (ri.zero (fun _ => rfl))
    · refine i_aload_n C dX7_laysReached_8 (kk := ?_)
      refine i_getf C f_X7_37 dX7_laysReached_9 (hw := hM.obj) (kk := ?_)
      refine i_iload_n C dX7_laysReached_12 (kk := ?_)
      refine i_iconst C dX7_laysReached_13 (kk := ?_)
      refine m_iasF C hM 11 (k) (N := 12) dX7_laysReached_14 (kk := fun w14 F14 hM u14 n14 => ?_)
      refine i_iinc C dX7_laysReached_15 (kk := ?_)
      refine i_goto C dX7_laysReached_18 (tgt := 2) (kk := ?_)
      exact ih (k + 1) _ _ (by omega) (by omega) hM (fun j h => by rw [n14 j h]; exact er j h) (fun p hp => by rw [u14]; by_cases z : p = k; (subst z; rw [upz_eq]); (rw [upz_ne z]; exact ez p (by omega)))
  exact lp1 13 0 _ _ (by omega) (by omega) hM (fun _ _ => rfl) (fun p hp => absurd hp (Nat.not_lt_zero p))

set_option maxRecDepth 100000 in
set_option maxHeartbeats 4000000 in
theorem c_X7_laysNow (l : Launch) (hl : l.stackTraces = false) (D : gD) {w0 w : wW} {τ ad : Nat → Nat} {F : Nat → Nat → Int} {dn op sh la : Int} {σ : Sg} (hM : MdR D w0 w τ ad F dn op sh la := by assumption) (hS : SgOK σ) (hV : MdV σ F dn op) : CTm l D yX7_laysNow cX7_laysNow 2 none (rmL 2 0 0) [.ref (ad 5000)] w (fun u w1 => u = none ∧ ∃ F1, MdR D w0 w1 τ ad F1 dn op sh la ∧ (∀ j, j ≠ 9 → j ≠ 10 → j ≠ 11 → F1 j = F j) ∧ cal (sT σ) F1 ∧ ∀ p, p < 12 → F1 11 p = (rsT (sT σ) p : Int)) := by
  refine CTm_of hl false rfl (by rfl) (Nat.le_of_ble_eq_true rfl) (fun h => nomatch h) ?_
  intro G C
  show G 0 0 w [some (.ref (ad 5000)), none] 0 []
  refine i_iconst C dX7_laysNow_0 (kk := ?_)
  refine i_istore_n C dX7_laysNow_1 (kk := ?_)
  have lp1 : ∀ (m k : Nat) (w1 : wW) (F1 : Nat → Nat → Int), 12 + 1 ≤ m + k → k ≤ 12 → MdR D w0 w1 τ ad F1 dn op sh la → (∀ j, j ≠ 9 → j ≠ 10 → F1 j = F j) → (∀ p, p < k → (∀ q, q < 12 → F1 9 (12 * p + q) = (ccn q (sT σ p) : Int)) ∧ F1 10 p = (oxn (sT σ p) : Int)) → G 0 0 w1 [some (.ref (ad 5000)), some (.int (Z32 (k : Int)))] 2 [] := by
    intro m
    induction m with
    | zero => intro k w1 F1 h1 h2; omega
    | succ m ih =>
    intro k w1 F1 h1 h2 hM er ec
    refine i_iload_n C dX7_laysNow_2 (kk := ?_)
    refine i_bipush C dX7_laysNow_3 (kk := ?_)
    refine i_icmp_ge C dX7_laysNow_5 (tgt := 24) (kt := fun hB5 => ?_) (kf := fun hB5 => ?_)
    · have hk12 : k = 12 := by omega
      subst hk12
      refine i_aload_n C dX7_laysNow_24 (kk := ?_)
      have hcal : cal (sT σ) F1 := ⟨fun m hm => by
        have h := (ec (m / 12) (by omega)).1 (m % 12) (by omega)
        rw [show 12 * (m / 12) + m % 12 = m by omega] at h
        exact h, fun p hp => (ec p hp).2⟩
      have hT30 : ∀ p, p < 12 → (sT σ p).length ≤ 30 := fun p hp => ((hS.2.1 p hp).2.2.2.2.2 _ (Nat.le_refl _)).1.2.2
      refine i_callV C lk_X7_105 (c_X7_laysReached l hl D (hM := hM) (fc := fcT (sT σ)) hcal.1 (fun m hm => fcT_le hT30 hm)) (hcl := rfl) (hst := rfl) dX7_laysNow_25 (hw := hM.obj) (kk := fun v25 w25 g25 => ?_)
      obtain ⟨rfl, F2, hM, er2, g, eg, gb, hg⟩ := g25
      exact i_vret C (d := dX7_laysNow_28) (h := ⟨rfl, F2, hM, fun j h1 h2 h3 => by rw [er2 j h3]; exact er j h1 h2, ⟨fun m hm => by rw [er2 9 (by decide)]; exact hcal.1 m hm, fun p hp => by rw [er2 10 (by decide)]; exact hcal.2 p hp⟩, fun p hp => by rw [eg p hp, eq_bits (gb p) rsT_lt (fun q hq => (hg p q hp).trans (rsT_bit hp hq).symm)]⟩)
    · have hV1 := hV.congr (F' := F1) (fun j hj => er j (by omega) (by omega))
      have h20 := (hS.2.1 k (by omega)).1
      refine i_aload_n C dX7_laysNow_8 (kk := ?_)
      refine i_iload_n C dX7_laysNow_9 (kk := ?_)
      refine i_aload_n C dX7_laysNow_10 (kk := ?_)
      refine i_iload_n C dX7_laysNow_11 (kk := ?_)
      refine i_callV C lk_X7_97 (c_X7_now l hl D (hM := hM) (p := k) (v := sNv σ k) (by omega) (hV1.2.2.2.1 k (by omega)).1 h20) (hcl := rfl) (hst := rfl) dX7_laysNow_12 (hw := hM.obj) (kk := fun v12 w12 g12 => ?_)
      obtain ⟨rfl, q12⟩ := g12
      have q12 := q12.symm
      subst q12
      refine i_callV C lk_X7_101 (c_X7_laysCalls l hl D (hM := hM) (p := k) (hV1.src hS (p := k) (v := sNv σ k) (by omega) (Nat.le_refl _)) (by omega)) (hcl := rfl) (hst := rfl) dX7_laysNow_15 (hw := hM.obj) (kk := fun v15 w15 g15 => ?_)
      obtain ⟨rfl, F2, hM, er2, e10, e9, ew⟩ := g15
      refine i_iinc C dX7_laysNow_18 (kk := ?_)
      refine i_goto C dX7_laysNow_21 (tgt := 2) (kk := ?_)
      exact ih (k + 1) _ _ (by omega) (by omega) hM (fun j h1 h2 => by rw [er2 j h1 h2]; exact er j h1 h2) (fun p hp => by
        by_cases z : p = k
        · subst z; exact ⟨e9, by rw [e10, upz_eq]; rfl⟩
        · exact ⟨fun q hq => by rw [ew _ (by omega)]; exact (ec p (by omega)).1 q hq, by rw [e10, upz_ne z]; exact (ec p (by omega)).2⟩)
  exact lp1 13 0 _ _ (by omega) (by omega) hM (fun _ _ _ => rfl) (fun p hp => absurd hp (Nat.not_lt_zero p))

set_option maxRecDepth 100000 in
set_option maxHeartbeats 4000000 in
theorem c_X7_measures (l : Launch) (hl : l.stackTraces = false) (D : gD) {w0 w : wW} {τ ad : Nat → Nat} {F : Nat → Nat → Int} {dn op sh la : Int} {T : Nat → List Pc3} (hM : MdR D w0 w τ ad F dn op sh la := by assumption) (hT : ∀ p, p < 12 → (T p).length ≤ 30) (hc : cal T F) (ha : gAcy (fcT T)) : CTm l D yX7_measures cX7_measures 7 none (rmL 1 0 0) [.ref (ad 5000)] w (fun u w1 => u = none ∧ ∃ F1, MdR D w0 w1 τ ad F1 dn op sh la ∧ (∀ j, j ≠ 12 → j ≠ 13 → F1 j = F j) ∧ ∀ p, p < 12 → F1 12 p = (depT T p : Int) ∧ F1 13 p = ((min (extT T p) 1000 : Nat) : Int)) := by
  refine CTm_of hl false rfl (by rfl) (Nat.le_of_ble_eq_true rfl) (fun h => nomatch h) ?_
  intro G C
  show G 0 0 w [some (.ref (ad 5000)), none, none, none, none, none, none] 0 []
  refine i_iconst C dX7_measures_0 (kk := ?_)
  refine i_istore_n C dX7_measures_1 (kk := ?_)
  have lp1 : ∀ (m k : Nat) (w1 : wW) (F1 : Nat → Nat → Int), 12 + 1 ≤ m + k → k ≤ 12 → MdR D w0 w1 τ ad F1 dn op sh la → (∀ j, j ≠ 12 → j ≠ 13 → F1 j = F j) → (∀ p, p < k → F1 12 p = 0 ∧ F1 13 p = 0) → G 0 0 w1 [some (.ref (ad 5000)), some (.int (Z32 (k : Int))), none, none, none, none, none] 2 [] := by
    intro m
    induction m with
    | zero => intro k w1 F1 h1 h2; omega
    | succ m ih =>
    intro k w1 F1 h1 h2 hM er ez
    refine i_iload_n C dX7_measures_2 (kk := ?_)
    refine i_bipush C dX7_measures_3 (kk := ?_)
    refine i_icmp_ge C dX7_measures_5 (tgt := 28) (kt := fun hB5 => ?_) (kf := fun hB5 => ?_)
    · refine i_iconst C dX7_measures_28 (kk := ?_)
      refine i_istore_n C dX7_measures_29 (kk := ?_)
      have lp2 : ∀ (m r : Nat) (w1 : wW) (F1 : Nat → Nat → Int) (o2 o3 o4 o5 o6 : Option Value), 12 + 1 ≤ m + r → r ≤ 12 → MdR D w0 w1 τ ad F1 dn op sh la → (∀ j, j ≠ 12 → j ≠ 13 → F1 j = F j) → (∀ p, p < 12 → F1 12 p = (dRnd (fcT T) (fun _ => 0) r p : Int) ∧ F1 13 p = (xRnd (fcT T) (foT T) r p : Int)) → G 0 0 w1 [some (.ref (ad 5000)), some (.int (Z32 (r : Int))), o2, o3, o4, o5, o6] 30 [] := by
        intro m
        induction m with
        | zero => intro r w1 F1 o2 o3 o4 o5 o6 h1 h2; omega
        | succ m ih =>
        intro r w1 F1 o2 o3 o4 o5 o6 h1 h2 hM er ed
        refine i_iload_n C dX7_measures_30 (kk := ?_)
        refine i_bipush C dX7_measures_31 (kk := ?_)
        refine i_icmp_ge C dX7_measures_33 (tgt := 172) (kt := fun hB33 => ?_) (kf := fun hB33 => ?_)
        · have hr12 : r = 12 := by omega
          subst hr12
          exact i_vret C (d := dX7_measures_172) (h := ⟨rfl, F1, hM, er, fun p hp => ⟨by rw [(ed p hp).1, dRnd12 ha hp]; rfl, by rw [(ed p hp).2, xRnd_at ha 12 p hp (Nat.lt_succ_of_le (dpN_top ha 11 p hp))]; rfl⟩⟩)
        · refine i_iconst C dX7_measures_36 (kk := ?_)
          refine i_istore_n C dX7_measures_37 (kk := ?_)
          have lp3 : ∀ (m k : Nat) (w1 : wW) (F1 : Nat → Nat → Int) (o3 o4 o5 o6 : Option Value), 12 + 1 ≤ m + k → k ≤ 12 → MdR D w0 w1 τ ad F1 dn op sh la → (∀ j, j ≠ 12 → j ≠ 13 → F1 j = F j) → (∀ p, p < 12 → F1 12 p = (dRow (fcT T) (dRnd (fcT T) (fun _ => 0) r) k p : Int) ∧ F1 13 p = (xRow (fcT T) (foT T) (xRnd (fcT T) (foT T) r) k p : Int)) → G 0 0 w1 [some (.ref (ad 5000)), some (.int (Z32 (r : Int))), some (.int (Z32 (k : Int))), o3, o4, o5, o6] 38 [] := by
            intro m
            induction m with
            | zero => intro k w1 F1 o3 o4 o5 o6 h1 h2; omega
            | succ m ihk =>
            intro k w1 F1 o3 o4 o5 o6 h1 h2 hM er ed
            refine i_iload_n C dX7_measures_38 (kk := ?_)
            refine i_bipush C dX7_measures_39 (kk := ?_)
            refine i_icmp_ge C dX7_measures_41 (tgt := 166) (kt := fun hB41 => ?_) (kf := fun hB41 => ?_)
            · have hk12 : k = 12 := by omega
              subst hk12
              refine i_iinc C dX7_measures_166 (kk := ?_)
              refine i_goto C dX7_measures_169 (tgt := 30) (kk := ?_)
              exact ih (r + 1) _ _ _ _ _ _ _ (by omega) (by omega) hM er ed
            · obtain ⟨d, hd⟩ : ∃ d, d = dRow (fcT T) (dRnd (fcT T) (fun _ => 0) r) k := ⟨_, rfl⟩
              obtain ⟨x, hx⟩ : ∃ x, x = xRow (fcT T) (foT T) (xRnd (fcT T) (foT T) r) k := ⟨_, rfl⟩
              have hk12 : k < 12 := by omega
              have hd11 : ∀ p, p < 12 → d p ≤ 11 := fun p hp => by rw [hd]; exact dRow_le ha h2 hp
              have hx1 : ∀ p, x p ≤ 1000 := fun p => by rw [hx]; exact xRow_le (fun p => xRnd_le r p) k p
              have ed2 : ∀ p, p < 12 → F1 12 p = (d p : Int) ∧ F1 13 p = (x p : Int) := fun p hp => by rw [hd, hx]; exact ed p hp
              refine i_iconst C dX7_measures_44 (kk := ?_)
              refine i_istore_n C dX7_measures_45 (kk := ?_)
              refine i_aload_n C dX7_measures_46 (kk := ?_)
              refine i_getf C f_X7_34 dX7_measures_47 (hw := hM.obj) (kk := ?_)
              refine i_iload_n C dX7_measures_50 (kk := ?_)
              refine m_ial C hM 10 (k) (N := 12) dX7_measures_51 (kk := ?_)
              rw [er 10 (by decide) (by decide), hc.2 k (by omega)]
              refine i_istore C dX7_measures_52 (kk := ?_)
              refine i_iconst C dX7_measures_54 (kk := ?_)
              refine i_istore C dX7_measures_55 (kk := ?_)
              have lp4 : ∀ (m j : Nat) (o6 : Option Value), 12 + 1 ≤ m + j → j ≤ 12 → G 0 0 w1 [some (.ref (ad 5000)), some (.int (Z32 (r : Int))), some (.int (Z32 (k : Int))), some (.int (Z32 (dOC (fcT T) d k j : Int))), some (.int (Z32 (eOC (fcT T) (foT T) x k j : Int))), some (.int (Z32 (j : Int))), o6] 57 [] := by
                intro m
                induction m with
                | zero => intro j o6 h1 h2; omega
                | succ m ihj =>
                intro j o6 h1 h2
                refine i_iload C dX7_measures_57 (kk := ?_)
                refine i_bipush C dX7_measures_59 (kk := ?_)
                refine i_icmp_ge C dX7_measures_61 (tgt := 131) (kt := fun hB61 => ?_) (kf := fun hB61 => ?_)
                · have hj12 : j = 12 := by omega
                  subst hj12
                  have hD9 := dOC_leF (fc := fcT T) (p := k) hd11 12 (Nat.le_refl _)
                  have hX9 := eOC_leF (fc := fcT T) (fo := foT T) (p := k) (fun j hj => fcT_le hT (by omega)) (foT_le hT (by omega)) hx1 12 (Nat.le_refl _)
                  refine i_aload_n C dX7_measures_131 (kk := ?_)
                  refine i_getf C f_X7_40 dX7_measures_132 (hw := hM.obj) (kk := ?_)
                  refine i_iload_n C dX7_measures_135 (kk := ?_)
                  refine i_iload_n C dX7_measures_136 (kk := ?_)
                  refine m_iasF C hM 12 (k) (N := 12) dX7_measures_137 (kk := fun w137 F137 hM u137 n137 => ?_)
                  refine i_aload_n C dX7_measures_138 (kk := ?_)
                  refine i_getf C f_X7_43 dX7_measures_139 (hw := hM.obj) (kk := ?_)
                  refine i_iload_n C dX7_measures_142 (kk := ?_)
                  refine i_iload C dX7_measures_143 (kk := ?_)
                  refine i_sipush C dX7_measures_145 (kk := ?_)
                  have je : ∀ z : Int, z = ((min (eOC (fcT T) (foT T) x k 12) 1000 : Nat) : Int) → G 0 0 w137 [some (.ref (ad 5000)), some (.int (Z32 (r : Int))), some (.int (Z32 (k : Int))), some (.int (Z32 (dOC (fcT T) d k 12 : Int))), some (.int (Z32 (eOC (fcT T) (foT T) x k 12 : Int))), some (.int (Z32 ((12 : Nat) : Int))), o6] 159 [.int (Z32 z), .int (Z32 (k : Int)), .ref (ad 5014)] := by
                    intro z hz
                    refine m_iasF C hM 13 (k) (N := 12) dX7_measures_159 (kk := fun w159 F159 hM u159 n159 => ?_)
                    refine i_iinc C dX7_measures_160 (kk := ?_)
                    refine i_goto C dX7_measures_163 (tgt := 38) (kk := ?_)
                    exact ihk (k + 1) _ _ _ _ _ _ (by omega) (by omega) hM (fun j h1 h2 => by rw [n159 j h2, n137 j h1]; exact er j h1 h2) (fun p hp => by
                      rw [u159, n159 12 (by decide), u137, n137 13 (by decide), hz]
                      show _ = ((upz (dRow (fcT T) (dRnd (fcT T) (fun _ => 0) r) k) k (dOC (fcT T) (dRow (fcT T) (dRnd (fcT T) (fun _ => 0) r) k) k 12) p : Nat) : Int) ∧ _ = ((upz (xRow (fcT T) (foT T) (xRnd (fcT T) (foT T) r) k) k (min (eOC (fcT T) (foT T) (xRow (fcT T) (foT T) (xRnd (fcT T) (foT T) r) k) k 12) 1000) p : Nat) : Int)
                      rw [← hd, ← hx]
                      by_cases z9 : p = k
                      · subst z9; rw [upz_eq, upz_eq, upz_eq, upz_eq]; exact ⟨rfl, rfl⟩
                      · rw [upz_ne z9, upz_ne z9, upz_ne z9, upz_ne z9]; exact ed2 p hp)
                  refine i_icmp_le C dX7_measures_148 (tgt := 157) (kt := fun hB148 => ?_) (kf := fun hB148 => ?_)
                  · refine i_iload C dX7_measures_157 (kk := ?_)
                    exact je _ (by omega)
                  · refine i_sipush C dX7_measures_151 (kk := ?_)
                    refine i_goto C dX7_measures_154 (tgt := 159) (kk := ?_)
                    exact je _ (by omega)
                · have hdj := hd11 j (by omega)
                  have hxj := hx1 j
                  have hD9 := dOC_leF (fc := fcT T) (p := k) hd11 j (by omega)
                  have hcj := fcT_le hT (m := 12 * k + j) (by omega)
                  refine i_aload_n C dX7_measures_64 (kk := ?_)
                  refine i_getf C f_X7_31 dX7_measures_65 (hw := hM.obj) (kk := ?_)
                  refine i_bipush C dX7_measures_68 (kk := ?_)
                  refine i_iload_n C dX7_measures_70 (kk := ?_)
                  refine i_imul C dX7_measures_71 (kk := ?_)
                  refine i_iload C dX7_measures_72 (kk := ?_)
                  refine i_iadd C dX7_measures_74 (kk := ?_)
                  refine m_ial C hM 9 (12 * k + j) (N := 144) dX7_measures_75 (kk := ?_)
                  rw [er 9 (by decide) (by decide), hc.1 (12 * k + j) (by omega)]
                  refine i_istore C dX7_measures_76 (kk := ?_)
                  refine i_iload C dX7_measures_78 (kk := ?_)
                  have jd : ∀ z : Int, z = (dOC (fcT T) d k (j + 1) : Int) → G 0 0 w1 [some (.ref (ad 5000)), some (.int (Z32 (r : Int))), some (.int (Z32 (k : Int))), some (.int (Z32 (dOC (fcT T) d k j : Int))), some (.int (Z32 (eOC (fcT T) (foT T) x k j : Int))), some (.int (Z32 (j : Int))), some (.int (Z32 (fcT T (12 * k + j) : Int)))] 109 [.int (Z32 z)] := by
                    intro z hz
                    subst hz
                    refine i_istore_n C dX7_measures_109 (kk := ?_)
                    refine i_iload C dX7_measures_110 (kk := ?_)
                    refine i_iload C dX7_measures_112 (kk := ?_)
                    refine i_aload_n C dX7_measures_114 (kk := ?_)
                    refine i_getf C f_X7_43 dX7_measures_115 (hw := hM.obj) (kk := ?_)
                    refine i_iload C dX7_measures_118 (kk := ?_)
                    refine m_ial C hM 13 (j) (N := 12) dX7_measures_120 (kk := ?_)
                    rw [(ed2 j (by omega)).2]
                    refine i_imul C dX7_measures_121 (kk := ?_)
                    refine i_iadd C dX7_measures_122 (kk := ?_)
                    rw [show (eOC (fcT T) (foT T) x k j : Int) + (fcT T (12 * k + j) : Int) * (x j : Int) = ((eOC (fcT T) (foT T) x k (j + 1) : Nat) : Int) from by show _ = ((eOC (fcT T) (foT T) x k j + fcT T (12 * k + j) * x j : Nat) : Int); rw [Int.natCast_add, Int.natCast_mul]]
                    refine i_istore C dX7_measures_123 (kk := ?_)
                    refine i_iinc C dX7_measures_125 (kk := ?_)
                    refine i_goto C dX7_measures_128 (tgt := 57) (kk := ?_)
                    exact ihj (j + 1) _ (by omega) (by omega)
                  refine i_if_le C dX7_measures_80 (tgt := 108) (kt := fun hB80 => ?_) (kf := fun hB80 => ?_)
                  · have eD : (dOC (fcT T) d k j : Int) = (dOC (fcT T) d k (j + 1) : Int) := congrArg Int.ofNat (if_neg (by omega)).symm
                    refine i_iload_n C dX7_measures_108 (kk := ?_)
                    exact jd _ eD
                  · have e1 : dOC (fcT T) d k (j + 1) = max (dOC (fcT T) d k j) (d j + 1) := if_pos (by omega)
                    refine i_aload_n C dX7_measures_83 (kk := ?_)
                    refine i_getf C f_X7_40 dX7_measures_84 (hw := hM.obj) (kk := ?_)
                    refine i_iload C dX7_measures_87 (kk := ?_)
                    refine m_ial C hM 12 (j) (N := 12) dX7_measures_89 (kk := ?_)
                    rw [(ed2 j (by omega)).1]
                    refine i_iconst C dX7_measures_90 (kk := ?_)
                    refine i_iadd C dX7_measures_91 (kk := ?_)
                    refine i_iload_n C dX7_measures_92 (kk := ?_)
                    refine i_icmp_le C dX7_measures_93 (tgt := 108) (kt := fun hB93 => ?_) (kf := fun hB93 => ?_)
                    · have eD : (dOC (fcT T) d k j : Int) = (dOC (fcT T) d k (j + 1) : Int) := by rw [e1]; omega
                      refine i_iload_n C dX7_measures_108 (kk := ?_)
                      exact jd _ eD
                    · have eD : (d j : Int) + 1 = (dOC (fcT T) d k (j + 1) : Int) := by rw [e1]; omega
                      refine i_aload_n C dX7_measures_96 (kk := ?_)
                      refine i_getf C f_X7_40 dX7_measures_97 (hw := hM.obj) (kk := ?_)
                      refine i_iload C dX7_measures_100 (kk := ?_)
                      refine m_ial C hM 12 (j) (N := 12) dX7_measures_102 (kk := ?_)
                      rw [(ed2 j (by omega)).1]
                      refine i_iconst C dX7_measures_103 (kk := ?_)
                      refine i_iadd C dX7_measures_104 (kk := ?_)
                      refine i_goto C dX7_measures_105 (tgt := 109) (kk := ?_)
                      exact jd _ eD
              exact lp4 13 0 _ (by omega) (by omega)
          exact lp3 13 0 _ _ _ _ _ _ (by omega) (by omega) hM er ed
      exact lp2 13 0 _ _ _ _ _ _ _ (by omega) (by omega) hM er (fun p hp => ez p (by omega))
    · refine i_aload_n C dX7_measures_8 (kk := ?_)
      refine i_getf C f_X7_40 dX7_measures_9 (hw := hM.obj) (kk := ?_)
      refine i_iload_n C dX7_measures_12 (kk := ?_)
      refine i_iconst C dX7_measures_13 (kk := ?_)
      refine m_iasF C hM 12 (k) (N := 12) dX7_measures_14 (kk := fun w14 F14 hM u14 n14 => ?_)
      refine i_aload_n C dX7_measures_15 (kk := ?_)
      refine i_getf C f_X7_43 dX7_measures_16 (hw := hM.obj) (kk := ?_)
      refine i_iload_n C dX7_measures_19 (kk := ?_)
      refine i_iconst C dX7_measures_20 (kk := ?_)
      refine m_iasF C hM 13 (k) (N := 12) dX7_measures_21 (kk := fun w21 F21 hM u21 n21 => ?_)
      refine i_iinc C dX7_measures_22 (kk := ?_)
      refine i_goto C dX7_measures_25 (tgt := 2) (kk := ?_)
      exact ih (k + 1) _ _ (by omega) (by omega) hM (fun j h1 h2 => by rw [n21 j h2, n14 j h1]; exact er j h1 h2) (fun p hp => by rw [u21, n21 12 (by decide), u14, n14 13 (by decide)]; by_cases z : p = k; (subst z; rw [upz_eq, upz_eq]; exact ⟨rfl, rfl⟩); (rw [upz_ne z, upz_ne z]; exact ez p (by omega)))
  exact lp1 13 0 _ _ (by omega) (by omega) hM (fun _ _ _ => rfl) (fun p hp => absurd hp (Nat.not_lt_zero p))

set_option maxRecDepth 100000 in
set_option maxHeartbeats 4000000 in
theorem c_X7_forceOf (l : Launch) (hl : l.stackTraces = false) (D : gD) {w0 w : wW} {τ ad : Nat → Nat} {F : Nat → Nat → Int} {dn op sh la : Int} {p : Nat} {lk : Nat → Int} {fr : Nat → Nat} (hM : MdR D w0 w τ ad F dn op sh la := by assumption) (hp : p < 12 := by omega) (hlk : ∀ j, j < 12 → F 7 j = lk j) (hfr : ∀ j, j < 12 → F 11 j = (fr j : Int)) (hlR : ∀ j, j < 12 → 0 ≤ lk j ∧ lk j ≤ 3) (hfR : ∀ j, j < 12 → fr j < 4096) : CTm l D yX7_forceOf cX7_forceOf 4 (some .int) (rmL 2 0 0) [.ref (ad 5000), .int (Z32 (p : Int))] w (fun u w1 => u = some (.int (Z32 (frcN lk fr p 12))) ∧ w1 = w) := by
  refine CTm_of hl false rfl (by rfl) (Nat.le_of_ble_eq_true rfl) (fun h => nomatch h) ?_
  intro G C
  show G 0 0 w [some (.ref (ad 5000)), some (.int (Z32 (p : Int))), none, none] 0 []
  refine i_aload_n C dX7_forceOf_0 (kk := ?_)
  refine i_getf C f_X7_25 dX7_forceOf_1 (hw := hM.obj) (kk := ?_)
  refine i_iload_n C dX7_forceOf_4 (kk := ?_)
  refine m_ial C hM 7 (p) (N := 12) dX7_forceOf_5 (kk := ?_)
  rw [hlk p (by omega)]
  refine i_istore_n C dX7_forceOf_6 (kk := ?_)
  refine i_iconst C dX7_forceOf_7 (kk := ?_)
  refine i_istore_n C dX7_forceOf_8 (kk := ?_)
  have lp : ∀ (m j : Nat), 12 + 1 ≤ m + j → j ≤ 12 → G 0 0 w [some (.ref (ad 5000)), some (.int (Z32 (p : Int))), some (.int (Z32 (frcN lk fr p j))), some (.int (Z32 (j : Int)))] 9 [] := by
    intro m
    induction m with
    | zero => intro j h1 h2; omega
    | succ m ih =>
    intro j h1 h2
    refine i_iload_n C dX7_forceOf_9 (kk := ?_)
    refine i_bipush C dX7_forceOf_10 (kk := ?_)
    refine i_icmp_ge C dX7_forceOf_12 (tgt := 55) (kt := fun hB12 => ?_) (kf := fun hB12 => ?_)
    · have hj12 : j = 12 := by omega
      subst hj12
      refine i_iload_n C dX7_forceOf_55 (kk := ?_)
      exact i_iret C (d := dX7_forceOf_56) (h := ⟨rfl, rfl⟩)
    · have hj := hlR j (by omega)
      have hfj := hfR j (by omega)
      have hfo := frcN_R (fr := fr) hlR hp j (by omega)
      refine i_aload_n C dX7_forceOf_15 (kk := ?_)
      refine i_getf C f_X7_37 dX7_forceOf_16 (hw := hM.obj) (kk := ?_)
      refine i_iload_n C dX7_forceOf_19 (kk := ?_)
      refine m_ial C hM 11 (j) (N := 12) dX7_forceOf_20 (kk := ?_)
      rw [hfr j (by omega)]
      refine i_iload_n C dX7_forceOf_21 (kk := ?_)
      refine i_callS C lk_X7_108 (c_X7_has l hl D (s := fr j) (p := p) (by omega) (by omega)) (hst := rfl) dX7_forceOf_22 (kk := fun v22 w22 g22 => ?_)
      obtain ⟨rfl, q22⟩ := g22
      have q22 := q22.symm
      subst q22
      have jd : ∀ z : Int, z = frcN lk fr p (j + 1) → G 0 0 w [some (.ref (ad 5000)), some (.int (Z32 (p : Int))), some (.int (Z32 (frcN lk fr p j))), some (.int (Z32 (j : Int)))] 48 [.int (Z32 z)] := by
        intro z hz
        subst hz
        refine i_istore_n C dX7_forceOf_48 (kk := ?_)
        refine i_iinc C dX7_forceOf_49 (kk := ?_)
        refine i_goto C dX7_forceOf_52 (tgt := 9) (kk := ?_)
        exact ih (j + 1) (by omega) (by omega)
      refine i_if_eq C dX7_forceOf_25 (tgt := 47) (ha := by rcases bz_R ((fr j).testBit p = true) with h | h <;> omega) (kt := fun hB25 => ?_) (kf := fun hB25 => ?_)
      · have eD : frcN lk fr p j = frcN lk fr p (j + 1) := (if_neg (bz_z.mp hB25)).symm
        refine i_iload_n C dX7_forceOf_47 (kk := ?_)
        exact jd _ eD
      · have e1 : frcN lk fr p (j + 1) = max (frcN lk fr p j) (lk j) := if_pos (bz_ne.mp hB25)
        refine i_aload_n C dX7_forceOf_28 (kk := ?_)
        refine i_getf C f_X7_25 dX7_forceOf_29 (hw := hM.obj) (kk := ?_)
        refine i_iload_n C dX7_forceOf_32 (kk := ?_)
        refine m_ial C hM 7 (j) (N := 12) dX7_forceOf_33 (kk := ?_)
        rw [hlk j (by omega)]
        refine i_iload_n C dX7_forceOf_34 (kk := ?_)
        refine i_icmp_le C dX7_forceOf_35 (tgt := 47) (kt := fun hB35 => ?_) (kf := fun hB35 => ?_)
        · have eD : frcN lk fr p j = frcN lk fr p (j + 1) := by rw [e1]; omega
          refine i_iload_n C dX7_forceOf_47 (kk := ?_)
          exact jd _ eD
        · have eD : lk j = frcN lk fr p (j + 1) := by rw [e1]; omega
          refine i_aload_n C dX7_forceOf_38 (kk := ?_)
          refine i_getf C f_X7_25 dX7_forceOf_39 (hw := hM.obj) (kk := ?_)
          refine i_iload_n C dX7_forceOf_42 (kk := ?_)
          refine m_ial C hM 7 (j) (N := 12) dX7_forceOf_43 (kk := ?_)
          rw [hlk j (by omega)]
          refine i_goto C dX7_forceOf_44 (tgt := 48) (kk := ?_)
          exact jd _ eD
  exact lp 13 0 (by omega) (by omega)

set_option maxRecDepth 100000 in
set_option maxHeartbeats 4000000 in
theorem c1_X7_greatest (l : Launch) (hl : l.stackTraces = false) (D : gD) {w0 w : wW} {τ ad : Nat → Nat} {F : Nat → Nat → Int} {dn op sh la : Int} (hM : MdR D w0 w τ ad F dn op sh la := by assumption) (hf : ∀ j, j < 12 → 0 ≤ F 12 j ∧ F 12 j ≤ 2000) : CTm l D yX7_greatest cX7_greatest 5 (some .int) (rmL 1 0 0) [.ref (ad 5000), .int (Z32 1)] w (fun u w1 => u = some (.int (Z32 (gtz (F 12) 12))) ∧ w1 = w) := by
  refine CTm_of hl false rfl (by rfl) (Nat.le_of_ble_eq_true rfl) (fun h => nomatch h) ?_
  intro G C
  show G 0 0 w [some (.ref (ad 5000)), some (.int (Z32 1)), none, none, none] 0 []
  refine i_iconst C dX7_greatest_0 (kk := ?_)
  refine i_istore_n C dX7_greatest_1 (kk := ?_)
  refine i_iconst C dX7_greatest_2 (kk := ?_)
  refine i_istore_n C dX7_greatest_3 (kk := ?_)
  have lp : ∀ (m j : Nat) (o4 : Option Value), 12 + 1 ≤ m + j → j ≤ 12 → G 0 0 w [some (.ref (ad 5000)), some (.int (Z32 1)), some (.int (Z32 (gtz (F 12) j))), some (.int (Z32 (j : Int))), o4] 4 [] := by
    intro m
    induction m with
    | zero => intro j o4 h1 h2; omega
    | succ m ih =>
    intro j o4 h1 h2
    refine i_iload_n C dX7_greatest_4 (kk := ?_)
    refine i_bipush C dX7_greatest_5 (kk := ?_)
    refine i_icmp_ge C dX7_greatest_7 (tgt := 50) (kt := fun hB7 => ?_) (kf := fun hB7 => ?_)
    · have hj12 : j = 12 := by omega
      subst hj12
      refine i_iload_n C dX7_greatest_50 (kk := ?_)
      exact i_iret C (d := dX7_greatest_51) (h := ⟨rfl, rfl⟩)
    · have hj := hf j (by omega)
      have hg := gtzR hf j (by omega)
      refine i_iload_n C dX7_greatest_10 (kk := ?_)
      refine i_if_eq C dX7_greatest_11 (tgt := 23) (ha := by decide) (kt := fun hB11 => ?_) (kf := fun hB11 => ?_)
      · exact absurd hB11 (by decide)
      · refine i_aload_n C dX7_greatest_14 (kk := ?_)
        refine i_getf C f_X7_40 dX7_greatest_15 (hw := hM.obj) (kk := ?_)
        refine i_iload_n C dX7_greatest_18 (kk := ?_)
        refine m_ial C hM 12 (j) (N := 12) dX7_greatest_19 (kk := ?_)
        refine i_goto C dX7_greatest_20 (tgt := 29) (kk := ?_)
        refine i_istore C dX7_greatest_29 (kk := ?_)
        refine i_iload C dX7_greatest_31 (kk := ?_)
        refine i_iload_n C dX7_greatest_33 (kk := ?_)
        have jd : ∀ z : Int, z = gtz (F 12) (j + 1) → G 0 0 w [some (.ref (ad 5000)), some (.int (Z32 1)), some (.int (Z32 (gtz (F 12) j))), some (.int (Z32 (j : Int))), some (.int (Z32 (F 12 j)))] 43 [.int (Z32 z)] := by
          intro z hz
          subst hz
          refine i_istore_n C dX7_greatest_43 (kk := ?_)
          refine i_iinc C dX7_greatest_44 (kk := ?_)
          refine i_goto C dX7_greatest_47 (tgt := 4) (kk := ?_)
          exact ih (j + 1) _ (by omega) (by omega)
        refine i_icmp_le C dX7_greatest_34 (tgt := 42) (kt := fun hB34 => ?_) (kf := fun hB34 => ?_)
        · refine i_iload_n C dX7_greatest_42 (kk := ?_)
          exact jd _ (by show _ = max (gtz (F 12) j) (F 12 j); omega)
        · refine i_iload C dX7_greatest_37 (kk := ?_)
          refine i_goto C dX7_greatest_39 (tgt := 43) (kk := ?_)
          exact jd _ (by show _ = max (gtz (F 12) j) (F 12 j); omega)
  exact lp 13 0 _ (by omega) (by omega)

set_option maxRecDepth 100000 in
set_option maxHeartbeats 4000000 in
theorem c0_X7_greatest (l : Launch) (hl : l.stackTraces = false) (D : gD) {w0 w : wW} {τ ad : Nat → Nat} {F : Nat → Nat → Int} {dn op sh la : Int} (hM : MdR D w0 w τ ad F dn op sh la := by assumption) (hf : ∀ j, j < 12 → 0 ≤ F 13 j ∧ F 13 j ≤ 2000) : CTm l D yX7_greatest cX7_greatest 5 (some .int) (rmL 1 0 0) [.ref (ad 5000), .int (Z32 0)] w (fun u w1 => u = some (.int (Z32 (gtz (F 13) 12))) ∧ w1 = w) := by
  refine CTm_of hl false rfl (by rfl) (Nat.le_of_ble_eq_true rfl) (fun h => nomatch h) ?_
  intro G C
  show G 0 0 w [some (.ref (ad 5000)), some (.int (Z32 0)), none, none, none] 0 []
  refine i_iconst C dX7_greatest_0 (kk := ?_)
  refine i_istore_n C dX7_greatest_1 (kk := ?_)
  refine i_iconst C dX7_greatest_2 (kk := ?_)
  refine i_istore_n C dX7_greatest_3 (kk := ?_)
  have lp : ∀ (m j : Nat) (o4 : Option Value), 12 + 1 ≤ m + j → j ≤ 12 → G 0 0 w [some (.ref (ad 5000)), some (.int (Z32 0)), some (.int (Z32 (gtz (F 13) j))), some (.int (Z32 (j : Int))), o4] 4 [] := by
    intro m
    induction m with
    | zero => intro j o4 h1 h2; omega
    | succ m ih =>
    intro j o4 h1 h2
    refine i_iload_n C dX7_greatest_4 (kk := ?_)
    refine i_bipush C dX7_greatest_5 (kk := ?_)
    refine i_icmp_ge C dX7_greatest_7 (tgt := 50) (kt := fun hB7 => ?_) (kf := fun hB7 => ?_)
    · have hj12 : j = 12 := by omega
      subst hj12
      refine i_iload_n C dX7_greatest_50 (kk := ?_)
      exact i_iret C (d := dX7_greatest_51) (h := ⟨rfl, rfl⟩)
    · have hj := hf j (by omega)
      have hg := gtzR hf j (by omega)
      refine i_iload_n C dX7_greatest_10 (kk := ?_)
      refine i_if_eq C dX7_greatest_11 (tgt := 23) (ha := by decide) (kt := fun hB11 => ?_) (kf := fun hB11 => ?_)
      · refine i_aload_n C dX7_greatest_23 (kk := ?_)
        refine i_getf C f_X7_43 dX7_greatest_24 (hw := hM.obj) (kk := ?_)
        refine i_iload_n C dX7_greatest_27 (kk := ?_)
        refine m_ial C hM 13 (j) (N := 12) dX7_greatest_28 (kk := ?_)
        refine i_istore C dX7_greatest_29 (kk := ?_)
        refine i_iload C dX7_greatest_31 (kk := ?_)
        refine i_iload_n C dX7_greatest_33 (kk := ?_)
        have jd : ∀ z : Int, z = gtz (F 13) (j + 1) → G 0 0 w [some (.ref (ad 5000)), some (.int (Z32 0)), some (.int (Z32 (gtz (F 13) j))), some (.int (Z32 (j : Int))), some (.int (Z32 (F 13 j)))] 43 [.int (Z32 z)] := by
          intro z hz
          subst hz
          refine i_istore_n C dX7_greatest_43 (kk := ?_)
          refine i_iinc C dX7_greatest_44 (kk := ?_)
          refine i_goto C dX7_greatest_47 (tgt := 4) (kk := ?_)
          exact ih (j + 1) _ (by omega) (by omega)
        refine i_icmp_le C dX7_greatest_34 (tgt := 42) (kt := fun hB34 => ?_) (kf := fun hB34 => ?_)
        · refine i_iload_n C dX7_greatest_42 (kk := ?_)
          exact jd _ (by show _ = max (gtz (F 13) j) (F 13 j); omega)
        · refine i_iload C dX7_greatest_37 (kk := ?_)
          refine i_goto C dX7_greatest_39 (tgt := 43) (kk := ?_)
          exact jd _ (by show _ = max (gtz (F 13) j) (F 13 j); omega)
      · exact absurd hB11 (by decide)
  exact lp 13 0 _ (by omega) (by omega)
