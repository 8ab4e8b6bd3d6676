set_option maxRecDepth 100000 in
set_option maxHeartbeats 4000000 in
theorem c_X7_linkedFrom (l : Launch) (hl : l.stackTraces = false) (D : gD) {w0 w : wW} {τ ad : Nat → Nat} {σ : Sg} {la : Int} {i : Int} (hI : MdI D w0 w τ ad σ la := by assumption) (hI9 : itOK σ) (hi : inR i := by omega) : CTm l D yX7_linkedFrom cX7_linkedFrom 7 (some .int) (rmL 6 0 0) [.ref (ad 5000), .int (Z32 i)] w (fun u w1 => u = some (.int (Z32 (oLinkedFrom σ i).2.1)) ∧ MdJ D w0 w1 τ ad (oLinkedFrom σ i).2.2 (oLinkedFrom σ i).1) := by
  refine CTm_of hl false rfl (by rfl) (Nat.le_of_ble_eq_true rfl) (fun h => nomatch h) ?_
  intro G C
  show G 0 0 w [some (.ref (ad 5000)), some (.int (Z32 i)), none, none, none, none, none] 0 []
  obtain ⟨hS, F, dn, op, sh, hM, hV⟩ := hI
  refine i_aload_n C dX7_linkedFrom_0 (kk := ?_)
  refine i_iload_n C dX7_linkedFrom_1 (kk := ?_)
  refine i_callS C lk_X7_91 (c_X7_isPage l hl D (v := i)) (hst := rfl) dX7_linkedFrom_2 (kk := fun v2 w2 g2 => ?_)
  obtain ⟨rfl, q2⟩ := g2
  have q2 := q2.symm
  subst q2
  refine i_iconst C dX7_linkedFrom_5 (kk := ?_)
  refine i_iconst C dX7_linkedFrom_6 (kk := ?_)
  refine i_callV C lk_X7_83 (c_X7_goes l hl D (hM := hM) (a := bz (isPg i)) (b := 1) (c := 1) (by rcases bz_R (isPg i) with h | h <;> omega) (by decide) (by decide)) (hcl := rfl) (hst := rfl) dX7_linkedFrom_7 (hw := hM.obj) (kk := fun v7 w7 g7 => ?_)
  obtain ⟨rfl, hM⟩ := g7
  replace hM : MdR D w0 w7 τ ad F _ op sh (gol (bz (isPg i)) (bz (True)) (bz (True))) := hM
  show G _ _ _ _ _ (.int (Z32 (bz (gol (bz (isPg i)) (bz (True)) (bz (True)) = 0))) :: _)
  refine i_if_ne C dX7_linkedFrom_10 (tgt := 15) (ha := by rcases bz_R (gol (bz (isPg i)) (bz (True)) (bz (True)) = 0) with h | h <;> omega) (kt := fun hB10 => ?_) (kf := fun hB10 => ?_)
  · have hz : gol (bz (isPg i)) (bz (True)) (bz (True)) = 0 := bz_ne.mp hB10
    obtain ⟨e0, pa, pb, pc3⟩ := op3_yes (σ := σ) (X := (0, (lfs (sT σ) i.toNat 12 : Int), σ)) hz
    have e0 : oLinkedFrom σ i = (0, (lfs (sT σ) i.toNat 12 : Int), σ) := e0
    rw [hz] at hM
    obtain ⟨p, hp, rfl⟩ : ∃ p : Nat, p < 12 ∧ i = (p : Int) := ⟨i.toNat, by omega, by omega⟩
    simp only [Int.toNat_natCast] at e0
    refine i_iconst C dX7_linkedFrom_15 (kk := ?_)
    refine i_istore_n C dX7_linkedFrom_16 (kk := ?_)
    refine i_iconst C dX7_linkedFrom_17 (kk := ?_)
    refine i_istore_n C dX7_linkedFrom_18 (kk := ?_)
    have lp1 : ∀ (m f : Nat) (w1 : wW) (F1 : Nat → Nat → Int) (sh1 : Int) (o4 o5 o6 : Option Value), 12 + 1 ≤ m + f → f ≤ 12 → MdR D w0 w1 τ ad F1 dn op sh1 0 → (∀ z, z ≤ 13 → F1 z = F z) → G 0 0 w1 [some (.ref (ad 5000)), some (.int (Z32 (p : Int))), some (.int (Z32 (lfs (sT σ) p f : Int))), some (.int (Z32 (f : Int))), o4, o5, o6] 19 [] := by
      intro m
      induction m with
      | zero => intro f w1 F1 sh1 o4 o5 o6 h1 h2; omega
      | succ m ih =>
      intro f w1 F1 sh1 o4 o5 o6 h1 h2 hM er
      refine i_iload_n C dX7_linkedFrom_19 (kk := ?_)
      refine i_bipush C dX7_linkedFrom_20 (kk := ?_)
      refine i_icmp_ge C dX7_linkedFrom_22 (tgt := 113) (kt := fun hB22 => ?_) (kf := fun hB22 => ?_)
      · have hf9 : f = 12 := by omega
        subst hf9
        refine i_iload_n C dX7_linkedFrom_113 (kk := ?_)
        exact i_iret C (d := dX7_linkedFrom_114) (h := by rw [e0]; exact ⟨rfl, _, _, _, _, hM, hV.congr (F' := F1) (fun z hz => er z (by omega))⟩)
      · have hf12 : f < 12 := by omega
        obtain ⟨M, hMM⟩ : ∃ M, M = lkL (shl (-1) (sprT (sT σ) f)) := ⟨_, rfl⟩
        have hMl : M.length ≤ 100 := by rw [hMM]; exact Nat.le_trans (lkL_le _) (shl_le hS hf12 _)
        have hMG := fun n => lkL_G hI9 hf12 n
        rw [← hMM] at hMG
        have h0 := lfk_0 (T := sT σ) (p := p) (f := f)
        refine i_iconst C dX7_linkedFrom_25 (kk := ?_)
        refine i_istore C dX7_linkedFrom_26 (kk := ?_)
        have lp2 : ∀ (m n : Nat) (w1 : wW) (F1 : Nat → Nat → Int) (sh1 : Int) (o5 o6 : Option Value), M.length + 1 ≤ m + n → n ≤ M.length → MdR D w0 w1 τ ad F1 dn op sh1 0 → (∀ z, z ≤ 13 → F1 z = F z) → G 0 0 w1 [some (.ref (ad 5000)), some (.int (Z32 (p : Int))), some (.int (Z32 (lfk (sT σ) p f n : Int))), some (.int (Z32 (f : Int))), some (.int (Z32 (n : Int))), o5, o6] 28 [] := by
          intro m
          induction m with
          | zero => intro n w1 F1 sh1 o5 o6 h1 h2; omega
          | succ m ihn =>
          intro n w1 F1 sh1 o5 o6 h1 h2 hM er
          refine i_aload_n C dX7_linkedFrom_28 (kk := ?_)
          refine i_iload_n C dX7_linkedFrom_29 (kk := ?_)
          refine i_iload C dX7_linkedFrom_30 (kk := ?_)
          have hV1 := hV.congr (F' := F1) (fun z hz => er z (by omega))
          refine i_callV C lk_X7_157 (c_X7_linkAt l hl D (hM := hM) (p := f) (n := n) hS hV1 hI9 hf12 (by omega)) (hcl := rfl) (hst := rfl) dX7_linkedFrom_32 (hw := hM.obj) (kk := fun v32 w32 g32 => ?_)
          obtain ⟨rfl, F2, sh2, hM, er2'⟩ := g32
          have er2 : ∀ z, z ≤ 13 → F2 z = F z := fun z hz => (er2' z hz).trans (er z hz)
          rw [← hMM]
          have hG := hMG n
          refine i_iconst C dX7_linkedFrom_35 (kk := ?_)
          refine i_icmp_eq C dX7_linkedFrom_36 (tgt := 107) (kt := fun hB36 => ?_) (kf := fun hB36 => ?_)
          · have hnl : n = M.length := by omega
            refine i_iinc C dX7_linkedFrom_107 (kk := ?_)
            refine i_goto C dX7_linkedFrom_110 (tgt := 19) (kk := ?_)
            rw [lfk_all (n := n) (by rw [← hMM]; omega)]
            exact ih (f + 1) _ F2 sh2 _ _ _ (by omega) (by omega) hM er2
          · have hnl : n < M.length := by omega
            have hfk := lfk_lt (T := sT σ) (p := p) (n := n) hf12
            have hstep := lfk_step (T := sT σ) (p := p) (f := f) (n := n) (by rw [← hMM]; exact hnl)
            rw [← hMM] at hstep
            refine i_aload_n C dX7_linkedFrom_39 (kk := ?_)
            refine i_iload_n C dX7_linkedFrom_40 (kk := ?_)
            refine i_iload C dX7_linkedFrom_41 (kk := ?_)
            have hV1 := hV.congr (F' := F2) (fun z hz => er2 z (by omega))
            refine i_callV C lk_X7_157 (c_X7_linkAt l hl D (hM := hM) (p := f) (n := n) hS hV1 hI9 hf12 (by omega)) (hcl := rfl) (hst := rfl) dX7_linkedFrom_43 (hw := hM.obj) (kk := fun v43 w43 g43 => ?_)
            obtain ⟨rfl, F2, sh2, hM, er2'⟩ := g43
            have er2 : ∀ z, z ≤ 13 → F2 z = F z := fun z hz => (er2' z hz).trans (er2 z hz)
            rw [← hMM]
            have hG := hMG n
            refine i_istore C dX7_linkedFrom_46 (kk := ?_)
            refine i_iload C dX7_linkedFrom_48 (kk := ?_)
            refine i_bipush C dX7_linkedFrom_50 (kk := ?_)
            refine i_idiv C dX7_linkedFrom_52 (kk := ?_)
            refine i_iload_n C dX7_linkedFrom_53 (kk := ?_)
            have jn : ∀ z : Int, z = bz (leadb (sT σ) p (M.getD n (-1)) = true) → G 0 0 w43 [some (.ref (ad 5000)), some (.int (Z32 (p : Int))), some (.int (Z32 (lfk (sT σ) p f n : Int))), some (.int (Z32 (f : Int))), some (.int (Z32 (n : Int))), some (.int (Z32 (M.getD n (-1)))), o6] 75 [.int (Z32 z)] := by
              intro z hz
              subst hz
              refine i_istore C dX7_linkedFrom_75 (kk := ?_)
              refine i_iload_n C dX7_linkedFrom_77 (kk := ?_)
              refine i_iload C dX7_linkedFrom_78 (kk := ?_)
              refine i_if_eq C dX7_linkedFrom_80 (tgt := 98) (ha := by rcases bz_R (leadb (sT σ) p (M.getD n (-1)) = true) with h | h <;> omega) (kt := fun hB80 => ?_) (kf := fun hB80 => ?_)
              · have hz1 := bz_z.mp hB80
                have eX : lfk (sT σ) p f (n + 1) = lfk (sT σ) p f n ||| 0 := by rw [hstep, if_neg (fun q => hz1 q.1)]
                refine i_iconst C dX7_linkedFrom_98 (kk := ?_)
                refine i_ior C dX7_linkedFrom_99 (hz := by first | exact Z32_or (lfk (sT σ) p f n) (2 ^ f) | exact Z32_or (lfk (sT σ) p f n) 0) (kk := ?_)
                refine i_istore_n C dX7_linkedFrom_100 (kk := ?_)
                refine i_iinc C dX7_linkedFrom_101 (kk := ?_)
                refine i_goto C dX7_linkedFrom_104 (tgt := 28) (kk := ?_)
                rw [← eX]
                first | exact ihn (n + 1) _ F3 sh3 _ _ (by omega) (by omega) hM er3 | exact ihn (n + 1) _ F2 sh2 _ _ (by omega) (by omega) hM er2
              · have hz1 := bz_ne.mp hB80
                refine i_aload_n C dX7_linkedFrom_83 (kk := ?_)
                refine i_iload C dX7_linkedFrom_84 (kk := ?_)
                have hV1 := hV.congr (F' := F2) (fun z hz => er2 z (by omega))
                refine i_callV C lk_X7_160 (c_X7_isGood l hl D (hM := hM) (k := M.getD n (-1)) hS hV1 hI9 (by omega)) (hcl := rfl) (hst := rfl) dX7_linkedFrom_86 (hw := hM.obj) (kk := fun v86 w86 g86 => ?_)
                obtain ⟨rfl, F3, sh3, hM, er3'⟩ := g86
                have er3 : ∀ z, z ≤ 13 → F3 z = F z := fun z hz => (er3' z hz).trans (er2 z hz)
                refine i_if_eq C dX7_linkedFrom_89 (tgt := 98) (ha := by rcases bz_R (goodb (sT σ) (M.getD n (-1)) = true) with h | h <;> omega) (kt := fun hB89 => ?_) (kf := fun hB89 => ?_)
                · have hz2 := bz_z.mp hB89
                  have eX : lfk (sT σ) p f (n + 1) = lfk (sT σ) p f n ||| 0 := by rw [hstep, if_neg (fun q => hz2 q.2)]
                  refine i_iconst C dX7_linkedFrom_98 (kk := ?_)
                  refine i_ior C dX7_linkedFrom_99 (hz := by first | exact Z32_or (lfk (sT σ) p f n) (2 ^ f) | exact Z32_or (lfk (sT σ) p f n) 0) (kk := ?_)
                  refine i_istore_n C dX7_linkedFrom_100 (kk := ?_)
                  refine i_iinc C dX7_linkedFrom_101 (kk := ?_)
                  refine i_goto C dX7_linkedFrom_104 (tgt := 28) (kk := ?_)
                  rw [← eX]
                  first | exact ihn (n + 1) _ F3 sh3 _ _ (by omega) (by omega) hM er3 | exact ihn (n + 1) _ F2 sh2 _ _ (by omega) (by omega) hM er2
                · have hz2 := bz_ne.mp hB89
                  have eX : lfk (sT σ) p f (n + 1) = lfk (sT σ) p f n ||| 2 ^ f := by rw [hstep, if_pos ⟨hz1, hz2⟩]
                  refine i_iconst C dX7_linkedFrom_92 (kk := ?_)
                  refine i_iload_n C dX7_linkedFrom_93 (kk := ?_)
                  refine i_ishl C dX7_linkedFrom_94 (hz := Z32_shl (by omega)) (kk := ?_)
                  refine i_goto C dX7_linkedFrom_95 (tgt := 99) (kk := ?_)
                  refine i_ior C dX7_linkedFrom_99 (hz := by first | exact Z32_or (lfk (sT σ) p f n) (2 ^ f) | exact Z32_or (lfk (sT σ) p f n) 0) (kk := ?_)
                  refine i_istore_n C dX7_linkedFrom_100 (kk := ?_)
                  refine i_iinc C dX7_linkedFrom_101 (kk := ?_)
                  refine i_goto C dX7_linkedFrom_104 (tgt := 28) (kk := ?_)
                  rw [← eX]
                  first | exact ihn (n + 1) _ F3 sh3 _ _ (by omega) (by omega) hM er3 | exact ihn (n + 1) _ F2 sh2 _ _ (by omega) (by omega) hM er2
            refine i_icmp_eq C dX7_linkedFrom_54 (tgt := 70) (kt := fun hB54 => ?_) (kf := fun hB54 => ?_)
            · refine i_iconst C dX7_linkedFrom_70 (kk := ?_)
              refine i_goto C dX7_linkedFrom_71 (tgt := 75) (kk := ?_)
              exact jn _ (by first | (rw [bz_t (by unfold leadb; rw [Bool.or_eq_true, beq_iff_eq, beq_iff_eq]; first | exact Or.inl (by omega) | (rw [hq, Int.toNat_natCast]; exact Or.inr (by omega)))]; done) | (rw [bz_f (by unfold leadb; rw [Bool.or_eq_true, beq_iff_eq, beq_iff_eq, hq, Int.toNat_natCast]; omega)]; done))
            · refine i_aload_n C dX7_linkedFrom_57 (kk := ?_)
              refine i_iload C dX7_linkedFrom_58 (kk := ?_)
              refine i_bipush C dX7_linkedFrom_60 (kk := ?_)
              refine i_idiv C dX7_linkedFrom_62 (kk := ?_)
              obtain ⟨q, hq⟩ : ∃ q : Nat, (M.getD n (-1)) / 10 = (q : Int) := ⟨((M.getD n (-1)) / 10).toNat, by omega⟩
              rw [hq]
              have hq12 : q < 12 := by omega
              have hsr2 : stT (sT σ) q = -1 ∨ (0 ≤ stT (sT σ) q ∧ stT (sT σ) q < 12) := stN_R hS.dx.1 4 q hq12
              refine i_callV C lk_X7_151 (c_X7_stands l hl D (hM := hM) (p := q) hS (hV.congr (F' := F2) (fun z hz => er2 z (by omega))) hq12) (hcl := rfl) (hst := rfl) dX7_linkedFrom_63 (hw := hM.obj) (kk := fun v63 w63 g63 => ?_)
              obtain ⟨rfl, q63⟩ := g63
              have q63 := q63.symm
              subst q63
              refine i_iload_n C dX7_linkedFrom_66 (kk := ?_)
              refine i_icmp_ne C dX7_linkedFrom_67 (tgt := 74) (kt := fun hB67 => ?_) (kf := fun hB67 => ?_)
              · refine i_iconst C dX7_linkedFrom_74 (kk := ?_)
                exact jn _ (by first | (rw [bz_t (by unfold leadb; rw [Bool.or_eq_true, beq_iff_eq, beq_iff_eq]; first | exact Or.inl (by omega) | (rw [hq, Int.toNat_natCast]; exact Or.inr (by omega)))]; done) | (rw [bz_f (by unfold leadb; rw [Bool.or_eq_true, beq_iff_eq, beq_iff_eq, hq, Int.toNat_natCast]; omega)]; done))
              · refine i_iconst C dX7_linkedFrom_70 (kk := ?_)
                refine i_goto C dX7_linkedFrom_71 (tgt := 75) (kk := ?_)
                exact jn _ (by first | (rw [bz_t (by unfold leadb; rw [Bool.or_eq_true, beq_iff_eq, beq_iff_eq]; first | exact Or.inl (by omega) | (rw [hq, Int.toNat_natCast]; exact Or.inr (by omega)))]; done) | (rw [bz_f (by unfold leadb; rw [Bool.or_eq_true, beq_iff_eq, beq_iff_eq, hq, Int.toNat_natCast]; omega)]; done))
        rw [← h0]
        exact lp2 (M.length + 1) 0 _ F1 sh1 _ _ (by omega) (by omega) hM er
    exact lp1 13 0 _ F sh _ _ _ (by omega) (by omega) hM (fun _ _ => rfl)
  · have hz : gol (bz (isPg i)) (bz (True)) (bz (True)) ≠ 0 := bz_z.mp hB10
    have e0 : oLinkedFrom σ i = (gol (bz (isPg i)) (bz (True)) (bz (True)), 0, σ) := op3_no hz
    refine i_iconst C dX7_linkedFrom_13 (kk := ?_)
    exact i_iret C (d := dX7_linkedFrom_14) (h := by rw [e0]; exact ⟨rfl, F, _, _, _, hM, hV⟩)

set_option maxRecDepth 100000 in
set_option maxHeartbeats 4000000 in
theorem c_X7_breached (l : Launch) (hl : l.stackTraces = false) (D : gD) {w0 w : wW} {τ ad : Nat → Nat} {σ : Sg} {la : Int} (hI : MdI D w0 w τ ad σ la := by assumption) (hI9 : itOK σ) : CTm l D yX7_breached cX7_breached 3 (some .int) (rmL 5 0 0) [.ref (ad 5000)] w (fun u w1 => u = some (.int (Z32 (brs σ 12 : Int))) ∧ MdJ D w0 w1 τ ad σ 0) := by
  refine CTm_of hl false rfl (by rfl) (Nat.le_of_ble_eq_true rfl) (fun h => nomatch h) ?_
  intro G C
  show G 0 0 w [some (.ref (ad 5000)), none, none] 0 []
  obtain ⟨hS, F, dn, op, sh, hM, hV⟩ := hI
  refine i_aload_n C dX7_breached_0 (kk := ?_)
  refine i_iconst C dX7_breached_1 (kk := ?_)
  refine m_put21 C hM dX7_breached_2 (kk := fun w2 hM => ?_)
  refine i_iconst C dX7_breached_5 (kk := ?_)
  refine i_istore_n C dX7_breached_6 (kk := ?_)
  refine i_iconst C dX7_breached_7 (kk := ?_)
  refine i_istore_n C dX7_breached_8 (kk := ?_)
  have lp : ∀ (m k : Nat) (w1 : wW) (F1 : Nat → Nat → Int) (sh1 : Int), 12 + 1 ≤ m + k → k ≤ 12 → MdR D w0 w1 τ ad F1 dn op sh1 0 → (∀ z, z ≤ 13 → F1 z = F z) → G 0 0 w1 [some (.ref (ad 5000)), some (.int (Z32 (brs σ k : Int))), some (.int (Z32 (k : Int)))] 9 [] := by
    intro m
    induction m with
    | zero => intro k w1 F1 sh1 h1 h2; omega
    | succ m ih =>
    intro k w1 F1 sh1 h1 h2 hM er
    refine i_iload_n C dX7_breached_9 (kk := ?_)
    refine i_bipush C dX7_breached_10 (kk := ?_)
    refine i_icmp_ge C dX7_breached_12 (tgt := 37) (kt := fun hB12 => ?_) (kf := fun hB12 => ?_)
    · have hk9 : k = 12 := by omega
      subst hk9
      refine i_iload_n C dX7_breached_37 (kk := ?_)
      exact i_iret C (d := dX7_breached_38) (h := ⟨rfl, _, _, _, _, hM, hV.congr (F' := F1) (fun z hz => er z (by omega))⟩)
    · have hk12 : k < 12 := by omega
      have hbs := brs_le σ k
      have hbc : brc σ k ≤ 100 := by unfold brc; rw [brL_cnt]; exact Nat.le_trans (brL_le _) (shl_le hS hk12 _)
      refine i_iload_n C dX7_breached_15 (kk := ?_)
      refine i_aload_n C dX7_breached_16 (kk := ?_)
      refine i_iload_n C dX7_breached_17 (kk := ?_)
      have hV1 := hV.congr (F' := F1) (fun z hz => er z (by omega))
      refine i_callV C lk_X7_163 (c_X7_breachesOf l hl D (hM := hM) (p := k) hS hV1 hI9 hk12) (hcl := rfl) (hst := rfl) dX7_breached_18 (hw := hM.obj) (kk := fun v18 w18 g18 => ?_)
      obtain ⟨rfl, F2, sh2, hM, er2'⟩ := g18
      have er2 : ∀ z, z ≤ 13 → F2 z = F z := fun z hz => (er2' z hz).trans (er z hz)
      have jn : ∀ z : Int, (brs σ k : Int) + z = (brs σ (k + 1) : Int) → G 0 0 w18 [some (.ref (ad 5000)), some (.int (Z32 (brs σ k : Int))), some (.int (Z32 (k : Int)))] 29 [.int (Z32 z), .int (Z32 (brs σ k : Int))] := by
        intro z hz
        refine i_iadd C dX7_breached_29 (kk := ?_)
        rw [hz]
        refine i_istore_n C dX7_breached_30 (kk := ?_)
        refine i_iinc C dX7_breached_31 (kk := ?_)
        refine i_goto C dX7_breached_34 (tgt := 9) (kk := ?_)
        exact ih (k + 1) _ F2 sh2 (by omega) (by omega) hM er2
      refine i_if_le C dX7_breached_21 (tgt := 28) (kt := fun hB21 => ?_) (kf := fun hB21 => ?_)
      · refine i_iconst C dX7_breached_28 (kk := ?_)
        exact jn _ (by show _ = ((if 0 < brc σ k then brs σ k + 1 else brs σ k : Nat) : Int); first | (rw [if_pos (by omega)]; rfl) | (rw [if_neg (by omega)]; rfl))
      · refine i_iconst C dX7_breached_24 (kk := ?_)
        refine i_goto C dX7_breached_25 (tgt := 29) (kk := ?_)
        exact jn _ (by show _ = ((if 0 < brc σ k then brs σ k + 1 else brs σ k : Nat) : Int); first | (rw [if_pos (by omega)]; rfl) | (rw [if_neg (by omega)]; rfl))
  exact lp 13 0 _ F sh (by omega) (by omega) hM (fun _ _ => rfl)

set_option maxRecDepth 100000 in
set_option maxHeartbeats 4000000 in
theorem c_X7_thrown (l : Launch) (hl : l.stackTraces = false) (D : gD) {w0 w : wW} {τ ad : Nat → Nat} {F : Nat → Nat → Int} {dn op sh la : Int} (hM : MdR D w0 w τ ad F dn op sh la := by assumption) : CTm l D yX7_thrown cX7_thrown 1 (some .int) (rmL 1 0 0) [.ref (ad 5000)] w (fun u w1 => u = some (.int (Z32 la)) ∧ w1 = w) := by
  refine CTm_of hl false rfl (by rfl) (Nat.le_of_ble_eq_true rfl) (fun h => nomatch h) ?_
  intro G C
  show G 0 0 w [some (.ref (ad 5000))] 0 []
  refine i_aload_n C dX7_thrown_0 (kk := ?_)
  refine i_getf C f_X7_64 dX7_thrown_1 (hw := hM.obj) (kk := ?_)
  exact i_iret C (d := dX7_thrown_4) (h := ⟨rfl, rfl⟩)
