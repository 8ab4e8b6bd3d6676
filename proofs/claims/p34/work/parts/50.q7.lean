theorem fndS_2 {σ : Sg} {num : Int} {p : Nat} : ∀ (L : List Sh3), fndS σ 2 num p L = brL σ p L
  | [] => rfl
  | x :: L => by
    have ih := fndS_2 (σ := σ) (num := num) (p := p) L
    have e : brL σ p (x :: L) = brL σ p [x] + brL σ p L := brL_app [x] L
    rw [e, ← ih, brL_one]
    show fnd1 σ 2 num p x + _ = _
    congr 1
    unfold fnd1
    by_cases h : sRk σ x.2.2.toNat (sNv σ x.2.2.toNat) < sLk σ p
    · rw [if_pos (Or.inr (Or.inl ⟨rfl, h⟩)), if_pos h]
    · rw [if_neg h, if_neg]
      rintro (⟨z, -⟩ | ⟨-, z⟩ | ⟨z, -⟩)
      · exact absurd z (by decide)
      · exact h z
      · exact absurd z (by decide)
theorem fndS_3 {σ : Sg} {num : Int} {p : Nat} : ∀ (L : List Sh3), fndS σ 3 num p L = (lkL L).length
  | [] => rfl
  | x :: L => by
    have ih := fndS_3 (σ := σ) (num := num) (p := p) L
    have e : lkL (x :: L) = lkL [x] ++ lkL L := lkL_app [x] L
    rw [e, List.length_append, ← ih]
    show fnd1 σ 3 num p x + _ = _
    congr 1
    unfold fnd1
    by_cases h : x.1 = 2
    · rw [if_pos (Or.inr (Or.inr ⟨rfl, h⟩)), lkL_yes h]; rfl
    · rw [lkL_no h, if_neg]; rfl
      rintro (⟨z, -⟩ | ⟨z, -⟩ | ⟨-, z⟩)
      · exact absurd z (by decide)
      · exact absurd z (by decide)
      · exact h z
theorem fndS_1 {σ : Sg} {num : Int} {p : Nat} : ∀ (L : List Sh3), 0 < fndS σ 1 num p L ↔ anL num L = true
  | [] => by simp [fndS, anL]
  | x :: L => by
    have ih := fndS_1 (σ := σ) (num := num) (p := p) L
    have e : anL num (x :: L) = ((x.1 == 1 && x.2.1 == num) || anL num L) := rfl
    have e2 : fndS σ 1 num p (x :: L) = fnd1 σ 1 num p x + fndS σ 1 num p L := rfl
    rw [e, e2, Bool.or_eq_true, ← ih, Bool.and_eq_true, beq_iff_eq, beq_iff_eq]
    unfold fnd1
    by_cases h : x.1 = 1 ∧ x.2.1 = num
    · rw [if_pos (Or.inl ⟨rfl, h⟩)]
      exact ⟨fun _ => Or.inl h, fun _ => by omega⟩
    · rw [if_neg]
      · exact ⟨fun z => Or.inr (by omega), fun z => z.elim (fun z => absurd z h) (fun z => by omega)⟩
      · rintro (⟨-, z⟩ | ⟨z, -⟩ | ⟨z, -⟩)
        · exact h z
        · exact absurd z (by decide)
        · exact absurd z (by decide)
theorem wkA_0 {σ : Sg} {num : Int} {p : Nat} {L : List Sh3} : wkA σ 0 num p L = L.length := if_pos rfl
theorem wkA_2 {σ : Sg} {num : Int} {p : Nat} : wkA σ 2 num p (shl (-1) (sprT (sT σ) p)) = brc σ p := by
  unfold wkA brc
  rw [if_neg (by decide), fndS_2, brL_cnt]
theorem wkA_3 {σ : Sg} {num : Int} {p : Nat} : wkA σ 3 num p (shl (-1) (sprT (sT σ) p)) = cnb isl (sprT (sT σ) p) := by
  unfold wkA
  rw [if_neg (by decide), fndS_3, lkL_cnt]
theorem wkA_1 {σ : Sg} {num : Int} {p q : Nat} : 0 < wkA σ 1 num p (shl (-1) (sprT (sT σ) q)) ↔ ancb num (sprT (sT σ) q) = true := by
  unfold wkA
  rw [if_neg (by decide), fndS_1, anL_anc]
theorem spr_nil {T : Nat → List Pc3} {q : Nat} (h : T q = []) : sprT T q = [] := by
  show (spText (sprN T 5) q (T q)).1 = []
  rw [h]; rfl
theorem brs_5 {σ : Sg} {ft : Nat → Int64} {fz fr fv : Nat → Int} (hR : LwR σ ft fz fr fv) : ∀ k, k ≤ 7 → brs σ (5 + k) = brs σ 5
  | 0, _ => rfl
  | k + 1, hk => by
    have ih := brs_5 hR k (by omega)
    have e : brc σ (5 + k) = 0 := by
      unfold brc
      rw [spr_nil (hR.none (by omega) (by omega))]; rfl
    show (if 0 < brc σ (5 + k) then _ else brs σ (5 + k)) = _
    rw [e, if_neg (Nat.lt_irrefl 0), ih]
theorem i_brs {σ : Sg} {i : Nat} {b : Int} (h : (0 < brc σ i ∧ b = 1) ∨ (¬ 0 < brc σ i ∧ b = 0)) : ((brs σ i : Nat) : Int) + b = ((brs σ (i + 1) : Nat) : Int) := by
  have e : brs σ (i + 1) = if 0 < brc σ i then brs σ i + 1 else brs σ i := rfl
  rw [e]
  rcases h with ⟨h, rfl⟩ | ⟨h, rfl⟩
  · rw [if_pos h]; omega
  · rw [if_neg h]; omega
set_option maxRecDepth 100000 in
set_option maxHeartbeats 4000000 in
theorem c_L_arePages (l : Launch) (hl : l.stackTraces = false) (D : gD) {w : wW} {x0 a1 a2 a3 a4 : Nat} {g : Int} {σ : Sg} {ft : Nat → Int64} {fz fr fv : Nat → Int} (h1 : w a1 = some (lar D 60 ft) := by assumption) (h2 : w a2 = some (iar D 60 fz) := by assumption) (h3 : w a3 = some (iar D 60 fr) := by assumption) (h4 : w a4 = some (iar D 16 fv) := by assumption) (hR : LwR σ ft fz fr fv := by assumption) (hX : WkX D w x0 σ) (hg : -1 ≤ g ∧ g ≤ 25) : CTm l D yL_arePages cL_arePages 12 (some .boolean) (rmL 13 4800 28700) [.ref x0, .ref a1, .ref a2, .ref a3, .ref a4, .int (Z32 g)] w (fun u w1 => u = some (.int (Z32 1)) ∧ kW w w1) := by
  refine CTm_of hl false rfl (by rfl) (Nat.le_of_ble_eq_true rfl) (fun h => nomatch h) ?_
  intro G C
  show G 0 0 w [some (.ref x0), some (.ref a1), some (.ref a2), some (.ref a3), some (.ref a4), some (.int (Z32 g)), none, none, none, none, none, none] 0 []
  refine i_iconst C dL_arePages_0 (kk := ?_)
  refine i_newint C (harr := ta_int) (N := 5) (d := dL_arePages_1) (kk := fun q1 nq1 => ?_)
  have ne1 := ne_live h1 nq1
  have ne2 := ne_live h2 nq1
  have ne3 := ne_live h3 nq1
  have ne4 := ne_live h4 nq1
  obtain ⟨W, hW⟩ : ∃ W, W = wset w q1 (iar D 5 (fun _ => 0)) := ⟨_, rfl⟩
  rw [← hW]
  have hkW : kW w W := by rw [hW]; exact kW.rf.put nq1
  have j1 := hkW.at h1
  have j2 := hkW.at h2
  have j3 := hkW.at h3
  have j4 := hkW.at h4
  have k5 : W q1 = some (iar D 5 (fun _ => 0)) := by rw [hW, wset_eq]
  have hS := hX.ok
  obtain ⟨d1, d2, d3⟩ := hS.dx
  refine i_astore C dL_arePages_3 (kk := ?_)
  refine i_iconst C dL_arePages_5 (kk := ?_)
  refine i_istore C dL_arePages_6 (kk := ?_)
  refine i_iconst C dL_arePages_8 (kk := ?_)
  refine i_istore C dL_arePages_9 (kk := ?_)
  refine i_aload_n C dL_arePages_11 (kk := ?_)
  refine i_aload_n C dL_arePages_12 (kk := ?_)
  refine i_aload C dL_arePages_13 (kk := ?_)
  refine i_iconst C dL_arePages_15 (kk := ?_)
  refine i_lconst C dL_arePages_16 (kk := ?_)
  refine i_iconst C dL_arePages_17 (kk := ?_)
  refine i_aload C dL_arePages_18 (kk := ?_)
  refine i_callS C lk_L_36 (c_L_extents l hl D (w := W) (h1 := j1) (h2 := j2) (h4 := j4) (hR := hR) (hx := Tx64.nil) (hT := TO.now hR) (h5 := k5) (n1 := ne1) (n2 := ne2) (n4 := ne4)) (hst := rfl) dL_arePages_20 (kk := fun v20 w20 g20 => ?_)
  obtain ⟨rfl, fx, hw20, hfb, hfx⟩ := g20
  have hkX : kW w w20 := by rw [hw20]; exact hkW.put nq1
  have l1 := hkX.at h1
  have l2 := hkX.at h2
  have l3 := hkX.at h3
  have l4 := hkX.at h4
  have l5 : w20 q1 = some (iar D 5 (cz fx)) := by rw [hw20, wset_eq]
  have hXX := hX.kept hkX
  have hfe : ∀ q, q < 5 → fx q = extT (sT σ) q := fun q hq => by
    have e1 := hfx hS.acy d2 q hq
    have e2 := d3 q (by omega)
    omega
  refine i_iconst C dL_arePages_23 (kk := ?_)
  refine i_istore C dL_arePages_24 (kk := ?_)
  have lp : ∀ (m i : Nat) (N K : Nat) (W1 : wW) (o10 o11 : Option Value), 5 + 1 ≤ m + i → i ≤ 5 → N ≤ 1 + 940 * i → K ≤ 5 + 5720 * i → kW w20 W1 → G N K W1 [some (.ref x0), some (.ref a1), some (.ref a2), some (.ref a3), some (.ref a4), some (.int (Z32 g)), some (.ref q1), some (.int (Z32 ((brs σ i : Nat) : Int))), some (.int (Z32 1)), some (.int (Z32 (i : Int))), o10, o11] 26 [] := by
    intro m
    induction m with
    | zero => intro i N K W1 o10 o11 h1 h2; omega
    | succ m ih =>
    intro i N K W1 o10 o11 h1 h2 hN hK hkj
    refine i_iload C dL_arePages_26 (kk := ?_)
    refine i_iconst C dL_arePages_28 (kk := ?_)
    refine i_icmp_ge C dL_arePages_29 (tgt := 277) (kt := fun hB29 => ?_) (kf := fun hB29 => ?_)
    · have e5 : i = 5 := by omega
      subst e5
      refine i_iload C dL_arePages_277 (kk := ?_)
      refine i_if_eq C dL_arePages_279 (tgt := 295) (kt := fun hB279 => ?_) (kf := fun hB279 => ?_)
      · exact absurd hB279 (by decide)
      · have hXa := hXX.kept hkj
        obtain ⟨fsO, hO⟩ := hXa.obj
        have hb5 := brs_5 hR 7 (by omega)
        have hbsl := brs_le σ 5
        refine i_aload_n C dL_arePages_282 (kk := ?_)
        refine i_callV C lk_L_96 (x_breached l hl D hXa) (hcl := rfl) (hst := rfl) dL_arePages_283 (hw := hO) (hf := ⟨by show _ ≤ 4800; (try simp only [rmL]); omega, by show _ ≤ 28700; (try simp only [rmL]); omega⟩) (kk := fun v283 w283 g283 => ?_)
        obtain ⟨rfl, q283⟩ := g283
        have q283 := q283.symm
        subst q283
        rw [show brs σ 12 = brs σ 5 from hb5]
        refine i_iload C dL_arePages_286 (kk := ?_)
        refine i_icmp_ne C dL_arePages_288 (tgt := 295) (kt := fun hB288 => ?_) (kf := fun hB288 => ?_)
        · exact absurd rfl hB288
        · refine i_iconst C dL_arePages_291 (kk := ?_)
          refine i_goto C dL_arePages_292 (tgt := 296) (kk := ?_)
          exact i_zret C (d := dL_arePages_296) (hn := by show _ ≤ 4800; (try simp only [rmL]); omega) (hk := by show _ ≤ 28700; (try simp only [rmL]); omega) (ha := Or.inr rfl) (h := ⟨rfl, hkX.trans hkj⟩)
    · have h1a := hkj.at l1
      have h2a := hkj.at l2
      have h3a := hkj.at l3
      have h4a := hkj.at l4
      have hXa := hXX.kept hkj
      have hi5 : i < 5 := by omega
      have hn11 := (hR.nv hi5).2
      have hsl := shl_le hS (p := i) (by omega) g
      refine i_iload C dL_arePages_32 (kk := ?_)
      refine i_if_eq C dL_arePages_34 (tgt := 277) (kt := fun hB34 => ?_) (kf := fun hB34 => ?_)
      · exact absurd hB34 (by decide)
      · refine i_aload_n C dL_arePages_37 (kk := ?_)
        refine i_aload_n C dL_arePages_38 (kk := ?_)
        refine i_aload_n C dL_arePages_39 (kk := ?_)
        refine i_aload_n C dL_arePages_40 (kk := ?_)
        refine i_aload C dL_arePages_41 (kk := ?_)
        refine i_iload C dL_arePages_43 (kk := ?_)
        refine i_iload C dL_arePages_45 (kk := ?_)
        refine i_iconst C dL_arePages_47 (kk := ?_)
        refine i_iconst C dL_arePages_48 (kk := ?_)
        refine i_callS C lk_L_62 (c_L_walk l hl D (w := W1) (CC := 910) (SS := 5500) (a := 0) (num := 0) (h1 := h1a) (h2 := h2a) (h3 := h3a) (h4 := h4a) (hR := hR) (hX := hXa) (hp := hi5) (hg0 := hg) (ha := by omega) (hnum := by omega) (hCC := by omega)) (hst := rfl) dL_arePages_49 (hf := ⟨by show _ ≤ 4800; (try simp only [rmL]); omega, by show _ ≤ 28700; (try simp only [rmL]); omega⟩) (kk := fun v49 w49 g49 => ?_)
        obtain ⟨rfl, hk49⟩ := g49
        rw [wkA_0]
        have hkb := hkj.trans hk49
        have h1b := hkb.at l1
        have h2b := hkb.at l2
        have h3b := hkb.at l3
        have h4b := hkb.at l4
        have hXb := hXX.kept hkb
        refine i_istore C dL_arePages_52 (kk := ?_)
        refine i_aload_n C dL_arePages_54 (kk := ?_)
        refine i_aload_n C dL_arePages_55 (kk := ?_)
        refine i_aload_n C dL_arePages_56 (kk := ?_)
        refine i_aload_n C dL_arePages_57 (kk := ?_)
        refine i_aload C dL_arePages_58 (kk := ?_)
        refine i_iload C dL_arePages_60 (kk := ?_)
        refine i_iconst C dL_arePages_62 (kk := ?_)
        refine i_iconst C dL_arePages_63 (kk := ?_)
        refine i_iconst C dL_arePages_64 (kk := ?_)
        refine i_callS C lk_L_62 (c_L_walk l hl D (w := w49) (CC := 1) (SS := 24) (a := 2) (num := 0) (g0 := -1) (h1 := h1b) (h2 := h2b) (h3 := h3b) (h4 := h4b) (hR := hR) (hX := hXb) (hp := hi5) (hg0 := by omega) (ha := by omega) (hnum := by omega) (hCC := by omega)) (hst := rfl) dL_arePages_65 (hf := ⟨by show _ ≤ 4800; (try simp only [rmL]); omega, by show _ ≤ 28700; (try simp only [rmL]); omega⟩) (kk := fun v65 w65 g65 => ?_)
        obtain ⟨rfl, hk65⟩ := g65
        rw [wkA_2]
        have hkc := hkb.trans hk65
        have h1 := hkc.at l1
        have h2 := hkc.at l2
        have h3 := hkc.at l3
        have h4 := hkc.at l4
        have h5 := hkc.at l5
        have hXc := hXX.kept hkc
        have hbrl : brc σ i ≤ 100 := by rw [← wkA_2 (num := 0)]; unfold wkA; rw [if_neg (by decide)]; exact Nat.le_trans (fndS_le _) (shl_le hS (by omega) (-1))
        have hbsl := brs_le σ i
        refine i_istore C dL_arePages_68 (kk := ?_)
        refine i_iload C dL_arePages_70 (kk := ?_)
        refine i_iload C dL_arePages_72 (kk := ?_)
        have jB : ∀ b : Int, ((0 < brc σ i ∧ b = 1) ∨ (¬ 0 < brc σ i ∧ b = 0)) → ∀ N4 K4 : Nat, N4 ≤ 1 + 940 * i + 912 → K4 ≤ 5 + 5720 * i + 5549 → G N4 K4 w65 [some (.ref x0), some (.ref a1), some (.ref a2), some (.ref a3), some (.ref a4), some (.int (Z32 g)), some (.ref q1), some (.int (Z32 ((brs σ i : Nat) : Int))), some (.int (Z32 1)), some (.int (Z32 (i : Int))), some (.int (Z32 (((shl g (sprT (sT σ) i)).length : Nat) : Int))), some (.int (Z32 ((brc σ i : Nat) : Int)))] 82 [.int (Z32 b), .int (Z32 ((brs σ i : Nat) : Int))] := by
          intro b hb N4 K4 hN4 hK4
          refine i_iadd C dL_arePages_82 (kk := ?_)
          rw [i_brs hb]
          obtain ⟨fsO, hO⟩ := hXc.obj
          refine i_istore C dL_arePages_83 (kk := ?_)
          refine i_aload_n C dL_arePages_85 (kk := ?_)
          refine i_iload C dL_arePages_86 (kk := ?_)
          refine i_callVF C lk_L_66 (x_version l hl D hXc (i := (i : Int))) (hcl := rfl) (hst := rfl) dL_arePages_88 (hw := hO) (hxx := fun E w1 h => h.2.1 (by omega)) (hf := ⟨by show _ ≤ 4800; (try simp only [rmL]); omega, by show _ ≤ 28700; (try simp only [rmL]); omega⟩) (kk := fun v88 w88 g88 => ?_)
          obtain ⟨⟨p9, hp9, e9, rfl⟩, q88⟩ := g88
          have q88 := q88.symm
          subst q88
          have e7 : i = p9 := by omega
          subst e7
          have hrkR := (hS.2.1 i (by omega)).2.2.2.2.2 _ (Nat.le_refl _)
          have hfR := frcS_R hS (p := i) (by omega)
          have hrl := rsT_lt (T := sT σ) (p := i)
          have hex := d3 i (by omega)
          have hstR : stT (sT σ) i = -1 ∨ (0 ≤ stT (sT σ) i ∧ stT (sT σ) i < 12) := stN_R (T := sT σ) (fun q hq => d1 q hq) 4 i (by omega)
          have hcl := cnb_le isl (sprT (sT σ) i)
          have hspl := sprT_len d1 hS.acy (p := i) (by omega) (d2 i (by omega))
          refine i_aload C dL_arePages_91 (kk := ?_)
          refine i_iload C dL_arePages_93 (kk := ?_)
          refine i_iaload C dL_arePages_95 (kk := ?_)
          rw [Int.toNat_natCast, (hR.nv hi5).1]
          refine i_icmp_ne C dL_arePages_96 (tgt := 268) (kt := fun hB96 => ?_) (kf := fun hB96 => ?_)
          · exact absurd rfl hB96
          · refine i_aload_n C dL_arePages_99 (kk := ?_)
            refine i_iload C dL_arePages_100 (kk := ?_)
            refine i_callVF C lk_L_69 (x_rankOf l hl D hXc (i := (i : Int))) (hcl := rfl) (hst := rfl) dL_arePages_102 (hw := hO) (hxx := fun E w1 h => h.2.1 (by omega)) (hf := ⟨by show _ ≤ 4800; (try simp only [rmL]); omega, by show _ ≤ 28700; (try simp only [rmL]); omega⟩) (kk := fun v102 w102 g102 => ?_)
            obtain ⟨⟨p9, hp9, e9, rfl⟩, q102⟩ := g102
            have q102 := q102.symm
            subst q102
            have e7 : i = p9 := by omega
            subst e7
            refine i_aload_n C dL_arePages_105 (kk := ?_)
            refine i_aload C dL_arePages_106 (kk := ?_)
            refine i_iload C dL_arePages_108 (kk := ?_)
            refine i_callS C lk_L_24 (c_L_now l hl D (w := w65) (hR := hR) (p := i)) (hst := rfl) dL_arePages_110 (hf := ⟨by show _ ≤ 4800; (try simp only [rmL]); omega, by show _ ≤ 28700; (try simp only [rmL]); omega⟩) (kk := fun v110 w110 g110 => ?_)
            obtain ⟨rfl, q110⟩ := g110
            have q110 := q110.symm
            subst q110
            refine i_iaload C dL_arePages_113 (kk := ?_)
            rw [Int.toNat_natCast, hR.rk hi5]
            refine i_icmp_ne C dL_arePages_114 (tgt := 268) (kt := fun hB114 => ?_) (kf := fun hB114 => ?_)
            · exact absurd rfl hB114
            · refine i_aload_n C dL_arePages_117 (kk := ?_)
              refine i_iload C dL_arePages_118 (kk := ?_)
              refine i_callVF C lk_L_72 (x_force l hl D hXc (i := (i : Int))) (hcl := rfl) (hst := rfl) dL_arePages_120 (hw := hO) (hxx := fun E w1 h => h.2.1 (by omega)) (hf := ⟨by show _ ≤ 4800; (try simp only [rmL]); omega, by show _ ≤ 28700; (try simp only [rmL]); omega⟩) (kk := fun v120 w120 g120 => ?_)
              obtain ⟨⟨p9, hp9, e9, rfl⟩, q120⟩ := g120
              have q120 := q120.symm
              subst q120
              have e7 : i = p9 := by omega
              subst e7
              refine i_aload_n C dL_arePages_123 (kk := ?_)
              refine i_aload_n C dL_arePages_124 (kk := ?_)
              refine i_aload C dL_arePages_125 (kk := ?_)
              refine i_iload C dL_arePages_127 (kk := ?_)
              refine i_callS C lk_L_32 (c_L_force l hl D (w := w65) (hR := hR) (hp := hi5) (hS := hS)) (hst := rfl) dL_arePages_129 (hf := ⟨by show _ ≤ 4800; (try simp only [rmL]); omega, by show _ ≤ 28700; (try simp only [rmL]); omega⟩) (kk := fun v129 w129 g129 => ?_)
              obtain ⟨rfl, q129⟩ := g129
              have q129 := q129.symm
              subst q129
              refine i_icmp_ne C dL_arePages_132 (tgt := 268) (kt := fun hB132 => ?_) (kf := fun hB132 => ?_)
              · exact absurd rfl hB132
              · refine i_aload_n C dL_arePages_135 (kk := ?_)
                refine i_iload C dL_arePages_136 (kk := ?_)
                refine i_callVF C lk_L_74 (x_reaches l hl D hXc (i := (i : Int))) (hcl := rfl) (hst := rfl) dL_arePages_138 (hw := hO) (hxx := fun E w1 h => h.2.1 (by omega)) (hf := ⟨by show _ ≤ 4800; (try simp only [rmL]); omega, by show _ ≤ 28700; (try simp only [rmL]); omega⟩) (kk := fun v138 w138 g138 => ?_)
                obtain ⟨⟨p9, hp9, e9, rfl⟩, q138⟩ := g138
                have q138 := q138.symm
                subst q138
                have e7 : i = p9 := by omega
                subst e7
                refine i_aload_n C dL_arePages_141 (kk := ?_)
                refine i_aload_n C dL_arePages_142 (kk := ?_)
                refine i_aload C dL_arePages_143 (kk := ?_)
                refine i_iload C dL_arePages_145 (kk := ?_)
                refine i_iconst C dL_arePages_147 (kk := ?_)
                refine i_lconst C dL_arePages_148 (kk := ?_)
                refine i_iconst C dL_arePages_149 (kk := ?_)
                refine i_callS C lk_L_28 (c_L_reach l hl D (w := w65) (hR := hR) (hp := hi5) (hx := Tx64.nil) (hT := TO.now hR)) (hst := rfl) dL_arePages_150 (hf := ⟨by show _ ≤ 4800; (try simp only [rmL]); omega, by show _ ≤ 28700; (try simp only [rmL]); omega⟩) (kk := fun v150 w150 g150 => ?_)
                obtain ⟨rfl, q150⟩ := g150
                have q150 := q150.symm
                subst q150
                refine i_icmp_ne C dL_arePages_153 (tgt := 268) (kt := fun hB153 => ?_) (kf := fun hB153 => ?_)
                · exact absurd rfl hB153
                · refine i_aload_n C dL_arePages_156 (kk := ?_)
                  refine i_iload C dL_arePages_157 (kk := ?_)
                  refine i_callVF C lk_L_77 (x_extent l hl D hXc (i := (i : Int))) (hcl := rfl) (hst := rfl) dL_arePages_159 (hw := hO) (hxx := fun E w1 h => h.2.1 (by omega)) (hf := ⟨by show _ ≤ 4800; (try simp only [rmL]); omega, by show _ ≤ 28700; (try simp only [rmL]); omega⟩) (kk := fun v159 w159 g159 => ?_)
                  obtain ⟨⟨p9, hp9, e9, rfl⟩, q159⟩ := g159
                  have q159 := q159.symm
                  subst q159
                  have e7 : i = p9 := by omega
                  subst e7
                  refine i_aload C dL_arePages_162 (kk := ?_)
                  refine i_iload C dL_arePages_164 (kk := ?_)
                  refine i_iaload C dL_arePages_166 (kk := ?_)
                  rw [Int.toNat_natCast, show cz fx i = ((extT (sT σ) i : Nat) : Int) from by rw [← hfe i hi5]; rfl]
                  refine i_icmp_ne C dL_arePages_167 (tgt := 268) (kt := fun hB167 => ?_) (kf := fun hB167 => ?_)
                  · exact absurd rfl hB167
                  · refine i_aload_n C dL_arePages_170 (kk := ?_)
                    refine i_iload C dL_arePages_171 (kk := ?_)
                    refine i_iload C dL_arePages_173 (kk := ?_)
                    refine i_callVF C lk_L_80 (x_items l hl D hXc (i := (i : Int)) (j := g)) (hcl := rfl) (hst := rfl) dL_arePages_175 (hw := hO) (hxx := fun E w1 h => by (obtain ⟨h, -⟩ := h; rcases h with ⟨-, h⟩ | ⟨-, -, h⟩ <;> exact h (by omega))) (hf := ⟨by show _ ≤ 4800; (try simp only [rmL]); omega, by show _ ≤ 28700; (try simp only [rmL]); omega⟩) (kk := fun v175 w175 g175 => ?_)
                    obtain ⟨⟨p9, hp9, e9, -, rfl⟩, q175⟩ := g175
                    have q175 := q175.symm
                    subst q175
                    have e7 : i = p9 := by omega
                    subst e7
                    rw [← shl_len]
                    refine i_iload C dL_arePages_178 (kk := ?_)
                    refine i_icmp_ne C dL_arePages_180 (tgt := 268) (kt := fun hB180 => ?_) (kf := fun hB180 => ?_)
                    · exact absurd rfl hB180
                    · refine i_aload_n C dL_arePages_183 (kk := ?_)
                      refine i_iload C dL_arePages_184 (kk := ?_)
                      refine i_iload C dL_arePages_186 (kk := ?_)
                      refine i_iload C dL_arePages_188 (kk := ?_)
                      refine i_callSH C lk_L_52 (c_L_sort l hl D (w := w65) (σ := σ) (p := i) (g := g) (n := (((shl g (sprT (sT σ) i)).length : Nat) : Int)) hXc hi5 (by omega) (by omega)) (hst := rfl) dL_arePages_190 (hf := ⟨by show _ ≤ 4800; (try simp only [rmL]); omega, by show _ ≤ 28700; (try simp only [rmL]); omega⟩) (kk := fun v190 w190 g190 => ?_)
                      obtain ⟨rfl, q190⟩ := g190
                      have q190 := q190.symm
                      subst q190
                      rw [sAt_out (fun k hk => by omega)]
                      refine i_bipush C dL_arePages_193 (kk := ?_)
                      refine i_icmp_ne C dL_arePages_195 (tgt := 268) (kt := fun hB195 => ?_) (kf := fun hB195 => ?_)
                      · exact absurd rfl hB195
                      · refine i_aload_n C dL_arePages_198 (kk := ?_)
                        refine i_iload C dL_arePages_199 (kk := ?_)
                        refine i_iload C dL_arePages_201 (kk := ?_)
                        refine i_iconst C dL_arePages_203 (kk := ?_)
                        refine i_callSH C lk_L_52 (c_L_sort l hl D (w := w65) (σ := σ) (p := i) (g := g) (n := -1) hXc hi5 (by omega) (by omega)) (hst := rfl) dL_arePages_204 (hf := ⟨by show _ ≤ 4800; (try simp only [rmL]); omega, by show _ ≤ 28700; (try simp only [rmL]); omega⟩) (kk := fun v204 w204 g204 => ?_)
                        obtain ⟨rfl, q204⟩ := g204
                        have q204 := q204.symm
                        subst q204
                        rw [sAt_out (fun k hk => by omega)]
                        refine i_bipush C dL_arePages_207 (kk := ?_)
                        refine i_icmp_ne C dL_arePages_209 (tgt := 268) (kt := fun hB209 => ?_) (kf := fun hB209 => ?_)
                        · exact absurd rfl hB209
                        · refine i_aload_n C dL_arePages_212 (kk := ?_)
                          refine i_iload C dL_arePages_213 (kk := ?_)
                          refine i_callVF C lk_L_84 (x_breaches l hl D hXc (i := (i : Int))) (hcl := rfl) (hst := rfl) dL_arePages_215 (hw := hO) (hxx := fun E w1 h => h.2.1 (by omega)) (hf := ⟨by show _ ≤ 4800; (try simp only [rmL]); omega, by show _ ≤ 28700; (try simp only [rmL]); omega⟩) (kk := fun v215 w215 g215 => ?_)
                          obtain ⟨⟨p9, hp9, e9, rfl⟩, q215⟩ := g215
                          have q215 := q215.symm
                          subst q215
                          have e7 : i = p9 := by omega
                          subst e7
                          refine i_iload C dL_arePages_218 (kk := ?_)
                          refine i_icmp_ne C dL_arePages_220 (tgt := 268) (kt := fun hB220 => ?_) (kf := fun hB220 => ?_)
                          · exact absurd rfl hB220
                          · refine i_aload_n C dL_arePages_223 (kk := ?_)
                            refine i_iload C dL_arePages_224 (kk := ?_)
                            refine i_callVF C lk_L_87 (x_standsFor l hl D hXc (i := (i : Int))) (hcl := rfl) (hst := rfl) dL_arePages_226 (hw := hO) (hxx := fun E w1 h => h.2.1 (by omega)) (hf := ⟨by show _ ≤ 4800; (try simp only [rmL]); omega, by show _ ≤ 28700; (try simp only [rmL]); omega⟩) (kk := fun v226 w226 g226 => ?_)
                            obtain ⟨⟨p9, hp9, e9, rfl⟩, q226⟩ := g226
                            have q226 := q226.symm
                            subst q226
                            have e7 : i = p9 := by omega
                            subst e7
                            refine i_aload_n C dL_arePages_229 (kk := ?_)
                            refine i_aload_n C dL_arePages_230 (kk := ?_)
                            refine i_aload C dL_arePages_231 (kk := ?_)
                            refine i_iload C dL_arePages_233 (kk := ?_)
                            refine i_callS C lk_L_90 (c_L_stands l hl D (w := w65) (hR := hR) (hp := hi5)) (hst := rfl) dL_arePages_235 (hf := ⟨by show _ ≤ 4800; (try simp only [rmL]); omega, by show _ ≤ 28700; (try simp only [rmL]); omega⟩) (kk := fun v235 w235 g235 => ?_)
                            obtain ⟨rfl, q235⟩ := g235
                            have q235 := q235.symm
                            subst q235
                            refine i_icmp_ne C dL_arePages_238 (tgt := 268) (kt := fun hB238 => ?_) (kf := fun hB238 => ?_)
                            · exact absurd rfl hB238
                            · refine i_aload_n C dL_arePages_241 (kk := ?_)
                              refine i_iload C dL_arePages_242 (kk := ?_)
                              refine i_callVF C lk_L_93 (x_links l hl D hXc (i0 := (i : Int))) (hcl := rfl) (hst := rfl) dL_arePages_244 (hw := hO) (hxx := fun E w1 h => h.2.1 (by omega)) (hf := ⟨by show _ ≤ 4800; (try simp only [rmL]); omega, by show _ ≤ 28700; (try simp only [rmL]); omega⟩) (kk := fun v244 w244 g244 => ?_)
                              obtain ⟨⟨p9, hp9, e9, rfl⟩, q244⟩ := g244
                              have q244 := q244.symm
                              subst q244
                              have e7 : i = p9 := by omega
                              subst e7
                              refine i_aload_n C dL_arePages_247 (kk := ?_)
                              refine i_aload_n C dL_arePages_248 (kk := ?_)
                              refine i_aload_n C dL_arePages_249 (kk := ?_)
                              refine i_aload_n C dL_arePages_250 (kk := ?_)
                              refine i_aload C dL_arePages_251 (kk := ?_)
                              refine i_iload C dL_arePages_253 (kk := ?_)
                              refine i_iconst C dL_arePages_255 (kk := ?_)
                              refine i_iconst C dL_arePages_256 (kk := ?_)
                              refine i_iconst C dL_arePages_257 (kk := ?_)
                              refine i_callS C lk_L_62 (c_L_walk l hl D (w := w65) (CC := 1) (SS := 24) (a := 3) (num := 0) (g0 := -1) (hR := hR) (hX := hXc) (hp := hi5) (hg0 := by omega) (ha := by omega) (hnum := by omega) (hCC := by omega)) (hst := rfl) dL_arePages_258 (hf := ⟨by show _ ≤ 4800; (try simp only [rmL]); omega, by show _ ≤ 28700; (try simp only [rmL]); omega⟩) (kk := fun v258 w258 g258 => ?_)
                              obtain ⟨rfl, hk258⟩ := g258
                              rw [wkA_3]
                              refine i_icmp_ne C dL_arePages_261 (tgt := 268) (kt := fun hB261 => ?_) (kf := fun hB261 => ?_)
                              · exact absurd rfl hB261
                              · refine i_iconst C dL_arePages_264 (kk := ?_)
                                refine i_goto C dL_arePages_265 (tgt := 269) (kk := ?_)
                                refine i_istore C dL_arePages_269 (kk := ?_)
                                refine i_iinc C dL_arePages_271 (kk := ?_)
                                refine i_goto C dL_arePages_274 (tgt := 26) (kk := ?_)
                                exact ih (i + 1) _ _ _ _ _ (by omega) (by omega) (by (try simp only [rmL]); omega) (by (try simp only [rmL]); omega) (hkc.trans hk258)
        refine i_if_le C dL_arePages_74 (tgt := 81) (kt := fun hB74 => ?_) (kf := fun hB74 => ?_)
        · refine i_iconst C dL_arePages_81 (kk := ?_)
          exact jB _ (by omega) _ _ (by (try simp only [rmL]); omega) (by (try simp only [rmL]); omega)
        · refine i_iconst C dL_arePages_77 (kk := ?_)
          refine i_goto C dL_arePages_78 (tgt := 82) (kk := ?_)
          exact jB _ (by omega) _ _ (by (try simp only [rmL]); omega) (by (try simp only [rmL]); omega)
  exact lp 6 0 _ _ _ _ _ (by omega) (by omega) (by (try simp only [rmL]); omega) (by (try simp only [rmL]); omega) kW.rf
