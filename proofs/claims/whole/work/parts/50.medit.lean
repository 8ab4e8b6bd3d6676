theorem MdV.rk {σ : Sg} {F F' : Nat → Nat → Int} {dn op : Int} {p : Nat} {x : Int} (hS : SgOK σ) (h : MdV σ F dn op) (hp : p < 12) (u : F' 5 = upz (F 5) (21 * p + sNv σ p) x) (n : ∀ j, j ≠ 5 → F' j = F j) : MdV (uRk σ p (sNv σ p) x) F' dn op := by
  obtain ⟨v1, v2, v3, v4, v5⟩ := h
  refine ⟨v1, v2, fun i hi => by rw [n 0 (by decide)]; exact v3 i hi, fun q hq => ?_, fun k hk => by rw [n 8 (by decide)]; exact v5 k hk⟩
  have h4 := v4 q hq
  have h20 := (hS.2.1 q hq).1
  have hp20 := (hS.2.1 p hp).1
  refine ⟨by rw [n 6 (by decide)]; exact h4.1, by rw [n 7 (by decide)]; exact h4.2.1, fun v hv => ?_⟩
  have hv2 : v ≤ sNv σ q := hv
  refine ⟨by rw [n 4 (by decide)]; exact (h4.2.2 v hv).1, ?_, fun i hi => by rw [n 3 (by decide)]; exact (h4.2.2 v hv).2.2 i hi⟩
  rw [u]
  show _ = upz (sRk σ) p (upz (sRk σ p) (sNv σ p) x) q v
  by_cases z : q = p
  · subst z
    rw [upz_eq]
    by_cases y : v = sNv σ q
    · subst y; rw [upz_eq, upz_eq]
    · rw [upz_ne (by omega), upz_ne y]; exact (h4.2.2 v hv).2.1
  · rw [upz_ne (by omega), upz_ne z]; exact (h4.2.2 v hv).2.1
theorem MdV.lk {σ : Sg} {F F' : Nat → Nat → Int} {dn op : Int} {p : Nat} {x : Int} (h : MdV σ F dn op) (u : F' 7 = upz (F 7) p x) (n : ∀ j, j ≠ 7 → F' j = F j) : MdV (uLk σ p x) F' dn op := by
  obtain ⟨v1, v2, v3, v4, v5⟩ := h
  refine ⟨v1, v2, fun i hi => by rw [n 0 (by decide)]; exact v3 i hi, fun q hq => ⟨by rw [n 6 (by decide)]; exact (v4 q hq).1, ?_, fun v hv => by rw [n 4 (by decide), n 5 (by decide), n 3 (by decide)]; exact (v4 q hq).2.2 v hv⟩, fun k hk => by rw [n 8 (by decide)]; exact v5 k hk⟩
  rw [u]
  show _ = upz (sLk σ) p x q
  by_cases z : q = p
  · subst z; rw [upz_eq, upz_eq]
  · rw [upz_ne z, upz_ne z]; exact (v4 q hq).2.1
theorem MdV.ur {σ : Sg} {F F' : Nat → Nat → Int} {dn op : Int} {k : Nat} {x : Int} (h : MdV σ F dn op) (u : F' 8 = upz (F 8) k x) (n : ∀ j, j ≠ 8 → F' j = F j) : MdV (uUr σ k x) F' dn op := by
  obtain ⟨v1, v2, v3, v4, v5⟩ := h
  refine ⟨v1, v2, fun i hi => by rw [n 0 (by decide)]; exact v3 i hi, fun q hq => by rw [n 6 (by decide), n 7 (by decide), n 4 (by decide), n 5 (by decide), n 3 (by decide)]; exact v4 q hq, fun j hj => ?_⟩
  rw [u]
  show _ = upz (sUr σ) k x j
  by_cases z : j = k
  · subst z; rw [upz_eq, upz_eq]
  · rw [upz_ne z, upz_ne z]; exact v5 j hj
theorem MdV.back {σ : Sg} {F F' : Nat → Nat → Int} {dn op : Int} {p v : Nat} (h : MdV σ F dn op) (hv : v ≤ sNv σ p) (u : F' 6 = upz (F 6) p (v : Int)) (n : ∀ j, j ≤ 8 → j ≠ 6 → F' j = F j) : MdV (uVn σ p v) F' dn op := by
  obtain ⟨v1, v2, v3, v4, v5⟩ := h
  refine ⟨v1, v2, fun i hi => by rw [n 0 (by decide) (by decide)]; exact v3 i hi, fun q hq => ⟨?_, by rw [n 7 (by decide) (by decide)]; exact (v4 q hq).2.1, fun x hx => ?_⟩, fun k hk => by rw [n 8 (by decide) (by decide)]; exact v5 k hk⟩
  · rw [u]
    show _ = ((upz (sNv σ) p v q : Nat) : Int)
    by_cases z : q = p
    · subst z; rw [upz_eq, upz_eq]
    · rw [upz_ne z, upz_ne z]; exact (v4 q hq).1
  · have hx2 : x ≤ upz (sNv σ) p v q := hx
    have hx3 : x ≤ sNv σ q := by
      by_cases z : q = p
      · subst z; rw [upz_eq] at hx2; omega
      · rwa [upz_ne z] at hx2
    rw [n 4 (by decide) (by decide), n 5 (by decide) (by decide), n 3 (by decide) (by decide)]
    exact (v4 q hq).2.2 x hx3
/-- the draft becomes the next version -/
theorem MdV.edit {σ : Sg} {F F' : Nat → Nat → Int} {dn op : Int} {k p : Nat} (hS : SgOK σ) (h : MdV σ F dn op) (hp : p < 12) (hk : k < 6) (hn : sNv σ p < 20) (ho : owc (sDr σ) = 0) (u6 : F' 6 = upz (F 6) p ((sNv σ p : Int) + 1)) (u4 : F' 4 = upz (F 4) (21 * p + (sNv σ p + 1)) ((sDr σ).length : Int)) (u5 : F' 5 = upz (F 5) (21 * p + (sNv σ p + 1)) (sUr σ k)) (u3 : ∀ j, F' 3 j = if 30 * (21 * p + (sNv σ p + 1)) ≤ j ∧ j < 30 * (21 * p + (sNv σ p + 1)) + (sDr σ).length then F 0 (j - 30 * (21 * p + (sNv σ p + 1))) else F 3 j) (e7 : F' 7 = F 7) (e8 : F' 8 = F 8) : MdV (uEd σ k p) F' 0 op := by
  obtain ⟨v1, v2, v3, v4, v5⟩ := h
  have h30 := hS.1.2.2
  have hp20 := (hS.2.1 p hp).1
  refine ⟨rfl, by rw [v2, ho]; rfl, fun i hi => absurd hi (Nat.not_lt_zero i), fun q hq => ⟨?_, by rw [e7]; exact (v4 q hq).2.1, fun x hx => ?_⟩, fun k hk => by rw [e8]; exact v5 k hk⟩
  · rw [u6]
    show _ = ((upz (sNv σ) p (sNv σ p + 1) q : Nat) : Int)
    by_cases z : q = p
    · subst z; rw [upz_eq, upz_eq]; rfl
    · rw [upz_ne z, upz_ne z]; exact (v4 q hq).1
  · have hx2 : x ≤ upz (sNv σ) p (sNv σ p + 1) q := hx
    have hq20 := (hS.2.1 q hq).1
    have et : sTx (uEd σ k p) q x = upz (sTx σ) p (upz (sTx σ p) (sNv σ p + 1) (sDr σ)) q x := rfl
    have er : sRk (uEd σ k p) q x = upz (sRk σ) p (upz (sRk σ p) (sNv σ p + 1) (sUr σ k)) q x := rfl
    rw [et, er]
    by_cases z : q = p ∧ x = sNv σ p + 1
    · obtain ⟨z1, z2⟩ := z
      subst z1 z2
      rw [upz_eq, upz_eq, upz_eq, upz_eq, u4, u5, upz_eq, upz_eq]
      refine ⟨rfl, rfl, fun i hi => ?_⟩
      rw [u3, if_pos ⟨by omega, by omega⟩, show 30 * (21 * q + (sNv σ q + 1)) + i - 30 * (21 * q + (sNv σ q + 1)) = i by omega]
      exact v3 i hi
    · have hx3 : x ≤ sNv σ q := by
        by_cases y : q = p
        · subst y; rw [upz_eq] at hx2; omega
        · rwa [upz_ne y] at hx2
      have e1 : upz (sTx σ) p (upz (sTx σ p) (sNv σ p + 1) (sDr σ)) q x = sTx σ q x := by
        by_cases y : q = p
        · subst y; rw [upz_eq, upz_ne (by omega)]
        · rw [upz_ne y]
      have e2 : upz (sRk σ) p (upz (sRk σ p) (sNv σ p + 1) (sUr σ k)) q x = sRk σ q x := by
        by_cases y : q = p
        · subst y; rw [upz_eq, upz_ne (by omega)]
        · rw [upz_ne y]
      have hd : 21 * q + x ≠ 21 * p + (sNv σ p + 1) := by
        by_cases y : q = p
        · subst y; omega
        · omega
      have hl := ((hS.2.1 q hq).2.2.2.2.2 x hx3).1.2.2
      have h4 := (v4 q hq).2.2 x hx3
      rw [e1, e2, u4, u5, upz_ne hd, upz_ne hd]
      refine ⟨h4.1, h4.2.1, fun i hi => ?_⟩
      rw [u3, if_neg (by omega)]
      exact h4.2.2 i hi
theorem MdV.clear {σ : Sg} {F : Nat → Nat → Int} {dn op : Int} (h : MdV σ F dn op) (ho : owc (sDr σ) = 0) : MdV (uDr σ []) F 0 op := by
  obtain ⟨v1, v2, v3, v4, v5⟩ := h
  exact ⟨rfl, by rw [v2, ho]; rfl, fun i hi => absurd hi (Nat.not_lt_zero i), v4, v5⟩
set_option maxRecDepth 100000 in
set_option maxHeartbeats 4000000 in
theorem c_X7_setRank (l : Launch) (hl : l.stackTraces = false) (D : gD) {w0 w : wW} {τ ad : Nat → Nat} {σ : Sg} {la : Int} {i j : Int} (hI : MdI D w0 w τ ad σ la := by assumption) (hi : inR i := by omega) (hj : inR j := by omega) : CTm l D yX7_setRank cX7_setRank 4 (some .int) (rmL 3 0 0) [.ref (ad 5000), .int (Z32 i), .int (Z32 j)] w (fun u w1 => u = some (.int (Z32 (oSetRank σ i j).2.1)) ∧ MdJ D w0 w1 τ ad (oSetRank σ i j).2.2 (oSetRank σ i j).1) := by
  refine CTm_of hl false rfl (by rfl) (Nat.le_of_ble_eq_true rfl) (fun h => nomatch h) ?_
  intro G C
  show G 0 0 w [some (.ref (ad 5000)), some (.int (Z32 i)), some (.int (Z32 j)), none] 0 []
  obtain ⟨hS, F, dn, op, sh, hM, hV⟩ := hI
  refine i_aload_n C dX7_setRank_0 (kk := ?_)
  refine i_iload_n C dX7_setRank_1 (kk := ?_)
  refine i_callS C lk_X7_125 (c_X7_isUser l hl D (v := i)) (hst := rfl) dX7_setRank_2 (kk := fun v2 w2 g2 => ?_)
  obtain ⟨rfl, q2⟩ := g2
  have q2 := q2.symm
  subst q2
  refine i_iload_n C dX7_setRank_5 (kk := ?_)
  refine i_iconst C dX7_setRank_6 (kk := ?_)
  refine i_iconst C dX7_setRank_7 (kk := ?_)
  refine i_callS C lk_X7_68 (c_X7_in l hl D (v := j) (a := 0) (b := 3)) (hst := rfl) dX7_setRank_8 (kk := fun v8 w8 g8 => ?_)
  obtain ⟨rfl, q8⟩ := g8
  have q8 := q8.symm
  subst q8
  refine i_iconst C dX7_setRank_11 (kk := ?_)
  refine i_callV C lk_X7_83 (c_X7_goes l hl D (hM := hM) (a := bz (isUs i)) (b := bz (0 ≤ j ∧ j ≤ 3)) (c := 1) (by rcases bz_R (isUs i) with h | h <;> omega) (by rcases bz_R (0 ≤ j ∧ j ≤ 3) with h | h <;> omega) (by decide)) (hcl := rfl) (hst := rfl) dX7_setRank_12 (hw := hM.obj) (kk := fun v12 w12 g12 => ?_)
  obtain ⟨rfl, hM⟩ := g12
  replace hM : MdR D w0 w12 τ ad F _ op sh (gol (bz (isUs i)) (bz (0 ≤ j ∧ j ≤ 3)) (bz (True))) := hM
  show G _ _ _ _ _ (.int (Z32 (bz (gol (bz (isUs i)) (bz (0 ≤ j ∧ j ≤ 3)) (bz (True)) = 0))) :: _)
  refine i_if_ne C dX7_setRank_15 (tgt := 20) (ha := by rcases bz_R (gol (bz (isUs i)) (bz (0 ≤ j ∧ j ≤ 3)) (bz (True)) = 0) with h | h <;> omega) (kt := fun hB15 => ?_) (kf := fun hB15 => ?_)
  · have hz : gol (bz (isUs i)) (bz (0 ≤ j ∧ j ≤ 3)) (bz (True)) = 0 := bz_ne.mp hB15
    obtain ⟨e0, pa, pb, pc3⟩ := op3_yes (σ := σ) (X := (0, sUr σ i.toNat, uUr σ i.toNat j)) hz
    have e0 : oSetRank σ i j = (0, sUr σ i.toNat, uUr σ i.toNat j) := e0
    rw [hz] at hM
    obtain ⟨k, hk, rfl⟩ : ∃ k : Nat, k < 6 ∧ i = (k : Int) := ⟨i.toNat, by omega, by omega⟩
    simp only [Int.toNat_natCast] at e0
    refine i_aload_n C dX7_setRank_20 (kk := ?_)
    refine i_getf C f_X7_28 dX7_setRank_21 (hw := hM.obj) (kk := ?_)
    refine i_iload_n C dX7_setRank_24 (kk := ?_)
    refine m_ial C hM 8 (k) (N := 6) dX7_setRank_25 (kk := ?_)
    rw [hV.2.2.2.2 k hk]
    refine i_istore_n C dX7_setRank_26 (kk := ?_)
    refine i_aload_n C dX7_setRank_27 (kk := ?_)
    refine i_getf C f_X7_28 dX7_setRank_28 (hw := hM.obj) (kk := ?_)
    refine i_iload_n C dX7_setRank_31 (kk := ?_)
    refine i_iload_n C dX7_setRank_32 (kk := ?_)
    refine m_iasF C hM 8 (k) (N := 6) dX7_setRank_33 (kk := fun w33 F33 hM u33 n33 => ?_)
    refine i_iload_n C dX7_setRank_34 (kk := ?_)
    exact i_iret C (d := dX7_setRank_35) (h := by rw [e0]; exact ⟨rfl, _, _, _, _, hM, hV.ur u33 n33⟩)
  · have hz : gol (bz (isUs i)) (bz (0 ≤ j ∧ j ≤ 3)) (bz (True)) ≠ 0 := bz_z.mp hB15
    have e0 : oSetRank σ i j = (gol (bz (isUs i)) (bz (0 ≤ j ∧ j ≤ 3)) (bz (True)), 0, σ) := op3_no hz
    refine i_iconst C dX7_setRank_18 (kk := ?_)
    exact i_iret C (d := dX7_setRank_19) (h := by rw [e0]; exact ⟨rfl, F, _, _, _, hM, hV⟩)

set_option maxRecDepth 100000 in
set_option maxHeartbeats 4000000 in
theorem c_X7_lock (l : Launch) (hl : l.stackTraces = false) (D : gD) {w0 w : wW} {τ ad : Nat → Nat} {σ : Sg} {la : Int} {i0 i j : Int} (hI : MdI D w0 w τ ad σ la := by assumption) (hi0 : inR i0 := by omega) (hi : inR i := by omega) (hj : inR j := by omega) : CTm l D yX7_lock cX7_lock 5 (some .int) (rmL 3 0 0) [.ref (ad 5000), .int (Z32 i0), .int (Z32 i), .int (Z32 j)] w (fun u w1 => u = some (.int (Z32 (oLock σ i0 i j).2.1)) ∧ MdJ D w0 w1 τ ad (oLock σ i0 i j).2.2 (oLock σ i0 i j).1) := by
  refine CTm_of hl false rfl (by rfl) (Nat.le_of_ble_eq_true rfl) (fun h => nomatch h) ?_
  intro G C
  show G 0 0 w [some (.ref (ad 5000)), some (.int (Z32 i0)), some (.int (Z32 i)), some (.int (Z32 j)), none] 0 []
  obtain ⟨hS, F, dn, op, sh, hM, hV⟩ := hI
  refine i_aload_n C dX7_lock_0 (kk := ?_)
  refine i_iload_n C dX7_lock_1 (kk := ?_)
  refine i_callS C lk_X7_125 (c_X7_isUser l hl D (v := i0)) (hst := rfl) dX7_lock_2 (kk := fun v2 w2 g2 => ?_)
  obtain ⟨rfl, q2⟩ := g2
  have q2 := q2.symm
  subst q2
  have jn : ∀ x : Int, x = bz (isUs i0 ∧ isPg i) → G 0 0 w [some (.ref (ad 5000)), some (.int (Z32 i0)), some (.int (Z32 i)), some (.int (Z32 j)), none] 20 [.int (Z32 x), .ref (ad 5000)] := by
    intro x hx
    subst hx
    refine i_iload_n C dX7_lock_20 (kk := ?_)
    refine i_iconst C dX7_lock_21 (kk := ?_)
    refine i_iconst C dX7_lock_22 (kk := ?_)
    refine i_callS C lk_X7_68 (c_X7_in l hl D (v := j) (a := 0) (b := 3)) (hst := rfl) dX7_lock_23 (kk := fun v23 w23 g23 => ?_)
    obtain ⟨rfl, q23⟩ := g23
    have q23 := q23.symm
    subst q23
    refine i_iconst C dX7_lock_26 (kk := ?_)
    refine i_callV C lk_X7_83 (c_X7_goes l hl D (hM := hM) (a := bz (isUs i0 ∧ isPg i)) (b := bz (0 ≤ j ∧ j ≤ 3)) (c := 1) (by rcases bz_R (isUs i0 ∧ isPg i) with h | h <;> omega) (by rcases bz_R (0 ≤ j ∧ j ≤ 3) with h | h <;> omega) (by decide)) (hcl := rfl) (hst := rfl) dX7_lock_27 (hw := hM.obj) (kk := fun v27 w27 g27 => ?_)
    obtain ⟨rfl, hM⟩ := g27
    replace hM : MdR D w0 w27 τ ad F _ op sh (gol (bz (isUs i0 ∧ isPg i)) (bz (0 ≤ j ∧ j ≤ 3)) (bz (True))) := hM
    show G _ _ _ _ _ (.int (Z32 (bz (gol (bz (isUs i0 ∧ isPg i)) (bz (0 ≤ j ∧ j ≤ 3)) (bz (True)) = 0))) :: _)
    refine i_if_ne C dX7_lock_30 (tgt := 35) (ha := by rcases bz_R (gol (bz (isUs i0 ∧ isPg i)) (bz (0 ≤ j ∧ j ≤ 3)) (bz (True)) = 0) with h | h <;> omega) (kt := fun hB30 => ?_) (kf := fun hB30 => ?_)
    · have hz : gol (bz (isUs i0 ∧ isPg i)) (bz (0 ≤ j ∧ j ≤ 3)) (bz (True)) = 0 := bz_ne.mp hB30
      obtain ⟨e0, pa, pb, pc3⟩ := op3_yes (σ := σ) (X := (if sUr σ i0.toNat < sLk σ i.toNat ∨ sUr σ i0.toNat < j then (0, -2, σ) else (0, sLk σ i.toNat, uLk σ i.toNat j))) hz
      have e0 : oLock σ i0 i j = (if sUr σ i0.toNat < sLk σ i.toNat ∨ sUr σ i0.toNat < j then (0, -2, σ) else (0, sLk σ i.toNat, uLk σ i.toNat j)) := e0
      rw [hz] at hM
      obtain ⟨k, hk, rfl⟩ : ∃ k : Nat, k < 6 ∧ i0 = (k : Int) := ⟨i0.toNat, by omega, by omega⟩
      obtain ⟨p, hp, rfl⟩ : ∃ p : Nat, p < 12 ∧ i = (p : Int) := ⟨i.toNat, by omega, by omega⟩
      simp only [Int.toNat_natCast] at e0
      have hlk := (hS.2.1 p hp).2.1
      have hur := hS.2.2 k hk
      refine i_aload_n C dX7_lock_35 (kk := ?_)
      refine i_getf C f_X7_25 dX7_lock_36 (hw := hM.obj) (kk := ?_)
      refine i_iload_n C dX7_lock_39 (kk := ?_)
      refine m_ial C hM 7 (p) (N := 12) dX7_lock_40 (kk := ?_)
      rw [(hV.2.2.2.1 p hp).2.1]
      refine i_istore C dX7_lock_41 (kk := ?_)
      refine i_aload_n C dX7_lock_43 (kk := ?_)
      refine i_getf C f_X7_28 dX7_lock_44 (hw := hM.obj) (kk := ?_)
      refine i_iload_n C dX7_lock_47 (kk := ?_)
      refine m_ial C hM 8 (k) (N := 6) dX7_lock_48 (kk := ?_)
      rw [hV.2.2.2.2 k hk]
      refine i_iload C dX7_lock_49 (kk := ?_)
      refine i_icmp_lt C dX7_lock_51 (tgt := 64) (kt := fun hB51 => ?_) (kf := fun hB51 => ?_)
      · refine i_bipush C dX7_lock_64 (kk := ?_)
        exact i_iret C (d := dX7_lock_66) (h := by rw [e0, if_pos (by omega)]; exact ⟨rfl, _, _, _, _, hM, hV⟩)
      · refine i_aload_n C dX7_lock_54 (kk := ?_)
        refine i_getf C f_X7_28 dX7_lock_55 (hw := hM.obj) (kk := ?_)
        refine i_iload_n C dX7_lock_58 (kk := ?_)
        refine m_ial C hM 8 (k) (N := 6) dX7_lock_59 (kk := ?_)
        rw [hV.2.2.2.2 k hk]
        refine i_iload_n C dX7_lock_60 (kk := ?_)
        refine i_icmp_ge C dX7_lock_61 (tgt := 67) (kt := fun hB61 => ?_) (kf := fun hB61 => ?_)
        · refine i_aload_n C dX7_lock_67 (kk := ?_)
          refine i_getf C f_X7_25 dX7_lock_68 (hw := hM.obj) (kk := ?_)
          refine i_iload_n C dX7_lock_71 (kk := ?_)
          refine i_iload_n C dX7_lock_72 (kk := ?_)
          refine m_iasF C hM 7 (p) (N := 12) dX7_lock_73 (kk := fun w73 F73 hM u73 n73 => ?_)
          refine i_iload C dX7_lock_74 (kk := ?_)
          exact i_iret C (d := dX7_lock_76) (h := by rw [e0, if_neg (by omega)]; exact ⟨rfl, _, _, _, _, hM, hV.lk u73 n73⟩)
        · refine i_bipush C dX7_lock_64 (kk := ?_)
          exact i_iret C (d := dX7_lock_66) (h := by rw [e0, if_pos (by omega)]; exact ⟨rfl, _, _, _, _, hM, hV⟩)
    · have hz : gol (bz (isUs i0 ∧ isPg i)) (bz (0 ≤ j ∧ j ≤ 3)) (bz (True)) ≠ 0 := bz_z.mp hB30
      have e0 : oLock σ i0 i j = (gol (bz (isUs i0 ∧ isPg i)) (bz (0 ≤ j ∧ j ≤ 3)) (bz (True)), 0, σ) := op3_no hz
      refine i_iconst C dX7_lock_33 (kk := ?_)
      exact i_iret C (d := dX7_lock_34) (h := by rw [e0]; exact ⟨rfl, F, _, _, _, hM, hV⟩)
  refine i_if_eq C dX7_lock_5 (tgt := 19) (ha := by rcases bz_R (isUs i0) with h | h <;> omega) (kt := fun hB5 => ?_) (kf := fun hB5 => ?_)
  · have hz1 := bz_z.mp hB5
    refine i_iconst C dX7_lock_19 (kk := ?_)
    exact jn _ (by first | (rw [bz_t ⟨hz1, by assumption⟩]; done) | (rw [bz_f (fun q => hz1 q.1)]; done) | (rw [bz_f (fun q => hz2 q.2)]; done))
  · have hz1 := bz_ne.mp hB5
    refine i_iload_n C dX7_lock_8 (kk := ?_)
    refine i_callS C lk_X7_91 (c_X7_isPage l hl D (v := i)) (hst := rfl) dX7_lock_9 (kk := fun v9 w9 g9 => ?_)
    obtain ⟨rfl, q9⟩ := g9
    have q9 := q9.symm
    subst q9
    refine i_if_eq C dX7_lock_12 (tgt := 19) (ha := by rcases bz_R (isPg i) with h | h <;> omega) (kt := fun hB12 => ?_) (kf := fun hB12 => ?_)
    · have hz2 := bz_z.mp hB12
      refine i_iconst C dX7_lock_19 (kk := ?_)
      exact jn _ (by first | (rw [bz_t ⟨hz1, by assumption⟩]; done) | (rw [bz_f (fun q => hz1 q.1)]; done) | (rw [bz_f (fun q => hz2 q.2)]; done))
    · have hz2 := bz_ne.mp hB12
      refine i_iconst C dX7_lock_15 (kk := ?_)
      refine i_goto C dX7_lock_16 (tgt := 20) (kk := ?_)
      exact jn _ (by first | (rw [bz_t ⟨hz1, by assumption⟩]; done) | (rw [bz_f (fun q => hz1 q.1)]; done) | (rw [bz_f (fun q => hz2 q.2)]; done))

set_option maxRecDepth 100000 in
set_option maxHeartbeats 4000000 in
theorem c_X7_approve (l : Launch) (hl : l.stackTraces = false) (D : gD) {w0 w : wW} {τ ad : Nat → Nat} {σ : Sg} {la : Int} {i0 i : Int} (hI : MdI D w0 w τ ad σ la := by assumption) (hi0 : inR i0 := by omega) (hi : inR i := by omega) : CTm l D yX7_approve cX7_approve 4 (some .boolean) (rmL 4 0 0) [.ref (ad 5000), .int (Z32 i0), .int (Z32 i)] w (fun u w1 => u = some (.int (Z32 (oApprove σ i0 i).2.1)) ∧ MdJ D w0 w1 τ ad (oApprove σ i0 i).2.2 (oApprove σ i0 i).1) := by
  refine CTm_of hl false rfl (by rfl) (Nat.le_of_ble_eq_true rfl) (fun h => nomatch h) ?_
  intro G C
  show G 0 0 w [some (.ref (ad 5000)), some (.int (Z32 i0)), some (.int (Z32 i)), none] 0 []
  obtain ⟨hS, F, dn, op, sh, hM, hV⟩ := hI
  refine i_aload_n C dX7_approve_0 (kk := ?_)
  refine i_iload_n C dX7_approve_1 (kk := ?_)
  refine i_callS C lk_X7_125 (c_X7_isUser l hl D (v := i0)) (hst := rfl) dX7_approve_2 (kk := fun v2 w2 g2 => ?_)
  obtain ⟨rfl, q2⟩ := g2
  have q2 := q2.symm
  subst q2
  have jn : ∀ x : Int, x = bz (isUs i0 ∧ isPg i) → G 0 0 w [some (.ref (ad 5000)), some (.int (Z32 i0)), some (.int (Z32 i)), none] 20 [.int (Z32 x), .ref (ad 5000)] := by
    intro x hx
    subst hx
    refine i_iconst C dX7_approve_20 (kk := ?_)
    refine i_iconst C dX7_approve_21 (kk := ?_)
    refine i_callV C lk_X7_83 (c_X7_goes l hl D (hM := hM) (a := bz (isUs i0 ∧ isPg i)) (b := 1) (c := 1) (by rcases bz_R (isUs i0 ∧ isPg i) with h | h <;> omega) (by decide) (by decide)) (hcl := rfl) (hst := rfl) dX7_approve_22 (hw := hM.obj) (kk := fun v22 w22 g22 => ?_)
    obtain ⟨rfl, hM⟩ := g22
    replace hM : MdR D w0 w22 τ ad F _ op sh (gol (bz (isUs i0 ∧ isPg i)) (bz (True)) (bz (True))) := hM
    show G _ _ _ _ _ (.int (Z32 (bz (gol (bz (isUs i0 ∧ isPg i)) (bz (True)) (bz (True)) = 0))) :: _)
    refine i_if_ne C dX7_approve_25 (tgt := 30) (ha := by rcases bz_R (gol (bz (isUs i0 ∧ isPg i)) (bz (True)) (bz (True)) = 0) with h | h <;> omega) (kt := fun hB25 => ?_) (kf := fun hB25 => ?_)
    · have hz : gol (bz (isUs i0 ∧ isPg i)) (bz (True)) (bz (True)) = 0 := bz_ne.mp hB25
      obtain ⟨e0, pa, pb, pc3⟩ := op3_yes (σ := σ) (X := (if frcS σ i.toNat ≤ sUr σ i0.toNat ∧ sRk σ i.toNat (sNv σ i.toNat) < sUr σ i0.toNat then (0, 1, uRk σ i.toNat (sNv σ i.toNat) (sUr σ i0.toNat)) else (0, 0, σ))) hz
      have e0 : oApprove σ i0 i = (if frcS σ i.toNat ≤ sUr σ i0.toNat ∧ sRk σ i.toNat (sNv σ i.toNat) < sUr σ i0.toNat then (0, 1, uRk σ i.toNat (sNv σ i.toNat) (sUr σ i0.toNat)) else (0, 0, σ)) := e0
      rw [hz] at hM
      obtain ⟨k, hk, rfl⟩ : ∃ k : Nat, k < 6 ∧ i0 = (k : Int) := ⟨i0.toNat, by omega, by omega⟩
      obtain ⟨p, hp, rfl⟩ : ∃ p : Nat, p < 12 ∧ i = (p : Int) := ⟨i.toNat, by omega, by omega⟩
      simp only [Int.toNat_natCast] at e0
      have hlk := (hS.2.1 p hp).2.1
      have hur := hS.2.2 k hk
      have h20 := (hS.2.1 p hp).1
      have hfr := frcS_R hS hp
      have hrk := ((hS.2.1 p hp).2.2.2.2.2 _ (Nat.le_refl _)).2.2
      refine i_aload_n C dX7_approve_30 (kk := ?_)
      refine i_callV C lk_X7_112 (c_X7_laysNow l hl D (hM := hM) hS hV) (hcl := rfl) (hst := rfl) dX7_approve_31 (hw := hM.obj) (kk := fun v31 w31 g31 => ?_)
      obtain ⟨rfl, F2, hM, er2, hcal, hrs⟩ := g31
      have hV2 := hV.congr (F' := F2) (fun j hj => er2 j (by omega) (by omega) (by omega))
      refine i_aload_n C dX7_approve_34 (kk := ?_)
      refine i_getf C f_X7_28 dX7_approve_35 (hw := hM.obj) (kk := ?_)
      refine i_iload_n C dX7_approve_38 (kk := ?_)
      refine m_ial C hM 8 (k) (N := 6) dX7_approve_39 (kk := ?_)
      rw [hV2.2.2.2.2 k hk]
      refine i_aload_n C dX7_approve_40 (kk := ?_)
      refine i_iload_n C dX7_approve_41 (kk := ?_)
      refine i_callV C lk_X7_115 (c_X7_forceOf l hl D (hM := hM) (p := p) (lk := sLk σ) (fr := rsT (sT σ)) hp (fun j hj => (hV2.2.2.2.1 j hj).2.1) hrs (fun j hj => (hS.2.1 j hj).2.1) (fun j hj => rsT_lt)) (hcl := rfl) (hst := rfl) dX7_approve_42 (hw := hM.obj) (kk := fun v42 w42 g42 => ?_)
      obtain ⟨rfl, q42⟩ := g42
      have q42 := q42.symm
      subst q42
      show G _ _ _ _ _ (.int (Z32 (frcS σ p)) :: _)
      have jc : ∀ x : Int, x = bz (frcS σ p ≤ sUr σ k ∧ sRk σ p (sNv σ p) < sUr σ k) → G 0 0 w31 [some (.ref (ad 5000)), some (.int (Z32 (k : Int))), some (.int (Z32 (p : Int))), none] 72 [.int (Z32 x)] := by
        intro x hx
        subst hx
        refine i_istore_n C dX7_approve_72 (kk := ?_)
        refine i_aload_n C dX7_approve_73 (kk := ?_)
        refine i_getf C f_X7_19 dX7_approve_74 (hw := hM.obj) (kk := ?_)
        refine i_aload_n C dX7_approve_77 (kk := ?_)
        refine i_iload_n C dX7_approve_78 (kk := ?_)
        refine i_callV C lk_X7_97 (c_X7_now l hl D (hM := hM) (p := p) (v := sNv σ p) hp (hV2.2.2.2.1 p hp).1 h20) (hcl := rfl) (hst := rfl) dX7_approve_79 (hw := hM.obj) (kk := fun v79 w79 g79 => ?_)
        obtain ⟨rfl, q79⟩ := g79
        have q79 := q79.symm
        subst q79
        refine i_iload_n C dX7_approve_82 (kk := ?_)
        have js : ∀ x : Int, x = (if frcS σ p ≤ sUr σ k ∧ sRk σ p (sNv σ p) < sUr σ k then sUr σ k else sRk σ p (sNv σ p)) → G 0 0 w31 [some (.ref (ad 5000)), some (.int (Z32 (k : Int))), some (.int (Z32 (p : Int))), some (.int (Z32 (bz (frcS σ p ≤ sUr σ k ∧ sRk σ p (sNv σ p) < sUr σ k))))] 105 [.int (Z32 x), .int (Z32 ((21 * p + sNv σ p : Nat) : Int)), .ref (ad 5006)] := by
          intro x hx
          refine m_iasF C hM 5 (21 * p + sNv σ p) (N := 252) dX7_approve_105 (kk := fun w105 F105 hM u105 n105 => ?_)
          refine i_iload_n C dX7_approve_106 (kk := ?_)
          exact i_zret C (d := dX7_approve_107) (ha := bz_R _) (h := by
              rw [e0]
              by_cases hq : frcS σ p ≤ sUr σ k ∧ sRk σ p (sNv σ p) < sUr σ k
              · rw [if_pos hq, bz_t hq]
                rw [if_pos hq] at hx
                exact ⟨rfl, _, _, _, _, hM, hV2.rk hS hp (by rw [u105, hx]) n105⟩
              · rw [if_neg hq, bz_f hq]
                rw [if_neg hq] at hx
                refine ⟨rfl, _, _, _, _, hM, hV2.congr (fun j hj => ?_)⟩
                by_cases z : j = 5
                · subst z
                  rw [u105, hx, ← ((hV2.2.2.2.1 p hp).2.2 _ (Nat.le_refl _)).2.1]
                  funext y
                  unfold upz
                  split
                  · rename_i z; rw [z]
                  · rfl
                · exact n105 j z)
        refine i_if_eq C dX7_approve_83 (tgt := 95) (ha := by rcases bz_R (frcS σ p ≤ sUr σ k ∧ sRk σ p (sNv σ p) < sUr σ k) with h | h <;> omega) (kt := fun hB83 => ?_) (kf := fun hB83 => ?_)
        · have hz3 := bz_z.mp hB83
          refine i_aload_n C dX7_approve_95 (kk := ?_)
          refine i_getf C f_X7_19 dX7_approve_96 (hw := hM.obj) (kk := ?_)
          refine i_aload_n C dX7_approve_99 (kk := ?_)
          refine i_iload_n C dX7_approve_100 (kk := ?_)
          refine i_callV C lk_X7_97 (c_X7_now l hl D (hM := hM) (p := p) (v := sNv σ p) hp (hV2.2.2.2.1 p hp).1 h20) (hcl := rfl) (hst := rfl) dX7_approve_101 (hw := hM.obj) (kk := fun v101 w101 g101 => ?_)
          obtain ⟨rfl, q101⟩ := g101
          have q101 := q101.symm
          subst q101
          refine m_ial C hM 5 (21 * p + sNv σ p) (N := 252) dX7_approve_104 (kk := ?_)
          rw [((hV2.2.2.2.1 p hp).2.2 _ (Nat.le_refl _)).2.1]
          exact js _ (by first | (rw [if_pos hz3]; done) | (rw [if_neg hz3]; done))
        · have hz3 := bz_ne.mp hB83
          refine i_aload_n C dX7_approve_86 (kk := ?_)
          refine i_getf C f_X7_28 dX7_approve_87 (hw := hM.obj) (kk := ?_)
          refine i_iload_n C dX7_approve_90 (kk := ?_)
          refine m_ial C hM 8 (k) (N := 6) dX7_approve_91 (kk := ?_)
          rw [hV2.2.2.2.2 k hk]
          refine i_goto C dX7_approve_92 (tgt := 105) (kk := ?_)
          exact js _ (by first | (rw [if_pos hz3]; done) | (rw [if_neg hz3]; done))
      refine i_icmp_lt C dX7_approve_45 (tgt := 71) (kt := fun hB45 => ?_) (kf := fun hB45 => ?_)
      · refine i_iconst C dX7_approve_71 (kk := ?_)
        exact jc _ (by first | (rw [bz_t (by omega)]; done) | (rw [bz_f (by omega)]; done))
      · refine i_aload_n C dX7_approve_48 (kk := ?_)
        refine i_getf C f_X7_28 dX7_approve_49 (hw := hM.obj) (kk := ?_)
        refine i_iload_n C dX7_approve_52 (kk := ?_)
        refine m_ial C hM 8 (k) (N := 6) dX7_approve_53 (kk := ?_)
        rw [hV2.2.2.2.2 k hk]
        refine i_aload_n C dX7_approve_54 (kk := ?_)
        refine i_getf C f_X7_19 dX7_approve_55 (hw := hM.obj) (kk := ?_)
        refine i_aload_n C dX7_approve_58 (kk := ?_)
        refine i_iload_n C dX7_approve_59 (kk := ?_)
        refine i_callV C lk_X7_97 (c_X7_now l hl D (hM := hM) (p := p) (v := sNv σ p) hp (hV2.2.2.2.1 p hp).1 h20) (hcl := rfl) (hst := rfl) dX7_approve_60 (hw := hM.obj) (kk := fun v60 w60 g60 => ?_)
        obtain ⟨rfl, q60⟩ := g60
        have q60 := q60.symm
        subst q60
        refine m_ial C hM 5 (21 * p + sNv σ p) (N := 252) dX7_approve_63 (kk := ?_)
        rw [((hV2.2.2.2.1 p hp).2.2 _ (Nat.le_refl _)).2.1]
        refine i_icmp_le C dX7_approve_64 (tgt := 71) (kt := fun hB64 => ?_) (kf := fun hB64 => ?_)
        · refine i_iconst C dX7_approve_71 (kk := ?_)
          exact jc _ (by first | (rw [bz_t (by omega)]; done) | (rw [bz_f (by omega)]; done))
        · refine i_iconst C dX7_approve_67 (kk := ?_)
          refine i_goto C dX7_approve_68 (tgt := 72) (kk := ?_)
          exact jc _ (by first | (rw [bz_t (by omega)]; done) | (rw [bz_f (by omega)]; done))
    · have hz : gol (bz (isUs i0 ∧ isPg i)) (bz (True)) (bz (True)) ≠ 0 := bz_z.mp hB25
      have e0 : oApprove σ i0 i = (gol (bz (isUs i0 ∧ isPg i)) (bz (True)) (bz (True)), 0, σ) := op3_no hz
      refine i_iconst C dX7_approve_28 (kk := ?_)
      exact i_zret C (d := dX7_approve_29) (ha := Or.inl rfl) (h := by rw [e0]; exact ⟨rfl, F, _, _, _, hM, hV⟩)
  refine i_if_eq C dX7_approve_5 (tgt := 19) (ha := by rcases bz_R (isUs i0) with h | h <;> omega) (kt := fun hB5 => ?_) (kf := fun hB5 => ?_)
  · have hz1 := bz_z.mp hB5
    refine i_iconst C dX7_approve_19 (kk := ?_)
    exact jn _ (by first | (rw [bz_t ⟨hz1, by assumption⟩]; done) | (rw [bz_f (fun q => hz1 q.1)]; done) | (rw [bz_f (fun q => hz2 q.2)]; done))
  · have hz1 := bz_ne.mp hB5
    refine i_iload_n C dX7_approve_8 (kk := ?_)
    refine i_callS C lk_X7_91 (c_X7_isPage l hl D (v := i)) (hst := rfl) dX7_approve_9 (kk := fun v9 w9 g9 => ?_)
    obtain ⟨rfl, q9⟩ := g9
    have q9 := q9.symm
    subst q9
    refine i_if_eq C dX7_approve_12 (tgt := 19) (ha := by rcases bz_R (isPg i) with h | h <;> omega) (kt := fun hB12 => ?_) (kf := fun hB12 => ?_)
    · have hz2 := bz_z.mp hB12
      refine i_iconst C dX7_approve_19 (kk := ?_)
      exact jn _ (by first | (rw [bz_t ⟨hz1, by assumption⟩]; done) | (rw [bz_f (fun q => hz1 q.1)]; done) | (rw [bz_f (fun q => hz2 q.2)]; done))
    · have hz2 := bz_ne.mp hB12
      refine i_iconst C dX7_approve_15 (kk := ?_)
      refine i_goto C dX7_approve_16 (tgt := 20) (kk := ?_)
      exact jn _ (by first | (rw [bz_t ⟨hz1, by assumption⟩]; done) | (rw [bz_f (fun q => hz1 q.1)]; done) | (rw [bz_f (fun q => hz2 q.2)]; done))
