theorem rz_z {r : Int} (h : -6 ≤ r ∧ r ≤ -1) : (rz r = 0 ↔ r = -1) ∧ -6 ≤ rz r ∧ rz r ≤ 0 := by
  unfold rz
  split <;> omega
theorem unS_rz {σ : Sg} {k p : Nat} {ver : Int} (h : 0 ≤ ver) : (if sUr σ k < frcS σ p ∨ (ver ≠ -1 ∧ sRk σ p (sNv σ p - 1) < frcS σ p) then (-2 : Int) else rz (refS σ p (sTx σ p (sNv σ p - 1)))) = rz (unS σ k p) := by
  unfold unS
  by_cases z : sUr σ k < frcS σ p ∨ sRk σ p (sNv σ p - 1) < frcS σ p
  · rw [if_pos z, if_pos (by omega)]; rfl
  · rw [if_neg z, if_neg (by omega)]
theorem edS_rz {σ : Sg} {k p : Nat} {rv : Int} : (if sUr σ k < frcS σ p ∨ ((-1 : Int) ≠ -1 ∧ rv < frcS σ p) then (-2 : Int) else rz (refS σ p (sDr σ))) = rz (edS σ k p) := by
  unfold edS
  by_cases z : sUr σ k < frcS σ p
  · rw [if_pos z, if_pos (by omega)]; rfl
  · rw [if_neg z, if_neg (by omega)]
theorem unS_R {σ : Sg} {k p : Nat} : -6 ≤ unS σ k p ∧ unS σ k p ≤ -1 := by
  unfold unS
  split
  · decide
  · exact refS_neg
theorem edS_R {σ : Sg} {k p : Nat} : -6 ≤ edS σ k p ∧ edS σ k p ≤ -1 := by
  unfold edS
  split
  · decide
  · exact refS_neg
theorem upz_self {α : Type} {f : Nat → α} {k : Nat} {x : α} (h : x = f k) : upz f k x = f := by
  funext y
  unfold upz
  split
  · rename_i z; rw [z]; exact h
  · rfl
set_option maxRecDepth 100000 in
set_option maxHeartbeats 4000000 in
theorem c_X7_undo (l : Launch) (hl : l.stackTraces = false) (D : gD) {w0 w : wW} {τ ad : Nat → Nat} {σ : Sg} {la : Int} {i0 i : Int} (hI : MdI D w0 w τ ad σ la := by assumption) (hi0 : inR i0 := by omega) (hi : inR i := by omega) : CTm l D yX7_undo cX7_undo 5 (some .int) (rmL 5 0 0) [.ref (ad 5000), .int (Z32 i0), .int (Z32 i)] w (fun u w1 => u = some (.int (Z32 (oUndo σ i0 i).2.1)) ∧ MdJ D w0 w1 τ ad (oUndo σ i0 i).2.2 (oUndo σ i0 i).1) := by
  refine CTm_of hl false rfl (by rfl) (Nat.le_of_ble_eq_true rfl) (fun h => nomatch h) ?_
  intro G C
  show G 0 0 w [some (.ref (ad 5000)), some (.int (Z32 i0)), some (.int (Z32 i)), none, none] 0 []
  obtain ⟨hS, F, dn, op, sh, hM, hV⟩ := hI
  refine i_iload_n C dX7_undo_0 (kk := ?_)
  refine i_callS C lk_X7_125 (c_X7_isUser l hl D (v := i0)) (hst := rfl) dX7_undo_1 (kk := fun v1 w1 g1 => ?_)
  obtain ⟨rfl, q1⟩ := g1
  have q1 := q1.symm
  subst q1
  have jn : ∀ x : Int, x = bz (isUs i0 ∧ isPg i) → G 0 0 w [some (.ref (ad 5000)), some (.int (Z32 i0)), some (.int (Z32 i)), none, none] 19 [.int (Z32 x)] := by
    intro x hx
    subst hx
    refine i_istore_n C dX7_undo_19 (kk := ?_)
    refine i_aload_n C dX7_undo_20 (kk := ?_)
    refine i_iload_n C dX7_undo_21 (kk := ?_)
    refine i_iload_n C dX7_undo_22 (kk := ?_)
    have jm : ∀ x : Int, x = bz ((isUs i0 ∧ isPg i) ∧ 0 < sNv σ i.toNat) → G 0 0 w [some (.ref (ad 5000)), some (.int (Z32 i0)), some (.int (Z32 i)), some (.int (Z32 (bz (isUs i0 ∧ isPg i)))), none] 40 [.int (Z32 x), .int (Z32 (bz (isUs i0 ∧ isPg i))), .ref (ad 5000)] := by
      intro x hx
      subst hx
      refine i_iconst C dX7_undo_40 (kk := ?_)
      refine i_callV C lk_X7_83 (c_X7_goes l hl D (hM := hM) (a := bz (isUs i0 ∧ isPg i)) (b := bz ((isUs i0 ∧ isPg i) ∧ 0 < sNv σ i.toNat)) (c := 1) (by rcases bz_R (isUs i0 ∧ isPg i) with h | h <;> omega) (by rcases bz_R ((isUs i0 ∧ isPg i) ∧ 0 < sNv σ i.toNat) with h | h <;> omega) (by decide)) (hcl := rfl) (hst := rfl) dX7_undo_41 (hw := hM.obj) (kk := fun v41 w41 g41 => ?_)
      obtain ⟨rfl, hM⟩ := g41
      replace hM : MdR D w0 w41 τ ad F _ op sh (gol (bz (isUs i0 ∧ isPg i)) (bz ((isUs i0 ∧ isPg i) ∧ 0 < sNv σ i.toNat)) (bz (True))) := hM
      show G _ _ _ _ _ (.int (Z32 (bz (gol (bz (isUs i0 ∧ isPg i)) (bz ((isUs i0 ∧ isPg i) ∧ 0 < sNv σ i.toNat)) (bz (True)) = 0))) :: _)
      refine i_if_ne C dX7_undo_44 (tgt := 49) (ha := by rcases bz_R (gol (bz (isUs i0 ∧ isPg i)) (bz ((isUs i0 ∧ isPg i) ∧ 0 < sNv σ i.toNat)) (bz (True)) = 0) with h | h <;> omega) (kt := fun hB44 => ?_) (kf := fun hB44 => ?_)
      · have hz : gol (bz (isUs i0 ∧ isPg i)) (bz ((isUs i0 ∧ isPg i) ∧ 0 < sNv σ i.toNat)) (bz (True)) = 0 := bz_ne.mp hB44
        obtain ⟨e0, pa, pb, pc3⟩ := op3_yes (σ := σ) (X := (if unS σ i0.toNat i.toNat = -1 then (0, ((sNv σ i.toNat - 1 : Nat) : Int), uVn σ i.toNat (sNv σ i.toNat - 1)) else (0, unS σ i0.toNat i.toNat, σ))) hz
        have e0 : oUndo σ i0 i = (if unS σ i0.toNat i.toNat = -1 then (0, ((sNv σ i.toNat - 1 : Nat) : Int), uVn σ i.toNat (sNv σ i.toNat - 1)) else (0, unS σ i0.toNat i.toNat, σ)) := e0
        rw [hz] at hM
        obtain ⟨k, hk, rfl⟩ : ∃ k : Nat, k < 6 ∧ i0 = (k : Int) := ⟨i0.toNat, by omega, by omega⟩
        obtain ⟨p, hp, rfl⟩ : ∃ p : Nat, p < 12 ∧ i = (p : Int) := ⟨i.toNat, by omega, by omega⟩
        simp only [Int.toNat_natCast] at e0
        have hur := hS.2.2 k hk
        have h20 := (hS.2.1 p hp).1
        have hr6 := unS_R (σ := σ) (k := k) (p := p)
        have hrz := rz_z hr6
        have hn1 : 0 < sNv σ p := by simpa using pb.2
        have hrk := (((hS.2.1 p hp).2.2.2.2.2 (sNv σ p - 1) (Nat.sub_le _ _))).2.2
        refine i_aload_n C dX7_undo_49 (kk := ?_)
        refine i_iload_n C dX7_undo_50 (kk := ?_)
        refine i_iload_n C dX7_undo_51 (kk := ?_)
        refine i_aload_n C dX7_undo_52 (kk := ?_)
        refine i_iload_n C dX7_undo_53 (kk := ?_)
        refine i_callV C lk_X7_97 (c_X7_now l hl D (hM := hM) (p := p) (v := sNv σ p) hp (hV.2.2.2.1 p hp).1 h20) (hcl := rfl) (hst := rfl) dX7_undo_54 (hw := hM.obj) (kk := fun v54 w54 g54 => ?_)
        obtain ⟨rfl, q54⟩ := g54
        have q54 := q54.symm
        subst q54
        refine i_iconst C dX7_undo_57 (kk := ?_)
        refine i_isub C dX7_undo_58 (kk := ?_)
        rw [show ((21 * p + sNv σ p : Nat) : Int) - 1 = ((21 * p + (sNv σ p - 1) : Nat) : Int) by omega]
        refine i_callV C lk_X7_128 (c_X7_refusal l hl D (hM := hM) (k := k) (p := p) (rv := sRk σ p (sNv σ p - 1)) hS hV (hV.src hS hp (Nat.sub_le (sNv σ p) 1)) hk hp (by omega) (fun v hv => by rw [show v = 21 * p + (sNv σ p - 1) by omega]; exact ((hV.2.2.2.1 p hp).2.2 _ (Nat.sub_le _ _)).2.1) (by omega)) (hcl := rfl) (hst := rfl) dX7_undo_59 (hw := hM.obj) (kk := fun v59 w59 g59 => ?_)
        obtain ⟨rfl, F2, hM, he8⟩ := g59
        rw [unS_rz (by omega)]
        have hV2 := hV.congr (F' := F2) he8
        refine i_istore C dX7_undo_62 (kk := ?_)
        refine i_aload_n C dX7_undo_64 (kk := ?_)
        refine i_getf C f_X7_22 dX7_undo_65 (hw := hM.obj) (kk := ?_)
        refine i_iload_n C dX7_undo_68 (kk := ?_)
        refine i_dup2 C dX7_undo_69 (kk := ?_)
        refine m_ial C hM 6 (p) (N := 12) dX7_undo_70 (kk := ?_)
        rw [(hV2.2.2.2.1 p hp).1]
        refine i_iload C dX7_undo_71 (kk := ?_)
        refine i_if_ne C dX7_undo_73 (tgt := 80) (kt := fun hB73 => ?_) (kf := fun hB73 => ?_)
        · refine i_iconst C dX7_undo_80 (kk := ?_)
          refine i_isub C dX7_undo_81 (kk := ?_)
          refine m_iasF C hM 6 (p) (N := 12) dX7_undo_82 (kk := fun w82 F82 hM u82 n82 => ?_)
          refine i_iload C dX7_undo_83 (kk := ?_)
          refine i_if_ne C dX7_undo_85 (tgt := 97) (kt := fun hB85 => ?_) (kf := fun hB85 => ?_)
          · refine i_iload C dX7_undo_97 (kk := ?_)
            exact i_iret C (d := dX7_undo_99) (h := by
                first
                | (have hu : unS σ k p = -1 := hrz.1.mp (by omega)
                   rw [e0, if_pos hu]
                   exact ⟨by rw [show (sNv σ p : Int) - 1 = ((sNv σ p - 1 : Nat) : Int) by omega], _, _, _, _, hM, hV2.back (Nat.sub_le _ _) (by rw [u82, show (sNv σ p : Int) - 1 = ((sNv σ p - 1 : Nat) : Int) by omega]) (fun j _ hj => n82 j hj)⟩)
                | (have hu : unS σ k p ≠ -1 := fun z => by have := hrz.1.mpr z; omega
                   rw [e0, if_neg hu]
                   refine ⟨by rw [show rz (unS σ k p) = unS σ k p from if_neg hu], _, _, _, _, hM, hV2.congr (fun j hj => ?_)⟩
                   by_cases z : j = 6
                   · subst z; rw [u82]; exact upz_self (by rw [(hV2.2.2.2.1 p hp).1]; omega)
                   · exact n82 j z))
          · exfalso; omega
        · refine i_iconst C dX7_undo_76 (kk := ?_)
          refine i_goto C dX7_undo_77 (tgt := 81) (kk := ?_)
          refine i_isub C dX7_undo_81 (kk := ?_)
          refine m_iasF C hM 6 (p) (N := 12) dX7_undo_82 (kk := fun w82 F82 hM u82 n82 => ?_)
          refine i_iload C dX7_undo_83 (kk := ?_)
          refine i_if_ne C dX7_undo_85 (tgt := 97) (kt := fun hB85 => ?_) (kf := fun hB85 => ?_)
          · exfalso; omega
          · refine i_aload_n C dX7_undo_88 (kk := ?_)
            refine i_getf C f_X7_22 dX7_undo_89 (hw := hM.obj) (kk := ?_)
            refine i_iload_n C dX7_undo_92 (kk := ?_)
            refine m_ial C hM 6 (p) (N := 12) dX7_undo_93 (kk := ?_)
            rw [u82, upz_eq]
            refine i_goto C dX7_undo_94 (tgt := 99) (kk := ?_)
            exact i_iret C (d := dX7_undo_99) (h := by
                first
                | (have hu : unS σ k p = -1 := hrz.1.mp (by omega)
                   rw [e0, if_pos hu]
                   exact ⟨by rw [show (sNv σ p : Int) - 1 = ((sNv σ p - 1 : Nat) : Int) by omega], _, _, _, _, hM, hV2.back (Nat.sub_le _ _) (by rw [u82, show (sNv σ p : Int) - 1 = ((sNv σ p - 1 : Nat) : Int) by omega]) (fun j _ hj => n82 j hj)⟩)
                | (have hu : unS σ k p ≠ -1 := fun z => by have := hrz.1.mpr z; omega
                   rw [e0, if_neg hu]
                   refine ⟨by rw [show rz (unS σ k p) = unS σ k p from if_neg hu], _, _, _, _, hM, hV2.congr (fun j hj => ?_)⟩
                   by_cases z : j = 6
                   · subst z; rw [u82]; exact upz_self (by rw [(hV2.2.2.2.1 p hp).1]; omega)
                   · exact n82 j z))
      · have hz : gol (bz (isUs i0 ∧ isPg i)) (bz ((isUs i0 ∧ isPg i) ∧ 0 < sNv σ i.toNat)) (bz (True)) ≠ 0 := bz_z.mp hB44
        have e0 : oUndo σ i0 i = (gol (bz (isUs i0 ∧ isPg i)) (bz ((isUs i0 ∧ isPg i) ∧ 0 < sNv σ i.toNat)) (bz (True)), 0, σ) := op3_no hz
        refine i_iconst C dX7_undo_47 (kk := ?_)
        exact i_iret C (d := dX7_undo_48) (h := by rw [e0]; exact ⟨rfl, F, _, _, _, hM, hV⟩)
    refine i_if_eq C dX7_undo_23 (tgt := 39) (ha := by rcases bz_R (isUs i0 ∧ isPg i) with h | h <;> omega) (kt := fun hB23 => ?_) (kf := fun hB23 => ?_)
    · have hz3 := bz_z.mp hB23
      refine i_iconst C dX7_undo_39 (kk := ?_)
      exact jm _ (by first | (rw [bz_t ⟨hz3, by rw [hit]; omega⟩]; done) | (rw [bz_f (fun q => hz3 q.1)]; done) | (rw [bz_f (fun q => by have := q.2; rw [hit] at this; omega)]; done))
    · have hz3 := bz_ne.mp hB23
      obtain ⟨p, hp, hip⟩ : ∃ p : Nat, p < 12 ∧ i = (p : Int) := ⟨i.toNat, by omega, by omega⟩
      have hit : i.toNat = p := by omega
      have h20 := (hS.2.1 p hp).1
      refine i_aload_n C dX7_undo_26 (kk := ?_)
      refine i_getf C f_X7_22 dX7_undo_27 (hw := hM.obj) (kk := ?_)
      refine i_iload_n C dX7_undo_30 (kk := ?_)
      refine m_ial C hM 6 (p) (N := 12) dX7_undo_31 (kk := ?_)
      rw [(hV.2.2.2.1 p hp).1]
      refine i_if_le C dX7_undo_32 (tgt := 39) (kt := fun hB32 => ?_) (kf := fun hB32 => ?_)
      · refine i_iconst C dX7_undo_39 (kk := ?_)
        exact jm _ (by first | (rw [bz_t ⟨hz3, by rw [hit]; omega⟩]; done) | (rw [bz_f (fun q => hz3 q.1)]; done) | (rw [bz_f (fun q => by have := q.2; rw [hit] at this; omega)]; done))
      · refine i_iconst C dX7_undo_35 (kk := ?_)
        refine i_goto C dX7_undo_36 (tgt := 40) (kk := ?_)
        exact jm _ (by first | (rw [bz_t ⟨hz3, by rw [hit]; omega⟩]; done) | (rw [bz_f (fun q => hz3 q.1)]; done) | (rw [bz_f (fun q => by have := q.2; rw [hit] at this; omega)]; done))
  refine i_if_eq C dX7_undo_4 (tgt := 18) (ha := by rcases bz_R (isUs i0) with h | h <;> omega) (kt := fun hB4 => ?_) (kf := fun hB4 => ?_)
  · have hz1 := bz_z.mp hB4
    refine i_iconst C dX7_undo_18 (kk := ?_)
    exact jn _ (by first | (rw [bz_t ⟨hz1, by assumption⟩]; done) | (rw [bz_f (fun q => hz1 q.1)]; done) | (rw [bz_f (fun q => hz2 q.2)]; done))
  · have hz1 := bz_ne.mp hB4
    refine i_iload_n C dX7_undo_7 (kk := ?_)
    refine i_callS C lk_X7_91 (c_X7_isPage l hl D (v := i)) (hst := rfl) dX7_undo_8 (kk := fun v8 w8 g8 => ?_)
    obtain ⟨rfl, q8⟩ := g8
    have q8 := q8.symm
    subst q8
    refine i_if_eq C dX7_undo_11 (tgt := 18) (ha := by rcases bz_R (isPg i) with h | h <;> omega) (kt := fun hB11 => ?_) (kf := fun hB11 => ?_)
    · have hz2 := bz_z.mp hB11
      refine i_iconst C dX7_undo_18 (kk := ?_)
      exact jn _ (by first | (rw [bz_t ⟨hz1, by assumption⟩]; done) | (rw [bz_f (fun q => hz1 q.1)]; done) | (rw [bz_f (fun q => hz2 q.2)]; done))
    · have hz2 := bz_ne.mp hB11
      refine i_iconst C dX7_undo_14 (kk := ?_)
      refine i_goto C dX7_undo_15 (tgt := 19) (kk := ?_)
      exact jn _ (by first | (rw [bz_t ⟨hz1, by assumption⟩]; done) | (rw [bz_f (fun q => hz1 q.1)]; done) | (rw [bz_f (fun q => hz2 q.2)]; done))

set_option maxRecDepth 100000 in
set_option maxHeartbeats 4000000 in
theorem c_X7_edit (l : Launch) (hl : l.stackTraces = false) (D : gD) {w0 w : wW} {τ ad : Nat → Nat} {σ : Sg} {la : Int} {i0 i : Int} (hI : MdI D w0 w τ ad σ la := by assumption) (hi0 : inR i0 := by omega) (hi : inR i := by omega) : CTm l D yX7_edit cX7_edit 6 (some .int) (rmL 5 0 0) [.ref (ad 5000), .int (Z32 i0), .int (Z32 i)] w (fun u w1 => u = some (.int (Z32 (oEdit σ i0 i).2.1)) ∧ MdJ D w0 w1 τ ad (oEdit σ i0 i).2.2 (oEdit σ i0 i).1) := by
  refine CTm_of hl false rfl (by rfl) (Nat.le_of_ble_eq_true rfl) (fun h => nomatch h) ?_
  intro G C
  show G 0 0 w [some (.ref (ad 5000)), some (.int (Z32 i0)), some (.int (Z32 i)), none, none, none] 0 []
  obtain ⟨hS, F, dn, op, sh, hM, hV⟩ := hI
  have hop9 := hV.2.1
  have hdn9 := hV.1
  have h309 := hS.1.2.2
  have how1 := owc_le (sDr σ)
  have how2 := hS.1.2.1.all
  refine i_iload_n C dX7_edit_0 (kk := ?_)
  refine i_callS C lk_X7_125 (c_X7_isUser l hl D (v := i0)) (hst := rfl) dX7_edit_1 (kk := fun v1 w1 g1 => ?_)
  obtain ⟨rfl, q1⟩ := g1
  have q1 := q1.symm
  subst q1
  have jn : ∀ x : Int, x = bz (isUs i0 ∧ isPg i) → G 0 0 w [some (.ref (ad 5000)), some (.int (Z32 i0)), some (.int (Z32 i)), none, none, none] 19 [.int (Z32 x)] := by
    intro x hx
    subst hx
    refine i_istore_n C dX7_edit_19 (kk := ?_)
    refine i_aload_n C dX7_edit_20 (kk := ?_)
    refine i_iload_n C dX7_edit_21 (kk := ?_)
    refine i_iload_n C dX7_edit_22 (kk := ?_)
    have jm : ∀ x : Int, x = bz ((isUs i0 ∧ isPg i) ∧ owc (sDr σ) = 0 ∧ sNv σ i.toNat < 20) → G 0 0 w [some (.ref (ad 5000)), some (.int (Z32 i0)), some (.int (Z32 i)), some (.int (Z32 (bz (isUs i0 ∧ isPg i)))), none, none] 49 [.int (Z32 x), .int (Z32 (bz (isUs i0 ∧ isPg i))), .ref (ad 5000)] := by
      intro x hx
      subst hx
      refine i_iconst C dX7_edit_49 (kk := ?_)
      refine i_callV C lk_X7_83 (c_X7_goes l hl D (hM := hM) (a := bz (isUs i0 ∧ isPg i)) (b := bz ((isUs i0 ∧ isPg i) ∧ owc (sDr σ) = 0 ∧ sNv σ i.toNat < 20)) (c := 1) (by rcases bz_R (isUs i0 ∧ isPg i) with h | h <;> omega) (by rcases bz_R ((isUs i0 ∧ isPg i) ∧ owc (sDr σ) = 0 ∧ sNv σ i.toNat < 20) with h | h <;> omega) (by decide)) (hcl := rfl) (hst := rfl) dX7_edit_50 (hw := hM.obj) (kk := fun v50 w50 g50 => ?_)
      obtain ⟨rfl, hM⟩ := g50
      replace hM : MdR D w0 w50 τ ad F _ op sh (gol (bz (isUs i0 ∧ isPg i)) (bz ((isUs i0 ∧ isPg i) ∧ owc (sDr σ) = 0 ∧ sNv σ i.toNat < 20)) (bz (True))) := hM
      show G _ _ _ _ _ (.int (Z32 (bz (gol (bz (isUs i0 ∧ isPg i)) (bz ((isUs i0 ∧ isPg i) ∧ owc (sDr σ) = 0 ∧ sNv σ i.toNat < 20)) (bz (True)) = 0))) :: _)
      refine i_if_ne C dX7_edit_53 (tgt := 58) (ha := by rcases bz_R (gol (bz (isUs i0 ∧ isPg i)) (bz ((isUs i0 ∧ isPg i) ∧ owc (sDr σ) = 0 ∧ sNv σ i.toNat < 20)) (bz (True)) = 0) with h | h <;> omega) (kt := fun hB53 => ?_) (kf := fun hB53 => ?_)
      · have hz : gol (bz (isUs i0 ∧ isPg i)) (bz ((isUs i0 ∧ isPg i) ∧ owc (sDr σ) = 0 ∧ sNv σ i.toNat < 20)) (bz (True)) = 0 := bz_ne.mp hB53
        obtain ⟨e0, pa, pb, pc3⟩ := op3_yes (σ := σ) (X := (if edS σ i0.toNat i.toNat = -1 then (0, ((sNv σ i.toNat + 1 : Nat) : Int), uEd σ i0.toNat i.toNat) else (0, edS σ i0.toNat i.toNat, uDr σ []))) hz
        have e0 : oEdit σ i0 i = (if edS σ i0.toNat i.toNat = -1 then (0, ((sNv σ i.toNat + 1 : Nat) : Int), uEd σ i0.toNat i.toNat) else (0, edS σ i0.toNat i.toNat, uDr σ [])) := e0
        rw [hz] at hM
        obtain ⟨k, hk, rfl⟩ : ∃ k : Nat, k < 6 ∧ i0 = (k : Int) := ⟨i0.toNat, by omega, by omega⟩
        obtain ⟨p, hp, rfl⟩ : ∃ p : Nat, p < 12 ∧ i = (p : Int) := ⟨i.toNat, by omega, by omega⟩
        simp only [Int.toNat_natCast] at e0
        have hur := hS.2.2 k hk
        have h20 := (hS.2.1 p hp).1
        have hr6 := edS_R (σ := σ) (k := k) (p := p)
        have hrz := rz_z hr6
        have hn1 : sNv σ p < 20 := by simpa using pb.2.2
        have hpo := pb.2.1
        refine i_aload_n C dX7_edit_58 (kk := ?_)
        refine i_iload_n C dX7_edit_59 (kk := ?_)
        refine i_iload_n C dX7_edit_60 (kk := ?_)
        refine i_iconst C dX7_edit_61 (kk := ?_)
        refine i_callV C lk_X7_128 (c_X7_refusal l hl D (hM := hM) (k := k) (p := p) (ver := -1) (rv := 0) hS hV (hV.srcD hS) hk hp (by omega) (fun v hv => by omega) (by omega)) (hcl := rfl) (hst := rfl) dX7_edit_62 (hw := hM.obj) (kk := fun v62 w62 g62 => ?_)
        obtain ⟨rfl, F2, hM, he8⟩ := g62
        rw [edS_rz]
        have hV2 := hV.congr (F' := F2) he8
        refine i_istore C dX7_edit_65 (kk := ?_)
        refine i_iload C dX7_edit_67 (kk := ?_)
        refine i_if_ne C dX7_edit_69 (tgt := 153) (kt := fun hB69 => ?_) (kf := fun hB69 => ?_)
        · refine i_aload_n C dX7_edit_153 (kk := ?_)
          refine i_iconst C dX7_edit_154 (kk := ?_)
          refine m_put1 C hM dX7_edit_155 (kk := fun w155 hM => ?_)
          refine i_iload C dX7_edit_158 (kk := ?_)
          refine i_if_ne C dX7_edit_160 (tgt := 172) (kt := fun hB160 => ?_) (kf := fun hB160 => ?_)
          · refine i_iload C dX7_edit_172 (kk := ?_)
            exact i_iret C (d := dX7_edit_174) (h := by
                first
                | (have hu : edS σ k p = -1 := hrz.1.mp (by omega)
                   rw [e0, if_pos hu]
                   exact ⟨rfl, _, _, _, _, hM, hV2.edit hS hp hk hn1 hpo (by rw [n152 6 (by decide), n136 6 (by decide), er 6 (by decide), u81]) (by rw [n152 4 (by decide), u136, er 4 (by decide), n81 4 (by decide), hdn9]) (by rw [u152, n136 5 (by decide), er 5 (by decide), n81 5 (by decide)]) (fun z => by rw [n152 3 (by decide), n136 3 (by decide), e3, he8 0 (by decide), he8 3 (by decide)]) (by rw [n152 7 (by decide), n136 7 (by decide), er 7 (by decide), n81 7 (by decide)]) (by rw [n152 8 (by decide), n136 8 (by decide), er 8 (by decide), n81 8 (by decide)])⟩)
                | (have hu : edS σ k p ≠ -1 := fun z => by have := hrz.1.mpr z; omega
                   rw [e0, if_neg hu]
                   exact ⟨by rw [show rz (edS σ k p) = edS σ k p from if_neg hu], _, _, _, _, hM, hV2.clear hpo⟩))
          · exfalso; omega
        · refine i_aload_n C dX7_edit_72 (kk := ?_)
          refine i_getf C f_X7_22 dX7_edit_73 (hw := hM.obj) (kk := ?_)
          refine i_iload_n C dX7_edit_76 (kk := ?_)
          refine i_dup2 C dX7_edit_77 (kk := ?_)
          refine m_ial C hM 6 (p) (N := 12) dX7_edit_78 (kk := ?_)
          rw [(hV2.2.2.2.1 p hp).1]
          refine i_iconst C dX7_edit_79 (kk := ?_)
          refine i_iadd C dX7_edit_80 (kk := ?_)
          refine m_iasF C hM 6 (p) (N := 12) dX7_edit_81 (kk := fun w81 F81 hM u81 n81 => ?_)
          refine i_iconst C dX7_edit_82 (kk := ?_)
          refine i_istore C dX7_edit_83 (kk := ?_)
          have lp : ∀ (m j : Nat) (w1 : wW) (F1 : Nat → Nat → Int), (sDr σ).length + 1 ≤ m + j → j ≤ (sDr σ).length → MdR D w0 w1 τ ad F1 dn op sh 0 → (∀ z, z ≠ 3 → F1 z = F81 z) → (∀ z, F1 3 z = if 30 * (21 * p + (sNv σ p + 1)) ≤ z ∧ z < 30 * (21 * p + (sNv σ p + 1)) + j then F 0 (z - 30 * (21 * p + (sNv σ p + 1))) else F 3 z) → G 0 0 w1 [some (.ref (ad 5000)), some (.int (Z32 (k : Int))), some (.int (Z32 (p : Int))), some (.int (Z32 (bz (isUs (k : Int) ∧ isPg (p : Int))))), some (.int (Z32 (rz (edS σ k p)))), some (.int (Z32 (j : Int)))] 85 [] := by
            intro m
            induction m with
            | zero => intro j w1 F1 h1 h2; omega
            | succ m ih =>
            intro j w1 F1 h1 h2 hM er e3
            refine i_iload C dX7_edit_85 (kk := ?_)
            refine i_aload_n C dX7_edit_87 (kk := ?_)
            refine i_getf C f_X7_72 dX7_edit_88 (hw := hM.obj) (kk := ?_)
            refine i_icmp_ge C dX7_edit_91 (tgt := 123) (kt := fun hB91 => ?_) (kf := fun hB91 => ?_)
            · have hj9 : j = (sDr σ).length := by omega
              subst hj9
              refine i_aload_n C dX7_edit_123 (kk := ?_)
              refine i_getf C f_X7_16 dX7_edit_124 (hw := hM.obj) (kk := ?_)
              refine i_aload_n C dX7_edit_127 (kk := ?_)
              refine i_iload_n C dX7_edit_128 (kk := ?_)
              refine i_callV C lk_X7_97 (c_X7_now l hl D (hM := hM) (p := p) (v := sNv σ p + 1) hp (by rw [er 6 (by decide), u81, upz_eq]; rfl) (by omega)) (hcl := rfl) (hst := rfl) dX7_edit_129 (hw := hM.obj) (kk := fun v129 w129 g129 => ?_)
              obtain ⟨rfl, q129⟩ := g129
              have q129 := q129.symm
              subst q129
              refine i_aload_n C dX7_edit_132 (kk := ?_)
              refine i_getf C f_X7_72 dX7_edit_133 (hw := hM.obj) (kk := ?_)
              refine m_iasF C hM 4 (21 * p + (sNv σ p + 1)) (N := 252) dX7_edit_136 (kk := fun w136 F136 hM u136 n136 => ?_)
              refine i_aload_n C dX7_edit_137 (kk := ?_)
              refine i_getf C f_X7_19 dX7_edit_138 (hw := hM.obj) (kk := ?_)
              refine i_aload_n C dX7_edit_141 (kk := ?_)
              refine i_iload_n C dX7_edit_142 (kk := ?_)
              refine i_callV C lk_X7_97 (c_X7_now l hl D (hM := hM) (p := p) (v := sNv σ p + 1) hp (by rw [n136 6 (by decide), er 6 (by decide), u81, upz_eq]; rfl) (by omega)) (hcl := rfl) (hst := rfl) dX7_edit_143 (hw := hM.obj) (kk := fun v143 w143 g143 => ?_)
              obtain ⟨rfl, q143⟩ := g143
              have q143 := q143.symm
              subst q143
              refine i_aload_n C dX7_edit_146 (kk := ?_)
              refine i_getf C f_X7_28 dX7_edit_147 (hw := hM.obj) (kk := ?_)
              refine i_iload_n C dX7_edit_150 (kk := ?_)
              refine m_ial C hM 8 (k) (N := 6) dX7_edit_151 (kk := ?_)
              rw [n136 8 (by decide), er 8 (by decide), n81 8 (by decide), hV2.2.2.2.2 k hk]
              refine m_iasF C hM 5 (21 * p + (sNv σ p + 1)) (N := 252) dX7_edit_152 (kk := fun w152 F152 hM u152 n152 => ?_)
              refine i_aload_n C dX7_edit_153 (kk := ?_)
              refine i_iconst C dX7_edit_154 (kk := ?_)
              refine m_put1 C hM dX7_edit_155 (kk := fun w155 hM => ?_)
              refine i_iload C dX7_edit_158 (kk := ?_)
              refine i_if_ne C dX7_edit_160 (tgt := 172) (kt := fun hB160 => ?_) (kf := fun hB160 => ?_)
              · exfalso; omega
              · refine i_aload_n C dX7_edit_163 (kk := ?_)
                refine i_getf C f_X7_22 dX7_edit_164 (hw := hM.obj) (kk := ?_)
                refine i_iload_n C dX7_edit_167 (kk := ?_)
                refine m_ial C hM 6 (p) (N := 12) dX7_edit_168 (kk := ?_)
                rw [n152 6 (by decide), n136 6 (by decide), er 6 (by decide), u81, upz_eq]
                refine i_goto C dX7_edit_169 (tgt := 174) (kk := ?_)
                exact i_iret C (d := dX7_edit_174) (h := by
                    first
                    | (have hu : edS σ k p = -1 := hrz.1.mp (by omega)
                       rw [e0, if_pos hu]
                       exact ⟨rfl, _, _, _, _, hM, hV2.edit hS hp hk hn1 hpo (by rw [n152 6 (by decide), n136 6 (by decide), er 6 (by decide), u81]) (by rw [n152 4 (by decide), u136, er 4 (by decide), n81 4 (by decide), hdn9]) (by rw [u152, n136 5 (by decide), er 5 (by decide), n81 5 (by decide)]) (fun z => by rw [n152 3 (by decide), n136 3 (by decide), e3, he8 0 (by decide), he8 3 (by decide)]) (by rw [n152 7 (by decide), n136 7 (by decide), er 7 (by decide), n81 7 (by decide)]) (by rw [n152 8 (by decide), n136 8 (by decide), er 8 (by decide), n81 8 (by decide)])⟩)
                    | (have hu : edS σ k p ≠ -1 := fun z => by have := hrz.1.mpr z; omega
                       rw [e0, if_neg hu]
                       exact ⟨by rw [show rz (edS σ k p) = edS σ k p from if_neg hu], _, _, _, _, hM, hV2.clear hpo⟩))
            · refine i_aload_n C dX7_edit_94 (kk := ?_)
              refine i_getf C f_X7_13 dX7_edit_95 (hw := hM.obj) (kk := ?_)
              refine i_bipush C dX7_edit_98 (kk := ?_)
              refine i_aload_n C dX7_edit_100 (kk := ?_)
              refine i_iload_n C dX7_edit_101 (kk := ?_)
              refine i_callV C lk_X7_97 (c_X7_now l hl D (hM := hM) (p := p) (v := sNv σ p + 1) hp (by rw [er 6 (by decide), u81, upz_eq]; rfl) (by omega)) (hcl := rfl) (hst := rfl) dX7_edit_102 (hw := hM.obj) (kk := fun v102 w102 g102 => ?_)
              obtain ⟨rfl, q102⟩ := g102
              have q102 := q102.symm
              subst q102
              refine i_imul C dX7_edit_105 (kk := ?_)
              refine i_iload C dX7_edit_106 (kk := ?_)
              refine i_iadd C dX7_edit_108 (kk := ?_)
              refine i_aload_n C dX7_edit_109 (kk := ?_)
              refine i_getf C f_X7_7 dX7_edit_110 (hw := hM.obj) (kk := ?_)
              refine i_iload C dX7_edit_113 (kk := ?_)
              refine m_ial C hM 0 (j) (N := 30) dX7_edit_115 (kk := ?_)
              rw [er 0 (by decide), n81 0 (by decide), he8 0 (by decide)]
              refine m_iasF C hM 3 (30 * (21 * p + (sNv σ p + 1)) + j) (N := 7560) dX7_edit_116 (kk := fun w116 F116 hM u116 n116 => ?_)
              refine i_iinc C dX7_edit_117 (kk := ?_)
              refine i_goto C dX7_edit_120 (tgt := 85) (kk := ?_)
              exact ih (j + 1) _ _ (by omega) (by omega) hM (fun z hz => by rw [n116 z hz]; exact er z hz) (fun z => by rw [u116]; by_cases y : z = 30 * (21 * p + (sNv σ p + 1)) + j; (subst y; rw [upz_eq, if_pos ⟨by omega, by omega⟩, show 30 * (21 * p + (sNv σ p + 1)) + j - 30 * (21 * p + (sNv σ p + 1)) = j by omega]); (rw [upz_ne y, e3]; by_cases y2 : 30 * (21 * p + (sNv σ p + 1)) ≤ z ∧ z < 30 * (21 * p + (sNv σ p + 1)) + j; (rw [if_pos y2, if_pos ⟨y2.1, by omega⟩]); (rw [if_neg y2, if_neg (by omega)])))
          exact lp ((sDr σ).length + 1) 0 _ _ (by omega) (by omega) hM (fun z hz => rfl) (fun z => by rw [if_neg (by omega), n81 3 (by decide), he8 3 (by decide)])
      · have hz : gol (bz (isUs i0 ∧ isPg i)) (bz ((isUs i0 ∧ isPg i) ∧ owc (sDr σ) = 0 ∧ sNv σ i.toNat < 20)) (bz (True)) ≠ 0 := bz_z.mp hB53
        have e0 : oEdit σ i0 i = (gol (bz (isUs i0 ∧ isPg i)) (bz ((isUs i0 ∧ isPg i) ∧ owc (sDr σ) = 0 ∧ sNv σ i.toNat < 20)) (bz (True)), 0, σ) := op3_no hz
        refine i_iconst C dX7_edit_56 (kk := ?_)
        exact i_iret C (d := dX7_edit_57) (h := by rw [e0]; exact ⟨rfl, F, _, _, _, hM, hV⟩)
    refine i_if_eq C dX7_edit_23 (tgt := 48) (ha := by rcases bz_R (isUs i0 ∧ isPg i) with h | h <;> omega) (kt := fun hB23 => ?_) (kf := fun hB23 => ?_)
    · have hz3 := bz_z.mp hB23
      refine i_iconst C dX7_edit_48 (kk := ?_)
      exact jm _ (by first | (rw [bz_t ⟨hz3, by omega, by rw [hit]; omega⟩]; done) | (rw [bz_f (fun q => hz3 q.1)]; done) | (rw [bz_f (fun q => by have := q.2.1; omega)]; done) | (rw [bz_f (fun q => by have := q.2.2; rw [hit] at this; omega)]; done))
    · have hz3 := bz_ne.mp hB23
      obtain ⟨p, hp, hip⟩ : ∃ p : Nat, p < 12 ∧ i = (p : Int) := ⟨i.toNat, by omega, by omega⟩
      have hit : i.toNat = p := by omega
      have h20 := (hS.2.1 p hp).1
      refine i_aload_n C dX7_edit_26 (kk := ?_)
      refine i_getf C f_X7_94 dX7_edit_27 (hw := hM.obj) (kk := ?_)
      refine i_if_ne C dX7_edit_30 (tgt := 48) (kt := fun hB30 => ?_) (kf := fun hB30 => ?_)
      · refine i_iconst C dX7_edit_48 (kk := ?_)
        exact jm _ (by first | (rw [bz_t ⟨hz3, by omega, by rw [hit]; omega⟩]; done) | (rw [bz_f (fun q => hz3 q.1)]; done) | (rw [bz_f (fun q => by have := q.2.1; omega)]; done) | (rw [bz_f (fun q => by have := q.2.2; rw [hit] at this; omega)]; done))
      · refine i_aload_n C dX7_edit_33 (kk := ?_)
        refine i_getf C f_X7_22 dX7_edit_34 (hw := hM.obj) (kk := ?_)
        refine i_iload_n C dX7_edit_37 (kk := ?_)
        refine m_ial C hM 6 (p) (N := 12) dX7_edit_38 (kk := ?_)
        rw [(hV.2.2.2.1 p hp).1]
        refine i_bipush C dX7_edit_39 (kk := ?_)
        refine i_icmp_ge C dX7_edit_41 (tgt := 48) (kt := fun hB41 => ?_) (kf := fun hB41 => ?_)
        · refine i_iconst C dX7_edit_48 (kk := ?_)
          exact jm _ (by first | (rw [bz_t ⟨hz3, by omega, by rw [hit]; omega⟩]; done) | (rw [bz_f (fun q => hz3 q.1)]; done) | (rw [bz_f (fun q => by have := q.2.1; omega)]; done) | (rw [bz_f (fun q => by have := q.2.2; rw [hit] at this; omega)]; done))
        · refine i_iconst C dX7_edit_44 (kk := ?_)
          refine i_goto C dX7_edit_45 (tgt := 49) (kk := ?_)
          exact jm _ (by first | (rw [bz_t ⟨hz3, by omega, by rw [hit]; omega⟩]; done) | (rw [bz_f (fun q => hz3 q.1)]; done) | (rw [bz_f (fun q => by have := q.2.1; omega)]; done) | (rw [bz_f (fun q => by have := q.2.2; rw [hit] at this; omega)]; done))
  refine i_if_eq C dX7_edit_4 (tgt := 18) (ha := by rcases bz_R (isUs i0) with h | h <;> omega) (kt := fun hB4 => ?_) (kf := fun hB4 => ?_)
  · have hz1 := bz_z.mp hB4
    refine i_iconst C dX7_edit_18 (kk := ?_)
    exact jn _ (by first | (rw [bz_t ⟨hz1, by assumption⟩]; done) | (rw [bz_f (fun q => hz1 q.1)]; done) | (rw [bz_f (fun q => hz2 q.2)]; done))
  · have hz1 := bz_ne.mp hB4
    refine i_iload_n C dX7_edit_7 (kk := ?_)
    refine i_callS C lk_X7_91 (c_X7_isPage l hl D (v := i)) (hst := rfl) dX7_edit_8 (kk := fun v8 w8 g8 => ?_)
    obtain ⟨rfl, q8⟩ := g8
    have q8 := q8.symm
    subst q8
    refine i_if_eq C dX7_edit_11 (tgt := 18) (ha := by rcases bz_R (isPg i) with h | h <;> omega) (kt := fun hB11 => ?_) (kf := fun hB11 => ?_)
    · have hz2 := bz_z.mp hB11
      refine i_iconst C dX7_edit_18 (kk := ?_)
      exact jn _ (by first | (rw [bz_t ⟨hz1, by assumption⟩]; done) | (rw [bz_f (fun q => hz1 q.1)]; done) | (rw [bz_f (fun q => hz2 q.2)]; done))
    · have hz2 := bz_ne.mp hB11
      refine i_iconst C dX7_edit_14 (kk := ?_)
      refine i_goto C dX7_edit_15 (tgt := 19) (kk := ?_)
      exact jn _ (by first | (rw [bz_t ⟨hz1, by assumption⟩]; done) | (rw [bz_f (fun q => hz1 q.1)]; done) | (rw [bz_f (fun q => hz2 q.2)]; done))
