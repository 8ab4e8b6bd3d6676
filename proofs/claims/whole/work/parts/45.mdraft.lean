def gol (a b c : Int) : Int := if a = 0 then 1 else if b = 0 then 2 else if c = 0 then 3 else 0
abbrev Rs : Type := Int × Int × Sg
def op3 (a b c : Prop) [Decidable a] [Decidable b] [Decidable c] (σ : Sg) (X : Rs) : Rs := if ¬ a then (1, 0, σ) else if ¬ b then (2, 0, σ) else if ¬ c then (3, 0, σ) else X
theorem op3_no {a b c : Prop} [Decidable a] [Decidable b] [Decidable c] {σ : Sg} {X : Rs} (h : gol (bz a) (bz b) (bz c) ≠ 0) : op3 a b c σ X = (gol (bz a) (bz b) (bz c), 0, σ) := by
  unfold gol at h ⊢
  unfold op3
  by_cases ha : a
  · by_cases hb : b
    · by_cases hc : c
      · rw [bz_t ha, bz_t hb, bz_t hc] at h; exact absurd rfl h
      · simp [ha, hb, hc, bz]
    · simp [ha, hb, bz]
  · simp [ha, bz]
theorem op3_yes {a b c : Prop} [Decidable a] [Decidable b] [Decidable c] {σ : Sg} {X : Rs} (h : gol (bz a) (bz b) (bz c) = 0) : op3 a b c σ X = X ∧ a ∧ b ∧ c := by
  unfold gol at h
  unfold op3
  by_cases ha : a
  · by_cases hb : b
    · by_cases hc : c
      · simp [ha, hb, hc]
      · simp [ha, hb, hc, bz] at h
    · simp [ha, hb, bz] at h
  · simp [ha, bz] at h
def opDr (σ : Sg) (pc : Pc3) : Rs := (0, ((sDr σ).length : Int) + 1, uDr σ (sDr σ ++ [pc]))
abbrev room (σ : Sg) : Prop := (sDr σ).length < 30
abbrev isLt (j : Int) : Prop := 0 ≤ j ∧ j ≤ 25
abbrev isPg (i : Int) : Prop := 0 ≤ i ∧ i ≤ 11
abbrev isUs (i : Int) : Prop := 0 ≤ i ∧ i ≤ 5
abbrev isAn (i : Int) : Prop := 0 ≤ i ∧ i ≤ 9
def oLetter (σ : Sg) (j : Int) : Rs := op3 (isLt j) (room σ) True σ (opDr σ (0, -1, j))
def oArgument (σ : Sg) : Rs := op3 (room σ) True True σ (opDr σ (3, -1, -1))
def oCall (σ : Sg) (i j : Int) : Rs := op3 (isPg i) (j = -1 ∨ isLt j) (room σ) σ (opDr σ (4, i, j))
def oCallOn (σ : Sg) (i : Int) : Rs := op3 (isPg i) (room σ) True σ (opDr σ (5, i, -1))
def oWhen (σ : Sg) (j : Int) : Rs := op3 (isLt j) (room σ) True σ (opDr σ (6, -1, j))
def oEnd (σ : Sg) : Rs := op3 (room σ ∧ 0 < owc (sDr σ)) True True σ (opDr σ (7, -1, -1))
def oAnchor (σ : Sg) (j : Int) : Rs := op3 (isAn j) (room σ) True σ (opDr σ (1, -1, j))
def oLink (σ : Sg) (i j : Int) : Rs := op3 (isPg i) (isAn j) (room σ) σ (opDr σ (2, i, j))
def oRedirect (σ : Sg) (i : Int) : Rs := op3 (isPg i) (room σ) True σ (opDr σ (8, i, -1))
theorem MdI.push {D : gD} {w0 w1 : wW} {τ ad : Nat → Nat} {σ : Sg} {F : Nat → Nat → Int} {dn op sh la op' : Int} {pc : Pc3} {x : Int} (hS : SgOK σ) (hV : MdV σ F dn op) (hr : room σ) (hp : PV pc) (ho : 0 ≤ owc (sDr σ) + dow pc.1) (hM : MdR D w0 w1 τ ad (upz F 0 (upz (F 0) (sDr σ).length x)) (((sDr σ).length + 1 : Nat) : Int) op' sh la) (hx : x = enc pc) (hop : op' = op + dow pc.1) : MdI D w0 w1 τ ad (uDr σ (sDr σ ++ [pc])) la := by
  have hr2 : (sDr σ).length < 30 := hr
  obtain ⟨v1, v2, v3, v4, v5⟩ := hV
  refine ⟨⟨txOK_push hS.1 hp hr2 ho, hS.2⟩, _, _, _, _, hM, ?_, ?_, fun i hi => ?_, v4, v5⟩
  · show _ = (((sDr σ ++ [pc]).length : Nat) : Int)
    rw [List.length_append]; rfl
  · show _ = owc (sDr σ ++ [pc])
    rw [owc_app, hop, v2]
    show _ = _ + (dow pc.1 + 0)
    omega
  · have hi2 : i < (sDr σ ++ [pc]).length := hi
    show upz (F 0) (sDr σ).length x i = enc (pcs (sDr σ ++ [pc]) i)
    by_cases z : i = (sDr σ).length
    · subst z; rw [upz_eq, pcs_app_at, hx]
    · rw [List.length_append] at hi2
      have hi3 : i < (sDr σ).length := by simp at hi2; omega
      rw [upz_ne z, pcs_app_lo hi3]
      exact v3 i hi3
theorem MdI.said {D : gD} {w0 w : wW} {τ ad : Nat → Nat} {σ : Sg} {F : Nat → Nat → Int} {dn op sh la : Int} (hS : SgOK σ) (hM : MdR D w0 w τ ad F dn op sh la) (hV : MdV σ F dn op) : MdI D w0 w τ ad σ la := ⟨hS, F, dn, op, sh, hM, hV⟩
set_option maxRecDepth 100000 in
set_option maxHeartbeats 4000000 in
theorem c_X7_in (l : Launch) (hl : l.stackTraces = false) (D : gD) {w : wW} {v a b : Int} (hv : inR v := by omega) (ha : inR a := by omega) (hb : inR b := by omega) : CTm l D yX7_in cX7_in 3 (some .boolean) (rmL 1 0 0) [.int (Z32 v), .int (Z32 a), .int (Z32 b)] w (fun u w1 => u = some (.int (Z32 (bz (a ≤ v ∧ v ≤ b)))) ∧ w1 = w) := by
  refine CTm_of hl false rfl (by rfl) (Nat.le_of_ble_eq_true rfl) (fun h => nomatch h) ?_
  intro G C
  show G 0 0 w [some (.int (Z32 v)), some (.int (Z32 a)), some (.int (Z32 b))] 0 []
  refine i_iload_n C dX7_in_0 (kk := ?_)
  refine i_iload_n C dX7_in_1 (kk := ?_)
  refine i_icmp_lt C dX7_in_2 (tgt := 14) (kt := fun hB2 => ?_) (kf := fun hB2 => ?_)
  · refine i_iconst C dX7_in_14 (kk := ?_)
    exact i_zret C (d := dX7_in_15) (ha := by first | exact Or.inl rfl | exact Or.inr rfl) (h := by first | exact ⟨by rw [bz_t (by omega)], rfl⟩ | exact ⟨by rw [bz_f (by omega)], rfl⟩)
  · refine i_iload_n C dX7_in_5 (kk := ?_)
    refine i_iload_n C dX7_in_6 (kk := ?_)
    refine i_icmp_gt C dX7_in_7 (tgt := 14) (kt := fun hB7 => ?_) (kf := fun hB7 => ?_)
    · refine i_iconst C dX7_in_14 (kk := ?_)
      exact i_zret C (d := dX7_in_15) (ha := by first | exact Or.inl rfl | exact Or.inr rfl) (h := by first | exact ⟨by rw [bz_t (by omega)], rfl⟩ | exact ⟨by rw [bz_f (by omega)], rfl⟩)
    · refine i_iconst C dX7_in_10 (kk := ?_)
      refine i_goto C dX7_in_11 (tgt := 15) (kk := ?_)
      exact i_zret C (d := dX7_in_15) (ha := by first | exact Or.inl rfl | exact Or.inr rfl) (h := by first | exact ⟨by rw [bz_t (by omega)], rfl⟩ | exact ⟨by rw [bz_f (by omega)], rfl⟩)

set_option maxRecDepth 100000 in
set_option maxHeartbeats 4000000 in
theorem c_X7_isPage (l : Launch) (hl : l.stackTraces = false) (D : gD) {w : wW} {v : Int} (hv : inR v := by omega) : CTm l D yX7_isPage cX7_isPage 1 (some .boolean) (rmL 2 0 0) [.int (Z32 v)] w (fun u w1 => u = some (.int (Z32 (bz (isPg v)))) ∧ w1 = w) := by
  refine CTm_of hl false rfl (by rfl) (Nat.le_of_ble_eq_true rfl) (fun h => nomatch h) ?_
  intro G C
  show G 0 0 w [some (.int (Z32 v))] 0 []
  refine i_iload_n C dX7_isPage_0 (kk := ?_)
  refine i_iconst C dX7_isPage_1 (kk := ?_)
  refine i_bipush C dX7_isPage_2 (kk := ?_)
  refine i_callS C lk_X7_68 (c_X7_in l hl D (v := v) (a := 0) (b := 11)) (hst := rfl) dX7_isPage_4 (kk := fun v4 w4 g4 => ?_)
  obtain ⟨rfl, q4⟩ := g4
  have q4 := q4.symm
  subst q4
  exact i_zret C (d := dX7_isPage_7) (ha := bz_R _) (h := ⟨rfl, rfl⟩)

set_option maxRecDepth 100000 in
set_option maxHeartbeats 4000000 in
theorem c_X7_isUser (l : Launch) (hl : l.stackTraces = false) (D : gD) {w : wW} {v : Int} (hv : inR v := by omega) : CTm l D yX7_isUser cX7_isUser 1 (some .boolean) (rmL 2 0 0) [.int (Z32 v)] w (fun u w1 => u = some (.int (Z32 (bz (isUs v)))) ∧ w1 = w) := by
  refine CTm_of hl false rfl (by rfl) (Nat.le_of_ble_eq_true rfl) (fun h => nomatch h) ?_
  intro G C
  show G 0 0 w [some (.int (Z32 v))] 0 []
  refine i_iload_n C dX7_isUser_0 (kk := ?_)
  refine i_iconst C dX7_isUser_1 (kk := ?_)
  refine i_iconst C dX7_isUser_2 (kk := ?_)
  refine i_callS C lk_X7_68 (c_X7_in l hl D (v := v) (a := 0) (b := 5)) (hst := rfl) dX7_isUser_3 (kk := fun v3 w3 g3 => ?_)
  obtain ⟨rfl, q3⟩ := g3
  have q3 := q3.symm
  subst q3
  exact i_zret C (d := dX7_isUser_6) (ha := bz_R _) (h := ⟨rfl, rfl⟩)

set_option maxRecDepth 100000 in
set_option maxHeartbeats 4000000 in
theorem c_X7_isLetter (l : Launch) (hl : l.stackTraces = false) (D : gD) {w : wW} {v : Int} (hv : inR v := by omega) : CTm l D yX7_isLetter cX7_isLetter 1 (some .boolean) (rmL 2 0 0) [.int (Z32 v)] w (fun u w1 => u = some (.int (Z32 (bz (isLt v)))) ∧ w1 = w) := by
  refine CTm_of hl false rfl (by rfl) (Nat.le_of_ble_eq_true rfl) (fun h => nomatch h) ?_
  intro G C
  show G 0 0 w [some (.int (Z32 v))] 0 []
  refine i_iload_n C dX7_isLetter_0 (kk := ?_)
  refine i_iconst C dX7_isLetter_1 (kk := ?_)
  refine i_bipush C dX7_isLetter_2 (kk := ?_)
  refine i_callS C lk_X7_68 (c_X7_in l hl D (v := v) (a := 0) (b := 25)) (hst := rfl) dX7_isLetter_4 (kk := fun v4 w4 g4 => ?_)
  obtain ⟨rfl, q4⟩ := g4
  have q4 := q4.symm
  subst q4
  exact i_zret C (d := dX7_isLetter_7) (ha := bz_R _) (h := ⟨rfl, rfl⟩)

set_option maxRecDepth 100000 in
set_option maxHeartbeats 4000000 in
theorem c_X7_has (l : Launch) (hl : l.stackTraces = false) (D : gD) {w : wW} {s p : Nat} (hs : s < 2 ^ 31) (hp : p < 32) : CTm l D yX7_has cX7_has 2 (some .boolean) (rmL 1 0 0) [.int (Z32 (s : Int)), .int (Z32 (p : Int))] w (fun u w1 => u = some (.int (Z32 (bz (s.testBit p = true)))) ∧ w1 = w) := by
  refine CTm_of hl false rfl (by rfl) (Nat.le_of_ble_eq_true rfl) (fun h => nomatch h) ?_
  intro G C
  show G 0 0 w [some (.int (Z32 (s : Int))), some (.int (Z32 (p : Int)))] 0 []
  refine i_iload_n C dX7_has_0 (kk := ?_)
  refine i_iload_n C dX7_has_1 (kk := ?_)
  refine i_ishr C dX7_has_2 (hz := Z32_shr hs hp) (kk := ?_)
  refine i_iconst C dX7_has_3 (kk := ?_)
  refine i_iand C dX7_has_4 (hz := Z32_and1 _) (kk := ?_)
  have hb := bit_mod s p
  rw [hb]
  refine i_iconst C dX7_has_5 (kk := ?_)
  refine i_icmp_ne C dX7_has_6 (tgt := 13) (ha := by split <;> decide) (kt := fun hB6 => ?_) (kf := fun hB6 => ?_)
  · refine i_iconst C dX7_has_13 (kk := ?_)
    exact i_zret C (d := dX7_has_14) (ha := by first | exact Or.inl rfl | exact Or.inr rfl) (h := ⟨by unfold bz; split at hB6 <;> rename_i q <;> simp [q] at hB6 ⊢, rfl⟩)
  · refine i_iconst C dX7_has_9 (kk := ?_)
    refine i_goto C dX7_has_10 (tgt := 14) (kk := ?_)
    exact i_zret C (d := dX7_has_14) (ha := by first | exact Or.inl rfl | exact Or.inr rfl) (h := ⟨by unfold bz; split at hB6 <;> rename_i q <;> simp [q] at hB6 ⊢, rfl⟩)

set_option maxRecDepth 100000 in
set_option maxHeartbeats 4000000 in
theorem c_X7_goes (l : Launch) (hl : l.stackTraces = false) (D : gD) {w0 w : wW} {τ ad : Nat → Nat} {F : Nat → Nat → Int} {dn op sh la : Int} {a b c : Int} (hM : MdR D w0 w τ ad F dn op sh la := by assumption) (ha : inR a := by omega) (hb : inR b := by omega) (hc : inR c := by omega) : CTm l D yX7_goes cX7_goes 4 (some .boolean) (rmL 1 0 0) [.ref (ad 5000), .int (Z32 a), .int (Z32 b), .int (Z32 c)] w (fun u w1 => u = some (.int (Z32 (bz (gol a b c = 0)))) ∧ MdR D w0 w1 τ ad F dn op sh (gol a b c)) := by
  refine CTm_of hl false rfl (by rfl) (Nat.le_of_ble_eq_true rfl) (fun h => nomatch h) ?_
  intro G C
  show G 0 0 w [some (.ref (ad 5000)), some (.int (Z32 a)), some (.int (Z32 b)), some (.int (Z32 c))] 0 []
  refine i_aload_n C dX7_goes_0 (kk := ?_)
  refine i_iload_n C dX7_goes_1 (kk := ?_)
  refine i_if_ne C dX7_goes_2 (tgt := 9) (kt := fun hB2 => ?_) (kf := fun hB2 => ?_)
  · refine i_iload_n C dX7_goes_9 (kk := ?_)
    refine i_if_ne C dX7_goes_10 (tgt := 17) (kt := fun hB10 => ?_) (kf := fun hB10 => ?_)
    · refine i_iload_n C dX7_goes_17 (kk := ?_)
      refine i_if_eq C dX7_goes_18 (tgt := 25) (kt := fun hB18 => ?_) (kf := fun hB18 => ?_)
      · have hg : gol a b c = 3 := by unfold gol; rw [if_neg (by omega), if_neg (by omega), if_pos (by omega)]
        refine i_iconst C dX7_goes_25 (kk := ?_)
        have hq := congrArg Z32 hg
        rw [← hq]
        refine m_put21 C hM dX7_goes_26 (kk := fun w26 hM => ?_)
        refine i_aload_n C dX7_goes_29 (kk := ?_)
        refine i_getf C f_X7_64 dX7_goes_30 (hw := hM.obj) (kk := ?_)
        refine i_if_ne C dX7_goes_33 (tgt := 40) (ha := by unfold gol; split <;> (try split) <;> (try split) <;> decide) (kt := fun hB33 => ?_) (kf := fun hB33 => ?_)
        · refine i_iconst C dX7_goes_40 (kk := ?_)
          exact i_zret C (d := dX7_goes_41) (ha := by first | exact Or.inl rfl | exact Or.inr rfl) (h := by first | exact ⟨by rw [bz_t (show gol a b c = 0 from hB33)], hM⟩ | exact ⟨by rw [bz_f (show ¬ gol a b c = 0 from hB33)], hM⟩)
        · refine i_iconst C dX7_goes_36 (kk := ?_)
          refine i_goto C dX7_goes_37 (tgt := 41) (kk := ?_)
          exact i_zret C (d := dX7_goes_41) (ha := by first | exact Or.inl rfl | exact Or.inr rfl) (h := by first | exact ⟨by rw [bz_t (show gol a b c = 0 from hB33)], hM⟩ | exact ⟨by rw [bz_f (show ¬ gol a b c = 0 from hB33)], hM⟩)
      · have hg : gol a b c = 0 := by unfold gol; rw [if_neg (by omega), if_neg (by omega), if_neg (by omega)]
        refine i_iconst C dX7_goes_21 (kk := ?_)
        refine i_goto C dX7_goes_22 (tgt := 26) (kk := ?_)
        have hq := congrArg Z32 hg
        rw [← hq]
        refine m_put21 C hM dX7_goes_26 (kk := fun w26 hM => ?_)
        refine i_aload_n C dX7_goes_29 (kk := ?_)
        refine i_getf C f_X7_64 dX7_goes_30 (hw := hM.obj) (kk := ?_)
        refine i_if_ne C dX7_goes_33 (tgt := 40) (ha := by unfold gol; split <;> (try split) <;> (try split) <;> decide) (kt := fun hB33 => ?_) (kf := fun hB33 => ?_)
        · refine i_iconst C dX7_goes_40 (kk := ?_)
          exact i_zret C (d := dX7_goes_41) (ha := by first | exact Or.inl rfl | exact Or.inr rfl) (h := by first | exact ⟨by rw [bz_t (show gol a b c = 0 from hB33)], hM⟩ | exact ⟨by rw [bz_f (show ¬ gol a b c = 0 from hB33)], hM⟩)
        · refine i_iconst C dX7_goes_36 (kk := ?_)
          refine i_goto C dX7_goes_37 (tgt := 41) (kk := ?_)
          exact i_zret C (d := dX7_goes_41) (ha := by first | exact Or.inl rfl | exact Or.inr rfl) (h := by first | exact ⟨by rw [bz_t (show gol a b c = 0 from hB33)], hM⟩ | exact ⟨by rw [bz_f (show ¬ gol a b c = 0 from hB33)], hM⟩)
    · have hg : gol a b c = 2 := by unfold gol; rw [if_neg (by omega), if_pos (by omega)]
      refine i_iconst C dX7_goes_13 (kk := ?_)
      refine i_goto C dX7_goes_14 (tgt := 26) (kk := ?_)
      have hq := congrArg Z32 hg
      rw [← hq]
      refine m_put21 C hM dX7_goes_26 (kk := fun w26 hM => ?_)
      refine i_aload_n C dX7_goes_29 (kk := ?_)
      refine i_getf C f_X7_64 dX7_goes_30 (hw := hM.obj) (kk := ?_)
      refine i_if_ne C dX7_goes_33 (tgt := 40) (ha := by unfold gol; split <;> (try split) <;> (try split) <;> decide) (kt := fun hB33 => ?_) (kf := fun hB33 => ?_)
      · refine i_iconst C dX7_goes_40 (kk := ?_)
        exact i_zret C (d := dX7_goes_41) (ha := by first | exact Or.inl rfl | exact Or.inr rfl) (h := by first | exact ⟨by rw [bz_t (show gol a b c = 0 from hB33)], hM⟩ | exact ⟨by rw [bz_f (show ¬ gol a b c = 0 from hB33)], hM⟩)
      · refine i_iconst C dX7_goes_36 (kk := ?_)
        refine i_goto C dX7_goes_37 (tgt := 41) (kk := ?_)
        exact i_zret C (d := dX7_goes_41) (ha := by first | exact Or.inl rfl | exact Or.inr rfl) (h := by first | exact ⟨by rw [bz_t (show gol a b c = 0 from hB33)], hM⟩ | exact ⟨by rw [bz_f (show ¬ gol a b c = 0 from hB33)], hM⟩)
  · have hg : gol a b c = 1 := by unfold gol; rw [if_pos (by omega)]
    refine i_iconst C dX7_goes_5 (kk := ?_)
    refine i_goto C dX7_goes_6 (tgt := 26) (kk := ?_)
    have hq := congrArg Z32 hg
    rw [← hq]
    refine m_put21 C hM dX7_goes_26 (kk := fun w26 hM => ?_)
    refine i_aload_n C dX7_goes_29 (kk := ?_)
    refine i_getf C f_X7_64 dX7_goes_30 (hw := hM.obj) (kk := ?_)
    refine i_if_ne C dX7_goes_33 (tgt := 40) (ha := by unfold gol; split <;> (try split) <;> (try split) <;> decide) (kt := fun hB33 => ?_) (kf := fun hB33 => ?_)
    · refine i_iconst C dX7_goes_40 (kk := ?_)
      exact i_zret C (d := dX7_goes_41) (ha := by first | exact Or.inl rfl | exact Or.inr rfl) (h := by first | exact ⟨by rw [bz_t (show gol a b c = 0 from hB33)], hM⟩ | exact ⟨by rw [bz_f (show ¬ gol a b c = 0 from hB33)], hM⟩)
    · refine i_iconst C dX7_goes_36 (kk := ?_)
      refine i_goto C dX7_goes_37 (tgt := 41) (kk := ?_)
      exact i_zret C (d := dX7_goes_41) (ha := by first | exact Or.inl rfl | exact Or.inr rfl) (h := by first | exact ⟨by rw [bz_t (show gol a b c = 0 from hB33)], hM⟩ | exact ⟨by rw [bz_f (show ¬ gol a b c = 0 from hB33)], hM⟩)

set_option maxRecDepth 100000 in
set_option maxHeartbeats 4000000 in
theorem c_X7_hasRoom (l : Launch) (hl : l.stackTraces = false) (D : gD) {w0 w : wW} {τ ad : Nat → Nat} {F : Nat → Nat → Int} {dn op sh la : Int} (hM : MdR D w0 w τ ad F dn op sh la := by assumption) (hd : inR dn := by omega) : CTm l D yX7_hasRoom cX7_hasRoom 1 (some .boolean) (rmL 1 0 0) [.ref (ad 5000)] w (fun u w1 => u = some (.int (Z32 (bz (dn < 30)))) ∧ w1 = w) := by
  refine CTm_of hl false rfl (by rfl) (Nat.le_of_ble_eq_true rfl) (fun h => nomatch h) ?_
  intro G C
  show G 0 0 w [some (.ref (ad 5000))] 0 []
  refine i_aload_n C dX7_hasRoom_0 (kk := ?_)
  refine i_getf C f_X7_72 dX7_hasRoom_1 (hw := hM.obj) (kk := ?_)
  refine i_bipush C dX7_hasRoom_4 (kk := ?_)
  refine i_icmp_ge C dX7_hasRoom_6 (tgt := 13) (kt := fun hB6 => ?_) (kf := fun hB6 => ?_)
  · refine i_iconst C dX7_hasRoom_13 (kk := ?_)
    exact i_zret C (d := dX7_hasRoom_14) (ha := by first | exact Or.inl rfl | exact Or.inr rfl) (h := by first | exact ⟨by rw [bz_t (by omega)], rfl⟩ | exact ⟨by rw [bz_f (by omega)], rfl⟩)
  · refine i_iconst C dX7_hasRoom_9 (kk := ?_)
    refine i_goto C dX7_hasRoom_10 (tgt := 14) (kk := ?_)
    exact i_zret C (d := dX7_hasRoom_14) (ha := by first | exact Or.inl rfl | exact Or.inr rfl) (h := by first | exact ⟨by rw [bz_t (by omega)], rfl⟩ | exact ⟨by rw [bz_f (by omega)], rfl⟩)

set_option maxRecDepth 100000 in
set_option maxHeartbeats 4000000 in
theorem c_X7_adds (l : Launch) (hl : l.stackTraces = false) (D : gD) {w0 w : wW} {τ ad : Nat → Nat} {F : Nat → Nat → Int} {n : Nat} {op sh la a b c : Int} (hM : MdR D w0 w τ ad F (n : Int) op sh la := by assumption) (hn : n < 30) : CTm l D yX7_adds cX7_adds 4 (some .int) (rmL 1 0 0) [.ref (ad 5000), .int (Z32 a), .int (Z32 b), .int (Z32 c)] w (fun u w1 => u = some (.int (Z32 (((n + 1 : Nat) : Int)))) ∧ MdR D w0 w1 τ ad (upz F 0 (upz (F 0) n (10000 * a + 100 * b + c + 1))) (((n + 1 : Nat)) : Int) op sh la) := by
  refine CTm_of hl false rfl (by rfl) (Nat.le_of_ble_eq_true rfl) (fun h => nomatch h) ?_
  intro G C
  show G 0 0 w [some (.ref (ad 5000)), some (.int (Z32 a)), some (.int (Z32 b)), some (.int (Z32 c))] 0 []
  refine i_aload_n C dX7_adds_0 (kk := ?_)
  refine i_getf C f_X7_7 dX7_adds_1 (hw := hM.obj) (kk := ?_)
  refine i_aload_n C dX7_adds_4 (kk := ?_)
  refine i_getf C f_X7_72 dX7_adds_5 (hw := hM.obj) (kk := ?_)
  refine i_sipush C dX7_adds_8 (kk := ?_)
  refine i_iload_n C dX7_adds_11 (kk := ?_)
  refine i_imul C dX7_adds_12 (kk := ?_)
  refine i_bipush C dX7_adds_13 (kk := ?_)
  refine i_iload_n C dX7_adds_15 (kk := ?_)
  refine i_imul C dX7_adds_16 (kk := ?_)
  refine i_iadd C dX7_adds_17 (kk := ?_)
  refine i_iload_n C dX7_adds_18 (kk := ?_)
  refine i_iadd C dX7_adds_19 (kk := ?_)
  refine i_iconst C dX7_adds_20 (kk := ?_)
  refine i_iadd C dX7_adds_21 (kk := ?_)
  refine m_ias C hM 0 (n) (N := 30) dX7_adds_22 (kk := fun w22 hM => ?_)
  refine i_aload_n C dX7_adds_23 (kk := ?_)
  refine i_dup C dX7_adds_24 (kk := ?_)
  refine i_getf C f_X7_72 dX7_adds_25 (hw := hM.obj) (kk := ?_)
  refine i_iconst C dX7_adds_28 (kk := ?_)
  refine i_iadd C dX7_adds_29 (kk := ?_)
  refine m_put1 C hM dX7_adds_30 (kk := fun w30 hM => ?_)
  refine i_aload_n C dX7_adds_33 (kk := ?_)
  refine i_getf C f_X7_72 dX7_adds_34 (hw := hM.obj) (kk := ?_)
  exact i_iret C (d := dX7_adds_37) (h := ⟨rfl, hM⟩)

set_option maxRecDepth 100000 in
set_option maxHeartbeats 4000000 in
theorem c_X7_letter (l : Launch) (hl : l.stackTraces = false) (D : gD) {w0 w : wW} {τ ad : Nat → Nat} {σ : Sg} {la : Int} {j : Int} (hI : MdI D w0 w τ ad σ la := by assumption) (hj : inR j := by omega) : CTm l D yX7_letter cX7_letter 2 (some .int) (rmL 3 0 0) [.ref (ad 5000), .int (Z32 j)] w (fun u w1 => u = some (.int (Z32 (oLetter σ j).2.1)) ∧ MdI D w0 w1 τ ad (oLetter σ j).2.2 (oLetter σ j).1) := by
  refine CTm_of hl false rfl (by rfl) (Nat.le_of_ble_eq_true rfl) (fun h => nomatch h) ?_
  intro G C
  show G 0 0 w [some (.ref (ad 5000)), some (.int (Z32 j))] 0 []
  obtain ⟨hS, F, dn, op, sh, hM, hV⟩ := hI
  obtain ⟨v1, v2, v3, v4, v5⟩ := id hV
  subst v1
  have h30 := hS.1.2.2
  refine i_aload_n C dX7_letter_0 (kk := ?_)
  refine i_iload_n C dX7_letter_1 (kk := ?_)
  refine i_callS C lk_X7_75 (c_X7_isLetter l hl D (v := j)) (hst := rfl) dX7_letter_2 (kk := fun v2 w2 g2 => ?_)
  obtain ⟨rfl, q2⟩ := g2
  have q2 := q2.symm
  subst q2
  refine i_aload_n C dX7_letter_5 (kk := ?_)
  refine i_callV C lk_X7_79 (c_X7_hasRoom l hl D (hM := hM)) (hcl := rfl) (hst := rfl) dX7_letter_6 (hw := hM.obj) (kk := fun v6 w6 g6 => ?_)
  obtain ⟨rfl, q6⟩ := g6
  have q6 := q6.symm
  subst q6
  rw [show bz (((sDr σ).length : Int) < 30) = bz (room σ) by unfold bz room; simp only [Int.ofNat_lt, show ((30 : Int) = ((30 : Nat) : Int)) from rfl]]
  refine i_iconst C dX7_letter_9 (kk := ?_)
  refine i_callV C lk_X7_83 (c_X7_goes l hl D (hM := hM) (a := bz (isLt j)) (b := bz (room σ)) (c := 1) (by rcases bz_R (isLt j) with h | h <;> omega) (by rcases bz_R (room σ) with h | h <;> omega) (by decide)) (hcl := rfl) (hst := rfl) dX7_letter_10 (hw := hM.obj) (kk := fun v10 w10 g10 => ?_)
  obtain ⟨rfl, hM⟩ := g10
  have hM : MdR D w0 w10 τ ad F _ op sh (gol (bz (isLt j)) (bz (room σ)) (bz (True))) := hM
  show G _ _ _ _ _ (.int (Z32 (bz (gol (bz (isLt j)) (bz (room σ)) (bz (True)) = 0))) :: _)
  refine i_if_eq C dX7_letter_13 (tgt := 26) (ha := by rcases bz_R (gol (bz (isLt j)) (bz (room σ)) (bz (True)) = 0) with h | h <;> omega) (kt := fun hB13 => ?_) (kf := fun hB13 => ?_)
  · have hz : gol (bz (isLt j)) (bz (room σ)) (bz (True)) ≠ 0 := bz_z.mp hB13
    have e0 : oLetter σ j = (gol (bz (isLt j)) (bz (room σ)) (bz (True)), 0, σ) := op3_no hz
    refine i_iconst C dX7_letter_26 (kk := ?_)
    exact i_iret C (d := dX7_letter_27) (h := by first | (rw [e0]; exact ⟨rfl, hS, F, _, _, _, hM, hV⟩) | (rw [e0]; exact ⟨rfl, MdI.push hS hV (by assumption) (by unfold PV; dsimp only; omega) (by have h9 := hS.1.2.1.all; unfold dow; simp; omega) hM (by simp [enc]; try omega) (by unfold dow; simp; try omega)⟩))
  · have hz : gol (bz (isLt j)) (bz (room σ)) (bz (True)) = 0 := bz_ne.mp hB13
    obtain ⟨e0, pa, pb, pc3⟩ := op3_yes (σ := σ) (X := opDr σ (0, -1, j)) hz
    have e0 : oLetter σ j = opDr σ (0, -1, j) := e0
    rw [hz] at hM
    refine i_aload_n C dX7_letter_16 (kk := ?_)
    refine i_iconst C dX7_letter_17 (kk := ?_)
    refine i_iload_n C dX7_letter_18 (kk := ?_)
    refine i_iconst C dX7_letter_19 (kk := ?_)
    refine i_callV C lk_X7_87 (c_X7_adds l hl D (hM := hM) (a := 0) (b := j) (c := 0) (show (sDr σ).length < 30 from pb)) (hcl := rfl) (hst := rfl) dX7_letter_20 (hw := hM.obj) (kk := fun v20 w20 g20 => ?_)
    obtain ⟨rfl, hM⟩ := g20
    refine i_goto C dX7_letter_23 (tgt := 27) (kk := ?_)
    exact i_iret C (d := dX7_letter_27) (h := by first | (rw [e0]; exact ⟨rfl, hS, F, _, _, _, hM, hV⟩) | (rw [e0]; exact ⟨rfl, MdI.push hS hV (by assumption) (by unfold PV; dsimp only; omega) (by have h9 := hS.1.2.1.all; unfold dow; simp; omega) hM (by simp [enc]; try omega) (by unfold dow; simp; try omega)⟩))

set_option maxRecDepth 100000 in
set_option maxHeartbeats 4000000 in
theorem c_X7_argument (l : Launch) (hl : l.stackTraces = false) (D : gD) {w0 w : wW} {τ ad : Nat → Nat} {σ : Sg} {la : Int} (hI : MdI D w0 w τ ad σ la := by assumption) : CTm l D yX7_argument cX7_argument 1 (some .int) (rmL 3 0 0) [.ref (ad 5000)] w (fun u w1 => u = some (.int (Z32 (oArgument σ).2.1)) ∧ MdI D w0 w1 τ ad (oArgument σ).2.2 (oArgument σ).1) := by
  refine CTm_of hl false rfl (by rfl) (Nat.le_of_ble_eq_true rfl) (fun h => nomatch h) ?_
  intro G C
  show G 0 0 w [some (.ref (ad 5000))] 0 []
  obtain ⟨hS, F, dn, op, sh, hM, hV⟩ := hI
  obtain ⟨v1, v2, v3, v4, v5⟩ := id hV
  subst v1
  have h30 := hS.1.2.2
  refine i_aload_n C dX7_argument_0 (kk := ?_)
  refine i_aload_n C dX7_argument_1 (kk := ?_)
  refine i_callV C lk_X7_79 (c_X7_hasRoom l hl D (hM := hM)) (hcl := rfl) (hst := rfl) dX7_argument_2 (hw := hM.obj) (kk := fun v2 w2 g2 => ?_)
  obtain ⟨rfl, q2⟩ := g2
  have q2 := q2.symm
  subst q2
  rw [show bz (((sDr σ).length : Int) < 30) = bz (room σ) by unfold bz room; simp only [Int.ofNat_lt, show ((30 : Int) = ((30 : Nat) : Int)) from rfl]]
  refine i_iconst C dX7_argument_5 (kk := ?_)
  refine i_iconst C dX7_argument_6 (kk := ?_)
  refine i_callV C lk_X7_83 (c_X7_goes l hl D (hM := hM) (a := bz (room σ)) (b := 1) (c := 1) (by rcases bz_R (room σ) with h | h <;> omega) (by decide) (by decide)) (hcl := rfl) (hst := rfl) dX7_argument_7 (hw := hM.obj) (kk := fun v7 w7 g7 => ?_)
  obtain ⟨rfl, hM⟩ := g7
  have hM : MdR D w0 w7 τ ad F _ op sh (gol (bz (room σ)) (bz (True)) (bz (True))) := hM
  show G _ _ _ _ _ (.int (Z32 (bz (gol (bz (room σ)) (bz (True)) (bz (True)) = 0))) :: _)
  refine i_if_eq C dX7_argument_10 (tgt := 23) (ha := by rcases bz_R (gol (bz (room σ)) (bz (True)) (bz (True)) = 0) with h | h <;> omega) (kt := fun hB10 => ?_) (kf := fun hB10 => ?_)
  · have hz : gol (bz (room σ)) (bz (True)) (bz (True)) ≠ 0 := bz_z.mp hB10
    have e0 : oArgument σ = (gol (bz (room σ)) (bz (True)) (bz (True)), 0, σ) := op3_no hz
    refine i_iconst C dX7_argument_23 (kk := ?_)
    exact i_iret C (d := dX7_argument_24) (h := by first | (rw [e0]; exact ⟨rfl, hS, F, _, _, _, hM, hV⟩) | (rw [e0]; exact ⟨rfl, MdI.push hS hV (by assumption) (by unfold PV; dsimp only; omega) (by have h9 := hS.1.2.1.all; unfold dow; simp; omega) hM (by simp [enc]; try omega) (by unfold dow; simp; try omega)⟩))
  · have hz : gol (bz (room σ)) (bz (True)) (bz (True)) = 0 := bz_ne.mp hB10
    obtain ⟨e0, pa, pb, pc3⟩ := op3_yes (σ := σ) (X := opDr σ (3, -1, -1)) hz
    have e0 : oArgument σ = opDr σ (3, -1, -1) := e0
    rw [hz] at hM
    refine i_aload_n C dX7_argument_13 (kk := ?_)
    refine i_iconst C dX7_argument_14 (kk := ?_)
    refine i_iconst C dX7_argument_15 (kk := ?_)
    refine i_iconst C dX7_argument_16 (kk := ?_)
    refine i_callV C lk_X7_87 (c_X7_adds l hl D (hM := hM) (a := 1) (b := 0) (c := 0) (show (sDr σ).length < 30 from pa)) (hcl := rfl) (hst := rfl) dX7_argument_17 (hw := hM.obj) (kk := fun v17 w17 g17 => ?_)
    obtain ⟨rfl, hM⟩ := g17
    refine i_goto C dX7_argument_20 (tgt := 24) (kk := ?_)
    exact i_iret C (d := dX7_argument_24) (h := by first | (rw [e0]; exact ⟨rfl, hS, F, _, _, _, hM, hV⟩) | (rw [e0]; exact ⟨rfl, MdI.push hS hV (by assumption) (by unfold PV; dsimp only; omega) (by have h9 := hS.1.2.1.all; unfold dow; simp; omega) hM (by simp [enc]; try omega) (by unfold dow; simp; try omega)⟩))

set_option maxRecDepth 100000 in
set_option maxHeartbeats 4000000 in
theorem c_X7_call (l : Launch) (hl : l.stackTraces = false) (D : gD) {w0 w : wW} {τ ad : Nat → Nat} {σ : Sg} {la : Int} {i j : Int} (hI : MdI D w0 w τ ad σ la := by assumption) (hi : inR i := by omega) (hj : inR j := by omega) : CTm l D yX7_call cX7_call 3 (some .int) (rmL 3 0 0) [.ref (ad 5000), .int (Z32 i), .int (Z32 j)] w (fun u w1 => u = some (.int (Z32 (oCall σ i j).2.1)) ∧ MdI D w0 w1 τ ad (oCall σ i j).2.2 (oCall σ i j).1) := by
  refine CTm_of hl false rfl (by rfl) (Nat.le_of_ble_eq_true rfl) (fun h => nomatch h) ?_
  intro G C
  show G 0 0 w [some (.ref (ad 5000)), some (.int (Z32 i)), some (.int (Z32 j))] 0 []
  obtain ⟨hS, F, dn, op, sh, hM, hV⟩ := hI
  obtain ⟨v1, v2, v3, v4, v5⟩ := id hV
  subst v1
  have h30 := hS.1.2.2
  refine i_aload_n C dX7_call_0 (kk := ?_)
  refine i_iload_n C dX7_call_1 (kk := ?_)
  refine i_callS C lk_X7_91 (c_X7_isPage l hl D (v := i)) (hst := rfl) dX7_call_2 (kk := fun v2 w2 g2 => ?_)
  obtain ⟨rfl, q2⟩ := g2
  have q2 := q2.symm
  subst q2
  refine i_iload_n C dX7_call_5 (kk := ?_)
  refine i_iconst C dX7_call_6 (kk := ?_)
  have jn : ∀ x : Int, x = bz (j = -1 ∨ isLt j) → G 0 0 w [some (.ref (ad 5000)), some (.int (Z32 i)), some (.int (Z32 j))] 22 [.int (Z32 x), .int (Z32 (bz (isPg i))), .ref (ad 5000)] := by
    intro x hx
    subst hx
    refine i_aload_n C dX7_call_22 (kk := ?_)
    refine i_callV C lk_X7_79 (c_X7_hasRoom l hl D (hM := hM)) (hcl := rfl) (hst := rfl) dX7_call_23 (hw := hM.obj) (kk := fun v23 w23 g23 => ?_)
    obtain ⟨rfl, q23⟩ := g23
    have q23 := q23.symm
    subst q23
    rw [show bz (((sDr σ).length : Int) < 30) = bz (room σ) by unfold bz room; simp only [Int.ofNat_lt, show ((30 : Int) = ((30 : Nat) : Int)) from rfl]]
    refine i_callV C lk_X7_83 (c_X7_goes l hl D (hM := hM) (a := bz (isPg i)) (b := bz (j = -1 ∨ isLt j)) (c := bz (room σ)) (by rcases bz_R (isPg i) with h | h <;> omega) (by rcases bz_R (j = -1 ∨ isLt j) with h | h <;> omega) (by rcases bz_R (room σ) with h | h <;> omega)) (hcl := rfl) (hst := rfl) dX7_call_26 (hw := hM.obj) (kk := fun v26 w26 g26 => ?_)
    obtain ⟨rfl, hM⟩ := g26
    have hM : MdR D w0 w26 τ ad F _ op sh (gol (bz (isPg i)) (bz (j = -1 ∨ isLt j)) (bz (room σ))) := hM
    show G _ _ _ _ _ (.int (Z32 (bz (gol (bz (isPg i)) (bz (j = -1 ∨ isLt j)) (bz (room σ)) = 0))) :: _)
    refine i_if_eq C dX7_call_29 (tgt := 42) (ha := by rcases bz_R (gol (bz (isPg i)) (bz (j = -1 ∨ isLt j)) (bz (room σ)) = 0) with h | h <;> omega) (kt := fun hB29 => ?_) (kf := fun hB29 => ?_)
    · have hz : gol (bz (isPg i)) (bz (j = -1 ∨ isLt j)) (bz (room σ)) ≠ 0 := bz_z.mp hB29
      have e0 : oCall σ i j = (gol (bz (isPg i)) (bz (j = -1 ∨ isLt j)) (bz (room σ)), 0, σ) := op3_no hz
      refine i_iconst C dX7_call_42 (kk := ?_)
      exact i_iret C (d := dX7_call_43) (h := by first | (rw [e0]; exact ⟨rfl, hS, F, _, _, _, hM, hV⟩) | (rw [e0]; exact ⟨rfl, MdI.push hS hV (by assumption) (by unfold PV; dsimp only; omega) (by have h9 := hS.1.2.1.all; unfold dow; simp; omega) hM (by simp [enc]; try omega) (by unfold dow; simp; try omega)⟩))
    · have hz : gol (bz (isPg i)) (bz (j = -1 ∨ isLt j)) (bz (room σ)) = 0 := bz_ne.mp hB29
      obtain ⟨e0, pa, pb, pc3⟩ := op3_yes (σ := σ) (X := opDr σ (4, i, j)) hz
      have e0 : oCall σ i j = opDr σ (4, i, j) := e0
      rw [hz] at hM
      refine i_aload_n C dX7_call_32 (kk := ?_)
      refine i_iconst C dX7_call_33 (kk := ?_)
      refine i_iload_n C dX7_call_34 (kk := ?_)
      refine i_iload_n C dX7_call_35 (kk := ?_)
      refine i_callV C lk_X7_87 (c_X7_adds l hl D (hM := hM) (a := 2) (b := i) (c := j) (show (sDr σ).length < 30 from pc3)) (hcl := rfl) (hst := rfl) dX7_call_36 (hw := hM.obj) (kk := fun v36 w36 g36 => ?_)
      obtain ⟨rfl, hM⟩ := g36
      refine i_goto C dX7_call_39 (tgt := 43) (kk := ?_)
      exact i_iret C (d := dX7_call_43) (h := by first | (rw [e0]; exact ⟨rfl, hS, F, _, _, _, hM, hV⟩) | (rw [e0]; exact ⟨rfl, MdI.push hS hV (by assumption) (by unfold PV; dsimp only; omega) (by have h9 := hS.1.2.1.all; unfold dow; simp; omega) hM (by simp [enc]; try omega) (by unfold dow; simp; try omega)⟩))
  refine i_icmp_eq C dX7_call_7 (tgt := 17) (kt := fun hB7 => ?_) (kf := fun hB7 => ?_)
  · refine i_iconst C dX7_call_17 (kk := ?_)
    refine i_goto C dX7_call_18 (tgt := 22) (kk := ?_)
    exact jn _ (by first | (rw [bz_t (by omega)]; done) | (rw [bz_f (by omega)]; done))
  · refine i_iload_n C dX7_call_10 (kk := ?_)
    refine i_callS C lk_X7_75 (c_X7_isLetter l hl D (v := j)) (hst := rfl) dX7_call_11 (kk := fun v11 w11 g11 => ?_)
    obtain ⟨rfl, q11⟩ := g11
    have q11 := q11.symm
    subst q11
    refine i_if_eq C dX7_call_14 (tgt := 21) (ha := by rcases bz_R (isLt j) with h | h <;> omega) (kt := fun hB14 => ?_) (kf := fun hB14 => ?_)
    · have hz := bz_z.mp hB14
      refine i_iconst C dX7_call_21 (kk := ?_)
      exact jn _ (by first | (rw [bz_t (by omega)]; done) | (rw [bz_f (by omega)]; done))
    · have hz := bz_ne.mp hB14
      refine i_iconst C dX7_call_17 (kk := ?_)
      refine i_goto C dX7_call_18 (tgt := 22) (kk := ?_)
      exact jn _ (by first | (rw [bz_t (by omega)]; done) | (rw [bz_f (by omega)]; done))

set_option maxRecDepth 100000 in
set_option maxHeartbeats 4000000 in
theorem c_X7_callOn (l : Launch) (hl : l.stackTraces = false) (D : gD) {w0 w : wW} {τ ad : Nat → Nat} {σ : Sg} {la : Int} {i : Int} (hI : MdI D w0 w τ ad σ la := by assumption) (hi : inR i := by omega) : CTm l D yX7_callOn cX7_callOn 2 (some .int) (rmL 3 0 0) [.ref (ad 5000), .int (Z32 i)] w (fun u w1 => u = some (.int (Z32 (oCallOn σ i).2.1)) ∧ MdI D w0 w1 τ ad (oCallOn σ i).2.2 (oCallOn σ i).1) := by
  refine CTm_of hl false rfl (by rfl) (Nat.le_of_ble_eq_true rfl) (fun h => nomatch h) ?_
  intro G C
  show G 0 0 w [some (.ref (ad 5000)), some (.int (Z32 i))] 0 []
  obtain ⟨hS, F, dn, op, sh, hM, hV⟩ := hI
  obtain ⟨v1, v2, v3, v4, v5⟩ := id hV
  subst v1
  have h30 := hS.1.2.2
  refine i_aload_n C dX7_callOn_0 (kk := ?_)
  refine i_iload_n C dX7_callOn_1 (kk := ?_)
  refine i_callS C lk_X7_91 (c_X7_isPage l hl D (v := i)) (hst := rfl) dX7_callOn_2 (kk := fun v2 w2 g2 => ?_)
  obtain ⟨rfl, q2⟩ := g2
  have q2 := q2.symm
  subst q2
  refine i_aload_n C dX7_callOn_5 (kk := ?_)
  refine i_callV C lk_X7_79 (c_X7_hasRoom l hl D (hM := hM)) (hcl := rfl) (hst := rfl) dX7_callOn_6 (hw := hM.obj) (kk := fun v6 w6 g6 => ?_)
  obtain ⟨rfl, q6⟩ := g6
  have q6 := q6.symm
  subst q6
  rw [show bz (((sDr σ).length : Int) < 30) = bz (room σ) by unfold bz room; simp only [Int.ofNat_lt, show ((30 : Int) = ((30 : Nat) : Int)) from rfl]]
  refine i_iconst C dX7_callOn_9 (kk := ?_)
  refine i_callV C lk_X7_83 (c_X7_goes l hl D (hM := hM) (a := bz (isPg i)) (b := bz (room σ)) (c := 1) (by rcases bz_R (isPg i) with h | h <;> omega) (by rcases bz_R (room σ) with h | h <;> omega) (by decide)) (hcl := rfl) (hst := rfl) dX7_callOn_10 (hw := hM.obj) (kk := fun v10 w10 g10 => ?_)
  obtain ⟨rfl, hM⟩ := g10
  have hM : MdR D w0 w10 τ ad F _ op sh (gol (bz (isPg i)) (bz (room σ)) (bz (True))) := hM
  show G _ _ _ _ _ (.int (Z32 (bz (gol (bz (isPg i)) (bz (room σ)) (bz (True)) = 0))) :: _)
  refine i_if_eq C dX7_callOn_13 (tgt := 26) (ha := by rcases bz_R (gol (bz (isPg i)) (bz (room σ)) (bz (True)) = 0) with h | h <;> omega) (kt := fun hB13 => ?_) (kf := fun hB13 => ?_)
  · have hz : gol (bz (isPg i)) (bz (room σ)) (bz (True)) ≠ 0 := bz_z.mp hB13
    have e0 : oCallOn σ i = (gol (bz (isPg i)) (bz (room σ)) (bz (True)), 0, σ) := op3_no hz
    refine i_iconst C dX7_callOn_26 (kk := ?_)
    exact i_iret C (d := dX7_callOn_27) (h := by first | (rw [e0]; exact ⟨rfl, hS, F, _, _, _, hM, hV⟩) | (rw [e0]; exact ⟨rfl, MdI.push hS hV (by assumption) (by unfold PV; dsimp only; omega) (by have h9 := hS.1.2.1.all; unfold dow; simp; omega) hM (by simp [enc]; try omega) (by unfold dow; simp; try omega)⟩))
  · have hz : gol (bz (isPg i)) (bz (room σ)) (bz (True)) = 0 := bz_ne.mp hB13
    obtain ⟨e0, pa, pb, pc3⟩ := op3_yes (σ := σ) (X := opDr σ (5, i, -1)) hz
    have e0 : oCallOn σ i = opDr σ (5, i, -1) := e0
    rw [hz] at hM
    refine i_aload_n C dX7_callOn_16 (kk := ?_)
    refine i_iconst C dX7_callOn_17 (kk := ?_)
    refine i_iload_n C dX7_callOn_18 (kk := ?_)
    refine i_iconst C dX7_callOn_19 (kk := ?_)
    refine i_callV C lk_X7_87 (c_X7_adds l hl D (hM := hM) (a := 3) (b := i) (c := 0) (show (sDr σ).length < 30 from pb)) (hcl := rfl) (hst := rfl) dX7_callOn_20 (hw := hM.obj) (kk := fun v20 w20 g20 => ?_)
    obtain ⟨rfl, hM⟩ := g20
    refine i_goto C dX7_callOn_23 (tgt := 27) (kk := ?_)
    exact i_iret C (d := dX7_callOn_27) (h := by first | (rw [e0]; exact ⟨rfl, hS, F, _, _, _, hM, hV⟩) | (rw [e0]; exact ⟨rfl, MdI.push hS hV (by assumption) (by unfold PV; dsimp only; omega) (by have h9 := hS.1.2.1.all; unfold dow; simp; omega) hM (by simp [enc]; try omega) (by unfold dow; simp; try omega)⟩))

set_option maxRecDepth 100000 in
set_option maxHeartbeats 4000000 in
theorem c_X7_when (l : Launch) (hl : l.stackTraces = false) (D : gD) {w0 w : wW} {τ ad : Nat → Nat} {σ : Sg} {la : Int} {j : Int} (hI : MdI D w0 w τ ad σ la := by assumption) (hj : inR j := by omega) : CTm l D yX7_when cX7_when 2 (some .int) (rmL 3 0 0) [.ref (ad 5000), .int (Z32 j)] w (fun u w1 => u = some (.int (Z32 (oWhen σ j).2.1)) ∧ MdI D w0 w1 τ ad (oWhen σ j).2.2 (oWhen σ j).1) := by
  refine CTm_of hl false rfl (by rfl) (Nat.le_of_ble_eq_true rfl) (fun h => nomatch h) ?_
  intro G C
  show G 0 0 w [some (.ref (ad 5000)), some (.int (Z32 j))] 0 []
  obtain ⟨hS, F, dn, op, sh, hM, hV⟩ := hI
  obtain ⟨v1, v2, v3, v4, v5⟩ := id hV
  subst v1
  have h30 := hS.1.2.2
  refine i_aload_n C dX7_when_0 (kk := ?_)
  refine i_iload_n C dX7_when_1 (kk := ?_)
  refine i_callS C lk_X7_75 (c_X7_isLetter l hl D (v := j)) (hst := rfl) dX7_when_2 (kk := fun v2 w2 g2 => ?_)
  obtain ⟨rfl, q2⟩ := g2
  have q2 := q2.symm
  subst q2
  refine i_aload_n C dX7_when_5 (kk := ?_)
  refine i_callV C lk_X7_79 (c_X7_hasRoom l hl D (hM := hM)) (hcl := rfl) (hst := rfl) dX7_when_6 (hw := hM.obj) (kk := fun v6 w6 g6 => ?_)
  obtain ⟨rfl, q6⟩ := g6
  have q6 := q6.symm
  subst q6
  rw [show bz (((sDr σ).length : Int) < 30) = bz (room σ) by unfold bz room; simp only [Int.ofNat_lt, show ((30 : Int) = ((30 : Nat) : Int)) from rfl]]
  refine i_iconst C dX7_when_9 (kk := ?_)
  refine i_callV C lk_X7_83 (c_X7_goes l hl D (hM := hM) (a := bz (isLt j)) (b := bz (room σ)) (c := 1) (by rcases bz_R (isLt j) with h | h <;> omega) (by rcases bz_R (room σ) with h | h <;> omega) (by decide)) (hcl := rfl) (hst := rfl) dX7_when_10 (hw := hM.obj) (kk := fun v10 w10 g10 => ?_)
  obtain ⟨rfl, hM⟩ := g10
  have hM : MdR D w0 w10 τ ad F _ op sh (gol (bz (isLt j)) (bz (room σ)) (bz (True))) := hM
  show G _ _ _ _ _ (.int (Z32 (bz (gol (bz (isLt j)) (bz (room σ)) (bz (True)) = 0))) :: _)
  refine i_if_ne C dX7_when_13 (tgt := 18) (ha := by rcases bz_R (gol (bz (isLt j)) (bz (room σ)) (bz (True)) = 0) with h | h <;> omega) (kt := fun hB13 => ?_) (kf := fun hB13 => ?_)
  · have hz : gol (bz (isLt j)) (bz (room σ)) (bz (True)) = 0 := bz_ne.mp hB13
    obtain ⟨e0, pa, pb, pc3⟩ := op3_yes (σ := σ) (X := opDr σ (6, -1, j)) hz
    have e0 : oWhen σ j = opDr σ (6, -1, j) := e0
    rw [hz] at hM
    refine i_aload_n C dX7_when_18 (kk := ?_)
    refine i_dup C dX7_when_19 (kk := ?_)
    refine i_getf C f_X7_94 dX7_when_20 (hw := hM.obj) (kk := ?_)
    refine i_iconst C dX7_when_23 (kk := ?_)
    refine i_iadd C dX7_when_24 (kk := ?_)
    refine m_put2 C hM dX7_when_25 (kk := fun w25 hM => ?_)
    refine i_aload_n C dX7_when_28 (kk := ?_)
    refine i_iconst C dX7_when_29 (kk := ?_)
    refine i_iload_n C dX7_when_30 (kk := ?_)
    refine i_iconst C dX7_when_31 (kk := ?_)
    refine i_callV C lk_X7_87 (c_X7_adds l hl D (hM := hM) (a := 4) (b := j) (c := 0) (show (sDr σ).length < 30 from pb)) (hcl := rfl) (hst := rfl) dX7_when_32 (hw := hM.obj) (kk := fun v32 w32 g32 => ?_)
    obtain ⟨rfl, hM⟩ := g32
    exact i_iret C (d := dX7_when_35) (h := by rw [e0]; exact ⟨rfl, MdI.push hS hV (by assumption) (by unfold PV; dsimp only; omega) (by have h9 := hS.1.2.1.all; unfold dow; simp; omega) hM (by simp [enc]; try omega) (by unfold dow; simp; try omega)⟩)
  · have hz : gol (bz (isLt j)) (bz (room σ)) (bz (True)) ≠ 0 := bz_z.mp hB13
    have e0 : oWhen σ j = (gol (bz (isLt j)) (bz (room σ)) (bz (True)), 0, σ) := op3_no hz
    refine i_iconst C dX7_when_16 (kk := ?_)
    exact i_iret C (d := dX7_when_17) (h := by rw [e0]; exact ⟨rfl, hS, F, _, _, _, hM, hV⟩)

set_option maxRecDepth 100000 in
set_option maxHeartbeats 4000000 in
theorem c_X7_end (l : Launch) (hl : l.stackTraces = false) (D : gD) {w0 w : wW} {τ ad : Nat → Nat} {σ : Sg} {la : Int} (hI : MdI D w0 w τ ad σ la := by assumption) : CTm l D yX7_end cX7_end 1 (some .int) (rmL 3 0 0) [.ref (ad 5000)] w (fun u w1 => u = some (.int (Z32 (oEnd σ).2.1)) ∧ MdI D w0 w1 τ ad (oEnd σ).2.2 (oEnd σ).1) := by
  refine CTm_of hl false rfl (by rfl) (Nat.le_of_ble_eq_true rfl) (fun h => nomatch h) ?_
  intro G C
  show G 0 0 w [some (.ref (ad 5000))] 0 []
  obtain ⟨hS, F, dn, op, sh, hM, hV⟩ := hI
  obtain ⟨v1, v2, v3, v4, v5⟩ := id hV
  subst v1
  have h30 := hS.1.2.2
  refine i_aload_n C dX7_end_0 (kk := ?_)
  refine i_aload_n C dX7_end_1 (kk := ?_)
  refine i_callV C lk_X7_79 (c_X7_hasRoom l hl D (hM := hM)) (hcl := rfl) (hst := rfl) dX7_end_2 (hw := hM.obj) (kk := fun v2 w2 g2 => ?_)
  obtain ⟨rfl, q2⟩ := g2
  have q2 := q2.symm
  subst q2
  rw [show bz (((sDr σ).length : Int) < 30) = bz (room σ) by unfold bz room; simp only [Int.ofNat_lt, show ((30 : Int) = ((30 : Nat) : Int)) from rfl]]
  have ho9 := owc_le (sDr σ)
  have ho8 := hS.1.2.1.all
  have jn : ∀ x : Int, x = bz (room σ ∧ 0 < owc (sDr σ)) → G 0 0 w [some (.ref (ad 5000))] 20 [.int (Z32 x), .ref (ad 5000)] := by
    intro x hx
    subst hx
    refine i_iconst C dX7_end_20 (kk := ?_)
    refine i_iconst C dX7_end_21 (kk := ?_)
    refine i_callV C lk_X7_83 (c_X7_goes l hl D (hM := hM) (a := bz (room σ ∧ 0 < owc (sDr σ))) (b := 1) (c := 1) (by rcases bz_R (room σ ∧ 0 < owc (sDr σ)) with h | h <;> omega) (by decide) (by decide)) (hcl := rfl) (hst := rfl) dX7_end_22 (hw := hM.obj) (kk := fun v22 w22 g22 => ?_)
    obtain ⟨rfl, hM⟩ := g22
    have hM : MdR D w0 w22 τ ad F _ op sh (gol (bz (room σ ∧ 0 < owc (sDr σ))) (bz (True)) (bz (True))) := hM
    show G _ _ _ _ _ (.int (Z32 (bz (gol (bz (room σ ∧ 0 < owc (sDr σ))) (bz (True)) (bz (True)) = 0))) :: _)
    refine i_if_ne C dX7_end_25 (tgt := 30) (ha := by rcases bz_R (gol (bz (room σ ∧ 0 < owc (sDr σ))) (bz (True)) (bz (True)) = 0) with h | h <;> omega) (kt := fun hB25 => ?_) (kf := fun hB25 => ?_)
    · have hz : gol (bz (room σ ∧ 0 < owc (sDr σ))) (bz (True)) (bz (True)) = 0 := bz_ne.mp hB25
      obtain ⟨e0, pa, pb, pc3⟩ := op3_yes (σ := σ) (X := opDr σ (7, -1, -1)) hz
      have e0 : oEnd σ = opDr σ (7, -1, -1) := e0
      rw [hz] at hM
      refine i_aload_n C dX7_end_30 (kk := ?_)
      refine i_dup C dX7_end_31 (kk := ?_)
      refine i_getf C f_X7_94 dX7_end_32 (hw := hM.obj) (kk := ?_)
      refine i_iconst C dX7_end_35 (kk := ?_)
      refine i_isub C dX7_end_36 (kk := ?_)
      refine m_put2 C hM dX7_end_37 (kk := fun w37 hM => ?_)
      refine i_aload_n C dX7_end_40 (kk := ?_)
      refine i_iconst C dX7_end_41 (kk := ?_)
      refine i_iconst C dX7_end_42 (kk := ?_)
      refine i_iconst C dX7_end_43 (kk := ?_)
      refine i_callV C lk_X7_87 (c_X7_adds l hl D (hM := hM) (a := 5) (b := 0) (c := 0) (show (sDr σ).length < 30 from pa.1)) (hcl := rfl) (hst := rfl) dX7_end_44 (hw := hM.obj) (kk := fun v44 w44 g44 => ?_)
      obtain ⟨rfl, hM⟩ := g44
      exact i_iret C (d := dX7_end_47) (h := by rw [e0]; exact ⟨rfl, MdI.push hS hV pa.1 (by unfold PV; dsimp only; omega) (by have h9 := hS.1.2.1.all; unfold dow; simp; omega) hM (by simp [enc]; try omega) (by unfold dow; simp; try omega)⟩)
    · have hz : gol (bz (room σ ∧ 0 < owc (sDr σ))) (bz (True)) (bz (True)) ≠ 0 := bz_z.mp hB25
      have e0 : oEnd σ = (gol (bz (room σ ∧ 0 < owc (sDr σ))) (bz (True)) (bz (True)), 0, σ) := op3_no hz
      refine i_iconst C dX7_end_28 (kk := ?_)
      exact i_iret C (d := dX7_end_29) (h := by rw [e0]; exact ⟨rfl, hS, F, _, _, _, hM, hV⟩)
  refine i_if_eq C dX7_end_5 (tgt := 19) (ha := by rcases bz_R (room σ) with h | h <;> omega) (kt := fun hB5 => ?_) (kf := fun hB5 => ?_)
  · have hz1 := bz_z.mp hB5
    refine i_iconst C dX7_end_19 (kk := ?_)
    exact jn _ (by first | (rw [bz_t ⟨hz1, by omega⟩]; done) | (rw [bz_f (fun q => hz1 q.1)]; done) | (rw [bz_f (by omega)]; done))
  · have hz1 := bz_ne.mp hB5
    refine i_aload_n C dX7_end_8 (kk := ?_)
    refine i_getf C f_X7_94 dX7_end_9 (hw := hM.obj) (kk := ?_)
    refine i_if_le C dX7_end_12 (tgt := 19) (kt := fun hB12 => ?_) (kf := fun hB12 => ?_)
    · refine i_iconst C dX7_end_19 (kk := ?_)
      exact jn _ (by first | (rw [bz_t ⟨hz1, by omega⟩]; done) | (rw [bz_f (fun q => hz1 q.1)]; done) | (rw [bz_f (by omega)]; done))
    · refine i_iconst C dX7_end_15 (kk := ?_)
      refine i_goto C dX7_end_16 (tgt := 20) (kk := ?_)
      exact jn _ (by first | (rw [bz_t ⟨hz1, by omega⟩]; done) | (rw [bz_f (fun q => hz1 q.1)]; done) | (rw [bz_f (by omega)]; done))

set_option maxRecDepth 100000 in
set_option maxHeartbeats 4000000 in
theorem c_X7_anchor (l : Launch) (hl : l.stackTraces = false) (D : gD) {w0 w : wW} {τ ad : Nat → Nat} {σ : Sg} {la : Int} {j : Int} (hI : MdI D w0 w τ ad σ la := by assumption) (hj : inR j := by omega) : CTm l D yX7_anchor cX7_anchor 2 (some .int) (rmL 3 0 0) [.ref (ad 5000), .int (Z32 j)] w (fun u w1 => u = some (.int (Z32 (oAnchor σ j).2.1)) ∧ MdI D w0 w1 τ ad (oAnchor σ j).2.2 (oAnchor σ j).1) := by
  refine CTm_of hl false rfl (by rfl) (Nat.le_of_ble_eq_true rfl) (fun h => nomatch h) ?_
  intro G C
  show G 0 0 w [some (.ref (ad 5000)), some (.int (Z32 j))] 0 []
  obtain ⟨hS, F, dn, op, sh, hM, hV⟩ := hI
  obtain ⟨v1, v2, v3, v4, v5⟩ := id hV
  subst v1
  have h30 := hS.1.2.2
  refine i_aload_n C dX7_anchor_0 (kk := ?_)
  refine i_iload_n C dX7_anchor_1 (kk := ?_)
  refine i_iconst C dX7_anchor_2 (kk := ?_)
  refine i_bipush C dX7_anchor_3 (kk := ?_)
  refine i_callS C lk_X7_68 (c_X7_in l hl D (v := j) (a := 0) (b := 9)) (hst := rfl) dX7_anchor_5 (kk := fun v5 w5 g5 => ?_)
  obtain ⟨rfl, q5⟩ := g5
  have q5 := q5.symm
  subst q5
  rw [show bz (0 ≤ j ∧ j ≤ 9) = bz (isAn j) from rfl]
  refine i_aload_n C dX7_anchor_8 (kk := ?_)
  refine i_callV C lk_X7_79 (c_X7_hasRoom l hl D (hM := hM)) (hcl := rfl) (hst := rfl) dX7_anchor_9 (hw := hM.obj) (kk := fun v9 w9 g9 => ?_)
  obtain ⟨rfl, q9⟩ := g9
  have q9 := q9.symm
  subst q9
  rw [show bz (((sDr σ).length : Int) < 30) = bz (room σ) by unfold bz room; simp only [Int.ofNat_lt, show ((30 : Int) = ((30 : Nat) : Int)) from rfl]]
  refine i_iconst C dX7_anchor_12 (kk := ?_)
  refine i_callV C lk_X7_83 (c_X7_goes l hl D (hM := hM) (a := bz (isAn j)) (b := bz (room σ)) (c := 1) (by rcases bz_R (isAn j) with h | h <;> omega) (by rcases bz_R (room σ) with h | h <;> omega) (by decide)) (hcl := rfl) (hst := rfl) dX7_anchor_13 (hw := hM.obj) (kk := fun v13 w13 g13 => ?_)
  obtain ⟨rfl, hM⟩ := g13
  have hM : MdR D w0 w13 τ ad F _ op sh (gol (bz (isAn j)) (bz (room σ)) (bz (True))) := hM
  show G _ _ _ _ _ (.int (Z32 (bz (gol (bz (isAn j)) (bz (room σ)) (bz (True)) = 0))) :: _)
  refine i_if_eq C dX7_anchor_16 (tgt := 30) (ha := by rcases bz_R (gol (bz (isAn j)) (bz (room σ)) (bz (True)) = 0) with h | h <;> omega) (kt := fun hB16 => ?_) (kf := fun hB16 => ?_)
  · have hz : gol (bz (isAn j)) (bz (room σ)) (bz (True)) ≠ 0 := bz_z.mp hB16
    have e0 : oAnchor σ j = (gol (bz (isAn j)) (bz (room σ)) (bz (True)), 0, σ) := op3_no hz
    refine i_iconst C dX7_anchor_30 (kk := ?_)
    exact i_iret C (d := dX7_anchor_31) (h := by first | (rw [e0]; exact ⟨rfl, hS, F, _, _, _, hM, hV⟩) | (rw [e0]; exact ⟨rfl, MdI.push hS hV (by assumption) (by unfold PV; dsimp only; omega) (by have h9 := hS.1.2.1.all; unfold dow; simp; omega) hM (by simp [enc]; try omega) (by unfold dow; simp; try omega)⟩))
  · have hz : gol (bz (isAn j)) (bz (room σ)) (bz (True)) = 0 := bz_ne.mp hB16
    obtain ⟨e0, pa, pb, pc3⟩ := op3_yes (σ := σ) (X := opDr σ (1, -1, j)) hz
    have e0 : oAnchor σ j = opDr σ (1, -1, j) := e0
    rw [hz] at hM
    refine i_aload_n C dX7_anchor_19 (kk := ?_)
    refine i_bipush C dX7_anchor_20 (kk := ?_)
    refine i_iload_n C dX7_anchor_22 (kk := ?_)
    refine i_iconst C dX7_anchor_23 (kk := ?_)
    refine i_callV C lk_X7_87 (c_X7_adds l hl D (hM := hM) (a := 6) (b := j) (c := 0) (show (sDr σ).length < 30 from pb)) (hcl := rfl) (hst := rfl) dX7_anchor_24 (hw := hM.obj) (kk := fun v24 w24 g24 => ?_)
    obtain ⟨rfl, hM⟩ := g24
    refine i_goto C dX7_anchor_27 (tgt := 31) (kk := ?_)
    exact i_iret C (d := dX7_anchor_31) (h := by first | (rw [e0]; exact ⟨rfl, hS, F, _, _, _, hM, hV⟩) | (rw [e0]; exact ⟨rfl, MdI.push hS hV (by assumption) (by unfold PV; dsimp only; omega) (by have h9 := hS.1.2.1.all; unfold dow; simp; omega) hM (by simp [enc]; try omega) (by unfold dow; simp; try omega)⟩))

set_option maxRecDepth 100000 in
set_option maxHeartbeats 4000000 in
theorem c_X7_link (l : Launch) (hl : l.stackTraces = false) (D : gD) {w0 w : wW} {τ ad : Nat → Nat} {σ : Sg} {la : Int} {i j : Int} (hI : MdI D w0 w τ ad σ la := by assumption) (hi : inR i := by omega) (hj : inR j := by omega) : CTm l D yX7_link cX7_link 3 (some .int) (rmL 3 0 0) [.ref (ad 5000), .int (Z32 i), .int (Z32 j)] w (fun u w1 => u = some (.int (Z32 (oLink σ i j).2.1)) ∧ MdI D w0 w1 τ ad (oLink σ i j).2.2 (oLink σ i j).1) := by
  refine CTm_of hl false rfl (by rfl) (Nat.le_of_ble_eq_true rfl) (fun h => nomatch h) ?_
  intro G C
  show G 0 0 w [some (.ref (ad 5000)), some (.int (Z32 i)), some (.int (Z32 j))] 0 []
  obtain ⟨hS, F, dn, op, sh, hM, hV⟩ := hI
  obtain ⟨v1, v2, v3, v4, v5⟩ := id hV
  subst v1
  have h30 := hS.1.2.2
  refine i_aload_n C dX7_link_0 (kk := ?_)
  refine i_iload_n C dX7_link_1 (kk := ?_)
  refine i_callS C lk_X7_91 (c_X7_isPage l hl D (v := i)) (hst := rfl) dX7_link_2 (kk := fun v2 w2 g2 => ?_)
  obtain ⟨rfl, q2⟩ := g2
  have q2 := q2.symm
  subst q2
  refine i_iload_n C dX7_link_5 (kk := ?_)
  refine i_iconst C dX7_link_6 (kk := ?_)
  refine i_bipush C dX7_link_7 (kk := ?_)
  refine i_callS C lk_X7_68 (c_X7_in l hl D (v := j) (a := 0) (b := 9)) (hst := rfl) dX7_link_9 (kk := fun v9 w9 g9 => ?_)
  obtain ⟨rfl, q9⟩ := g9
  have q9 := q9.symm
  subst q9
  rw [show bz (0 ≤ j ∧ j ≤ 9) = bz (isAn j) from rfl]
  refine i_aload_n C dX7_link_12 (kk := ?_)
  refine i_callV C lk_X7_79 (c_X7_hasRoom l hl D (hM := hM)) (hcl := rfl) (hst := rfl) dX7_link_13 (hw := hM.obj) (kk := fun v13 w13 g13 => ?_)
  obtain ⟨rfl, q13⟩ := g13
  have q13 := q13.symm
  subst q13
  rw [show bz (((sDr σ).length : Int) < 30) = bz (room σ) by unfold bz room; simp only [Int.ofNat_lt, show ((30 : Int) = ((30 : Nat) : Int)) from rfl]]
  refine i_callV C lk_X7_83 (c_X7_goes l hl D (hM := hM) (a := bz (isPg i)) (b := bz (isAn j)) (c := bz (room σ)) (by rcases bz_R (isPg i) with h | h <;> omega) (by rcases bz_R (isAn j) with h | h <;> omega) (by rcases bz_R (room σ) with h | h <;> omega)) (hcl := rfl) (hst := rfl) dX7_link_16 (hw := hM.obj) (kk := fun v16 w16 g16 => ?_)
  obtain ⟨rfl, hM⟩ := g16
  have hM : MdR D w0 w16 τ ad F _ op sh (gol (bz (isPg i)) (bz (isAn j)) (bz (room σ))) := hM
  show G _ _ _ _ _ (.int (Z32 (bz (gol (bz (isPg i)) (bz (isAn j)) (bz (room σ)) = 0))) :: _)
  refine i_if_eq C dX7_link_19 (tgt := 33) (ha := by rcases bz_R (gol (bz (isPg i)) (bz (isAn j)) (bz (room σ)) = 0) with h | h <;> omega) (kt := fun hB19 => ?_) (kf := fun hB19 => ?_)
  · have hz : gol (bz (isPg i)) (bz (isAn j)) (bz (room σ)) ≠ 0 := bz_z.mp hB19
    have e0 : oLink σ i j = (gol (bz (isPg i)) (bz (isAn j)) (bz (room σ)), 0, σ) := op3_no hz
    refine i_iconst C dX7_link_33 (kk := ?_)
    exact i_iret C (d := dX7_link_34) (h := by first | (rw [e0]; exact ⟨rfl, hS, F, _, _, _, hM, hV⟩) | (rw [e0]; exact ⟨rfl, MdI.push hS hV (by assumption) (by unfold PV; dsimp only; omega) (by have h9 := hS.1.2.1.all; unfold dow; simp; omega) hM (by simp [enc]; try omega) (by unfold dow; simp; try omega)⟩))
  · have hz : gol (bz (isPg i)) (bz (isAn j)) (bz (room σ)) = 0 := bz_ne.mp hB19
    obtain ⟨e0, pa, pb, pc3⟩ := op3_yes (σ := σ) (X := opDr σ (2, i, j)) hz
    have e0 : oLink σ i j = opDr σ (2, i, j) := e0
    rw [hz] at hM
    refine i_aload_n C dX7_link_22 (kk := ?_)
    refine i_bipush C dX7_link_23 (kk := ?_)
    refine i_iload_n C dX7_link_25 (kk := ?_)
    refine i_iload_n C dX7_link_26 (kk := ?_)
    refine i_callV C lk_X7_87 (c_X7_adds l hl D (hM := hM) (a := 7) (b := i) (c := j) (show (sDr σ).length < 30 from pc3)) (hcl := rfl) (hst := rfl) dX7_link_27 (hw := hM.obj) (kk := fun v27 w27 g27 => ?_)
    obtain ⟨rfl, hM⟩ := g27
    refine i_goto C dX7_link_30 (tgt := 34) (kk := ?_)
    exact i_iret C (d := dX7_link_34) (h := by first | (rw [e0]; exact ⟨rfl, hS, F, _, _, _, hM, hV⟩) | (rw [e0]; exact ⟨rfl, MdI.push hS hV (by assumption) (by unfold PV; dsimp only; omega) (by have h9 := hS.1.2.1.all; unfold dow; simp; omega) hM (by simp [enc]; try omega) (by unfold dow; simp; try omega)⟩))

set_option maxRecDepth 100000 in
set_option maxHeartbeats 4000000 in
theorem c_X7_redirect (l : Launch) (hl : l.stackTraces = false) (D : gD) {w0 w : wW} {τ ad : Nat → Nat} {σ : Sg} {la : Int} {i : Int} (hI : MdI D w0 w τ ad σ la := by assumption) (hi : inR i := by omega) : CTm l D yX7_redirect cX7_redirect 2 (some .int) (rmL 3 0 0) [.ref (ad 5000), .int (Z32 i)] w (fun u w1 => u = some (.int (Z32 (oRedirect σ i).2.1)) ∧ MdI D w0 w1 τ ad (oRedirect σ i).2.2 (oRedirect σ i).1) := by
  refine CTm_of hl false rfl (by rfl) (Nat.le_of_ble_eq_true rfl) (fun h => nomatch h) ?_
  intro G C
  show G 0 0 w [some (.ref (ad 5000)), some (.int (Z32 i))] 0 []
  obtain ⟨hS, F, dn, op, sh, hM, hV⟩ := hI
  obtain ⟨v1, v2, v3, v4, v5⟩ := id hV
  subst v1
  have h30 := hS.1.2.2
  refine i_aload_n C dX7_redirect_0 (kk := ?_)
  refine i_iload_n C dX7_redirect_1 (kk := ?_)
  refine i_callS C lk_X7_91 (c_X7_isPage l hl D (v := i)) (hst := rfl) dX7_redirect_2 (kk := fun v2 w2 g2 => ?_)
  obtain ⟨rfl, q2⟩ := g2
  have q2 := q2.symm
  subst q2
  refine i_aload_n C dX7_redirect_5 (kk := ?_)
  refine i_callV C lk_X7_79 (c_X7_hasRoom l hl D (hM := hM)) (hcl := rfl) (hst := rfl) dX7_redirect_6 (hw := hM.obj) (kk := fun v6 w6 g6 => ?_)
  obtain ⟨rfl, q6⟩ := g6
  have q6 := q6.symm
  subst q6
  rw [show bz (((sDr σ).length : Int) < 30) = bz (room σ) by unfold bz room; simp only [Int.ofNat_lt, show ((30 : Int) = ((30 : Nat) : Int)) from rfl]]
  refine i_iconst C dX7_redirect_9 (kk := ?_)
  refine i_callV C lk_X7_83 (c_X7_goes l hl D (hM := hM) (a := bz (isPg i)) (b := bz (room σ)) (c := 1) (by rcases bz_R (isPg i) with h | h <;> omega) (by rcases bz_R (room σ) with h | h <;> omega) (by decide)) (hcl := rfl) (hst := rfl) dX7_redirect_10 (hw := hM.obj) (kk := fun v10 w10 g10 => ?_)
  obtain ⟨rfl, hM⟩ := g10
  have hM : MdR D w0 w10 τ ad F _ op sh (gol (bz (isPg i)) (bz (room σ)) (bz (True))) := hM
  show G _ _ _ _ _ (.int (Z32 (bz (gol (bz (isPg i)) (bz (room σ)) (bz (True)) = 0))) :: _)
  refine i_if_eq C dX7_redirect_13 (tgt := 27) (ha := by rcases bz_R (gol (bz (isPg i)) (bz (room σ)) (bz (True)) = 0) with h | h <;> omega) (kt := fun hB13 => ?_) (kf := fun hB13 => ?_)
  · have hz : gol (bz (isPg i)) (bz (room σ)) (bz (True)) ≠ 0 := bz_z.mp hB13
    have e0 : oRedirect σ i = (gol (bz (isPg i)) (bz (room σ)) (bz (True)), 0, σ) := op3_no hz
    refine i_iconst C dX7_redirect_27 (kk := ?_)
    exact i_iret C (d := dX7_redirect_28) (h := by first | (rw [e0]; exact ⟨rfl, hS, F, _, _, _, hM, hV⟩) | (rw [e0]; exact ⟨rfl, MdI.push hS hV (by assumption) (by unfold PV; dsimp only; omega) (by have h9 := hS.1.2.1.all; unfold dow; simp; omega) hM (by simp [enc]; try omega) (by unfold dow; simp; try omega)⟩))
  · have hz : gol (bz (isPg i)) (bz (room σ)) (bz (True)) = 0 := bz_ne.mp hB13
    obtain ⟨e0, pa, pb, pc3⟩ := op3_yes (σ := σ) (X := opDr σ (8, i, -1)) hz
    have e0 : oRedirect σ i = opDr σ (8, i, -1) := e0
    rw [hz] at hM
    refine i_aload_n C dX7_redirect_16 (kk := ?_)
    refine i_bipush C dX7_redirect_17 (kk := ?_)
    refine i_iload_n C dX7_redirect_19 (kk := ?_)
    refine i_iconst C dX7_redirect_20 (kk := ?_)
    refine i_callV C lk_X7_87 (c_X7_adds l hl D (hM := hM) (a := 8) (b := i) (c := 0) (show (sDr σ).length < 30 from pb)) (hcl := rfl) (hst := rfl) dX7_redirect_21 (hw := hM.obj) (kk := fun v21 w21 g21 => ?_)
    obtain ⟨rfl, hM⟩ := g21
    refine i_goto C dX7_redirect_24 (tgt := 28) (kk := ?_)
    exact i_iret C (d := dX7_redirect_28) (h := by first | (rw [e0]; exact ⟨rfl, hS, F, _, _, _, hM, hV⟩) | (rw [e0]; exact ⟨rfl, MdI.push hS hV (by assumption) (by unfold PV; dsimp only; omega) (by have h9 := hS.1.2.1.all; unfold dow; simp; omega) hM (by simp [enc]; try omega) (by unfold dow; simp; try omega)⟩))
