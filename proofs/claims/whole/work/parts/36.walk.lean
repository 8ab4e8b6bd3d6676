set_option maxRecDepth 100000 in
set_option maxHeartbeats 4000000 in
theorem cw6_X6_walkPage (l : Launch) (hl : l.stackTraces = false) (D : gD) {w : wW} {τ ad : Nat → Nat} {nb tb : Nat} {σ : Sg} {a p : Nat} {arg : Int} {st : Int × Int} (hW : WkI D w τ ad nb tb σ := by assumption) (hA : w a = some (wkO st)) (hτ : 2260 ≤ τ a) (hp : p < 12) (hst : -1 ≤ st.1 ∧ st.1 ≤ 2147483647) (harg : -1 ≤ arg ∧ arg ≤ 25) : CTm l D yX6_walkPage cX6_walkPage 9 none (rmL 4 0 0) [.ref (ad 0), .ref a, .int (Z32 (p : Int)), .int (Z32 arg), .int (Z32 6)] w (fun u w1 => u = none ∧ w1 a = some (wkO (wpN (sT σ) 0 p arg st)) ∧ offR τ w w1 (τ a) (τ a + 1)) := by
  refine CTm_of hl false rfl (by rfl) (Nat.le_of_ble_eq_true rfl) (fun h => nomatch h) ?_
  intro G C
  show G 0 0 w [some (.ref (ad 0)), some (.ref a), some (.int (Z32 (p : Int))), some (.int (Z32 arg)), some (.int (Z32 6)), none, none, none, none] 0 []
  refine i_iload C dX6_walkPage_0 (kk := ?_)
  refine i_iconst C dX6_walkPage_2 (kk := ?_)
  refine i_icmp_gt C dX6_walkPage_3 (tgt := 17) (kt := fun hB3 => ?_) (kf := fun hB3 => ?_)
  · exact i_vret C (d := dX6_walkPage_17) (h := ⟨rfl, hA, offR.rf⟩)
  · exfalso; omega

set_option maxRecDepth 100000 in
set_option maxHeartbeats 4000000 in
theorem cp5_X6_walkPiece (l : Launch) (hl : l.stackTraces = false) (D : gD) {w : wW} {τ ad : Nat → Nat} {nb tb : Nat} {σ : Sg} {a r2 t ta te tc i : Nat} {ps : List Pc3} {arg : Int} {st : Int × Int} (hW : WkI D w τ ad nb tb σ := by assumption) (hA : w a = some (wkO st)) (hτ : 2260 ≤ τ a) (hT : TxT D w τ r2 t ta te tc ps) (hi : i < ps.length) (hst : 0 ≤ st.1 ∧ st.1 ≤ 2147483647) (harg : -1 ≤ arg ∧ arg ≤ 25) : CTm l D yX6_walkPiece cX6_walkPiece 6 none (rmL 5 0 0) [.ref (ad 0), .ref a, .ref t, .int (Z32 (i : Int)), .int (Z32 arg), .int (Z32 5)] w (fun u w1 => u = none ∧ w1 a = some (wkO (wpc (wpN (sT σ) 0) arg st (pcs ps i))) ∧ offR τ w w1 (τ a) (τ a + 1)) := by
  refine CTm_of hl false rfl (by rfl) (Nat.le_of_ble_eq_true rfl) (fun h => nomatch h) ?_
  intro G C
  show G 0 0 w [some (.ref (ad 0)), some (.ref a), some (.ref t), some (.int (Z32 (i : Int))), some (.int (Z32 arg)), some (.int (Z32 5))] 0 []
  have hv := hT.2.2.2.2.2.2.2.1 _ (pcs_mem hi)
  have hvR := hv.R
  refine i_aload_n C dX6_walkPiece_0 (kk := ?_)
  refine i_iload_n C dX6_walkPiece_1 (kk := ?_)
  refine i_callV C lk_X6_261 (c_X3_sortOf l hl D (hT := hT) (i := i)) (hcl := rfl) (hst := rfl) dX6_walkPiece_2 (hw := hT.2.2.2.2.1) (kk := fun v2 w2 g2 => ?_)
  obtain ⟨rfl, q2⟩ := g2
  have q2 := q2.symm
  subst q2
  rcases (show (pcs ps i).1 = 0 ∨ (pcs ps i).1 = 1 ∨ (pcs ps i).1 = 2 ∨ (pcs ps i).1 = 3 ∨ (pcs ps i).1 = 4 ∨ (pcs ps i).1 = 5 ∨ (pcs ps i).1 = 6 ∨ (pcs ps i).1 = 7 ∨ (pcs ps i).1 = 8 by omega) with hs | hs | hs | hs | hs | hs | hs | hs | hs
  · rw [hs]
    refine i_tableIn C dX6_walkPiece_5 (tgt := 100) (ha := by decide) (h1 := by decide) (h2 := by decide) (ho := rfl) (ht := by decide) (kk := ?_)
    refine i_aload_n C dX6_walkPiece_100 (kk := ?_)
    refine i_aload_n C dX6_walkPiece_101 (kk := ?_)
    refine i_iload_n C dX6_walkPiece_102 (kk := ?_)
    refine i_callV C lk_X6_287 (c_X3_itemOf l hl D (hT := hT) (i := i)) (hcl := rfl) (hst := rfl) dX6_walkPiece_103 (hw := hT.2.2.2.2.1) (kk := fun v103 w103 g103 => ?_)
    obtain ⟨rfl, q103⟩ := g103
    have q103 := q103.symm
    subst q103
    show G _ _ _ _ _ (.int (Z32 (pItem (pcs ps i))) :: _)
    refine i_callV C lk_X6_300 (c_X5_meet l hl D (hw := hA)) (hcl := rfl) (hst := rfl) dX6_walkPiece_106 (hw := hA) (kk := fun v106 w106 g106 => ?_)
    obtain ⟨rfl, rfl⟩ := g106
    refine i_goto C dX6_walkPiece_109 (tgt := 112) (kk := ?_)
    exact i_vret C (d := dX6_walkPiece_112) (h := by first | exact ⟨rfl, by unfold wpc; simp [hs]; exact hA, offR.rf⟩ | exact ⟨rfl, by unfold wpc; simp [hs, hB88]; exact hA, offR.rf⟩ | exact ⟨rfl, by rw [wset_eq]; unfold wpc; simp [hs]; rfl, offR.rf.put (by omega) (by omega)⟩ | exact ⟨rfl, by rw [wset_eq]; unfold wpc; simp [hs, hB88]; rfl, offR.rf.put (by omega) (by omega)⟩ | exact ⟨rfl, by unfold wpc; simp [hs, hqe]; exact a1, a2⟩)
  · rw [hs]
    refine i_tableIn C dX6_walkPiece_5 (tgt := 100) (ha := by decide) (h1 := by decide) (h2 := by decide) (ho := rfl) (ht := by decide) (kk := ?_)
    refine i_aload_n C dX6_walkPiece_100 (kk := ?_)
    refine i_aload_n C dX6_walkPiece_101 (kk := ?_)
    refine i_iload_n C dX6_walkPiece_102 (kk := ?_)
    refine i_callV C lk_X6_287 (c_X3_itemOf l hl D (hT := hT) (i := i)) (hcl := rfl) (hst := rfl) dX6_walkPiece_103 (hw := hT.2.2.2.2.1) (kk := fun v103 w103 g103 => ?_)
    obtain ⟨rfl, q103⟩ := g103
    have q103 := q103.symm
    subst q103
    show G _ _ _ _ _ (.int (Z32 (pItem (pcs ps i))) :: _)
    refine i_callV C lk_X6_300 (c_X5_meet l hl D (hw := hA)) (hcl := rfl) (hst := rfl) dX6_walkPiece_106 (hw := hA) (kk := fun v106 w106 g106 => ?_)
    obtain ⟨rfl, rfl⟩ := g106
    refine i_goto C dX6_walkPiece_109 (tgt := 112) (kk := ?_)
    exact i_vret C (d := dX6_walkPiece_112) (h := by first | exact ⟨rfl, by unfold wpc; simp [hs]; exact hA, offR.rf⟩ | exact ⟨rfl, by unfold wpc; simp [hs, hB88]; exact hA, offR.rf⟩ | exact ⟨rfl, by rw [wset_eq]; unfold wpc; simp [hs]; rfl, offR.rf.put (by omega) (by omega)⟩ | exact ⟨rfl, by rw [wset_eq]; unfold wpc; simp [hs, hB88]; rfl, offR.rf.put (by omega) (by omega)⟩ | exact ⟨rfl, by unfold wpc; simp [hs, hqe]; exact a1, a2⟩)
  · rw [hs]
    refine i_tableIn C dX6_walkPiece_5 (tgt := 100) (ha := by decide) (h1 := by decide) (h2 := by decide) (ho := rfl) (ht := by decide) (kk := ?_)
    refine i_aload_n C dX6_walkPiece_100 (kk := ?_)
    refine i_aload_n C dX6_walkPiece_101 (kk := ?_)
    refine i_iload_n C dX6_walkPiece_102 (kk := ?_)
    refine i_callV C lk_X6_287 (c_X3_itemOf l hl D (hT := hT) (i := i)) (hcl := rfl) (hst := rfl) dX6_walkPiece_103 (hw := hT.2.2.2.2.1) (kk := fun v103 w103 g103 => ?_)
    obtain ⟨rfl, q103⟩ := g103
    have q103 := q103.symm
    subst q103
    show G _ _ _ _ _ (.int (Z32 (pItem (pcs ps i))) :: _)
    refine i_callV C lk_X6_300 (c_X5_meet l hl D (hw := hA)) (hcl := rfl) (hst := rfl) dX6_walkPiece_106 (hw := hA) (kk := fun v106 w106 g106 => ?_)
    obtain ⟨rfl, rfl⟩ := g106
    refine i_goto C dX6_walkPiece_109 (tgt := 112) (kk := ?_)
    exact i_vret C (d := dX6_walkPiece_112) (h := by first | exact ⟨rfl, by unfold wpc; simp [hs]; exact hA, offR.rf⟩ | exact ⟨rfl, by unfold wpc; simp [hs, hB88]; exact hA, offR.rf⟩ | exact ⟨rfl, by rw [wset_eq]; unfold wpc; simp [hs]; rfl, offR.rf.put (by omega) (by omega)⟩ | exact ⟨rfl, by rw [wset_eq]; unfold wpc; simp [hs, hB88]; rfl, offR.rf.put (by omega) (by omega)⟩ | exact ⟨rfl, by unfold wpc; simp [hs, hqe]; exact a1, a2⟩)
  · rw [hs]
    refine i_tableIn C dX6_walkPiece_5 (tgt := 85) (ha := by decide) (h1 := by decide) (h2 := by decide) (ho := rfl) (ht := by decide) (kk := ?_)
    refine i_iload C dX6_walkPiece_85 (kk := ?_)
    refine i_iconst C dX6_walkPiece_87 (kk := ?_)
    refine i_icmp_eq C dX6_walkPiece_88 (tgt := 112) (kt := fun hB88 => ?_) (kf := fun hB88 => ?_)
    · exact i_vret C (d := dX6_walkPiece_112) (h := by first | exact ⟨rfl, by unfold wpc; simp [hs]; exact hA, offR.rf⟩ | exact ⟨rfl, by unfold wpc; simp [hs, hB88]; exact hA, offR.rf⟩ | exact ⟨rfl, by rw [wset_eq]; unfold wpc; simp [hs]; rfl, offR.rf.put (by omega) (by omega)⟩ | exact ⟨rfl, by rw [wset_eq]; unfold wpc; simp [hs, hB88]; rfl, offR.rf.put (by omega) (by omega)⟩ | exact ⟨rfl, by unfold wpc; simp [hs, hqe]; exact a1, a2⟩)
    · refine i_aload_n C dX6_walkPiece_91 (kk := ?_)
      refine i_iload C dX6_walkPiece_92 (kk := ?_)
      refine i_callV C lk_X6_300 (c_X5_meet l hl D (hw := hA)) (hcl := rfl) (hst := rfl) dX6_walkPiece_94 (hw := hA) (kk := fun v94 w94 g94 => ?_)
      obtain ⟨rfl, rfl⟩ := g94
      refine i_goto C dX6_walkPiece_97 (tgt := 112) (kk := ?_)
      exact i_vret C (d := dX6_walkPiece_112) (h := by first | exact ⟨rfl, by unfold wpc; simp [hs]; exact hA, offR.rf⟩ | exact ⟨rfl, by unfold wpc; simp [hs, hB88]; exact hA, offR.rf⟩ | exact ⟨rfl, by rw [wset_eq]; unfold wpc; simp [hs]; rfl, offR.rf.put (by omega) (by omega)⟩ | exact ⟨rfl, by rw [wset_eq]; unfold wpc; simp [hs, hB88]; rfl, offR.rf.put (by omega) (by omega)⟩ | exact ⟨rfl, by unfold wpc; simp [hs, hqe]; exact a1, a2⟩)
  · rw [hs]
    refine i_tableIn C dX6_walkPiece_5 (tgt := 44) (ha := by decide) (h1 := by decide) (h2 := by decide) (ho := rfl) (ht := by decide) (kk := ?_)
    refine i_aload_n C dX6_walkPiece_44 (kk := ?_)
    refine i_aload_n C dX6_walkPiece_45 (kk := ?_)
    refine i_aload_n C dX6_walkPiece_46 (kk := ?_)
    refine i_iload_n C dX6_walkPiece_47 (kk := ?_)
    refine i_callV C lk_X6_273 (c_X3_pageOf l hl D (hT := hT) (i := i)) (hcl := rfl) (hst := rfl) dX6_walkPiece_48 (hw := hT.2.2.2.2.1) (kk := fun v48 w48 g48 => ?_)
    obtain ⟨rfl, q48⟩ := g48
    have q48 := q48.symm
    subst q48
    obtain ⟨q, hqe⟩ : ∃ q : Nat, (pcs ps i).2.1 = q := ⟨(pcs ps i).2.1.toNat, by unfold PV at hv; omega⟩
    have hq12 : q < 12 := by unfold PV at hv; omega
    rw [hqe]
    refine i_aload_n C dX6_walkPiece_51 (kk := ?_)
    refine i_iload_n C dX6_walkPiece_52 (kk := ?_)
    refine i_callV C lk_X6_264 (c_X3_signOf l hl D (hT := hT) (i := i)) (hcl := rfl) (hst := rfl) dX6_walkPiece_53 (hw := hT.2.2.2.2.1) (kk := fun v53 w53 g53 => ?_)
    obtain ⟨rfl, q53⟩ := g53
    have q53 := q53.symm
    subst q53
    refine i_iload C dX6_walkPiece_56 (kk := ?_)
    refine i_iconst C dX6_walkPiece_58 (kk := ?_)
    refine i_iadd C dX6_walkPiece_59 (kk := ?_)
    refine i_callV C lk_X6_153 (cw6_X6_walkPage l hl D (hW := hW) hA hτ hq12 (by omega) (by unfold PV at hv; omega)) (hcl := rfl) (hst := rfl) dX6_walkPiece_60 (hw := hW.obj) (kk := fun v60 w60 g60 => ?_)
    obtain ⟨rfl, a1, a2⟩ := g60
    refine i_goto C dX6_walkPiece_63 (tgt := 112) (kk := ?_)
    exact i_vret C (d := dX6_walkPiece_112) (h := by first | exact ⟨rfl, by unfold wpc; simp [hs]; exact hA, offR.rf⟩ | exact ⟨rfl, by unfold wpc; simp [hs, hB88]; exact hA, offR.rf⟩ | exact ⟨rfl, by rw [wset_eq]; unfold wpc; simp [hs]; rfl, offR.rf.put (by omega) (by omega)⟩ | exact ⟨rfl, by rw [wset_eq]; unfold wpc; simp [hs, hB88]; rfl, offR.rf.put (by omega) (by omega)⟩ | exact ⟨rfl, by unfold wpc; simp [hs, hqe]; exact a1, a2⟩)
  · rw [hs]
    refine i_tableIn C dX6_walkPiece_5 (tgt := 66) (ha := by decide) (h1 := by decide) (h2 := by decide) (ho := rfl) (ht := by decide) (kk := ?_)
    refine i_aload_n C dX6_walkPiece_66 (kk := ?_)
    refine i_aload_n C dX6_walkPiece_67 (kk := ?_)
    refine i_aload_n C dX6_walkPiece_68 (kk := ?_)
    refine i_iload_n C dX6_walkPiece_69 (kk := ?_)
    refine i_callV C lk_X6_273 (c_X3_pageOf l hl D (hT := hT) (i := i)) (hcl := rfl) (hst := rfl) dX6_walkPiece_70 (hw := hT.2.2.2.2.1) (kk := fun v70 w70 g70 => ?_)
    obtain ⟨rfl, q70⟩ := g70
    have q70 := q70.symm
    subst q70
    obtain ⟨q, hqe⟩ : ∃ q : Nat, (pcs ps i).2.1 = q := ⟨(pcs ps i).2.1.toNat, by unfold PV at hv; omega⟩
    have hq12 : q < 12 := by unfold PV at hv; omega
    rw [hqe]
    refine i_iload C dX6_walkPiece_73 (kk := ?_)
    refine i_iload C dX6_walkPiece_75 (kk := ?_)
    refine i_iconst C dX6_walkPiece_77 (kk := ?_)
    refine i_iadd C dX6_walkPiece_78 (kk := ?_)
    refine i_callV C lk_X6_153 (cw6_X6_walkPage l hl D (hW := hW) hA hτ hq12 (by omega) harg) (hcl := rfl) (hst := rfl) dX6_walkPiece_79 (hw := hW.obj) (kk := fun v79 w79 g79 => ?_)
    obtain ⟨rfl, a1, a2⟩ := g79
    refine i_goto C dX6_walkPiece_82 (tgt := 112) (kk := ?_)
    exact i_vret C (d := dX6_walkPiece_112) (h := by first | exact ⟨rfl, by unfold wpc; simp [hs]; exact hA, offR.rf⟩ | exact ⟨rfl, by unfold wpc; simp [hs, hB88]; exact hA, offR.rf⟩ | exact ⟨rfl, by rw [wset_eq]; unfold wpc; simp [hs]; rfl, offR.rf.put (by omega) (by omega)⟩ | exact ⟨rfl, by rw [wset_eq]; unfold wpc; simp [hs, hB88]; rfl, offR.rf.put (by omega) (by omega)⟩ | exact ⟨rfl, by unfold wpc; simp [hs, hqe]; exact a1, a2⟩)
  · rw [hs]
    refine i_tableOut C dX6_walkPiece_5 (tgt := 112) (ha := by decide) (h1 := by decide) (ht := by decide) (kk := ?_)
    exact i_vret C (d := dX6_walkPiece_112) (h := by first | exact ⟨rfl, by unfold wpc; simp [hs]; exact hA, offR.rf⟩ | exact ⟨rfl, by unfold wpc; simp [hs, hB88]; exact hA, offR.rf⟩ | exact ⟨rfl, by rw [wset_eq]; unfold wpc; simp [hs]; rfl, offR.rf.put (by omega) (by omega)⟩ | exact ⟨rfl, by rw [wset_eq]; unfold wpc; simp [hs, hB88]; rfl, offR.rf.put (by omega) (by omega)⟩ | exact ⟨rfl, by unfold wpc; simp [hs, hqe]; exact a1, a2⟩)
  · rw [hs]
    refine i_tableOut C dX6_walkPiece_5 (tgt := 112) (ha := by decide) (h1 := by decide) (ht := by decide) (kk := ?_)
    exact i_vret C (d := dX6_walkPiece_112) (h := by first | exact ⟨rfl, by unfold wpc; simp [hs]; exact hA, offR.rf⟩ | exact ⟨rfl, by unfold wpc; simp [hs, hB88]; exact hA, offR.rf⟩ | exact ⟨rfl, by rw [wset_eq]; unfold wpc; simp [hs]; rfl, offR.rf.put (by omega) (by omega)⟩ | exact ⟨rfl, by rw [wset_eq]; unfold wpc; simp [hs, hB88]; rfl, offR.rf.put (by omega) (by omega)⟩ | exact ⟨rfl, by unfold wpc; simp [hs, hqe]; exact a1, a2⟩)
  · rw [hs]
    refine i_tableOut C dX6_walkPiece_5 (tgt := 112) (ha := by decide) (h1 := by decide) (ht := by decide) (kk := ?_)
    exact i_vret C (d := dX6_walkPiece_112) (h := by first | exact ⟨rfl, by unfold wpc; simp [hs]; exact hA, offR.rf⟩ | exact ⟨rfl, by unfold wpc; simp [hs, hB88]; exact hA, offR.rf⟩ | exact ⟨rfl, by rw [wset_eq]; unfold wpc; simp [hs]; rfl, offR.rf.put (by omega) (by omega)⟩ | exact ⟨rfl, by rw [wset_eq]; unfold wpc; simp [hs, hB88]; rfl, offR.rf.put (by omega) (by omega)⟩ | exact ⟨rfl, by unfold wpc; simp [hs, hqe]; exact a1, a2⟩)

set_option maxRecDepth 100000 in
set_option maxHeartbeats 4000000 in
theorem cw5_X6_walkPage (l : Launch) (hl : l.stackTraces = false) (D : gD) {w : wW} {τ ad : Nat → Nat} {nb tb : Nat} {σ : Sg} {a p : Nat} {arg : Int} {st : Int × Int} (hW : WkI D w τ ad nb tb σ := by assumption) (hA : w a = some (wkO st)) (hτ : 2260 ≤ τ a) (hp : p < 12) (hst : -1 ≤ st.1 ∧ st.1 ≤ 2147483647) (harg : -1 ≤ arg ∧ arg ≤ 25) : CTm l D yX6_walkPage cX6_walkPage 9 none (rmL 6 0 0) [.ref (ad 0), .ref a, .int (Z32 (p : Int)), .int (Z32 arg), .int (Z32 5)] w (fun u w1 => u = none ∧ w1 a = some (wkO (wpN (sT σ) 1 p arg st)) ∧ offR τ w w1 (τ a) (τ a + 1)) := by
  refine CTm_of hl false rfl (by rfl) (Nat.le_of_ble_eq_true rfl) (fun h => nomatch h) ?_
  intro G C
  show G 0 0 w [some (.ref (ad 0)), some (.ref a), some (.int (Z32 (p : Int))), some (.int (Z32 arg)), some (.int (Z32 5)), none, none, none, none] 0 []
  refine i_iload C dX6_walkPage_0 (kk := ?_)
  refine i_iconst C dX6_walkPage_2 (kk := ?_)
  refine i_icmp_gt C dX6_walkPage_3 (tgt := 17) (kt := fun hB3 => ?_) (kf := fun hB3 => ?_)
  · exfalso; omega
  · refine i_aload_n C dX6_walkPage_6 (kk := ?_)
    obtain ⟨hb9, -, ⟨fc, fo, fr, fd, fx, kN, kO9⟩, -⟩ := hW.2.1
    have hx9 := (kO9 p hp).2.2.2
    have hx5 := (hW.1.2.1 p hp).2.2.2.1
    have h30 := (hW.txt hp).2.2.2.2.2.1
    refine i_getf C f_X6_23 dX6_walkPage_7 (hw := hW.obj) (kk := ?_)
    refine i_iload_n C dX6_walkPage_10 (kk := ?_)
    refine i_callV C lk_X6_126 (c_X0_extentOf l hl D (hN := kN) (p := p)) (hcl := rfl) (hst := rfl) dX6_walkPage_11 (hw := kN.2.2.2.2.2.2.1) (kk := fun v11 w11 g11 => ?_)
    obtain ⟨rfl, q11⟩ := g11
    have q11 := q11.symm
    subst q11
    refine i_if_ne C dX6_walkPage_14 (tgt := 18) (kt := fun hB14 => ?_) (kf := fun hB14 => ?_)
    · have e4 : wpN (sT σ) 1 p arg st = (wtx (wpN (sT σ) 0) arg st (sT σ p)).2 := if_neg (by omega)
      refine i_aload_n C dX6_walkPage_18 (kk := ?_)
      refine i_iload_n C dX6_walkPage_19 (kk := ?_)
      refine i_callV C lk_X6_67 (c_X6_pageAt l hl D (hW := hW) (p := p)) (hcl := rfl) (hst := rfl) dX6_walkPage_20 (hw := hW.obj) (kk := fun v20 w20 g20 => ?_)
      obtain ⟨rfl, q20⟩ := g20
      have q20 := q20.symm
      subst q20
      refine i_getf C f_X6_73 dX6_walkPage_23 (hw := hW.page hp) (kk := ?_)
      refine i_getf C f_X6_113 dX6_walkPage_26 (hw := hW.ver hp) (kk := ?_)
      refine i_astore C dX6_walkPage_29 (kk := ?_)
      refine i_iconst C dX6_walkPage_31 (kk := ?_)
      refine i_istore C dX6_walkPage_32 (kk := ?_)
      refine i_iconst C dX6_walkPage_34 (kk := ?_)
      refine i_istore C dX6_walkPage_35 (kk := ?_)
      have lp : ∀ (m i : Nat) (w1 : wW) (s : Nat) (st1 : Int × Int) (o9 : Option Value), (sT σ p).length + 1 ≤ m + i → i ≤ (sT σ p).length → wtx (wpN (sT σ) 0) arg st ((sT σ p).take i) = (s, st1) → s ≤ i → w1 a = some (wkO st1) → offR τ w w1 (τ a) (τ a + 1) → G 0 0 w1 [some (.ref (ad 0)), some (.ref a), some (.int (Z32 (p : Int))), some (.int (Z32 arg)), some (.int (Z32 5)), some (.ref (ad (vr p (sNv σ p) + 1))), some (.int (Z32 (s : Int))), some (.int (Z32 (i : Int))), o9] 37 [] := by
        intro m
        induction m with
        | zero => intro i w1 s st1 o9 h1 h2; omega
        | succ m ih =>
        intro i w1 s st1 o9 h1 h2 hE hs hA1 kO1
        have hW1 := hW.far kO1 hτ
        have hSR := wtx_R (wpN_R (T := sT σ) 0) (arg := arg) hst ((sT σ p).take i)
        rw [hE] at hSR
        have hSR : -1 ≤ st1.1 ∧ st1.1 ≤ 2147483647 := hSR
        refine i_iload C dX6_walkPage_37 (kk := ?_)
        refine i_aload C dX6_walkPage_39 (kk := ?_)
        refine i_getf C f_X6_208 dX6_walkPage_41 (hw := (hW1.txt hp).2.2.2.2.1) (kk := ?_)
        refine i_icmp_ge C dX6_walkPage_44 (tgt := 133) (kt := fun hB44 => ?_) (kf := fun hB44 => ?_)
        · have e3 : (wtx (wpN (sT σ) 0) arg st (sT σ p)) = (s, st1) := by rw [← hE, List.take_of_length_le (by omega)]
          exact i_vret C (d := dX6_walkPage_133) (h := ⟨rfl, by rw [e4, e3]; exact hA1, kO1⟩)
        · refine i_aload_n C dX6_walkPage_47 (kk := ?_)
          refine i_callV C lk_X6_293 (c_X5_isOver l hl D (hw := hA1)) (hcl := rfl) (hst := rfl) dX6_walkPage_48 (hw := hA1) (kk := fun v48 w48 g48 => ?_)
          obtain ⟨rfl, q48⟩ := g48
          have q48 := q48.symm
          subst q48
          refine i_if_ne C dX6_walkPage_51 (tgt := 133) (ha := by split <;> decide) (kt := fun hB51 => ?_) (kf := fun hB51 => ?_)
          · have e8 : st1.1 < 0 := by apply Decidable.byContradiction; intro q; rw [if_neg q] at hB51; exact hB51 rfl
            have e3 : (wtx (wpN (sT σ) 0) arg st (sT σ p)) = (s, st1) := by rw [wtx_over (i := i) (by rw [hE]; exact e8), hE]
            exact i_vret C (d := dX6_walkPage_133) (h := ⟨rfl, by rw [e4, e3]; exact hA1, kO1⟩)
          · have e8 : ¬ st1.1 < 0 := by intro q; rw [if_pos q] at hB51; omega
            have e9 : wtx (wpN (sT σ) 0) arg st ((sT σ p).take (i + 1)) = wst (wpN (sT σ) 0) arg (s, st1) (pcs (sT σ p) i) := by rw [wtx_take (by omega), hE]
            have hv := (hW1.txt hp).2.2.2.2.2.2.2.1 _ (pcs_mem (i := i) (by omega))
            have hvR := hv.R
            refine i_aload C dX6_walkPage_54 (kk := ?_)
            refine i_iload C dX6_walkPage_56 (kk := ?_)
            refine i_callV C lk_X6_261 (c_X3_sortOf l hl D (hT := hW1.txt hp) (i := i)) (hcl := rfl) (hst := rfl) dX6_walkPage_58 (hw := (hW1.txt hp).2.2.2.2.1) (kk := fun v58 w58 g58 => ?_)
            obtain ⟨rfl, q58⟩ := g58
            have q58 := q58.symm
            subst q58
            refine i_istore C dX6_walkPage_61 (kk := ?_)
            refine i_iload C dX6_walkPage_63 (kk := ?_)
            refine i_bipush C dX6_walkPage_65 (kk := ?_)
            refine i_icmp_ne C dX6_walkPage_67 (tgt := 92) (kt := fun hB67 => ?_) (kf := fun hB67 => ?_)
            · refine i_iload C dX6_walkPage_92 (kk := ?_)
              refine i_bipush C dX6_walkPage_94 (kk := ?_)
              refine i_icmp_ne C dX6_walkPage_96 (tgt := 110) (kt := fun hB96 => ?_) (kf := fun hB96 => ?_)
              · refine i_iload C dX6_walkPage_110 (kk := ?_)
                refine i_if_ne C dX6_walkPage_112 (tgt := 127) (kt := fun hB112 => ?_) (kf := fun hB112 => ?_)
                · have e5 : wtx (wpN (sT σ) 0) arg st ((sT σ p).take (i + 1)) = (s, st1) := by rw [e9]; unfold wst; dsimp only; rw [if_neg e8, if_neg (by omega), if_neg (by omega), if_neg (by omega)]
                  have hs5 : s ≤ i + 1 := by omega
                  refine i_iinc C dX6_walkPage_127 (kk := ?_)
                  refine i_goto C dX6_walkPage_130 (tgt := 37) (kk := ?_)
                  first | exact ih (i + 1) _ _ _ _ (by omega) (by omega) e5 hs5 hA2 kO2 | exact ih (i + 1) _ _ _ _ (by omega) (by omega) e5 hs5 hA1 kO1
                · refine i_aload_n C dX6_walkPage_115 (kk := ?_)
                  refine i_aload_n C dX6_walkPage_116 (kk := ?_)
                  refine i_aload C dX6_walkPage_117 (kk := ?_)
                  refine i_iload C dX6_walkPage_119 (kk := ?_)
                  refine i_iload_n C dX6_walkPage_121 (kk := ?_)
                  refine i_iload C dX6_walkPage_122 (kk := ?_)
                  refine i_callV C lk_X6_296 (cp5_X6_walkPiece l hl D (hW := hW1) hA1 hτ (hT := hW1.txt hp) (i := i) (by omega) (by omega) harg) (hcl := rfl) (hst := rfl) dX6_walkPage_124 (hw := hW1.obj) (kk := fun v124 w124 g124 => ?_)
                  obtain ⟨rfl, hA2, o2⟩ := g124
                  have kO2 := kO1.trans o2
                  have e5 : wtx (wpN (sT σ) 0) arg st ((sT σ p).take (i + 1)) = (s, wpc (wpN (sT σ) 0) arg st1 (pcs (sT σ p) i)) := by rw [e9]; unfold wst; dsimp only; rw [if_neg e8, if_neg (by omega), if_neg (by omega), if_pos (by omega)]
                  have hs5 : s ≤ i + 1 := by omega
                  refine i_iinc C dX6_walkPage_127 (kk := ?_)
                  refine i_goto C dX6_walkPage_130 (tgt := 37) (kk := ?_)
                  first | exact ih (i + 1) _ _ _ _ (by omega) (by omega) e5 hs5 hA2 kO2 | exact ih (i + 1) _ _ _ _ (by omega) (by omega) e5 hs5 hA1 kO1
              · refine i_iload C dX6_walkPage_99 (kk := ?_)
                refine i_if_le C dX6_walkPage_101 (tgt := 110) (kt := fun hB101 => ?_) (kf := fun hB101 => ?_)
                · refine i_iload C dX6_walkPage_110 (kk := ?_)
                  refine i_if_ne C dX6_walkPage_112 (tgt := 127) (kt := fun hB112 => ?_) (kf := fun hB112 => ?_)
                  · have e5 : wtx (wpN (sT σ) 0) arg st ((sT σ p).take (i + 1)) = (s, st1) := by rw [e9]; unfold wst; dsimp only; rw [if_neg e8, if_neg (by omega), if_neg (by omega), if_neg (by omega)]
                    have hs5 : s ≤ i + 1 := by omega
                    refine i_iinc C dX6_walkPage_127 (kk := ?_)
                    refine i_goto C dX6_walkPage_130 (tgt := 37) (kk := ?_)
                    first | exact ih (i + 1) _ _ _ _ (by omega) (by omega) e5 hs5 hA2 kO2 | exact ih (i + 1) _ _ _ _ (by omega) (by omega) e5 hs5 hA1 kO1
                  · refine i_aload_n C dX6_walkPage_115 (kk := ?_)
                    refine i_aload_n C dX6_walkPage_116 (kk := ?_)
                    refine i_aload C dX6_walkPage_117 (kk := ?_)
                    refine i_iload C dX6_walkPage_119 (kk := ?_)
                    refine i_iload_n C dX6_walkPage_121 (kk := ?_)
                    refine i_iload C dX6_walkPage_122 (kk := ?_)
                    refine i_callV C lk_X6_296 (cp5_X6_walkPiece l hl D (hW := hW1) hA1 hτ (hT := hW1.txt hp) (i := i) (by omega) (by omega) harg) (hcl := rfl) (hst := rfl) dX6_walkPage_124 (hw := hW1.obj) (kk := fun v124 w124 g124 => ?_)
                    obtain ⟨rfl, hA2, o2⟩ := g124
                    have kO2 := kO1.trans o2
                    have e5 : wtx (wpN (sT σ) 0) arg st ((sT σ p).take (i + 1)) = (s, wpc (wpN (sT σ) 0) arg st1 (pcs (sT σ p) i)) := by rw [e9]; unfold wst; dsimp only; rw [if_neg e8, if_neg (by omega), if_neg (by omega), if_pos (by omega)]
                    have hs5 : s ≤ i + 1 := by omega
                    refine i_iinc C dX6_walkPage_127 (kk := ?_)
                    refine i_goto C dX6_walkPage_130 (tgt := 37) (kk := ?_)
                    first | exact ih (i + 1) _ _ _ _ (by omega) (by omega) e5 hs5 hA2 kO2 | exact ih (i + 1) _ _ _ _ (by omega) (by omega) e5 hs5 hA1 kO1
                · have e5 : wtx (wpN (sT σ) 0) arg st ((sT σ p).take (i + 1)) = (s - 1, st1) := by rw [e9]; unfold wst; dsimp only; rw [if_neg e8, if_neg (by omega), if_pos (by omega)]
                  have hs5 : s - 1 ≤ i + 1 := by omega
                  refine i_iinc C dX6_walkPage_104 (kk := ?_)
                  rw [show ((s : Int) + (-1)) = ((s - 1 : Nat) : Int) by omega]
                  refine i_goto C dX6_walkPage_107 (tgt := 127) (kk := ?_)
                  refine i_iinc C dX6_walkPage_127 (kk := ?_)
                  refine i_goto C dX6_walkPage_130 (tgt := 37) (kk := ?_)
                  first | exact ih (i + 1) _ _ _ _ (by omega) (by omega) e5 hs5 hA2 kO2 | exact ih (i + 1) _ _ _ _ (by omega) (by omega) e5 hs5 hA1 kO1
            · refine i_iload C dX6_walkPage_70 (kk := ?_)
              refine i_if_gt C dX6_walkPage_72 (tgt := 86) (kt := fun hB72 => ?_) (kf := fun hB72 => ?_)
              · have e5 : wtx (wpN (sT σ) 0) arg st ((sT σ p).take (i + 1)) = (s + 1, st1) := by rw [e9]; unfold wst; dsimp only; rw [if_neg e8, if_pos (by omega)]
                have hs5 : s + 1 ≤ i + 1 := by omega
                refine i_iinc C dX6_walkPage_86 (kk := ?_)
                refine i_goto C dX6_walkPage_89 (tgt := 127) (kk := ?_)
                refine i_iinc C dX6_walkPage_127 (kk := ?_)
                refine i_goto C dX6_walkPage_130 (tgt := 37) (kk := ?_)
                first | exact ih (i + 1) _ _ _ _ (by omega) (by omega) e5 hs5 hA2 kO2 | exact ih (i + 1) _ _ _ _ (by omega) (by omega) e5 hs5 hA1 kO1
              · refine i_aload C dX6_walkPage_75 (kk := ?_)
                refine i_iload C dX6_walkPage_77 (kk := ?_)
                refine i_callV C lk_X6_264 (c_X3_signOf l hl D (hT := hW1.txt hp) (i := i)) (hcl := rfl) (hst := rfl) dX6_walkPage_79 (hw := (hW1.txt hp).2.2.2.2.1) (kk := fun v79 w79 g79 => ?_)
                obtain ⟨rfl, q79⟩ := g79
                have q79 := q79.symm
                subst q79
                refine i_iload_n C dX6_walkPage_82 (kk := ?_)
                refine i_icmp_eq C dX6_walkPage_83 (tgt := 92) (kt := fun hB83 => ?_) (kf := fun hB83 => ?_)
                · refine i_iload C dX6_walkPage_92 (kk := ?_)
                  refine i_bipush C dX6_walkPage_94 (kk := ?_)
                  refine i_icmp_ne C dX6_walkPage_96 (tgt := 110) (kt := fun hB96 => ?_) (kf := fun hB96 => ?_)
                  · refine i_iload C dX6_walkPage_110 (kk := ?_)
                    refine i_if_ne C dX6_walkPage_112 (tgt := 127) (kt := fun hB112 => ?_) (kf := fun hB112 => ?_)
                    · have e5 : wtx (wpN (sT σ) 0) arg st ((sT σ p).take (i + 1)) = (s, st1) := by rw [e9]; unfold wst; dsimp only; rw [if_neg e8, if_neg (by omega), if_neg (by omega), if_neg (by omega)]
                      have hs5 : s ≤ i + 1 := by omega
                      refine i_iinc C dX6_walkPage_127 (kk := ?_)
                      refine i_goto C dX6_walkPage_130 (tgt := 37) (kk := ?_)
                      first | exact ih (i + 1) _ _ _ _ (by omega) (by omega) e5 hs5 hA2 kO2 | exact ih (i + 1) _ _ _ _ (by omega) (by omega) e5 hs5 hA1 kO1
                    · refine i_aload_n C dX6_walkPage_115 (kk := ?_)
                      refine i_aload_n C dX6_walkPage_116 (kk := ?_)
                      refine i_aload C dX6_walkPage_117 (kk := ?_)
                      refine i_iload C dX6_walkPage_119 (kk := ?_)
                      refine i_iload_n C dX6_walkPage_121 (kk := ?_)
                      refine i_iload C dX6_walkPage_122 (kk := ?_)
                      refine i_callV C lk_X6_296 (cp5_X6_walkPiece l hl D (hW := hW1) hA1 hτ (hT := hW1.txt hp) (i := i) (by omega) (by omega) harg) (hcl := rfl) (hst := rfl) dX6_walkPage_124 (hw := hW1.obj) (kk := fun v124 w124 g124 => ?_)
                      obtain ⟨rfl, hA2, o2⟩ := g124
                      have kO2 := kO1.trans o2
                      have e5 : wtx (wpN (sT σ) 0) arg st ((sT σ p).take (i + 1)) = (s, wpc (wpN (sT σ) 0) arg st1 (pcs (sT σ p) i)) := by rw [e9]; unfold wst; dsimp only; rw [if_neg e8, if_neg (by omega), if_neg (by omega), if_pos (by omega)]
                      have hs5 : s ≤ i + 1 := by omega
                      refine i_iinc C dX6_walkPage_127 (kk := ?_)
                      refine i_goto C dX6_walkPage_130 (tgt := 37) (kk := ?_)
                      first | exact ih (i + 1) _ _ _ _ (by omega) (by omega) e5 hs5 hA2 kO2 | exact ih (i + 1) _ _ _ _ (by omega) (by omega) e5 hs5 hA1 kO1
                  · refine i_iload C dX6_walkPage_99 (kk := ?_)
                    refine i_if_le C dX6_walkPage_101 (tgt := 110) (kt := fun hB101 => ?_) (kf := fun hB101 => ?_)
                    · refine i_iload C dX6_walkPage_110 (kk := ?_)
                      refine i_if_ne C dX6_walkPage_112 (tgt := 127) (kt := fun hB112 => ?_) (kf := fun hB112 => ?_)
                      · have e5 : wtx (wpN (sT σ) 0) arg st ((sT σ p).take (i + 1)) = (s, st1) := by rw [e9]; unfold wst; dsimp only; rw [if_neg e8, if_neg (by omega), if_neg (by omega), if_neg (by omega)]
                        have hs5 : s ≤ i + 1 := by omega
                        refine i_iinc C dX6_walkPage_127 (kk := ?_)
                        refine i_goto C dX6_walkPage_130 (tgt := 37) (kk := ?_)
                        first | exact ih (i + 1) _ _ _ _ (by omega) (by omega) e5 hs5 hA2 kO2 | exact ih (i + 1) _ _ _ _ (by omega) (by omega) e5 hs5 hA1 kO1
                      · refine i_aload_n C dX6_walkPage_115 (kk := ?_)
                        refine i_aload_n C dX6_walkPage_116 (kk := ?_)
                        refine i_aload C dX6_walkPage_117 (kk := ?_)
                        refine i_iload C dX6_walkPage_119 (kk := ?_)
                        refine i_iload_n C dX6_walkPage_121 (kk := ?_)
                        refine i_iload C dX6_walkPage_122 (kk := ?_)
                        refine i_callV C lk_X6_296 (cp5_X6_walkPiece l hl D (hW := hW1) hA1 hτ (hT := hW1.txt hp) (i := i) (by omega) (by omega) harg) (hcl := rfl) (hst := rfl) dX6_walkPage_124 (hw := hW1.obj) (kk := fun v124 w124 g124 => ?_)
                        obtain ⟨rfl, hA2, o2⟩ := g124
                        have kO2 := kO1.trans o2
                        have e5 : wtx (wpN (sT σ) 0) arg st ((sT σ p).take (i + 1)) = (s, wpc (wpN (sT σ) 0) arg st1 (pcs (sT σ p) i)) := by rw [e9]; unfold wst; dsimp only; rw [if_neg e8, if_neg (by omega), if_neg (by omega), if_pos (by omega)]
                        have hs5 : s ≤ i + 1 := by omega
                        refine i_iinc C dX6_walkPage_127 (kk := ?_)
                        refine i_goto C dX6_walkPage_130 (tgt := 37) (kk := ?_)
                        first | exact ih (i + 1) _ _ _ _ (by omega) (by omega) e5 hs5 hA2 kO2 | exact ih (i + 1) _ _ _ _ (by omega) (by omega) e5 hs5 hA1 kO1
                    · have e5 : wtx (wpN (sT σ) 0) arg st ((sT σ p).take (i + 1)) = (s - 1, st1) := by rw [e9]; unfold wst; dsimp only; rw [if_neg e8, if_neg (by omega), if_pos (by omega)]
                      have hs5 : s - 1 ≤ i + 1 := by omega
                      refine i_iinc C dX6_walkPage_104 (kk := ?_)
                      rw [show ((s : Int) + (-1)) = ((s - 1 : Nat) : Int) by omega]
                      refine i_goto C dX6_walkPage_107 (tgt := 127) (kk := ?_)
                      refine i_iinc C dX6_walkPage_127 (kk := ?_)
                      refine i_goto C dX6_walkPage_130 (tgt := 37) (kk := ?_)
                      first | exact ih (i + 1) _ _ _ _ (by omega) (by omega) e5 hs5 hA2 kO2 | exact ih (i + 1) _ _ _ _ (by omega) (by omega) e5 hs5 hA1 kO1
                · have e5 : wtx (wpN (sT σ) 0) arg st ((sT σ p).take (i + 1)) = (s + 1, st1) := by rw [e9]; unfold wst; dsimp only; rw [if_neg e8, if_pos (by omega)]
                  have hs5 : s + 1 ≤ i + 1 := by omega
                  refine i_iinc C dX6_walkPage_86 (kk := ?_)
                  refine i_goto C dX6_walkPage_89 (tgt := 127) (kk := ?_)
                  refine i_iinc C dX6_walkPage_127 (kk := ?_)
                  refine i_goto C dX6_walkPage_130 (tgt := 37) (kk := ?_)
                  first | exact ih (i + 1) _ _ _ _ (by omega) (by omega) e5 hs5 hA2 kO2 | exact ih (i + 1) _ _ _ _ (by omega) (by omega) e5 hs5 hA1 kO1
      exact lp ((sT σ p).length + 1) 0 _ 0 st _ (by omega) (by omega) rfl (by omega) hA offR.rf
    · have e4 : wpN (sT σ) 1 p arg st = st := if_pos (by omega)
      exact i_vret C (d := dX6_walkPage_17) (h := ⟨rfl, by rw [e4]; exact hA, offR.rf⟩)

set_option maxRecDepth 100000 in
set_option maxHeartbeats 4000000 in
theorem cp4_X6_walkPiece (l : Launch) (hl : l.stackTraces = false) (D : gD) {w : wW} {τ ad : Nat → Nat} {nb tb : Nat} {σ : Sg} {a r2 t ta te tc i : Nat} {ps : List Pc3} {arg : Int} {st : Int × Int} (hW : WkI D w τ ad nb tb σ := by assumption) (hA : w a = some (wkO st)) (hτ : 2260 ≤ τ a) (hT : TxT D w τ r2 t ta te tc ps) (hi : i < ps.length) (hst : 0 ≤ st.1 ∧ st.1 ≤ 2147483647) (harg : -1 ≤ arg ∧ arg ≤ 25) : CTm l D yX6_walkPiece cX6_walkPiece 6 none (rmL 7 0 0) [.ref (ad 0), .ref a, .ref t, .int (Z32 (i : Int)), .int (Z32 arg), .int (Z32 4)] w (fun u w1 => u = none ∧ w1 a = some (wkO (wpc (wpN (sT σ) 1) arg st (pcs ps i))) ∧ offR τ w w1 (τ a) (τ a + 1)) := by
  refine CTm_of hl false rfl (by rfl) (Nat.le_of_ble_eq_true rfl) (fun h => nomatch h) ?_
  intro G C
  show G 0 0 w [some (.ref (ad 0)), some (.ref a), some (.ref t), some (.int (Z32 (i : Int))), some (.int (Z32 arg)), some (.int (Z32 4))] 0 []
  have hv := hT.2.2.2.2.2.2.2.1 _ (pcs_mem hi)
  have hvR := hv.R
  refine i_aload_n C dX6_walkPiece_0 (kk := ?_)
  refine i_iload_n C dX6_walkPiece_1 (kk := ?_)
  refine i_callV C lk_X6_261 (c_X3_sortOf l hl D (hT := hT) (i := i)) (hcl := rfl) (hst := rfl) dX6_walkPiece_2 (hw := hT.2.2.2.2.1) (kk := fun v2 w2 g2 => ?_)
  obtain ⟨rfl, q2⟩ := g2
  have q2 := q2.symm
  subst q2
  rcases (show (pcs ps i).1 = 0 ∨ (pcs ps i).1 = 1 ∨ (pcs ps i).1 = 2 ∨ (pcs ps i).1 = 3 ∨ (pcs ps i).1 = 4 ∨ (pcs ps i).1 = 5 ∨ (pcs ps i).1 = 6 ∨ (pcs ps i).1 = 7 ∨ (pcs ps i).1 = 8 by omega) with hs | hs | hs | hs | hs | hs | hs | hs | hs
  · rw [hs]
    refine i_tableIn C dX6_walkPiece_5 (tgt := 100) (ha := by decide) (h1 := by decide) (h2 := by decide) (ho := rfl) (ht := by decide) (kk := ?_)
    refine i_aload_n C dX6_walkPiece_100 (kk := ?_)
    refine i_aload_n C dX6_walkPiece_101 (kk := ?_)
    refine i_iload_n C dX6_walkPiece_102 (kk := ?_)
    refine i_callV C lk_X6_287 (c_X3_itemOf l hl D (hT := hT) (i := i)) (hcl := rfl) (hst := rfl) dX6_walkPiece_103 (hw := hT.2.2.2.2.1) (kk := fun v103 w103 g103 => ?_)
    obtain ⟨rfl, q103⟩ := g103
    have q103 := q103.symm
    subst q103
    show G _ _ _ _ _ (.int (Z32 (pItem (pcs ps i))) :: _)
    refine i_callV C lk_X6_300 (c_X5_meet l hl D (hw := hA)) (hcl := rfl) (hst := rfl) dX6_walkPiece_106 (hw := hA) (kk := fun v106 w106 g106 => ?_)
    obtain ⟨rfl, rfl⟩ := g106
    refine i_goto C dX6_walkPiece_109 (tgt := 112) (kk := ?_)
    exact i_vret C (d := dX6_walkPiece_112) (h := by first | exact ⟨rfl, by unfold wpc; simp [hs]; exact hA, offR.rf⟩ | exact ⟨rfl, by unfold wpc; simp [hs, hB88]; exact hA, offR.rf⟩ | exact ⟨rfl, by rw [wset_eq]; unfold wpc; simp [hs]; rfl, offR.rf.put (by omega) (by omega)⟩ | exact ⟨rfl, by rw [wset_eq]; unfold wpc; simp [hs, hB88]; rfl, offR.rf.put (by omega) (by omega)⟩ | exact ⟨rfl, by unfold wpc; simp [hs, hqe]; exact a1, a2⟩)
  · rw [hs]
    refine i_tableIn C dX6_walkPiece_5 (tgt := 100) (ha := by decide) (h1 := by decide) (h2 := by decide) (ho := rfl) (ht := by decide) (kk := ?_)
    refine i_aload_n C dX6_walkPiece_100 (kk := ?_)
    refine i_aload_n C dX6_walkPiece_101 (kk := ?_)
    refine i_iload_n C dX6_walkPiece_102 (kk := ?_)
    refine i_callV C lk_X6_287 (c_X3_itemOf l hl D (hT := hT) (i := i)) (hcl := rfl) (hst := rfl) dX6_walkPiece_103 (hw := hT.2.2.2.2.1) (kk := fun v103 w103 g103 => ?_)
    obtain ⟨rfl, q103⟩ := g103
    have q103 := q103.symm
    subst q103
    show G _ _ _ _ _ (.int (Z32 (pItem (pcs ps i))) :: _)
    refine i_callV C lk_X6_300 (c_X5_meet l hl D (hw := hA)) (hcl := rfl) (hst := rfl) dX6_walkPiece_106 (hw := hA) (kk := fun v106 w106 g106 => ?_)
    obtain ⟨rfl, rfl⟩ := g106
    refine i_goto C dX6_walkPiece_109 (tgt := 112) (kk := ?_)
    exact i_vret C (d := dX6_walkPiece_112) (h := by first | exact ⟨rfl, by unfold wpc; simp [hs]; exact hA, offR.rf⟩ | exact ⟨rfl, by unfold wpc; simp [hs, hB88]; exact hA, offR.rf⟩ | exact ⟨rfl, by rw [wset_eq]; unfold wpc; simp [hs]; rfl, offR.rf.put (by omega) (by omega)⟩ | exact ⟨rfl, by rw [wset_eq]; unfold wpc; simp [hs, hB88]; rfl, offR.rf.put (by omega) (by omega)⟩ | exact ⟨rfl, by unfold wpc; simp [hs, hqe]; exact a1, a2⟩)
  · rw [hs]
    refine i_tableIn C dX6_walkPiece_5 (tgt := 100) (ha := by decide) (h1 := by decide) (h2 := by decide) (ho := rfl) (ht := by decide) (kk := ?_)
    refine i_aload_n C dX6_walkPiece_100 (kk := ?_)
    refine i_aload_n C dX6_walkPiece_101 (kk := ?_)
    refine i_iload_n C dX6_walkPiece_102 (kk := ?_)
    refine i_callV C lk_X6_287 (c_X3_itemOf l hl D (hT := hT) (i := i)) (hcl := rfl) (hst := rfl) dX6_walkPiece_103 (hw := hT.2.2.2.2.1) (kk := fun v103 w103 g103 => ?_)
    obtain ⟨rfl, q103⟩ := g103
    have q103 := q103.symm
    subst q103
    show G _ _ _ _ _ (.int (Z32 (pItem (pcs ps i))) :: _)
    refine i_callV C lk_X6_300 (c_X5_meet l hl D (hw := hA)) (hcl := rfl) (hst := rfl) dX6_walkPiece_106 (hw := hA) (kk := fun v106 w106 g106 => ?_)
    obtain ⟨rfl, rfl⟩ := g106
    refine i_goto C dX6_walkPiece_109 (tgt := 112) (kk := ?_)
    exact i_vret C (d := dX6_walkPiece_112) (h := by first | exact ⟨rfl, by unfold wpc; simp [hs]; exact hA, offR.rf⟩ | exact ⟨rfl, by unfold wpc; simp [hs, hB88]; exact hA, offR.rf⟩ | exact ⟨rfl, by rw [wset_eq]; unfold wpc; simp [hs]; rfl, offR.rf.put (by omega) (by omega)⟩ | exact ⟨rfl, by rw [wset_eq]; unfold wpc; simp [hs, hB88]; rfl, offR.rf.put (by omega) (by omega)⟩ | exact ⟨rfl, by unfold wpc; simp [hs, hqe]; exact a1, a2⟩)
  · rw [hs]
    refine i_tableIn C dX6_walkPiece_5 (tgt := 85) (ha := by decide) (h1 := by decide) (h2 := by decide) (ho := rfl) (ht := by decide) (kk := ?_)
    refine i_iload C dX6_walkPiece_85 (kk := ?_)
    refine i_iconst C dX6_walkPiece_87 (kk := ?_)
    refine i_icmp_eq C dX6_walkPiece_88 (tgt := 112) (kt := fun hB88 => ?_) (kf := fun hB88 => ?_)
    · exact i_vret C (d := dX6_walkPiece_112) (h := by first | exact ⟨rfl, by unfold wpc; simp [hs]; exact hA, offR.rf⟩ | exact ⟨rfl, by unfold wpc; simp [hs, hB88]; exact hA, offR.rf⟩ | exact ⟨rfl, by rw [wset_eq]; unfold wpc; simp [hs]; rfl, offR.rf.put (by omega) (by omega)⟩ | exact ⟨rfl, by rw [wset_eq]; unfold wpc; simp [hs, hB88]; rfl, offR.rf.put (by omega) (by omega)⟩ | exact ⟨rfl, by unfold wpc; simp [hs, hqe]; exact a1, a2⟩)
    · refine i_aload_n C dX6_walkPiece_91 (kk := ?_)
      refine i_iload C dX6_walkPiece_92 (kk := ?_)
      refine i_callV C lk_X6_300 (c_X5_meet l hl D (hw := hA)) (hcl := rfl) (hst := rfl) dX6_walkPiece_94 (hw := hA) (kk := fun v94 w94 g94 => ?_)
      obtain ⟨rfl, rfl⟩ := g94
      refine i_goto C dX6_walkPiece_97 (tgt := 112) (kk := ?_)
      exact i_vret C (d := dX6_walkPiece_112) (h := by first | exact ⟨rfl, by unfold wpc; simp [hs]; exact hA, offR.rf⟩ | exact ⟨rfl, by unfold wpc; simp [hs, hB88]; exact hA, offR.rf⟩ | exact ⟨rfl, by rw [wset_eq]; unfold wpc; simp [hs]; rfl, offR.rf.put (by omega) (by omega)⟩ | exact ⟨rfl, by rw [wset_eq]; unfold wpc; simp [hs, hB88]; rfl, offR.rf.put (by omega) (by omega)⟩ | exact ⟨rfl, by unfold wpc; simp [hs, hqe]; exact a1, a2⟩)
  · rw [hs]
    refine i_tableIn C dX6_walkPiece_5 (tgt := 44) (ha := by decide) (h1 := by decide) (h2 := by decide) (ho := rfl) (ht := by decide) (kk := ?_)
    refine i_aload_n C dX6_walkPiece_44 (kk := ?_)
    refine i_aload_n C dX6_walkPiece_45 (kk := ?_)
    refine i_aload_n C dX6_walkPiece_46 (kk := ?_)
    refine i_iload_n C dX6_walkPiece_47 (kk := ?_)
    refine i_callV C lk_X6_273 (c_X3_pageOf l hl D (hT := hT) (i := i)) (hcl := rfl) (hst := rfl) dX6_walkPiece_48 (hw := hT.2.2.2.2.1) (kk := fun v48 w48 g48 => ?_)
    obtain ⟨rfl, q48⟩ := g48
    have q48 := q48.symm
    subst q48
    obtain ⟨q, hqe⟩ : ∃ q : Nat, (pcs ps i).2.1 = q := ⟨(pcs ps i).2.1.toNat, by unfold PV at hv; omega⟩
    have hq12 : q < 12 := by unfold PV at hv; omega
    rw [hqe]
    refine i_aload_n C dX6_walkPiece_51 (kk := ?_)
    refine i_iload_n C dX6_walkPiece_52 (kk := ?_)
    refine i_callV C lk_X6_264 (c_X3_signOf l hl D (hT := hT) (i := i)) (hcl := rfl) (hst := rfl) dX6_walkPiece_53 (hw := hT.2.2.2.2.1) (kk := fun v53 w53 g53 => ?_)
    obtain ⟨rfl, q53⟩ := g53
    have q53 := q53.symm
    subst q53
    refine i_iload C dX6_walkPiece_56 (kk := ?_)
    refine i_iconst C dX6_walkPiece_58 (kk := ?_)
    refine i_iadd C dX6_walkPiece_59 (kk := ?_)
    refine i_callV C lk_X6_153 (cw5_X6_walkPage l hl D (hW := hW) hA hτ hq12 (by omega) (by unfold PV at hv; omega)) (hcl := rfl) (hst := rfl) dX6_walkPiece_60 (hw := hW.obj) (kk := fun v60 w60 g60 => ?_)
    obtain ⟨rfl, a1, a2⟩ := g60
    refine i_goto C dX6_walkPiece_63 (tgt := 112) (kk := ?_)
    exact i_vret C (d := dX6_walkPiece_112) (h := by first | exact ⟨rfl, by unfold wpc; simp [hs]; exact hA, offR.rf⟩ | exact ⟨rfl, by unfold wpc; simp [hs, hB88]; exact hA, offR.rf⟩ | exact ⟨rfl, by rw [wset_eq]; unfold wpc; simp [hs]; rfl, offR.rf.put (by omega) (by omega)⟩ | exact ⟨rfl, by rw [wset_eq]; unfold wpc; simp [hs, hB88]; rfl, offR.rf.put (by omega) (by omega)⟩ | exact ⟨rfl, by unfold wpc; simp [hs, hqe]; exact a1, a2⟩)
  · rw [hs]
    refine i_tableIn C dX6_walkPiece_5 (tgt := 66) (ha := by decide) (h1 := by decide) (h2 := by decide) (ho := rfl) (ht := by decide) (kk := ?_)
    refine i_aload_n C dX6_walkPiece_66 (kk := ?_)
    refine i_aload_n C dX6_walkPiece_67 (kk := ?_)
    refine i_aload_n C dX6_walkPiece_68 (kk := ?_)
    refine i_iload_n C dX6_walkPiece_69 (kk := ?_)
    refine i_callV C lk_X6_273 (c_X3_pageOf l hl D (hT := hT) (i := i)) (hcl := rfl) (hst := rfl) dX6_walkPiece_70 (hw := hT.2.2.2.2.1) (kk := fun v70 w70 g70 => ?_)
    obtain ⟨rfl, q70⟩ := g70
    have q70 := q70.symm
    subst q70
    obtain ⟨q, hqe⟩ : ∃ q : Nat, (pcs ps i).2.1 = q := ⟨(pcs ps i).2.1.toNat, by unfold PV at hv; omega⟩
    have hq12 : q < 12 := by unfold PV at hv; omega
    rw [hqe]
    refine i_iload C dX6_walkPiece_73 (kk := ?_)
    refine i_iload C dX6_walkPiece_75 (kk := ?_)
    refine i_iconst C dX6_walkPiece_77 (kk := ?_)
    refine i_iadd C dX6_walkPiece_78 (kk := ?_)
    refine i_callV C lk_X6_153 (cw5_X6_walkPage l hl D (hW := hW) hA hτ hq12 (by omega) harg) (hcl := rfl) (hst := rfl) dX6_walkPiece_79 (hw := hW.obj) (kk := fun v79 w79 g79 => ?_)
    obtain ⟨rfl, a1, a2⟩ := g79
    refine i_goto C dX6_walkPiece_82 (tgt := 112) (kk := ?_)
    exact i_vret C (d := dX6_walkPiece_112) (h := by first | exact ⟨rfl, by unfold wpc; simp [hs]; exact hA, offR.rf⟩ | exact ⟨rfl, by unfold wpc; simp [hs, hB88]; exact hA, offR.rf⟩ | exact ⟨rfl, by rw [wset_eq]; unfold wpc; simp [hs]; rfl, offR.rf.put (by omega) (by omega)⟩ | exact ⟨rfl, by rw [wset_eq]; unfold wpc; simp [hs, hB88]; rfl, offR.rf.put (by omega) (by omega)⟩ | exact ⟨rfl, by unfold wpc; simp [hs, hqe]; exact a1, a2⟩)
  · rw [hs]
    refine i_tableOut C dX6_walkPiece_5 (tgt := 112) (ha := by decide) (h1 := by decide) (ht := by decide) (kk := ?_)
    exact i_vret C (d := dX6_walkPiece_112) (h := by first | exact ⟨rfl, by unfold wpc; simp [hs]; exact hA, offR.rf⟩ | exact ⟨rfl, by unfold wpc; simp [hs, hB88]; exact hA, offR.rf⟩ | exact ⟨rfl, by rw [wset_eq]; unfold wpc; simp [hs]; rfl, offR.rf.put (by omega) (by omega)⟩ | exact ⟨rfl, by rw [wset_eq]; unfold wpc; simp [hs, hB88]; rfl, offR.rf.put (by omega) (by omega)⟩ | exact ⟨rfl, by unfold wpc; simp [hs, hqe]; exact a1, a2⟩)
  · rw [hs]
    refine i_tableOut C dX6_walkPiece_5 (tgt := 112) (ha := by decide) (h1 := by decide) (ht := by decide) (kk := ?_)
    exact i_vret C (d := dX6_walkPiece_112) (h := by first | exact ⟨rfl, by unfold wpc; simp [hs]; exact hA, offR.rf⟩ | exact ⟨rfl, by unfold wpc; simp [hs, hB88]; exact hA, offR.rf⟩ | exact ⟨rfl, by rw [wset_eq]; unfold wpc; simp [hs]; rfl, offR.rf.put (by omega) (by omega)⟩ | exact ⟨rfl, by rw [wset_eq]; unfold wpc; simp [hs, hB88]; rfl, offR.rf.put (by omega) (by omega)⟩ | exact ⟨rfl, by unfold wpc; simp [hs, hqe]; exact a1, a2⟩)
  · rw [hs]
    refine i_tableOut C dX6_walkPiece_5 (tgt := 112) (ha := by decide) (h1 := by decide) (ht := by decide) (kk := ?_)
    exact i_vret C (d := dX6_walkPiece_112) (h := by first | exact ⟨rfl, by unfold wpc; simp [hs]; exact hA, offR.rf⟩ | exact ⟨rfl, by unfold wpc; simp [hs, hB88]; exact hA, offR.rf⟩ | exact ⟨rfl, by rw [wset_eq]; unfold wpc; simp [hs]; rfl, offR.rf.put (by omega) (by omega)⟩ | exact ⟨rfl, by rw [wset_eq]; unfold wpc; simp [hs, hB88]; rfl, offR.rf.put (by omega) (by omega)⟩ | exact ⟨rfl, by unfold wpc; simp [hs, hqe]; exact a1, a2⟩)

set_option maxRecDepth 100000 in
set_option maxHeartbeats 4000000 in
theorem cw4_X6_walkPage (l : Launch) (hl : l.stackTraces = false) (D : gD) {w : wW} {τ ad : Nat → Nat} {nb tb : Nat} {σ : Sg} {a p : Nat} {arg : Int} {st : Int × Int} (hW : WkI D w τ ad nb tb σ := by assumption) (hA : w a = some (wkO st)) (hτ : 2260 ≤ τ a) (hp : p < 12) (hst : -1 ≤ st.1 ∧ st.1 ≤ 2147483647) (harg : -1 ≤ arg ∧ arg ≤ 25) : CTm l D yX6_walkPage cX6_walkPage 9 none (rmL 8 0 0) [.ref (ad 0), .ref a, .int (Z32 (p : Int)), .int (Z32 arg), .int (Z32 4)] w (fun u w1 => u = none ∧ w1 a = some (wkO (wpN (sT σ) 2 p arg st)) ∧ offR τ w w1 (τ a) (τ a + 1)) := by
  refine CTm_of hl false rfl (by rfl) (Nat.le_of_ble_eq_true rfl) (fun h => nomatch h) ?_
  intro G C
  show G 0 0 w [some (.ref (ad 0)), some (.ref a), some (.int (Z32 (p : Int))), some (.int (Z32 arg)), some (.int (Z32 4)), none, none, none, none] 0 []
  refine i_iload C dX6_walkPage_0 (kk := ?_)
  refine i_iconst C dX6_walkPage_2 (kk := ?_)
  refine i_icmp_gt C dX6_walkPage_3 (tgt := 17) (kt := fun hB3 => ?_) (kf := fun hB3 => ?_)
  · exfalso; omega
  · refine i_aload_n C dX6_walkPage_6 (kk := ?_)
    obtain ⟨hb9, -, ⟨fc, fo, fr, fd, fx, kN, kO9⟩, -⟩ := hW.2.1
    have hx9 := (kO9 p hp).2.2.2
    have hx5 := (hW.1.2.1 p hp).2.2.2.1
    have h30 := (hW.txt hp).2.2.2.2.2.1
    refine i_getf C f_X6_23 dX6_walkPage_7 (hw := hW.obj) (kk := ?_)
    refine i_iload_n C dX6_walkPage_10 (kk := ?_)
    refine i_callV C lk_X6_126 (c_X0_extentOf l hl D (hN := kN) (p := p)) (hcl := rfl) (hst := rfl) dX6_walkPage_11 (hw := kN.2.2.2.2.2.2.1) (kk := fun v11 w11 g11 => ?_)
    obtain ⟨rfl, q11⟩ := g11
    have q11 := q11.symm
    subst q11
    refine i_if_ne C dX6_walkPage_14 (tgt := 18) (kt := fun hB14 => ?_) (kf := fun hB14 => ?_)
    · have e4 : wpN (sT σ) 2 p arg st = (wtx (wpN (sT σ) 1) arg st (sT σ p)).2 := if_neg (by omega)
      refine i_aload_n C dX6_walkPage_18 (kk := ?_)
      refine i_iload_n C dX6_walkPage_19 (kk := ?_)
      refine i_callV C lk_X6_67 (c_X6_pageAt l hl D (hW := hW) (p := p)) (hcl := rfl) (hst := rfl) dX6_walkPage_20 (hw := hW.obj) (kk := fun v20 w20 g20 => ?_)
      obtain ⟨rfl, q20⟩ := g20
      have q20 := q20.symm
      subst q20
      refine i_getf C f_X6_73 dX6_walkPage_23 (hw := hW.page hp) (kk := ?_)
      refine i_getf C f_X6_113 dX6_walkPage_26 (hw := hW.ver hp) (kk := ?_)
      refine i_astore C dX6_walkPage_29 (kk := ?_)
      refine i_iconst C dX6_walkPage_31 (kk := ?_)
      refine i_istore C dX6_walkPage_32 (kk := ?_)
      refine i_iconst C dX6_walkPage_34 (kk := ?_)
      refine i_istore C dX6_walkPage_35 (kk := ?_)
      have lp : ∀ (m i : Nat) (w1 : wW) (s : Nat) (st1 : Int × Int) (o9 : Option Value), (sT σ p).length + 1 ≤ m + i → i ≤ (sT σ p).length → wtx (wpN (sT σ) 1) arg st ((sT σ p).take i) = (s, st1) → s ≤ i → w1 a = some (wkO st1) → offR τ w w1 (τ a) (τ a + 1) → G 0 0 w1 [some (.ref (ad 0)), some (.ref a), some (.int (Z32 (p : Int))), some (.int (Z32 arg)), some (.int (Z32 4)), some (.ref (ad (vr p (sNv σ p) + 1))), some (.int (Z32 (s : Int))), some (.int (Z32 (i : Int))), o9] 37 [] := by
        intro m
        induction m with
        | zero => intro i w1 s st1 o9 h1 h2; omega
        | succ m ih =>
        intro i w1 s st1 o9 h1 h2 hE hs hA1 kO1
        have hW1 := hW.far kO1 hτ
        have hSR := wtx_R (wpN_R (T := sT σ) 1) (arg := arg) hst ((sT σ p).take i)
        rw [hE] at hSR
        have hSR : -1 ≤ st1.1 ∧ st1.1 ≤ 2147483647 := hSR
        refine i_iload C dX6_walkPage_37 (kk := ?_)
        refine i_aload C dX6_walkPage_39 (kk := ?_)
        refine i_getf C f_X6_208 dX6_walkPage_41 (hw := (hW1.txt hp).2.2.2.2.1) (kk := ?_)
        refine i_icmp_ge C dX6_walkPage_44 (tgt := 133) (kt := fun hB44 => ?_) (kf := fun hB44 => ?_)
        · have e3 : (wtx (wpN (sT σ) 1) arg st (sT σ p)) = (s, st1) := by rw [← hE, List.take_of_length_le (by omega)]
          exact i_vret C (d := dX6_walkPage_133) (h := ⟨rfl, by rw [e4, e3]; exact hA1, kO1⟩)
        · refine i_aload_n C dX6_walkPage_47 (kk := ?_)
          refine i_callV C lk_X6_293 (c_X5_isOver l hl D (hw := hA1)) (hcl := rfl) (hst := rfl) dX6_walkPage_48 (hw := hA1) (kk := fun v48 w48 g48 => ?_)
          obtain ⟨rfl, q48⟩ := g48
          have q48 := q48.symm
          subst q48
          refine i_if_ne C dX6_walkPage_51 (tgt := 133) (ha := by split <;> decide) (kt := fun hB51 => ?_) (kf := fun hB51 => ?_)
          · have e8 : st1.1 < 0 := by apply Decidable.byContradiction; intro q; rw [if_neg q] at hB51; exact hB51 rfl
            have e3 : (wtx (wpN (sT σ) 1) arg st (sT σ p)) = (s, st1) := by rw [wtx_over (i := i) (by rw [hE]; exact e8), hE]
            exact i_vret C (d := dX6_walkPage_133) (h := ⟨rfl, by rw [e4, e3]; exact hA1, kO1⟩)
          · have e8 : ¬ st1.1 < 0 := by intro q; rw [if_pos q] at hB51; omega
            have e9 : wtx (wpN (sT σ) 1) arg st ((sT σ p).take (i + 1)) = wst (wpN (sT σ) 1) arg (s, st1) (pcs (sT σ p) i) := by rw [wtx_take (by omega), hE]
            have hv := (hW1.txt hp).2.2.2.2.2.2.2.1 _ (pcs_mem (i := i) (by omega))
            have hvR := hv.R
            refine i_aload C dX6_walkPage_54 (kk := ?_)
            refine i_iload C dX6_walkPage_56 (kk := ?_)
            refine i_callV C lk_X6_261 (c_X3_sortOf l hl D (hT := hW1.txt hp) (i := i)) (hcl := rfl) (hst := rfl) dX6_walkPage_58 (hw := (hW1.txt hp).2.2.2.2.1) (kk := fun v58 w58 g58 => ?_)
            obtain ⟨rfl, q58⟩ := g58
            have q58 := q58.symm
            subst q58
            refine i_istore C dX6_walkPage_61 (kk := ?_)
            refine i_iload C dX6_walkPage_63 (kk := ?_)
            refine i_bipush C dX6_walkPage_65 (kk := ?_)
            refine i_icmp_ne C dX6_walkPage_67 (tgt := 92) (kt := fun hB67 => ?_) (kf := fun hB67 => ?_)
            · refine i_iload C dX6_walkPage_92 (kk := ?_)
              refine i_bipush C dX6_walkPage_94 (kk := ?_)
              refine i_icmp_ne C dX6_walkPage_96 (tgt := 110) (kt := fun hB96 => ?_) (kf := fun hB96 => ?_)
              · refine i_iload C dX6_walkPage_110 (kk := ?_)
                refine i_if_ne C dX6_walkPage_112 (tgt := 127) (kt := fun hB112 => ?_) (kf := fun hB112 => ?_)
                · have e5 : wtx (wpN (sT σ) 1) arg st ((sT σ p).take (i + 1)) = (s, st1) := by rw [e9]; unfold wst; dsimp only; rw [if_neg e8, if_neg (by omega), if_neg (by omega), if_neg (by omega)]
                  have hs5 : s ≤ i + 1 := by omega
                  refine i_iinc C dX6_walkPage_127 (kk := ?_)
                  refine i_goto C dX6_walkPage_130 (tgt := 37) (kk := ?_)
                  first | exact ih (i + 1) _ _ _ _ (by omega) (by omega) e5 hs5 hA2 kO2 | exact ih (i + 1) _ _ _ _ (by omega) (by omega) e5 hs5 hA1 kO1
                · refine i_aload_n C dX6_walkPage_115 (kk := ?_)
                  refine i_aload_n C dX6_walkPage_116 (kk := ?_)
                  refine i_aload C dX6_walkPage_117 (kk := ?_)
                  refine i_iload C dX6_walkPage_119 (kk := ?_)
                  refine i_iload_n C dX6_walkPage_121 (kk := ?_)
                  refine i_iload C dX6_walkPage_122 (kk := ?_)
                  refine i_callV C lk_X6_296 (cp4_X6_walkPiece l hl D (hW := hW1) hA1 hτ (hT := hW1.txt hp) (i := i) (by omega) (by omega) harg) (hcl := rfl) (hst := rfl) dX6_walkPage_124 (hw := hW1.obj) (kk := fun v124 w124 g124 => ?_)
                  obtain ⟨rfl, hA2, o2⟩ := g124
                  have kO2 := kO1.trans o2
                  have e5 : wtx (wpN (sT σ) 1) arg st ((sT σ p).take (i + 1)) = (s, wpc (wpN (sT σ) 1) arg st1 (pcs (sT σ p) i)) := by rw [e9]; unfold wst; dsimp only; rw [if_neg e8, if_neg (by omega), if_neg (by omega), if_pos (by omega)]
                  have hs5 : s ≤ i + 1 := by omega
                  refine i_iinc C dX6_walkPage_127 (kk := ?_)
                  refine i_goto C dX6_walkPage_130 (tgt := 37) (kk := ?_)
                  first | exact ih (i + 1) _ _ _ _ (by omega) (by omega) e5 hs5 hA2 kO2 | exact ih (i + 1) _ _ _ _ (by omega) (by omega) e5 hs5 hA1 kO1
              · refine i_iload C dX6_walkPage_99 (kk := ?_)
                refine i_if_le C dX6_walkPage_101 (tgt := 110) (kt := fun hB101 => ?_) (kf := fun hB101 => ?_)
                · refine i_iload C dX6_walkPage_110 (kk := ?_)
                  refine i_if_ne C dX6_walkPage_112 (tgt := 127) (kt := fun hB112 => ?_) (kf := fun hB112 => ?_)
                  · have e5 : wtx (wpN (sT σ) 1) arg st ((sT σ p).take (i + 1)) = (s, st1) := by rw [e9]; unfold wst; dsimp only; rw [if_neg e8, if_neg (by omega), if_neg (by omega), if_neg (by omega)]
                    have hs5 : s ≤ i + 1 := by omega
                    refine i_iinc C dX6_walkPage_127 (kk := ?_)
                    refine i_goto C dX6_walkPage_130 (tgt := 37) (kk := ?_)
                    first | exact ih (i + 1) _ _ _ _ (by omega) (by omega) e5 hs5 hA2 kO2 | exact ih (i + 1) _ _ _ _ (by omega) (by omega) e5 hs5 hA1 kO1
                  · refine i_aload_n C dX6_walkPage_115 (kk := ?_)
                    refine i_aload_n C dX6_walkPage_116 (kk := ?_)
                    refine i_aload C dX6_walkPage_117 (kk := ?_)
                    refine i_iload C dX6_walkPage_119 (kk := ?_)
                    refine i_iload_n C dX6_walkPage_121 (kk := ?_)
                    refine i_iload C dX6_walkPage_122 (kk := ?_)
                    refine i_callV C lk_X6_296 (cp4_X6_walkPiece l hl D (hW := hW1) hA1 hτ (hT := hW1.txt hp) (i := i) (by omega) (by omega) harg) (hcl := rfl) (hst := rfl) dX6_walkPage_124 (hw := hW1.obj) (kk := fun v124 w124 g124 => ?_)
                    obtain ⟨rfl, hA2, o2⟩ := g124
                    have kO2 := kO1.trans o2
                    have e5 : wtx (wpN (sT σ) 1) arg st ((sT σ p).take (i + 1)) = (s, wpc (wpN (sT σ) 1) arg st1 (pcs (sT σ p) i)) := by rw [e9]; unfold wst; dsimp only; rw [if_neg e8, if_neg (by omega), if_neg (by omega), if_pos (by omega)]
                    have hs5 : s ≤ i + 1 := by omega
                    refine i_iinc C dX6_walkPage_127 (kk := ?_)
                    refine i_goto C dX6_walkPage_130 (tgt := 37) (kk := ?_)
                    first | exact ih (i + 1) _ _ _ _ (by omega) (by omega) e5 hs5 hA2 kO2 | exact ih (i + 1) _ _ _ _ (by omega) (by omega) e5 hs5 hA1 kO1
                · have e5 : wtx (wpN (sT σ) 1) arg st ((sT σ p).take (i + 1)) = (s - 1, st1) := by rw [e9]; unfold wst; dsimp only; rw [if_neg e8, if_neg (by omega), if_pos (by omega)]
                  have hs5 : s - 1 ≤ i + 1 := by omega
                  refine i_iinc C dX6_walkPage_104 (kk := ?_)
                  rw [show ((s : Int) + (-1)) = ((s - 1 : Nat) : Int) by omega]
                  refine i_goto C dX6_walkPage_107 (tgt := 127) (kk := ?_)
                  refine i_iinc C dX6_walkPage_127 (kk := ?_)
                  refine i_goto C dX6_walkPage_130 (tgt := 37) (kk := ?_)
                  first | exact ih (i + 1) _ _ _ _ (by omega) (by omega) e5 hs5 hA2 kO2 | exact ih (i + 1) _ _ _ _ (by omega) (by omega) e5 hs5 hA1 kO1
            · refine i_iload C dX6_walkPage_70 (kk := ?_)
              refine i_if_gt C dX6_walkPage_72 (tgt := 86) (kt := fun hB72 => ?_) (kf := fun hB72 => ?_)
              · have e5 : wtx (wpN (sT σ) 1) arg st ((sT σ p).take (i + 1)) = (s + 1, st1) := by rw [e9]; unfold wst; dsimp only; rw [if_neg e8, if_pos (by omega)]
                have hs5 : s + 1 ≤ i + 1 := by omega
                refine i_iinc C dX6_walkPage_86 (kk := ?_)
                refine i_goto C dX6_walkPage_89 (tgt := 127) (kk := ?_)
                refine i_iinc C dX6_walkPage_127 (kk := ?_)
                refine i_goto C dX6_walkPage_130 (tgt := 37) (kk := ?_)
                first | exact ih (i + 1) _ _ _ _ (by omega) (by omega) e5 hs5 hA2 kO2 | exact ih (i + 1) _ _ _ _ (by omega) (by omega) e5 hs5 hA1 kO1
              · refine i_aload C dX6_walkPage_75 (kk := ?_)
                refine i_iload C dX6_walkPage_77 (kk := ?_)
                refine i_callV C lk_X6_264 (c_X3_signOf l hl D (hT := hW1.txt hp) (i := i)) (hcl := rfl) (hst := rfl) dX6_walkPage_79 (hw := (hW1.txt hp).2.2.2.2.1) (kk := fun v79 w79 g79 => ?_)
                obtain ⟨rfl, q79⟩ := g79
                have q79 := q79.symm
                subst q79
                refine i_iload_n C dX6_walkPage_82 (kk := ?_)
                refine i_icmp_eq C dX6_walkPage_83 (tgt := 92) (kt := fun hB83 => ?_) (kf := fun hB83 => ?_)
                · refine i_iload C dX6_walkPage_92 (kk := ?_)
                  refine i_bipush C dX6_walkPage_94 (kk := ?_)
                  refine i_icmp_ne C dX6_walkPage_96 (tgt := 110) (kt := fun hB96 => ?_) (kf := fun hB96 => ?_)
                  · refine i_iload C dX6_walkPage_110 (kk := ?_)
                    refine i_if_ne C dX6_walkPage_112 (tgt := 127) (kt := fun hB112 => ?_) (kf := fun hB112 => ?_)
                    · have e5 : wtx (wpN (sT σ) 1) arg st ((sT σ p).take (i + 1)) = (s, st1) := by rw [e9]; unfold wst; dsimp only; rw [if_neg e8, if_neg (by omega), if_neg (by omega), if_neg (by omega)]
                      have hs5 : s ≤ i + 1 := by omega
                      refine i_iinc C dX6_walkPage_127 (kk := ?_)
                      refine i_goto C dX6_walkPage_130 (tgt := 37) (kk := ?_)
                      first | exact ih (i + 1) _ _ _ _ (by omega) (by omega) e5 hs5 hA2 kO2 | exact ih (i + 1) _ _ _ _ (by omega) (by omega) e5 hs5 hA1 kO1
                    · refine i_aload_n C dX6_walkPage_115 (kk := ?_)
                      refine i_aload_n C dX6_walkPage_116 (kk := ?_)
                      refine i_aload C dX6_walkPage_117 (kk := ?_)
                      refine i_iload C dX6_walkPage_119 (kk := ?_)
                      refine i_iload_n C dX6_walkPage_121 (kk := ?_)
                      refine i_iload C dX6_walkPage_122 (kk := ?_)
                      refine i_callV C lk_X6_296 (cp4_X6_walkPiece l hl D (hW := hW1) hA1 hτ (hT := hW1.txt hp) (i := i) (by omega) (by omega) harg) (hcl := rfl) (hst := rfl) dX6_walkPage_124 (hw := hW1.obj) (kk := fun v124 w124 g124 => ?_)
                      obtain ⟨rfl, hA2, o2⟩ := g124
                      have kO2 := kO1.trans o2
                      have e5 : wtx (wpN (sT σ) 1) arg st ((sT σ p).take (i + 1)) = (s, wpc (wpN (sT σ) 1) arg st1 (pcs (sT σ p) i)) := by rw [e9]; unfold wst; dsimp only; rw [if_neg e8, if_neg (by omega), if_neg (by omega), if_pos (by omega)]
                      have hs5 : s ≤ i + 1 := by omega
                      refine i_iinc C dX6_walkPage_127 (kk := ?_)
                      refine i_goto C dX6_walkPage_130 (tgt := 37) (kk := ?_)
                      first | exact ih (i + 1) _ _ _ _ (by omega) (by omega) e5 hs5 hA2 kO2 | exact ih (i + 1) _ _ _ _ (by omega) (by omega) e5 hs5 hA1 kO1
                  · refine i_iload C dX6_walkPage_99 (kk := ?_)
                    refine i_if_le C dX6_walkPage_101 (tgt := 110) (kt := fun hB101 => ?_) (kf := fun hB101 => ?_)
                    · refine i_iload C dX6_walkPage_110 (kk := ?_)
                      refine i_if_ne C dX6_walkPage_112 (tgt := 127) (kt := fun hB112 => ?_) (kf := fun hB112 => ?_)
                      · have e5 : wtx (wpN (sT σ) 1) arg st ((sT σ p).take (i + 1)) = (s, st1) := by rw [e9]; unfold wst; dsimp only; rw [if_neg e8, if_neg (by omega), if_neg (by omega), if_neg (by omega)]
                        have hs5 : s ≤ i + 1 := by omega
                        refine i_iinc C dX6_walkPage_127 (kk := ?_)
                        refine i_goto C dX6_walkPage_130 (tgt := 37) (kk := ?_)
                        first | exact ih (i + 1) _ _ _ _ (by omega) (by omega) e5 hs5 hA2 kO2 | exact ih (i + 1) _ _ _ _ (by omega) (by omega) e5 hs5 hA1 kO1
                      · refine i_aload_n C dX6_walkPage_115 (kk := ?_)
                        refine i_aload_n C dX6_walkPage_116 (kk := ?_)
                        refine i_aload C dX6_walkPage_117 (kk := ?_)
                        refine i_iload C dX6_walkPage_119 (kk := ?_)
                        refine i_iload_n C dX6_walkPage_121 (kk := ?_)
                        refine i_iload C dX6_walkPage_122 (kk := ?_)
                        refine i_callV C lk_X6_296 (cp4_X6_walkPiece l hl D (hW := hW1) hA1 hτ (hT := hW1.txt hp) (i := i) (by omega) (by omega) harg) (hcl := rfl) (hst := rfl) dX6_walkPage_124 (hw := hW1.obj) (kk := fun v124 w124 g124 => ?_)
                        obtain ⟨rfl, hA2, o2⟩ := g124
                        have kO2 := kO1.trans o2
                        have e5 : wtx (wpN (sT σ) 1) arg st ((sT σ p).take (i + 1)) = (s, wpc (wpN (sT σ) 1) arg st1 (pcs (sT σ p) i)) := by rw [e9]; unfold wst; dsimp only; rw [if_neg e8, if_neg (by omega), if_neg (by omega), if_pos (by omega)]
                        have hs5 : s ≤ i + 1 := by omega
                        refine i_iinc C dX6_walkPage_127 (kk := ?_)
                        refine i_goto C dX6_walkPage_130 (tgt := 37) (kk := ?_)
                        first | exact ih (i + 1) _ _ _ _ (by omega) (by omega) e5 hs5 hA2 kO2 | exact ih (i + 1) _ _ _ _ (by omega) (by omega) e5 hs5 hA1 kO1
                    · have e5 : wtx (wpN (sT σ) 1) arg st ((sT σ p).take (i + 1)) = (s - 1, st1) := by rw [e9]; unfold wst; dsimp only; rw [if_neg e8, if_neg (by omega), if_pos (by omega)]
                      have hs5 : s - 1 ≤ i + 1 := by omega
                      refine i_iinc C dX6_walkPage_104 (kk := ?_)
                      rw [show ((s : Int) + (-1)) = ((s - 1 : Nat) : Int) by omega]
                      refine i_goto C dX6_walkPage_107 (tgt := 127) (kk := ?_)
                      refine i_iinc C dX6_walkPage_127 (kk := ?_)
                      refine i_goto C dX6_walkPage_130 (tgt := 37) (kk := ?_)
                      first | exact ih (i + 1) _ _ _ _ (by omega) (by omega) e5 hs5 hA2 kO2 | exact ih (i + 1) _ _ _ _ (by omega) (by omega) e5 hs5 hA1 kO1
                · have e5 : wtx (wpN (sT σ) 1) arg st ((sT σ p).take (i + 1)) = (s + 1, st1) := by rw [e9]; unfold wst; dsimp only; rw [if_neg e8, if_pos (by omega)]
                  have hs5 : s + 1 ≤ i + 1 := by omega
                  refine i_iinc C dX6_walkPage_86 (kk := ?_)
                  refine i_goto C dX6_walkPage_89 (tgt := 127) (kk := ?_)
                  refine i_iinc C dX6_walkPage_127 (kk := ?_)
                  refine i_goto C dX6_walkPage_130 (tgt := 37) (kk := ?_)
                  first | exact ih (i + 1) _ _ _ _ (by omega) (by omega) e5 hs5 hA2 kO2 | exact ih (i + 1) _ _ _ _ (by omega) (by omega) e5 hs5 hA1 kO1
      exact lp ((sT σ p).length + 1) 0 _ 0 st _ (by omega) (by omega) rfl (by omega) hA offR.rf
    · have e4 : wpN (sT σ) 2 p arg st = st := if_pos (by omega)
      exact i_vret C (d := dX6_walkPage_17) (h := ⟨rfl, by rw [e4]; exact hA, offR.rf⟩)

set_option maxRecDepth 100000 in
set_option maxHeartbeats 4000000 in
theorem cp3_X6_walkPiece (l : Launch) (hl : l.stackTraces = false) (D : gD) {w : wW} {τ ad : Nat → Nat} {nb tb : Nat} {σ : Sg} {a r2 t ta te tc i : Nat} {ps : List Pc3} {arg : Int} {st : Int × Int} (hW : WkI D w τ ad nb tb σ := by assumption) (hA : w a = some (wkO st)) (hτ : 2260 ≤ τ a) (hT : TxT D w τ r2 t ta te tc ps) (hi : i < ps.length) (hst : 0 ≤ st.1 ∧ st.1 ≤ 2147483647) (harg : -1 ≤ arg ∧ arg ≤ 25) : CTm l D yX6_walkPiece cX6_walkPiece 6 none (rmL 9 0 0) [.ref (ad 0), .ref a, .ref t, .int (Z32 (i : Int)), .int (Z32 arg), .int (Z32 3)] w (fun u w1 => u = none ∧ w1 a = some (wkO (wpc (wpN (sT σ) 2) arg st (pcs ps i))) ∧ offR τ w w1 (τ a) (τ a + 1)) := by
  refine CTm_of hl false rfl (by rfl) (Nat.le_of_ble_eq_true rfl) (fun h => nomatch h) ?_
  intro G C
  show G 0 0 w [some (.ref (ad 0)), some (.ref a), some (.ref t), some (.int (Z32 (i : Int))), some (.int (Z32 arg)), some (.int (Z32 3))] 0 []
  have hv := hT.2.2.2.2.2.2.2.1 _ (pcs_mem hi)
  have hvR := hv.R
  refine i_aload_n C dX6_walkPiece_0 (kk := ?_)
  refine i_iload_n C dX6_walkPiece_1 (kk := ?_)
  refine i_callV C lk_X6_261 (c_X3_sortOf l hl D (hT := hT) (i := i)) (hcl := rfl) (hst := rfl) dX6_walkPiece_2 (hw := hT.2.2.2.2.1) (kk := fun v2 w2 g2 => ?_)
  obtain ⟨rfl, q2⟩ := g2
  have q2 := q2.symm
  subst q2
  rcases (show (pcs ps i).1 = 0 ∨ (pcs ps i).1 = 1 ∨ (pcs ps i).1 = 2 ∨ (pcs ps i).1 = 3 ∨ (pcs ps i).1 = 4 ∨ (pcs ps i).1 = 5 ∨ (pcs ps i).1 = 6 ∨ (pcs ps i).1 = 7 ∨ (pcs ps i).1 = 8 by omega) with hs | hs | hs | hs | hs | hs | hs | hs | hs
  · rw [hs]
    refine i_tableIn C dX6_walkPiece_5 (tgt := 100) (ha := by decide) (h1 := by decide) (h2 := by decide) (ho := rfl) (ht := by decide) (kk := ?_)
    refine i_aload_n C dX6_walkPiece_100 (kk := ?_)
    refine i_aload_n C dX6_walkPiece_101 (kk := ?_)
    refine i_iload_n C dX6_walkPiece_102 (kk := ?_)
    refine i_callV C lk_X6_287 (c_X3_itemOf l hl D (hT := hT) (i := i)) (hcl := rfl) (hst := rfl) dX6_walkPiece_103 (hw := hT.2.2.2.2.1) (kk := fun v103 w103 g103 => ?_)
    obtain ⟨rfl, q103⟩ := g103
    have q103 := q103.symm
    subst q103
    show G _ _ _ _ _ (.int (Z32 (pItem (pcs ps i))) :: _)
    refine i_callV C lk_X6_300 (c_X5_meet l hl D (hw := hA)) (hcl := rfl) (hst := rfl) dX6_walkPiece_106 (hw := hA) (kk := fun v106 w106 g106 => ?_)
    obtain ⟨rfl, rfl⟩ := g106
    refine i_goto C dX6_walkPiece_109 (tgt := 112) (kk := ?_)
    exact i_vret C (d := dX6_walkPiece_112) (h := by first | exact ⟨rfl, by unfold wpc; simp [hs]; exact hA, offR.rf⟩ | exact ⟨rfl, by unfold wpc; simp [hs, hB88]; exact hA, offR.rf⟩ | exact ⟨rfl, by rw [wset_eq]; unfold wpc; simp [hs]; rfl, offR.rf.put (by omega) (by omega)⟩ | exact ⟨rfl, by rw [wset_eq]; unfold wpc; simp [hs, hB88]; rfl, offR.rf.put (by omega) (by omega)⟩ | exact ⟨rfl, by unfold wpc; simp [hs, hqe]; exact a1, a2⟩)
  · rw [hs]
    refine i_tableIn C dX6_walkPiece_5 (tgt := 100) (ha := by decide) (h1 := by decide) (h2 := by decide) (ho := rfl) (ht := by decide) (kk := ?_)
    refine i_aload_n C dX6_walkPiece_100 (kk := ?_)
    refine i_aload_n C dX6_walkPiece_101 (kk := ?_)
    refine i_iload_n C dX6_walkPiece_102 (kk := ?_)
    refine i_callV C lk_X6_287 (c_X3_itemOf l hl D (hT := hT) (i := i)) (hcl := rfl) (hst := rfl) dX6_walkPiece_103 (hw := hT.2.2.2.2.1) (kk := fun v103 w103 g103 => ?_)
    obtain ⟨rfl, q103⟩ := g103
    have q103 := q103.symm
    subst q103
    show G _ _ _ _ _ (.int (Z32 (pItem (pcs ps i))) :: _)
    refine i_callV C lk_X6_300 (c_X5_meet l hl D (hw := hA)) (hcl := rfl) (hst := rfl) dX6_walkPiece_106 (hw := hA) (kk := fun v106 w106 g106 => ?_)
    obtain ⟨rfl, rfl⟩ := g106
    refine i_goto C dX6_walkPiece_109 (tgt := 112) (kk := ?_)
    exact i_vret C (d := dX6_walkPiece_112) (h := by first | exact ⟨rfl, by unfold wpc; simp [hs]; exact hA, offR.rf⟩ | exact ⟨rfl, by unfold wpc; simp [hs, hB88]; exact hA, offR.rf⟩ | exact ⟨rfl, by rw [wset_eq]; unfold wpc; simp [hs]; rfl, offR.rf.put (by omega) (by omega)⟩ | exact ⟨rfl, by rw [wset_eq]; unfold wpc; simp [hs, hB88]; rfl, offR.rf.put (by omega) (by omega)⟩ | exact ⟨rfl, by unfold wpc; simp [hs, hqe]; exact a1, a2⟩)
  · rw [hs]
    refine i_tableIn C dX6_walkPiece_5 (tgt := 100) (ha := by decide) (h1 := by decide) (h2 := by decide) (ho := rfl) (ht := by decide) (kk := ?_)
    refine i_aload_n C dX6_walkPiece_100 (kk := ?_)
    refine i_aload_n C dX6_walkPiece_101 (kk := ?_)
    refine i_iload_n C dX6_walkPiece_102 (kk := ?_)
    refine i_callV C lk_X6_287 (c_X3_itemOf l hl D (hT := hT) (i := i)) (hcl := rfl) (hst := rfl) dX6_walkPiece_103 (hw := hT.2.2.2.2.1) (kk := fun v103 w103 g103 => ?_)
    obtain ⟨rfl, q103⟩ := g103
    have q103 := q103.symm
    subst q103
    show G _ _ _ _ _ (.int (Z32 (pItem (pcs ps i))) :: _)
    refine i_callV C lk_X6_300 (c_X5_meet l hl D (hw := hA)) (hcl := rfl) (hst := rfl) dX6_walkPiece_106 (hw := hA) (kk := fun v106 w106 g106 => ?_)
    obtain ⟨rfl, rfl⟩ := g106
    refine i_goto C dX6_walkPiece_109 (tgt := 112) (kk := ?_)
    exact i_vret C (d := dX6_walkPiece_112) (h := by first | exact ⟨rfl, by unfold wpc; simp [hs]; exact hA, offR.rf⟩ | exact ⟨rfl, by unfold wpc; simp [hs, hB88]; exact hA, offR.rf⟩ | exact ⟨rfl, by rw [wset_eq]; unfold wpc; simp [hs]; rfl, offR.rf.put (by omega) (by omega)⟩ | exact ⟨rfl, by rw [wset_eq]; unfold wpc; simp [hs, hB88]; rfl, offR.rf.put (by omega) (by omega)⟩ | exact ⟨rfl, by unfold wpc; simp [hs, hqe]; exact a1, a2⟩)
  · rw [hs]
    refine i_tableIn C dX6_walkPiece_5 (tgt := 85) (ha := by decide) (h1 := by decide) (h2 := by decide) (ho := rfl) (ht := by decide) (kk := ?_)
    refine i_iload C dX6_walkPiece_85 (kk := ?_)
    refine i_iconst C dX6_walkPiece_87 (kk := ?_)
    refine i_icmp_eq C dX6_walkPiece_88 (tgt := 112) (kt := fun hB88 => ?_) (kf := fun hB88 => ?_)
    · exact i_vret C (d := dX6_walkPiece_112) (h := by first | exact ⟨rfl, by unfold wpc; simp [hs]; exact hA, offR.rf⟩ | exact ⟨rfl, by unfold wpc; simp [hs, hB88]; exact hA, offR.rf⟩ | exact ⟨rfl, by rw [wset_eq]; unfold wpc; simp [hs]; rfl, offR.rf.put (by omega) (by omega)⟩ | exact ⟨rfl, by rw [wset_eq]; unfold wpc; simp [hs, hB88]; rfl, offR.rf.put (by omega) (by omega)⟩ | exact ⟨rfl, by unfold wpc; simp [hs, hqe]; exact a1, a2⟩)
    · refine i_aload_n C dX6_walkPiece_91 (kk := ?_)
      refine i_iload C dX6_walkPiece_92 (kk := ?_)
      refine i_callV C lk_X6_300 (c_X5_meet l hl D (hw := hA)) (hcl := rfl) (hst := rfl) dX6_walkPiece_94 (hw := hA) (kk := fun v94 w94 g94 => ?_)
      obtain ⟨rfl, rfl⟩ := g94
      refine i_goto C dX6_walkPiece_97 (tgt := 112) (kk := ?_)
      exact i_vret C (d := dX6_walkPiece_112) (h := by first | exact ⟨rfl, by unfold wpc; simp [hs]; exact hA, offR.rf⟩ | exact ⟨rfl, by unfold wpc; simp [hs, hB88]; exact hA, offR.rf⟩ | exact ⟨rfl, by rw [wset_eq]; unfold wpc; simp [hs]; rfl, offR.rf.put (by omega) (by omega)⟩ | exact ⟨rfl, by rw [wset_eq]; unfold wpc; simp [hs, hB88]; rfl, offR.rf.put (by omega) (by omega)⟩ | exact ⟨rfl, by unfold wpc; simp [hs, hqe]; exact a1, a2⟩)
  · rw [hs]
    refine i_tableIn C dX6_walkPiece_5 (tgt := 44) (ha := by decide) (h1 := by decide) (h2 := by decide) (ho := rfl) (ht := by decide) (kk := ?_)
    refine i_aload_n C dX6_walkPiece_44 (kk := ?_)
    refine i_aload_n C dX6_walkPiece_45 (kk := ?_)
    refine i_aload_n C dX6_walkPiece_46 (kk := ?_)
    refine i_iload_n C dX6_walkPiece_47 (kk := ?_)
    refine i_callV C lk_X6_273 (c_X3_pageOf l hl D (hT := hT) (i := i)) (hcl := rfl) (hst := rfl) dX6_walkPiece_48 (hw := hT.2.2.2.2.1) (kk := fun v48 w48 g48 => ?_)
    obtain ⟨rfl, q48⟩ := g48
    have q48 := q48.symm
    subst q48
    obtain ⟨q, hqe⟩ : ∃ q : Nat, (pcs ps i).2.1 = q := ⟨(pcs ps i).2.1.toNat, by unfold PV at hv; omega⟩
    have hq12 : q < 12 := by unfold PV at hv; omega
    rw [hqe]
    refine i_aload_n C dX6_walkPiece_51 (kk := ?_)
    refine i_iload_n C dX6_walkPiece_52 (kk := ?_)
    refine i_callV C lk_X6_264 (c_X3_signOf l hl D (hT := hT) (i := i)) (hcl := rfl) (hst := rfl) dX6_walkPiece_53 (hw := hT.2.2.2.2.1) (kk := fun v53 w53 g53 => ?_)
    obtain ⟨rfl, q53⟩ := g53
    have q53 := q53.symm
    subst q53
    refine i_iload C dX6_walkPiece_56 (kk := ?_)
    refine i_iconst C dX6_walkPiece_58 (kk := ?_)
    refine i_iadd C dX6_walkPiece_59 (kk := ?_)
    refine i_callV C lk_X6_153 (cw4_X6_walkPage l hl D (hW := hW) hA hτ hq12 (by omega) (by unfold PV at hv; omega)) (hcl := rfl) (hst := rfl) dX6_walkPiece_60 (hw := hW.obj) (kk := fun v60 w60 g60 => ?_)
    obtain ⟨rfl, a1, a2⟩ := g60
    refine i_goto C dX6_walkPiece_63 (tgt := 112) (kk := ?_)
    exact i_vret C (d := dX6_walkPiece_112) (h := by first | exact ⟨rfl, by unfold wpc; simp [hs]; exact hA, offR.rf⟩ | exact ⟨rfl, by unfold wpc; simp [hs, hB88]; exact hA, offR.rf⟩ | exact ⟨rfl, by rw [wset_eq]; unfold wpc; simp [hs]; rfl, offR.rf.put (by omega) (by omega)⟩ | exact ⟨rfl, by rw [wset_eq]; unfold wpc; simp [hs, hB88]; rfl, offR.rf.put (by omega) (by omega)⟩ | exact ⟨rfl, by unfold wpc; simp [hs, hqe]; exact a1, a2⟩)
  · rw [hs]
    refine i_tableIn C dX6_walkPiece_5 (tgt := 66) (ha := by decide) (h1 := by decide) (h2 := by decide) (ho := rfl) (ht := by decide) (kk := ?_)
    refine i_aload_n C dX6_walkPiece_66 (kk := ?_)
    refine i_aload_n C dX6_walkPiece_67 (kk := ?_)
    refine i_aload_n C dX6_walkPiece_68 (kk := ?_)
    refine i_iload_n C dX6_walkPiece_69 (kk := ?_)
    refine i_callV C lk_X6_273 (c_X3_pageOf l hl D (hT := hT) (i := i)) (hcl := rfl) (hst := rfl) dX6_walkPiece_70 (hw := hT.2.2.2.2.1) (kk := fun v70 w70 g70 => ?_)
    obtain ⟨rfl, q70⟩ := g70
    have q70 := q70.symm
    subst q70
    obtain ⟨q, hqe⟩ : ∃ q : Nat, (pcs ps i).2.1 = q := ⟨(pcs ps i).2.1.toNat, by unfold PV at hv; omega⟩
    have hq12 : q < 12 := by unfold PV at hv; omega
    rw [hqe]
    refine i_iload C dX6_walkPiece_73 (kk := ?_)
    refine i_iload C dX6_walkPiece_75 (kk := ?_)
    refine i_iconst C dX6_walkPiece_77 (kk := ?_)
    refine i_iadd C dX6_walkPiece_78 (kk := ?_)
    refine i_callV C lk_X6_153 (cw4_X6_walkPage l hl D (hW := hW) hA hτ hq12 (by omega) harg) (hcl := rfl) (hst := rfl) dX6_walkPiece_79 (hw := hW.obj) (kk := fun v79 w79 g79 => ?_)
    obtain ⟨rfl, a1, a2⟩ := g79
    refine i_goto C dX6_walkPiece_82 (tgt := 112) (kk := ?_)
    exact i_vret C (d := dX6_walkPiece_112) (h := by first | exact ⟨rfl, by unfold wpc; simp [hs]; exact hA, offR.rf⟩ | exact ⟨rfl, by unfold wpc; simp [hs, hB88]; exact hA, offR.rf⟩ | exact ⟨rfl, by rw [wset_eq]; unfold wpc; simp [hs]; rfl, offR.rf.put (by omega) (by omega)⟩ | exact ⟨rfl, by rw [wset_eq]; unfold wpc; simp [hs, hB88]; rfl, offR.rf.put (by omega) (by omega)⟩ | exact ⟨rfl, by unfold wpc; simp [hs, hqe]; exact a1, a2⟩)
  · rw [hs]
    refine i_tableOut C dX6_walkPiece_5 (tgt := 112) (ha := by decide) (h1 := by decide) (ht := by decide) (kk := ?_)
    exact i_vret C (d := dX6_walkPiece_112) (h := by first | exact ⟨rfl, by unfold wpc; simp [hs]; exact hA, offR.rf⟩ | exact ⟨rfl, by unfold wpc; simp [hs, hB88]; exact hA, offR.rf⟩ | exact ⟨rfl, by rw [wset_eq]; unfold wpc; simp [hs]; rfl, offR.rf.put (by omega) (by omega)⟩ | exact ⟨rfl, by rw [wset_eq]; unfold wpc; simp [hs, hB88]; rfl, offR.rf.put (by omega) (by omega)⟩ | exact ⟨rfl, by unfold wpc; simp [hs, hqe]; exact a1, a2⟩)
  · rw [hs]
    refine i_tableOut C dX6_walkPiece_5 (tgt := 112) (ha := by decide) (h1 := by decide) (ht := by decide) (kk := ?_)
    exact i_vret C (d := dX6_walkPiece_112) (h := by first | exact ⟨rfl, by unfold wpc; simp [hs]; exact hA, offR.rf⟩ | exact ⟨rfl, by unfold wpc; simp [hs, hB88]; exact hA, offR.rf⟩ | exact ⟨rfl, by rw [wset_eq]; unfold wpc; simp [hs]; rfl, offR.rf.put (by omega) (by omega)⟩ | exact ⟨rfl, by rw [wset_eq]; unfold wpc; simp [hs, hB88]; rfl, offR.rf.put (by omega) (by omega)⟩ | exact ⟨rfl, by unfold wpc; simp [hs, hqe]; exact a1, a2⟩)
  · rw [hs]
    refine i_tableOut C dX6_walkPiece_5 (tgt := 112) (ha := by decide) (h1 := by decide) (ht := by decide) (kk := ?_)
    exact i_vret C (d := dX6_walkPiece_112) (h := by first | exact ⟨rfl, by unfold wpc; simp [hs]; exact hA, offR.rf⟩ | exact ⟨rfl, by unfold wpc; simp [hs, hB88]; exact hA, offR.rf⟩ | exact ⟨rfl, by rw [wset_eq]; unfold wpc; simp [hs]; rfl, offR.rf.put (by omega) (by omega)⟩ | exact ⟨rfl, by rw [wset_eq]; unfold wpc; simp [hs, hB88]; rfl, offR.rf.put (by omega) (by omega)⟩ | exact ⟨rfl, by unfold wpc; simp [hs, hqe]; exact a1, a2⟩)

set_option maxRecDepth 100000 in
set_option maxHeartbeats 4000000 in
theorem cw3_X6_walkPage (l : Launch) (hl : l.stackTraces = false) (D : gD) {w : wW} {τ ad : Nat → Nat} {nb tb : Nat} {σ : Sg} {a p : Nat} {arg : Int} {st : Int × Int} (hW : WkI D w τ ad nb tb σ := by assumption) (hA : w a = some (wkO st)) (hτ : 2260 ≤ τ a) (hp : p < 12) (hst : -1 ≤ st.1 ∧ st.1 ≤ 2147483647) (harg : -1 ≤ arg ∧ arg ≤ 25) : CTm l D yX6_walkPage cX6_walkPage 9 none (rmL 10 0 0) [.ref (ad 0), .ref a, .int (Z32 (p : Int)), .int (Z32 arg), .int (Z32 3)] w (fun u w1 => u = none ∧ w1 a = some (wkO (wpN (sT σ) 3 p arg st)) ∧ offR τ w w1 (τ a) (τ a + 1)) := by
  refine CTm_of hl false rfl (by rfl) (Nat.le_of_ble_eq_true rfl) (fun h => nomatch h) ?_
  intro G C
  show G 0 0 w [some (.ref (ad 0)), some (.ref a), some (.int (Z32 (p : Int))), some (.int (Z32 arg)), some (.int (Z32 3)), none, none, none, none] 0 []
  refine i_iload C dX6_walkPage_0 (kk := ?_)
  refine i_iconst C dX6_walkPage_2 (kk := ?_)
  refine i_icmp_gt C dX6_walkPage_3 (tgt := 17) (kt := fun hB3 => ?_) (kf := fun hB3 => ?_)
  · exfalso; omega
  · refine i_aload_n C dX6_walkPage_6 (kk := ?_)
    obtain ⟨hb9, -, ⟨fc, fo, fr, fd, fx, kN, kO9⟩, -⟩ := hW.2.1
    have hx9 := (kO9 p hp).2.2.2
    have hx5 := (hW.1.2.1 p hp).2.2.2.1
    have h30 := (hW.txt hp).2.2.2.2.2.1
    refine i_getf C f_X6_23 dX6_walkPage_7 (hw := hW.obj) (kk := ?_)
    refine i_iload_n C dX6_walkPage_10 (kk := ?_)
    refine i_callV C lk_X6_126 (c_X0_extentOf l hl D (hN := kN) (p := p)) (hcl := rfl) (hst := rfl) dX6_walkPage_11 (hw := kN.2.2.2.2.2.2.1) (kk := fun v11 w11 g11 => ?_)
    obtain ⟨rfl, q11⟩ := g11
    have q11 := q11.symm
    subst q11
    refine i_if_ne C dX6_walkPage_14 (tgt := 18) (kt := fun hB14 => ?_) (kf := fun hB14 => ?_)
    · have e4 : wpN (sT σ) 3 p arg st = (wtx (wpN (sT σ) 2) arg st (sT σ p)).2 := if_neg (by omega)
      refine i_aload_n C dX6_walkPage_18 (kk := ?_)
      refine i_iload_n C dX6_walkPage_19 (kk := ?_)
      refine i_callV C lk_X6_67 (c_X6_pageAt l hl D (hW := hW) (p := p)) (hcl := rfl) (hst := rfl) dX6_walkPage_20 (hw := hW.obj) (kk := fun v20 w20 g20 => ?_)
      obtain ⟨rfl, q20⟩ := g20
      have q20 := q20.symm
      subst q20
      refine i_getf C f_X6_73 dX6_walkPage_23 (hw := hW.page hp) (kk := ?_)
      refine i_getf C f_X6_113 dX6_walkPage_26 (hw := hW.ver hp) (kk := ?_)
      refine i_astore C dX6_walkPage_29 (kk := ?_)
      refine i_iconst C dX6_walkPage_31 (kk := ?_)
      refine i_istore C dX6_walkPage_32 (kk := ?_)
      refine i_iconst C dX6_walkPage_34 (kk := ?_)
      refine i_istore C dX6_walkPage_35 (kk := ?_)
      have lp : ∀ (m i : Nat) (w1 : wW) (s : Nat) (st1 : Int × Int) (o9 : Option Value), (sT σ p).length + 1 ≤ m + i → i ≤ (sT σ p).length → wtx (wpN (sT σ) 2) arg st ((sT σ p).take i) = (s, st1) → s ≤ i → w1 a = some (wkO st1) → offR τ w w1 (τ a) (τ a + 1) → G 0 0 w1 [some (.ref (ad 0)), some (.ref a), some (.int (Z32 (p : Int))), some (.int (Z32 arg)), some (.int (Z32 3)), some (.ref (ad (vr p (sNv σ p) + 1))), some (.int (Z32 (s : Int))), some (.int (Z32 (i : Int))), o9] 37 [] := by
        intro m
        induction m with
        | zero => intro i w1 s st1 o9 h1 h2; omega
        | succ m ih =>
        intro i w1 s st1 o9 h1 h2 hE hs hA1 kO1
        have hW1 := hW.far kO1 hτ
        have hSR := wtx_R (wpN_R (T := sT σ) 2) (arg := arg) hst ((sT σ p).take i)
        rw [hE] at hSR
        have hSR : -1 ≤ st1.1 ∧ st1.1 ≤ 2147483647 := hSR
        refine i_iload C dX6_walkPage_37 (kk := ?_)
        refine i_aload C dX6_walkPage_39 (kk := ?_)
        refine i_getf C f_X6_208 dX6_walkPage_41 (hw := (hW1.txt hp).2.2.2.2.1) (kk := ?_)
        refine i_icmp_ge C dX6_walkPage_44 (tgt := 133) (kt := fun hB44 => ?_) (kf := fun hB44 => ?_)
        · have e3 : (wtx (wpN (sT σ) 2) arg st (sT σ p)) = (s, st1) := by rw [← hE, List.take_of_length_le (by omega)]
          exact i_vret C (d := dX6_walkPage_133) (h := ⟨rfl, by rw [e4, e3]; exact hA1, kO1⟩)
        · refine i_aload_n C dX6_walkPage_47 (kk := ?_)
          refine i_callV C lk_X6_293 (c_X5_isOver l hl D (hw := hA1)) (hcl := rfl) (hst := rfl) dX6_walkPage_48 (hw := hA1) (kk := fun v48 w48 g48 => ?_)
          obtain ⟨rfl, q48⟩ := g48
          have q48 := q48.symm
          subst q48
          refine i_if_ne C dX6_walkPage_51 (tgt := 133) (ha := by split <;> decide) (kt := fun hB51 => ?_) (kf := fun hB51 => ?_)
          · have e8 : st1.1 < 0 := by apply Decidable.byContradiction; intro q; rw [if_neg q] at hB51; exact hB51 rfl
            have e3 : (wtx (wpN (sT σ) 2) arg st (sT σ p)) = (s, st1) := by rw [wtx_over (i := i) (by rw [hE]; exact e8), hE]
            exact i_vret C (d := dX6_walkPage_133) (h := ⟨rfl, by rw [e4, e3]; exact hA1, kO1⟩)
          · have e8 : ¬ st1.1 < 0 := by intro q; rw [if_pos q] at hB51; omega
            have e9 : wtx (wpN (sT σ) 2) arg st ((sT σ p).take (i + 1)) = wst (wpN (sT σ) 2) arg (s, st1) (pcs (sT σ p) i) := by rw [wtx_take (by omega), hE]
            have hv := (hW1.txt hp).2.2.2.2.2.2.2.1 _ (pcs_mem (i := i) (by omega))
            have hvR := hv.R
            refine i_aload C dX6_walkPage_54 (kk := ?_)
            refine i_iload C dX6_walkPage_56 (kk := ?_)
            refine i_callV C lk_X6_261 (c_X3_sortOf l hl D (hT := hW1.txt hp) (i := i)) (hcl := rfl) (hst := rfl) dX6_walkPage_58 (hw := (hW1.txt hp).2.2.2.2.1) (kk := fun v58 w58 g58 => ?_)
            obtain ⟨rfl, q58⟩ := g58
            have q58 := q58.symm
            subst q58
            refine i_istore C dX6_walkPage_61 (kk := ?_)
            refine i_iload C dX6_walkPage_63 (kk := ?_)
            refine i_bipush C dX6_walkPage_65 (kk := ?_)
            refine i_icmp_ne C dX6_walkPage_67 (tgt := 92) (kt := fun hB67 => ?_) (kf := fun hB67 => ?_)
            · refine i_iload C dX6_walkPage_92 (kk := ?_)
              refine i_bipush C dX6_walkPage_94 (kk := ?_)
              refine i_icmp_ne C dX6_walkPage_96 (tgt := 110) (kt := fun hB96 => ?_) (kf := fun hB96 => ?_)
              · refine i_iload C dX6_walkPage_110 (kk := ?_)
                refine i_if_ne C dX6_walkPage_112 (tgt := 127) (kt := fun hB112 => ?_) (kf := fun hB112 => ?_)
                · have e5 : wtx (wpN (sT σ) 2) arg st ((sT σ p).take (i + 1)) = (s, st1) := by rw [e9]; unfold wst; dsimp only; rw [if_neg e8, if_neg (by omega), if_neg (by omega), if_neg (by omega)]
                  have hs5 : s ≤ i + 1 := by omega
                  refine i_iinc C dX6_walkPage_127 (kk := ?_)
                  refine i_goto C dX6_walkPage_130 (tgt := 37) (kk := ?_)
                  first | exact ih (i + 1) _ _ _ _ (by omega) (by omega) e5 hs5 hA2 kO2 | exact ih (i + 1) _ _ _ _ (by omega) (by omega) e5 hs5 hA1 kO1
                · refine i_aload_n C dX6_walkPage_115 (kk := ?_)
                  refine i_aload_n C dX6_walkPage_116 (kk := ?_)
                  refine i_aload C dX6_walkPage_117 (kk := ?_)
                  refine i_iload C dX6_walkPage_119 (kk := ?_)
                  refine i_iload_n C dX6_walkPage_121 (kk := ?_)
                  refine i_iload C dX6_walkPage_122 (kk := ?_)
                  refine i_callV C lk_X6_296 (cp3_X6_walkPiece l hl D (hW := hW1) hA1 hτ (hT := hW1.txt hp) (i := i) (by omega) (by omega) harg) (hcl := rfl) (hst := rfl) dX6_walkPage_124 (hw := hW1.obj) (kk := fun v124 w124 g124 => ?_)
                  obtain ⟨rfl, hA2, o2⟩ := g124
                  have kO2 := kO1.trans o2
                  have e5 : wtx (wpN (sT σ) 2) arg st ((sT σ p).take (i + 1)) = (s, wpc (wpN (sT σ) 2) arg st1 (pcs (sT σ p) i)) := by rw [e9]; unfold wst; dsimp only; rw [if_neg e8, if_neg (by omega), if_neg (by omega), if_pos (by omega)]
                  have hs5 : s ≤ i + 1 := by omega
                  refine i_iinc C dX6_walkPage_127 (kk := ?_)
                  refine i_goto C dX6_walkPage_130 (tgt := 37) (kk := ?_)
                  first | exact ih (i + 1) _ _ _ _ (by omega) (by omega) e5 hs5 hA2 kO2 | exact ih (i + 1) _ _ _ _ (by omega) (by omega) e5 hs5 hA1 kO1
              · refine i_iload C dX6_walkPage_99 (kk := ?_)
                refine i_if_le C dX6_walkPage_101 (tgt := 110) (kt := fun hB101 => ?_) (kf := fun hB101 => ?_)
                · refine i_iload C dX6_walkPage_110 (kk := ?_)
                  refine i_if_ne C dX6_walkPage_112 (tgt := 127) (kt := fun hB112 => ?_) (kf := fun hB112 => ?_)
                  · have e5 : wtx (wpN (sT σ) 2) arg st ((sT σ p).take (i + 1)) = (s, st1) := by rw [e9]; unfold wst; dsimp only; rw [if_neg e8, if_neg (by omega), if_neg (by omega), if_neg (by omega)]
                    have hs5 : s ≤ i + 1 := by omega
                    refine i_iinc C dX6_walkPage_127 (kk := ?_)
                    refine i_goto C dX6_walkPage_130 (tgt := 37) (kk := ?_)
                    first | exact ih (i + 1) _ _ _ _ (by omega) (by omega) e5 hs5 hA2 kO2 | exact ih (i + 1) _ _ _ _ (by omega) (by omega) e5 hs5 hA1 kO1
                  · refine i_aload_n C dX6_walkPage_115 (kk := ?_)
                    refine i_aload_n C dX6_walkPage_116 (kk := ?_)
                    refine i_aload C dX6_walkPage_117 (kk := ?_)
                    refine i_iload C dX6_walkPage_119 (kk := ?_)
                    refine i_iload_n C dX6_walkPage_121 (kk := ?_)
                    refine i_iload C dX6_walkPage_122 (kk := ?_)
                    refine i_callV C lk_X6_296 (cp3_X6_walkPiece l hl D (hW := hW1) hA1 hτ (hT := hW1.txt hp) (i := i) (by omega) (by omega) harg) (hcl := rfl) (hst := rfl) dX6_walkPage_124 (hw := hW1.obj) (kk := fun v124 w124 g124 => ?_)
                    obtain ⟨rfl, hA2, o2⟩ := g124
                    have kO2 := kO1.trans o2
                    have e5 : wtx (wpN (sT σ) 2) arg st ((sT σ p).take (i + 1)) = (s, wpc (wpN (sT σ) 2) arg st1 (pcs (sT σ p) i)) := by rw [e9]; unfold wst; dsimp only; rw [if_neg e8, if_neg (by omega), if_neg (by omega), if_pos (by omega)]
                    have hs5 : s ≤ i + 1 := by omega
                    refine i_iinc C dX6_walkPage_127 (kk := ?_)
                    refine i_goto C dX6_walkPage_130 (tgt := 37) (kk := ?_)
                    first | exact ih (i + 1) _ _ _ _ (by omega) (by omega) e5 hs5 hA2 kO2 | exact ih (i + 1) _ _ _ _ (by omega) (by omega) e5 hs5 hA1 kO1
                · have e5 : wtx (wpN (sT σ) 2) arg st ((sT σ p).take (i + 1)) = (s - 1, st1) := by rw [e9]; unfold wst; dsimp only; rw [if_neg e8, if_neg (by omega), if_pos (by omega)]
                  have hs5 : s - 1 ≤ i + 1 := by omega
                  refine i_iinc C dX6_walkPage_104 (kk := ?_)
                  rw [show ((s : Int) + (-1)) = ((s - 1 : Nat) : Int) by omega]
                  refine i_goto C dX6_walkPage_107 (tgt := 127) (kk := ?_)
                  refine i_iinc C dX6_walkPage_127 (kk := ?_)
                  refine i_goto C dX6_walkPage_130 (tgt := 37) (kk := ?_)
                  first | exact ih (i + 1) _ _ _ _ (by omega) (by omega) e5 hs5 hA2 kO2 | exact ih (i + 1) _ _ _ _ (by omega) (by omega) e5 hs5 hA1 kO1
            · refine i_iload C dX6_walkPage_70 (kk := ?_)
              refine i_if_gt C dX6_walkPage_72 (tgt := 86) (kt := fun hB72 => ?_) (kf := fun hB72 => ?_)
              · have e5 : wtx (wpN (sT σ) 2) arg st ((sT σ p).take (i + 1)) = (s + 1, st1) := by rw [e9]; unfold wst; dsimp only; rw [if_neg e8, if_pos (by omega)]
                have hs5 : s + 1 ≤ i + 1 := by omega
                refine i_iinc C dX6_walkPage_86 (kk := ?_)
                refine i_goto C dX6_walkPage_89 (tgt := 127) (kk := ?_)
                refine i_iinc C dX6_walkPage_127 (kk := ?_)
                refine i_goto C dX6_walkPage_130 (tgt := 37) (kk := ?_)
                first | exact ih (i + 1) _ _ _ _ (by omega) (by omega) e5 hs5 hA2 kO2 | exact ih (i + 1) _ _ _ _ (by omega) (by omega) e5 hs5 hA1 kO1
              · refine i_aload C dX6_walkPage_75 (kk := ?_)
                refine i_iload C dX6_walkPage_77 (kk := ?_)
                refine i_callV C lk_X6_264 (c_X3_signOf l hl D (hT := hW1.txt hp) (i := i)) (hcl := rfl) (hst := rfl) dX6_walkPage_79 (hw := (hW1.txt hp).2.2.2.2.1) (kk := fun v79 w79 g79 => ?_)
                obtain ⟨rfl, q79⟩ := g79
                have q79 := q79.symm
                subst q79
                refine i_iload_n C dX6_walkPage_82 (kk := ?_)
                refine i_icmp_eq C dX6_walkPage_83 (tgt := 92) (kt := fun hB83 => ?_) (kf := fun hB83 => ?_)
                · refine i_iload C dX6_walkPage_92 (kk := ?_)
                  refine i_bipush C dX6_walkPage_94 (kk := ?_)
                  refine i_icmp_ne C dX6_walkPage_96 (tgt := 110) (kt := fun hB96 => ?_) (kf := fun hB96 => ?_)
                  · refine i_iload C dX6_walkPage_110 (kk := ?_)
                    refine i_if_ne C dX6_walkPage_112 (tgt := 127) (kt := fun hB112 => ?_) (kf := fun hB112 => ?_)
                    · have e5 : wtx (wpN (sT σ) 2) arg st ((sT σ p).take (i + 1)) = (s, st1) := by rw [e9]; unfold wst; dsimp only; rw [if_neg e8, if_neg (by omega), if_neg (by omega), if_neg (by omega)]
                      have hs5 : s ≤ i + 1 := by omega
                      refine i_iinc C dX6_walkPage_127 (kk := ?_)
                      refine i_goto C dX6_walkPage_130 (tgt := 37) (kk := ?_)
                      first | exact ih (i + 1) _ _ _ _ (by omega) (by omega) e5 hs5 hA2 kO2 | exact ih (i + 1) _ _ _ _ (by omega) (by omega) e5 hs5 hA1 kO1
                    · refine i_aload_n C dX6_walkPage_115 (kk := ?_)
                      refine i_aload_n C dX6_walkPage_116 (kk := ?_)
                      refine i_aload C dX6_walkPage_117 (kk := ?_)
                      refine i_iload C dX6_walkPage_119 (kk := ?_)
                      refine i_iload_n C dX6_walkPage_121 (kk := ?_)
                      refine i_iload C dX6_walkPage_122 (kk := ?_)
                      refine i_callV C lk_X6_296 (cp3_X6_walkPiece l hl D (hW := hW1) hA1 hτ (hT := hW1.txt hp) (i := i) (by omega) (by omega) harg) (hcl := rfl) (hst := rfl) dX6_walkPage_124 (hw := hW1.obj) (kk := fun v124 w124 g124 => ?_)
                      obtain ⟨rfl, hA2, o2⟩ := g124
                      have kO2 := kO1.trans o2
                      have e5 : wtx (wpN (sT σ) 2) arg st ((sT σ p).take (i + 1)) = (s, wpc (wpN (sT σ) 2) arg st1 (pcs (sT σ p) i)) := by rw [e9]; unfold wst; dsimp only; rw [if_neg e8, if_neg (by omega), if_neg (by omega), if_pos (by omega)]
                      have hs5 : s ≤ i + 1 := by omega
                      refine i_iinc C dX6_walkPage_127 (kk := ?_)
                      refine i_goto C dX6_walkPage_130 (tgt := 37) (kk := ?_)
                      first | exact ih (i + 1) _ _ _ _ (by omega) (by omega) e5 hs5 hA2 kO2 | exact ih (i + 1) _ _ _ _ (by omega) (by omega) e5 hs5 hA1 kO1
                  · refine i_iload C dX6_walkPage_99 (kk := ?_)
                    refine i_if_le C dX6_walkPage_101 (tgt := 110) (kt := fun hB101 => ?_) (kf := fun hB101 => ?_)
                    · refine i_iload C dX6_walkPage_110 (kk := ?_)
                      refine i_if_ne C dX6_walkPage_112 (tgt := 127) (kt := fun hB112 => ?_) (kf := fun hB112 => ?_)
                      · have e5 : wtx (wpN (sT σ) 2) arg st ((sT σ p).take (i + 1)) = (s, st1) := by rw [e9]; unfold wst; dsimp only; rw [if_neg e8, if_neg (by omega), if_neg (by omega), if_neg (by omega)]
                        have hs5 : s ≤ i + 1 := by omega
                        refine i_iinc C dX6_walkPage_127 (kk := ?_)
                        refine i_goto C dX6_walkPage_130 (tgt := 37) (kk := ?_)
                        first | exact ih (i + 1) _ _ _ _ (by omega) (by omega) e5 hs5 hA2 kO2 | exact ih (i + 1) _ _ _ _ (by omega) (by omega) e5 hs5 hA1 kO1
                      · refine i_aload_n C dX6_walkPage_115 (kk := ?_)
                        refine i_aload_n C dX6_walkPage_116 (kk := ?_)
                        refine i_aload C dX6_walkPage_117 (kk := ?_)
                        refine i_iload C dX6_walkPage_119 (kk := ?_)
                        refine i_iload_n C dX6_walkPage_121 (kk := ?_)
                        refine i_iload C dX6_walkPage_122 (kk := ?_)
                        refine i_callV C lk_X6_296 (cp3_X6_walkPiece l hl D (hW := hW1) hA1 hτ (hT := hW1.txt hp) (i := i) (by omega) (by omega) harg) (hcl := rfl) (hst := rfl) dX6_walkPage_124 (hw := hW1.obj) (kk := fun v124 w124 g124 => ?_)
                        obtain ⟨rfl, hA2, o2⟩ := g124
                        have kO2 := kO1.trans o2
                        have e5 : wtx (wpN (sT σ) 2) arg st ((sT σ p).take (i + 1)) = (s, wpc (wpN (sT σ) 2) arg st1 (pcs (sT σ p) i)) := by rw [e9]; unfold wst; dsimp only; rw [if_neg e8, if_neg (by omega), if_neg (by omega), if_pos (by omega)]
                        have hs5 : s ≤ i + 1 := by omega
                        refine i_iinc C dX6_walkPage_127 (kk := ?_)
                        refine i_goto C dX6_walkPage_130 (tgt := 37) (kk := ?_)
                        first | exact ih (i + 1) _ _ _ _ (by omega) (by omega) e5 hs5 hA2 kO2 | exact ih (i + 1) _ _ _ _ (by omega) (by omega) e5 hs5 hA1 kO1
                    · have e5 : wtx (wpN (sT σ) 2) arg st ((sT σ p).take (i + 1)) = (s - 1, st1) := by rw [e9]; unfold wst; dsimp only; rw [if_neg e8, if_neg (by omega), if_pos (by omega)]
                      have hs5 : s - 1 ≤ i + 1 := by omega
                      refine i_iinc C dX6_walkPage_104 (kk := ?_)
                      rw [show ((s : Int) + (-1)) = ((s - 1 : Nat) : Int) by omega]
                      refine i_goto C dX6_walkPage_107 (tgt := 127) (kk := ?_)
                      refine i_iinc C dX6_walkPage_127 (kk := ?_)
                      refine i_goto C dX6_walkPage_130 (tgt := 37) (kk := ?_)
                      first | exact ih (i + 1) _ _ _ _ (by omega) (by omega) e5 hs5 hA2 kO2 | exact ih (i + 1) _ _ _ _ (by omega) (by omega) e5 hs5 hA1 kO1
                · have e5 : wtx (wpN (sT σ) 2) arg st ((sT σ p).take (i + 1)) = (s + 1, st1) := by rw [e9]; unfold wst; dsimp only; rw [if_neg e8, if_pos (by omega)]
                  have hs5 : s + 1 ≤ i + 1 := by omega
                  refine i_iinc C dX6_walkPage_86 (kk := ?_)
                  refine i_goto C dX6_walkPage_89 (tgt := 127) (kk := ?_)
                  refine i_iinc C dX6_walkPage_127 (kk := ?_)
                  refine i_goto C dX6_walkPage_130 (tgt := 37) (kk := ?_)
                  first | exact ih (i + 1) _ _ _ _ (by omega) (by omega) e5 hs5 hA2 kO2 | exact ih (i + 1) _ _ _ _ (by omega) (by omega) e5 hs5 hA1 kO1
      exact lp ((sT σ p).length + 1) 0 _ 0 st _ (by omega) (by omega) rfl (by omega) hA offR.rf
    · have e4 : wpN (sT σ) 3 p arg st = st := if_pos (by omega)
      exact i_vret C (d := dX6_walkPage_17) (h := ⟨rfl, by rw [e4]; exact hA, offR.rf⟩)

set_option maxRecDepth 100000 in
set_option maxHeartbeats 4000000 in
theorem cp2_X6_walkPiece (l : Launch) (hl : l.stackTraces = false) (D : gD) {w : wW} {τ ad : Nat → Nat} {nb tb : Nat} {σ : Sg} {a r2 t ta te tc i : Nat} {ps : List Pc3} {arg : Int} {st : Int × Int} (hW : WkI D w τ ad nb tb σ := by assumption) (hA : w a = some (wkO st)) (hτ : 2260 ≤ τ a) (hT : TxT D w τ r2 t ta te tc ps) (hi : i < ps.length) (hst : 0 ≤ st.1 ∧ st.1 ≤ 2147483647) (harg : -1 ≤ arg ∧ arg ≤ 25) : CTm l D yX6_walkPiece cX6_walkPiece 6 none (rmL 11 0 0) [.ref (ad 0), .ref a, .ref t, .int (Z32 (i : Int)), .int (Z32 arg), .int (Z32 2)] w (fun u w1 => u = none ∧ w1 a = some (wkO (wpc (wpN (sT σ) 3) arg st (pcs ps i))) ∧ offR τ w w1 (τ a) (τ a + 1)) := by
  refine CTm_of hl false rfl (by rfl) (Nat.le_of_ble_eq_true rfl) (fun h => nomatch h) ?_
  intro G C
  show G 0 0 w [some (.ref (ad 0)), some (.ref a), some (.ref t), some (.int (Z32 (i : Int))), some (.int (Z32 arg)), some (.int (Z32 2))] 0 []
  have hv := hT.2.2.2.2.2.2.2.1 _ (pcs_mem hi)
  have hvR := hv.R
  refine i_aload_n C dX6_walkPiece_0 (kk := ?_)
  refine i_iload_n C dX6_walkPiece_1 (kk := ?_)
  refine i_callV C lk_X6_261 (c_X3_sortOf l hl D (hT := hT) (i := i)) (hcl := rfl) (hst := rfl) dX6_walkPiece_2 (hw := hT.2.2.2.2.1) (kk := fun v2 w2 g2 => ?_)
  obtain ⟨rfl, q2⟩ := g2
  have q2 := q2.symm
  subst q2
  rcases (show (pcs ps i).1 = 0 ∨ (pcs ps i).1 = 1 ∨ (pcs ps i).1 = 2 ∨ (pcs ps i).1 = 3 ∨ (pcs ps i).1 = 4 ∨ (pcs ps i).1 = 5 ∨ (pcs ps i).1 = 6 ∨ (pcs ps i).1 = 7 ∨ (pcs ps i).1 = 8 by omega) with hs | hs | hs | hs | hs | hs | hs | hs | hs
  · rw [hs]
    refine i_tableIn C dX6_walkPiece_5 (tgt := 100) (ha := by decide) (h1 := by decide) (h2 := by decide) (ho := rfl) (ht := by decide) (kk := ?_)
    refine i_aload_n C dX6_walkPiece_100 (kk := ?_)
    refine i_aload_n C dX6_walkPiece_101 (kk := ?_)
    refine i_iload_n C dX6_walkPiece_102 (kk := ?_)
    refine i_callV C lk_X6_287 (c_X3_itemOf l hl D (hT := hT) (i := i)) (hcl := rfl) (hst := rfl) dX6_walkPiece_103 (hw := hT.2.2.2.2.1) (kk := fun v103 w103 g103 => ?_)
    obtain ⟨rfl, q103⟩ := g103
    have q103 := q103.symm
    subst q103
    show G _ _ _ _ _ (.int (Z32 (pItem (pcs ps i))) :: _)
    refine i_callV C lk_X6_300 (c_X5_meet l hl D (hw := hA)) (hcl := rfl) (hst := rfl) dX6_walkPiece_106 (hw := hA) (kk := fun v106 w106 g106 => ?_)
    obtain ⟨rfl, rfl⟩ := g106
    refine i_goto C dX6_walkPiece_109 (tgt := 112) (kk := ?_)
    exact i_vret C (d := dX6_walkPiece_112) (h := by first | exact ⟨rfl, by unfold wpc; simp [hs]; exact hA, offR.rf⟩ | exact ⟨rfl, by unfold wpc; simp [hs, hB88]; exact hA, offR.rf⟩ | exact ⟨rfl, by rw [wset_eq]; unfold wpc; simp [hs]; rfl, offR.rf.put (by omega) (by omega)⟩ | exact ⟨rfl, by rw [wset_eq]; unfold wpc; simp [hs, hB88]; rfl, offR.rf.put (by omega) (by omega)⟩ | exact ⟨rfl, by unfold wpc; simp [hs, hqe]; exact a1, a2⟩)
  · rw [hs]
    refine i_tableIn C dX6_walkPiece_5 (tgt := 100) (ha := by decide) (h1 := by decide) (h2 := by decide) (ho := rfl) (ht := by decide) (kk := ?_)
    refine i_aload_n C dX6_walkPiece_100 (kk := ?_)
    refine i_aload_n C dX6_walkPiece_101 (kk := ?_)
    refine i_iload_n C dX6_walkPiece_102 (kk := ?_)
    refine i_callV C lk_X6_287 (c_X3_itemOf l hl D (hT := hT) (i := i)) (hcl := rfl) (hst := rfl) dX6_walkPiece_103 (hw := hT.2.2.2.2.1) (kk := fun v103 w103 g103 => ?_)
    obtain ⟨rfl, q103⟩ := g103
    have q103 := q103.symm
    subst q103
    show G _ _ _ _ _ (.int (Z32 (pItem (pcs ps i))) :: _)
    refine i_callV C lk_X6_300 (c_X5_meet l hl D (hw := hA)) (hcl := rfl) (hst := rfl) dX6_walkPiece_106 (hw := hA) (kk := fun v106 w106 g106 => ?_)
    obtain ⟨rfl, rfl⟩ := g106
    refine i_goto C dX6_walkPiece_109 (tgt := 112) (kk := ?_)
    exact i_vret C (d := dX6_walkPiece_112) (h := by first | exact ⟨rfl, by unfold wpc; simp [hs]; exact hA, offR.rf⟩ | exact ⟨rfl, by unfold wpc; simp [hs, hB88]; exact hA, offR.rf⟩ | exact ⟨rfl, by rw [wset_eq]; unfold wpc; simp [hs]; rfl, offR.rf.put (by omega) (by omega)⟩ | exact ⟨rfl, by rw [wset_eq]; unfold wpc; simp [hs, hB88]; rfl, offR.rf.put (by omega) (by omega)⟩ | exact ⟨rfl, by unfold wpc; simp [hs, hqe]; exact a1, a2⟩)
  · rw [hs]
    refine i_tableIn C dX6_walkPiece_5 (tgt := 100) (ha := by decide) (h1 := by decide) (h2 := by decide) (ho := rfl) (ht := by decide) (kk := ?_)
    refine i_aload_n C dX6_walkPiece_100 (kk := ?_)
    refine i_aload_n C dX6_walkPiece_101 (kk := ?_)
    refine i_iload_n C dX6_walkPiece_102 (kk := ?_)
    refine i_callV C lk_X6_287 (c_X3_itemOf l hl D (hT := hT) (i := i)) (hcl := rfl) (hst := rfl) dX6_walkPiece_103 (hw := hT.2.2.2.2.1) (kk := fun v103 w103 g103 => ?_)
    obtain ⟨rfl, q103⟩ := g103
    have q103 := q103.symm
    subst q103
    show G _ _ _ _ _ (.int (Z32 (pItem (pcs ps i))) :: _)
    refine i_callV C lk_X6_300 (c_X5_meet l hl D (hw := hA)) (hcl := rfl) (hst := rfl) dX6_walkPiece_106 (hw := hA) (kk := fun v106 w106 g106 => ?_)
    obtain ⟨rfl, rfl⟩ := g106
    refine i_goto C dX6_walkPiece_109 (tgt := 112) (kk := ?_)
    exact i_vret C (d := dX6_walkPiece_112) (h := by first | exact ⟨rfl, by unfold wpc; simp [hs]; exact hA, offR.rf⟩ | exact ⟨rfl, by unfold wpc; simp [hs, hB88]; exact hA, offR.rf⟩ | exact ⟨rfl, by rw [wset_eq]; unfold wpc; simp [hs]; rfl, offR.rf.put (by omega) (by omega)⟩ | exact ⟨rfl, by rw [wset_eq]; unfold wpc; simp [hs, hB88]; rfl, offR.rf.put (by omega) (by omega)⟩ | exact ⟨rfl, by unfold wpc; simp [hs, hqe]; exact a1, a2⟩)
  · rw [hs]
    refine i_tableIn C dX6_walkPiece_5 (tgt := 85) (ha := by decide) (h1 := by decide) (h2 := by decide) (ho := rfl) (ht := by decide) (kk := ?_)
    refine i_iload C dX6_walkPiece_85 (kk := ?_)
    refine i_iconst C dX6_walkPiece_87 (kk := ?_)
    refine i_icmp_eq C dX6_walkPiece_88 (tgt := 112) (kt := fun hB88 => ?_) (kf := fun hB88 => ?_)
    · exact i_vret C (d := dX6_walkPiece_112) (h := by first | exact ⟨rfl, by unfold wpc; simp [hs]; exact hA, offR.rf⟩ | exact ⟨rfl, by unfold wpc; simp [hs, hB88]; exact hA, offR.rf⟩ | exact ⟨rfl, by rw [wset_eq]; unfold wpc; simp [hs]; rfl, offR.rf.put (by omega) (by omega)⟩ | exact ⟨rfl, by rw [wset_eq]; unfold wpc; simp [hs, hB88]; rfl, offR.rf.put (by omega) (by omega)⟩ | exact ⟨rfl, by unfold wpc; simp [hs, hqe]; exact a1, a2⟩)
    · refine i_aload_n C dX6_walkPiece_91 (kk := ?_)
      refine i_iload C dX6_walkPiece_92 (kk := ?_)
      refine i_callV C lk_X6_300 (c_X5_meet l hl D (hw := hA)) (hcl := rfl) (hst := rfl) dX6_walkPiece_94 (hw := hA) (kk := fun v94 w94 g94 => ?_)
      obtain ⟨rfl, rfl⟩ := g94
      refine i_goto C dX6_walkPiece_97 (tgt := 112) (kk := ?_)
      exact i_vret C (d := dX6_walkPiece_112) (h := by first | exact ⟨rfl, by unfold wpc; simp [hs]; exact hA, offR.rf⟩ | exact ⟨rfl, by unfold wpc; simp [hs, hB88]; exact hA, offR.rf⟩ | exact ⟨rfl, by rw [wset_eq]; unfold wpc; simp [hs]; rfl, offR.rf.put (by omega) (by omega)⟩ | exact ⟨rfl, by rw [wset_eq]; unfold wpc; simp [hs, hB88]; rfl, offR.rf.put (by omega) (by omega)⟩ | exact ⟨rfl, by unfold wpc; simp [hs, hqe]; exact a1, a2⟩)
  · rw [hs]
    refine i_tableIn C dX6_walkPiece_5 (tgt := 44) (ha := by decide) (h1 := by decide) (h2 := by decide) (ho := rfl) (ht := by decide) (kk := ?_)
    refine i_aload_n C dX6_walkPiece_44 (kk := ?_)
    refine i_aload_n C dX6_walkPiece_45 (kk := ?_)
    refine i_aload_n C dX6_walkPiece_46 (kk := ?_)
    refine i_iload_n C dX6_walkPiece_47 (kk := ?_)
    refine i_callV C lk_X6_273 (c_X3_pageOf l hl D (hT := hT) (i := i)) (hcl := rfl) (hst := rfl) dX6_walkPiece_48 (hw := hT.2.2.2.2.1) (kk := fun v48 w48 g48 => ?_)
    obtain ⟨rfl, q48⟩ := g48
    have q48 := q48.symm
    subst q48
    obtain ⟨q, hqe⟩ : ∃ q : Nat, (pcs ps i).2.1 = q := ⟨(pcs ps i).2.1.toNat, by unfold PV at hv; omega⟩
    have hq12 : q < 12 := by unfold PV at hv; omega
    rw [hqe]
    refine i_aload_n C dX6_walkPiece_51 (kk := ?_)
    refine i_iload_n C dX6_walkPiece_52 (kk := ?_)
    refine i_callV C lk_X6_264 (c_X3_signOf l hl D (hT := hT) (i := i)) (hcl := rfl) (hst := rfl) dX6_walkPiece_53 (hw := hT.2.2.2.2.1) (kk := fun v53 w53 g53 => ?_)
    obtain ⟨rfl, q53⟩ := g53
    have q53 := q53.symm
    subst q53
    refine i_iload C dX6_walkPiece_56 (kk := ?_)
    refine i_iconst C dX6_walkPiece_58 (kk := ?_)
    refine i_iadd C dX6_walkPiece_59 (kk := ?_)
    refine i_callV C lk_X6_153 (cw3_X6_walkPage l hl D (hW := hW) hA hτ hq12 (by omega) (by unfold PV at hv; omega)) (hcl := rfl) (hst := rfl) dX6_walkPiece_60 (hw := hW.obj) (kk := fun v60 w60 g60 => ?_)
    obtain ⟨rfl, a1, a2⟩ := g60
    refine i_goto C dX6_walkPiece_63 (tgt := 112) (kk := ?_)
    exact i_vret C (d := dX6_walkPiece_112) (h := by first | exact ⟨rfl, by unfold wpc; simp [hs]; exact hA, offR.rf⟩ | exact ⟨rfl, by unfold wpc; simp [hs, hB88]; exact hA, offR.rf⟩ | exact ⟨rfl, by rw [wset_eq]; unfold wpc; simp [hs]; rfl, offR.rf.put (by omega) (by omega)⟩ | exact ⟨rfl, by rw [wset_eq]; unfold wpc; simp [hs, hB88]; rfl, offR.rf.put (by omega) (by omega)⟩ | exact ⟨rfl, by unfold wpc; simp [hs, hqe]; exact a1, a2⟩)
  · rw [hs]
    refine i_tableIn C dX6_walkPiece_5 (tgt := 66) (ha := by decide) (h1 := by decide) (h2 := by decide) (ho := rfl) (ht := by decide) (kk := ?_)
    refine i_aload_n C dX6_walkPiece_66 (kk := ?_)
    refine i_aload_n C dX6_walkPiece_67 (kk := ?_)
    refine i_aload_n C dX6_walkPiece_68 (kk := ?_)
    refine i_iload_n C dX6_walkPiece_69 (kk := ?_)
    refine i_callV C lk_X6_273 (c_X3_pageOf l hl D (hT := hT) (i := i)) (hcl := rfl) (hst := rfl) dX6_walkPiece_70 (hw := hT.2.2.2.2.1) (kk := fun v70 w70 g70 => ?_)
    obtain ⟨rfl, q70⟩ := g70
    have q70 := q70.symm
    subst q70
    obtain ⟨q, hqe⟩ : ∃ q : Nat, (pcs ps i).2.1 = q := ⟨(pcs ps i).2.1.toNat, by unfold PV at hv; omega⟩
    have hq12 : q < 12 := by unfold PV at hv; omega
    rw [hqe]
    refine i_iload C dX6_walkPiece_73 (kk := ?_)
    refine i_iload C dX6_walkPiece_75 (kk := ?_)
    refine i_iconst C dX6_walkPiece_77 (kk := ?_)
    refine i_iadd C dX6_walkPiece_78 (kk := ?_)
    refine i_callV C lk_X6_153 (cw3_X6_walkPage l hl D (hW := hW) hA hτ hq12 (by omega) harg) (hcl := rfl) (hst := rfl) dX6_walkPiece_79 (hw := hW.obj) (kk := fun v79 w79 g79 => ?_)
    obtain ⟨rfl, a1, a2⟩ := g79
    refine i_goto C dX6_walkPiece_82 (tgt := 112) (kk := ?_)
    exact i_vret C (d := dX6_walkPiece_112) (h := by first | exact ⟨rfl, by unfold wpc; simp [hs]; exact hA, offR.rf⟩ | exact ⟨rfl, by unfold wpc; simp [hs, hB88]; exact hA, offR.rf⟩ | exact ⟨rfl, by rw [wset_eq]; unfold wpc; simp [hs]; rfl, offR.rf.put (by omega) (by omega)⟩ | exact ⟨rfl, by rw [wset_eq]; unfold wpc; simp [hs, hB88]; rfl, offR.rf.put (by omega) (by omega)⟩ | exact ⟨rfl, by unfold wpc; simp [hs, hqe]; exact a1, a2⟩)
  · rw [hs]
    refine i_tableOut C dX6_walkPiece_5 (tgt := 112) (ha := by decide) (h1 := by decide) (ht := by decide) (kk := ?_)
    exact i_vret C (d := dX6_walkPiece_112) (h := by first | exact ⟨rfl, by unfold wpc; simp [hs]; exact hA, offR.rf⟩ | exact ⟨rfl, by unfold wpc; simp [hs, hB88]; exact hA, offR.rf⟩ | exact ⟨rfl, by rw [wset_eq]; unfold wpc; simp [hs]; rfl, offR.rf.put (by omega) (by omega)⟩ | exact ⟨rfl, by rw [wset_eq]; unfold wpc; simp [hs, hB88]; rfl, offR.rf.put (by omega) (by omega)⟩ | exact ⟨rfl, by unfold wpc; simp [hs, hqe]; exact a1, a2⟩)
  · rw [hs]
    refine i_tableOut C dX6_walkPiece_5 (tgt := 112) (ha := by decide) (h1 := by decide) (ht := by decide) (kk := ?_)
    exact i_vret C (d := dX6_walkPiece_112) (h := by first | exact ⟨rfl, by unfold wpc; simp [hs]; exact hA, offR.rf⟩ | exact ⟨rfl, by unfold wpc; simp [hs, hB88]; exact hA, offR.rf⟩ | exact ⟨rfl, by rw [wset_eq]; unfold wpc; simp [hs]; rfl, offR.rf.put (by omega) (by omega)⟩ | exact ⟨rfl, by rw [wset_eq]; unfold wpc; simp [hs, hB88]; rfl, offR.rf.put (by omega) (by omega)⟩ | exact ⟨rfl, by unfold wpc; simp [hs, hqe]; exact a1, a2⟩)
  · rw [hs]
    refine i_tableOut C dX6_walkPiece_5 (tgt := 112) (ha := by decide) (h1 := by decide) (ht := by decide) (kk := ?_)
    exact i_vret C (d := dX6_walkPiece_112) (h := by first | exact ⟨rfl, by unfold wpc; simp [hs]; exact hA, offR.rf⟩ | exact ⟨rfl, by unfold wpc; simp [hs, hB88]; exact hA, offR.rf⟩ | exact ⟨rfl, by rw [wset_eq]; unfold wpc; simp [hs]; rfl, offR.rf.put (by omega) (by omega)⟩ | exact ⟨rfl, by rw [wset_eq]; unfold wpc; simp [hs, hB88]; rfl, offR.rf.put (by omega) (by omega)⟩ | exact ⟨rfl, by unfold wpc; simp [hs, hqe]; exact a1, a2⟩)

set_option maxRecDepth 100000 in
set_option maxHeartbeats 4000000 in
theorem cw2_X6_walkPage (l : Launch) (hl : l.stackTraces = false) (D : gD) {w : wW} {τ ad : Nat → Nat} {nb tb : Nat} {σ : Sg} {a p : Nat} {arg : Int} {st : Int × Int} (hW : WkI D w τ ad nb tb σ := by assumption) (hA : w a = some (wkO st)) (hτ : 2260 ≤ τ a) (hp : p < 12) (hst : -1 ≤ st.1 ∧ st.1 ≤ 2147483647) (harg : -1 ≤ arg ∧ arg ≤ 25) : CTm l D yX6_walkPage cX6_walkPage 9 none (rmL 12 0 0) [.ref (ad 0), .ref a, .int (Z32 (p : Int)), .int (Z32 arg), .int (Z32 2)] w (fun u w1 => u = none ∧ w1 a = some (wkO (wpN (sT σ) 4 p arg st)) ∧ offR τ w w1 (τ a) (τ a + 1)) := by
  refine CTm_of hl false rfl (by rfl) (Nat.le_of_ble_eq_true rfl) (fun h => nomatch h) ?_
  intro G C
  show G 0 0 w [some (.ref (ad 0)), some (.ref a), some (.int (Z32 (p : Int))), some (.int (Z32 arg)), some (.int (Z32 2)), none, none, none, none] 0 []
  refine i_iload C dX6_walkPage_0 (kk := ?_)
  refine i_iconst C dX6_walkPage_2 (kk := ?_)
  refine i_icmp_gt C dX6_walkPage_3 (tgt := 17) (kt := fun hB3 => ?_) (kf := fun hB3 => ?_)
  · exfalso; omega
  · refine i_aload_n C dX6_walkPage_6 (kk := ?_)
    obtain ⟨hb9, -, ⟨fc, fo, fr, fd, fx, kN, kO9⟩, -⟩ := hW.2.1
    have hx9 := (kO9 p hp).2.2.2
    have hx5 := (hW.1.2.1 p hp).2.2.2.1
    have h30 := (hW.txt hp).2.2.2.2.2.1
    refine i_getf C f_X6_23 dX6_walkPage_7 (hw := hW.obj) (kk := ?_)
    refine i_iload_n C dX6_walkPage_10 (kk := ?_)
    refine i_callV C lk_X6_126 (c_X0_extentOf l hl D (hN := kN) (p := p)) (hcl := rfl) (hst := rfl) dX6_walkPage_11 (hw := kN.2.2.2.2.2.2.1) (kk := fun v11 w11 g11 => ?_)
    obtain ⟨rfl, q11⟩ := g11
    have q11 := q11.symm
    subst q11
    refine i_if_ne C dX6_walkPage_14 (tgt := 18) (kt := fun hB14 => ?_) (kf := fun hB14 => ?_)
    · have e4 : wpN (sT σ) 4 p arg st = (wtx (wpN (sT σ) 3) arg st (sT σ p)).2 := if_neg (by omega)
      refine i_aload_n C dX6_walkPage_18 (kk := ?_)
      refine i_iload_n C dX6_walkPage_19 (kk := ?_)
      refine i_callV C lk_X6_67 (c_X6_pageAt l hl D (hW := hW) (p := p)) (hcl := rfl) (hst := rfl) dX6_walkPage_20 (hw := hW.obj) (kk := fun v20 w20 g20 => ?_)
      obtain ⟨rfl, q20⟩ := g20
      have q20 := q20.symm
      subst q20
      refine i_getf C f_X6_73 dX6_walkPage_23 (hw := hW.page hp) (kk := ?_)
      refine i_getf C f_X6_113 dX6_walkPage_26 (hw := hW.ver hp) (kk := ?_)
      refine i_astore C dX6_walkPage_29 (kk := ?_)
      refine i_iconst C dX6_walkPage_31 (kk := ?_)
      refine i_istore C dX6_walkPage_32 (kk := ?_)
      refine i_iconst C dX6_walkPage_34 (kk := ?_)
      refine i_istore C dX6_walkPage_35 (kk := ?_)
      have lp : ∀ (m i : Nat) (w1 : wW) (s : Nat) (st1 : Int × Int) (o9 : Option Value), (sT σ p).length + 1 ≤ m + i → i ≤ (sT σ p).length → wtx (wpN (sT σ) 3) arg st ((sT σ p).take i) = (s, st1) → s ≤ i → w1 a = some (wkO st1) → offR τ w w1 (τ a) (τ a + 1) → G 0 0 w1 [some (.ref (ad 0)), some (.ref a), some (.int (Z32 (p : Int))), some (.int (Z32 arg)), some (.int (Z32 2)), some (.ref (ad (vr p (sNv σ p) + 1))), some (.int (Z32 (s : Int))), some (.int (Z32 (i : Int))), o9] 37 [] := by
        intro m
        induction m with
        | zero => intro i w1 s st1 o9 h1 h2; omega
        | succ m ih =>
        intro i w1 s st1 o9 h1 h2 hE hs hA1 kO1
        have hW1 := hW.far kO1 hτ
        have hSR := wtx_R (wpN_R (T := sT σ) 3) (arg := arg) hst ((sT σ p).take i)
        rw [hE] at hSR
        have hSR : -1 ≤ st1.1 ∧ st1.1 ≤ 2147483647 := hSR
        refine i_iload C dX6_walkPage_37 (kk := ?_)
        refine i_aload C dX6_walkPage_39 (kk := ?_)
        refine i_getf C f_X6_208 dX6_walkPage_41 (hw := (hW1.txt hp).2.2.2.2.1) (kk := ?_)
        refine i_icmp_ge C dX6_walkPage_44 (tgt := 133) (kt := fun hB44 => ?_) (kf := fun hB44 => ?_)
        · have e3 : (wtx (wpN (sT σ) 3) arg st (sT σ p)) = (s, st1) := by rw [← hE, List.take_of_length_le (by omega)]
          exact i_vret C (d := dX6_walkPage_133) (h := ⟨rfl, by rw [e4, e3]; exact hA1, kO1⟩)
        · refine i_aload_n C dX6_walkPage_47 (kk := ?_)
          refine i_callV C lk_X6_293 (c_X5_isOver l hl D (hw := hA1)) (hcl := rfl) (hst := rfl) dX6_walkPage_48 (hw := hA1) (kk := fun v48 w48 g48 => ?_)
          obtain ⟨rfl, q48⟩ := g48
          have q48 := q48.symm
          subst q48
          refine i_if_ne C dX6_walkPage_51 (tgt := 133) (ha := by split <;> decide) (kt := fun hB51 => ?_) (kf := fun hB51 => ?_)
          · have e8 : st1.1 < 0 := by apply Decidable.byContradiction; intro q; rw [if_neg q] at hB51; exact hB51 rfl
            have e3 : (wtx (wpN (sT σ) 3) arg st (sT σ p)) = (s, st1) := by rw [wtx_over (i := i) (by rw [hE]; exact e8), hE]
            exact i_vret C (d := dX6_walkPage_133) (h := ⟨rfl, by rw [e4, e3]; exact hA1, kO1⟩)
          · have e8 : ¬ st1.1 < 0 := by intro q; rw [if_pos q] at hB51; omega
            have e9 : wtx (wpN (sT σ) 3) arg st ((sT σ p).take (i + 1)) = wst (wpN (sT σ) 3) arg (s, st1) (pcs (sT σ p) i) := by rw [wtx_take (by omega), hE]
            have hv := (hW1.txt hp).2.2.2.2.2.2.2.1 _ (pcs_mem (i := i) (by omega))
            have hvR := hv.R
            refine i_aload C dX6_walkPage_54 (kk := ?_)
            refine i_iload C dX6_walkPage_56 (kk := ?_)
            refine i_callV C lk_X6_261 (c_X3_sortOf l hl D (hT := hW1.txt hp) (i := i)) (hcl := rfl) (hst := rfl) dX6_walkPage_58 (hw := (hW1.txt hp).2.2.2.2.1) (kk := fun v58 w58 g58 => ?_)
            obtain ⟨rfl, q58⟩ := g58
            have q58 := q58.symm
            subst q58
            refine i_istore C dX6_walkPage_61 (kk := ?_)
            refine i_iload C dX6_walkPage_63 (kk := ?_)
            refine i_bipush C dX6_walkPage_65 (kk := ?_)
            refine i_icmp_ne C dX6_walkPage_67 (tgt := 92) (kt := fun hB67 => ?_) (kf := fun hB67 => ?_)
            · refine i_iload C dX6_walkPage_92 (kk := ?_)
              refine i_bipush C dX6_walkPage_94 (kk := ?_)
              refine i_icmp_ne C dX6_walkPage_96 (tgt := 110) (kt := fun hB96 => ?_) (kf := fun hB96 => ?_)
              · refine i_iload C dX6_walkPage_110 (kk := ?_)
                refine i_if_ne C dX6_walkPage_112 (tgt := 127) (kt := fun hB112 => ?_) (kf := fun hB112 => ?_)
                · have e5 : wtx (wpN (sT σ) 3) arg st ((sT σ p).take (i + 1)) = (s, st1) := by rw [e9]; unfold wst; dsimp only; rw [if_neg e8, if_neg (by omega), if_neg (by omega), if_neg (by omega)]
                  have hs5 : s ≤ i + 1 := by omega
                  refine i_iinc C dX6_walkPage_127 (kk := ?_)
                  refine i_goto C dX6_walkPage_130 (tgt := 37) (kk := ?_)
                  first | exact ih (i + 1) _ _ _ _ (by omega) (by omega) e5 hs5 hA2 kO2 | exact ih (i + 1) _ _ _ _ (by omega) (by omega) e5 hs5 hA1 kO1
                · refine i_aload_n C dX6_walkPage_115 (kk := ?_)
                  refine i_aload_n C dX6_walkPage_116 (kk := ?_)
                  refine i_aload C dX6_walkPage_117 (kk := ?_)
                  refine i_iload C dX6_walkPage_119 (kk := ?_)
                  refine i_iload_n C dX6_walkPage_121 (kk := ?_)
                  refine i_iload C dX6_walkPage_122 (kk := ?_)
                  refine i_callV C lk_X6_296 (cp2_X6_walkPiece l hl D (hW := hW1) hA1 hτ (hT := hW1.txt hp) (i := i) (by omega) (by omega) harg) (hcl := rfl) (hst := rfl) dX6_walkPage_124 (hw := hW1.obj) (kk := fun v124 w124 g124 => ?_)
                  obtain ⟨rfl, hA2, o2⟩ := g124
                  have kO2 := kO1.trans o2
                  have e5 : wtx (wpN (sT σ) 3) arg st ((sT σ p).take (i + 1)) = (s, wpc (wpN (sT σ) 3) arg st1 (pcs (sT σ p) i)) := by rw [e9]; unfold wst; dsimp only; rw [if_neg e8, if_neg (by omega), if_neg (by omega), if_pos (by omega)]
                  have hs5 : s ≤ i + 1 := by omega
                  refine i_iinc C dX6_walkPage_127 (kk := ?_)
                  refine i_goto C dX6_walkPage_130 (tgt := 37) (kk := ?_)
                  first | exact ih (i + 1) _ _ _ _ (by omega) (by omega) e5 hs5 hA2 kO2 | exact ih (i + 1) _ _ _ _ (by omega) (by omega) e5 hs5 hA1 kO1
              · refine i_iload C dX6_walkPage_99 (kk := ?_)
                refine i_if_le C dX6_walkPage_101 (tgt := 110) (kt := fun hB101 => ?_) (kf := fun hB101 => ?_)
                · refine i_iload C dX6_walkPage_110 (kk := ?_)
                  refine i_if_ne C dX6_walkPage_112 (tgt := 127) (kt := fun hB112 => ?_) (kf := fun hB112 => ?_)
                  · have e5 : wtx (wpN (sT σ) 3) arg st ((sT σ p).take (i + 1)) = (s, st1) := by rw [e9]; unfold wst; dsimp only; rw [if_neg e8, if_neg (by omega), if_neg (by omega), if_neg (by omega)]
                    have hs5 : s ≤ i + 1 := by omega
                    refine i_iinc C dX6_walkPage_127 (kk := ?_)
                    refine i_goto C dX6_walkPage_130 (tgt := 37) (kk := ?_)
                    first | exact ih (i + 1) _ _ _ _ (by omega) (by omega) e5 hs5 hA2 kO2 | exact ih (i + 1) _ _ _ _ (by omega) (by omega) e5 hs5 hA1 kO1
                  · refine i_aload_n C dX6_walkPage_115 (kk := ?_)
                    refine i_aload_n C dX6_walkPage_116 (kk := ?_)
                    refine i_aload C dX6_walkPage_117 (kk := ?_)
                    refine i_iload C dX6_walkPage_119 (kk := ?_)
                    refine i_iload_n C dX6_walkPage_121 (kk := ?_)
                    refine i_iload C dX6_walkPage_122 (kk := ?_)
                    refine i_callV C lk_X6_296 (cp2_X6_walkPiece l hl D (hW := hW1) hA1 hτ (hT := hW1.txt hp) (i := i) (by omega) (by omega) harg) (hcl := rfl) (hst := rfl) dX6_walkPage_124 (hw := hW1.obj) (kk := fun v124 w124 g124 => ?_)
                    obtain ⟨rfl, hA2, o2⟩ := g124
                    have kO2 := kO1.trans o2
                    have e5 : wtx (wpN (sT σ) 3) arg st ((sT σ p).take (i + 1)) = (s, wpc (wpN (sT σ) 3) arg st1 (pcs (sT σ p) i)) := by rw [e9]; unfold wst; dsimp only; rw [if_neg e8, if_neg (by omega), if_neg (by omega), if_pos (by omega)]
                    have hs5 : s ≤ i + 1 := by omega
                    refine i_iinc C dX6_walkPage_127 (kk := ?_)
                    refine i_goto C dX6_walkPage_130 (tgt := 37) (kk := ?_)
                    first | exact ih (i + 1) _ _ _ _ (by omega) (by omega) e5 hs5 hA2 kO2 | exact ih (i + 1) _ _ _ _ (by omega) (by omega) e5 hs5 hA1 kO1
                · have e5 : wtx (wpN (sT σ) 3) arg st ((sT σ p).take (i + 1)) = (s - 1, st1) := by rw [e9]; unfold wst; dsimp only; rw [if_neg e8, if_neg (by omega), if_pos (by omega)]
                  have hs5 : s - 1 ≤ i + 1 := by omega
                  refine i_iinc C dX6_walkPage_104 (kk := ?_)
                  rw [show ((s : Int) + (-1)) = ((s - 1 : Nat) : Int) by omega]
                  refine i_goto C dX6_walkPage_107 (tgt := 127) (kk := ?_)
                  refine i_iinc C dX6_walkPage_127 (kk := ?_)
                  refine i_goto C dX6_walkPage_130 (tgt := 37) (kk := ?_)
                  first | exact ih (i + 1) _ _ _ _ (by omega) (by omega) e5 hs5 hA2 kO2 | exact ih (i + 1) _ _ _ _ (by omega) (by omega) e5 hs5 hA1 kO1
            · refine i_iload C dX6_walkPage_70 (kk := ?_)
              refine i_if_gt C dX6_walkPage_72 (tgt := 86) (kt := fun hB72 => ?_) (kf := fun hB72 => ?_)
              · have e5 : wtx (wpN (sT σ) 3) arg st ((sT σ p).take (i + 1)) = (s + 1, st1) := by rw [e9]; unfold wst; dsimp only; rw [if_neg e8, if_pos (by omega)]
                have hs5 : s + 1 ≤ i + 1 := by omega
                refine i_iinc C dX6_walkPage_86 (kk := ?_)
                refine i_goto C dX6_walkPage_89 (tgt := 127) (kk := ?_)
                refine i_iinc C dX6_walkPage_127 (kk := ?_)
                refine i_goto C dX6_walkPage_130 (tgt := 37) (kk := ?_)
                first | exact ih (i + 1) _ _ _ _ (by omega) (by omega) e5 hs5 hA2 kO2 | exact ih (i + 1) _ _ _ _ (by omega) (by omega) e5 hs5 hA1 kO1
              · refine i_aload C dX6_walkPage_75 (kk := ?_)
                refine i_iload C dX6_walkPage_77 (kk := ?_)
                refine i_callV C lk_X6_264 (c_X3_signOf l hl D (hT := hW1.txt hp) (i := i)) (hcl := rfl) (hst := rfl) dX6_walkPage_79 (hw := (hW1.txt hp).2.2.2.2.1) (kk := fun v79 w79 g79 => ?_)
                obtain ⟨rfl, q79⟩ := g79
                have q79 := q79.symm
                subst q79
                refine i_iload_n C dX6_walkPage_82 (kk := ?_)
                refine i_icmp_eq C dX6_walkPage_83 (tgt := 92) (kt := fun hB83 => ?_) (kf := fun hB83 => ?_)
                · refine i_iload C dX6_walkPage_92 (kk := ?_)
                  refine i_bipush C dX6_walkPage_94 (kk := ?_)
                  refine i_icmp_ne C dX6_walkPage_96 (tgt := 110) (kt := fun hB96 => ?_) (kf := fun hB96 => ?_)
                  · refine i_iload C dX6_walkPage_110 (kk := ?_)
                    refine i_if_ne C dX6_walkPage_112 (tgt := 127) (kt := fun hB112 => ?_) (kf := fun hB112 => ?_)
                    · have e5 : wtx (wpN (sT σ) 3) arg st ((sT σ p).take (i + 1)) = (s, st1) := by rw [e9]; unfold wst; dsimp only; rw [if_neg e8, if_neg (by omega), if_neg (by omega), if_neg (by omega)]
                      have hs5 : s ≤ i + 1 := by omega
                      refine i_iinc C dX6_walkPage_127 (kk := ?_)
                      refine i_goto C dX6_walkPage_130 (tgt := 37) (kk := ?_)
                      first | exact ih (i + 1) _ _ _ _ (by omega) (by omega) e5 hs5 hA2 kO2 | exact ih (i + 1) _ _ _ _ (by omega) (by omega) e5 hs5 hA1 kO1
                    · refine i_aload_n C dX6_walkPage_115 (kk := ?_)
                      refine i_aload_n C dX6_walkPage_116 (kk := ?_)
                      refine i_aload C dX6_walkPage_117 (kk := ?_)
                      refine i_iload C dX6_walkPage_119 (kk := ?_)
                      refine i_iload_n C dX6_walkPage_121 (kk := ?_)
                      refine i_iload C dX6_walkPage_122 (kk := ?_)
                      refine i_callV C lk_X6_296 (cp2_X6_walkPiece l hl D (hW := hW1) hA1 hτ (hT := hW1.txt hp) (i := i) (by omega) (by omega) harg) (hcl := rfl) (hst := rfl) dX6_walkPage_124 (hw := hW1.obj) (kk := fun v124 w124 g124 => ?_)
                      obtain ⟨rfl, hA2, o2⟩ := g124
                      have kO2 := kO1.trans o2
                      have e5 : wtx (wpN (sT σ) 3) arg st ((sT σ p).take (i + 1)) = (s, wpc (wpN (sT σ) 3) arg st1 (pcs (sT σ p) i)) := by rw [e9]; unfold wst; dsimp only; rw [if_neg e8, if_neg (by omega), if_neg (by omega), if_pos (by omega)]
                      have hs5 : s ≤ i + 1 := by omega
                      refine i_iinc C dX6_walkPage_127 (kk := ?_)
                      refine i_goto C dX6_walkPage_130 (tgt := 37) (kk := ?_)
                      first | exact ih (i + 1) _ _ _ _ (by omega) (by omega) e5 hs5 hA2 kO2 | exact ih (i + 1) _ _ _ _ (by omega) (by omega) e5 hs5 hA1 kO1
                  · refine i_iload C dX6_walkPage_99 (kk := ?_)
                    refine i_if_le C dX6_walkPage_101 (tgt := 110) (kt := fun hB101 => ?_) (kf := fun hB101 => ?_)
                    · refine i_iload C dX6_walkPage_110 (kk := ?_)
                      refine i_if_ne C dX6_walkPage_112 (tgt := 127) (kt := fun hB112 => ?_) (kf := fun hB112 => ?_)
                      · have e5 : wtx (wpN (sT σ) 3) arg st ((sT σ p).take (i + 1)) = (s, st1) := by rw [e9]; unfold wst; dsimp only; rw [if_neg e8, if_neg (by omega), if_neg (by omega), if_neg (by omega)]
                        have hs5 : s ≤ i + 1 := by omega
                        refine i_iinc C dX6_walkPage_127 (kk := ?_)
                        refine i_goto C dX6_walkPage_130 (tgt := 37) (kk := ?_)
                        first | exact ih (i + 1) _ _ _ _ (by omega) (by omega) e5 hs5 hA2 kO2 | exact ih (i + 1) _ _ _ _ (by omega) (by omega) e5 hs5 hA1 kO1
                      · refine i_aload_n C dX6_walkPage_115 (kk := ?_)
                        refine i_aload_n C dX6_walkPage_116 (kk := ?_)
                        refine i_aload C dX6_walkPage_117 (kk := ?_)
                        refine i_iload C dX6_walkPage_119 (kk := ?_)
                        refine i_iload_n C dX6_walkPage_121 (kk := ?_)
                        refine i_iload C dX6_walkPage_122 (kk := ?_)
                        refine i_callV C lk_X6_296 (cp2_X6_walkPiece l hl D (hW := hW1) hA1 hτ (hT := hW1.txt hp) (i := i) (by omega) (by omega) harg) (hcl := rfl) (hst := rfl) dX6_walkPage_124 (hw := hW1.obj) (kk := fun v124 w124 g124 => ?_)
                        obtain ⟨rfl, hA2, o2⟩ := g124
                        have kO2 := kO1.trans o2
                        have e5 : wtx (wpN (sT σ) 3) arg st ((sT σ p).take (i + 1)) = (s, wpc (wpN (sT σ) 3) arg st1 (pcs (sT σ p) i)) := by rw [e9]; unfold wst; dsimp only; rw [if_neg e8, if_neg (by omega), if_neg (by omega), if_pos (by omega)]
                        have hs5 : s ≤ i + 1 := by omega
                        refine i_iinc C dX6_walkPage_127 (kk := ?_)
                        refine i_goto C dX6_walkPage_130 (tgt := 37) (kk := ?_)
                        first | exact ih (i + 1) _ _ _ _ (by omega) (by omega) e5 hs5 hA2 kO2 | exact ih (i + 1) _ _ _ _ (by omega) (by omega) e5 hs5 hA1 kO1
                    · have e5 : wtx (wpN (sT σ) 3) arg st ((sT σ p).take (i + 1)) = (s - 1, st1) := by rw [e9]; unfold wst; dsimp only; rw [if_neg e8, if_neg (by omega), if_pos (by omega)]
                      have hs5 : s - 1 ≤ i + 1 := by omega
                      refine i_iinc C dX6_walkPage_104 (kk := ?_)
                      rw [show ((s : Int) + (-1)) = ((s - 1 : Nat) : Int) by omega]
                      refine i_goto C dX6_walkPage_107 (tgt := 127) (kk := ?_)
                      refine i_iinc C dX6_walkPage_127 (kk := ?_)
                      refine i_goto C dX6_walkPage_130 (tgt := 37) (kk := ?_)
                      first | exact ih (i + 1) _ _ _ _ (by omega) (by omega) e5 hs5 hA2 kO2 | exact ih (i + 1) _ _ _ _ (by omega) (by omega) e5 hs5 hA1 kO1
                · have e5 : wtx (wpN (sT σ) 3) arg st ((sT σ p).take (i + 1)) = (s + 1, st1) := by rw [e9]; unfold wst; dsimp only; rw [if_neg e8, if_pos (by omega)]
                  have hs5 : s + 1 ≤ i + 1 := by omega
                  refine i_iinc C dX6_walkPage_86 (kk := ?_)
                  refine i_goto C dX6_walkPage_89 (tgt := 127) (kk := ?_)
                  refine i_iinc C dX6_walkPage_127 (kk := ?_)
                  refine i_goto C dX6_walkPage_130 (tgt := 37) (kk := ?_)
                  first | exact ih (i + 1) _ _ _ _ (by omega) (by omega) e5 hs5 hA2 kO2 | exact ih (i + 1) _ _ _ _ (by omega) (by omega) e5 hs5 hA1 kO1
      exact lp ((sT σ p).length + 1) 0 _ 0 st _ (by omega) (by omega) rfl (by omega) hA offR.rf
    · have e4 : wpN (sT σ) 4 p arg st = st := if_pos (by omega)
      exact i_vret C (d := dX6_walkPage_17) (h := ⟨rfl, by rw [e4]; exact hA, offR.rf⟩)

set_option maxRecDepth 100000 in
set_option maxHeartbeats 4000000 in
theorem cp1_X6_walkPiece (l : Launch) (hl : l.stackTraces = false) (D : gD) {w : wW} {τ ad : Nat → Nat} {nb tb : Nat} {σ : Sg} {a r2 t ta te tc i : Nat} {ps : List Pc3} {arg : Int} {st : Int × Int} (hW : WkI D w τ ad nb tb σ := by assumption) (hA : w a = some (wkO st)) (hτ : 2260 ≤ τ a) (hT : TxT D w τ r2 t ta te tc ps) (hi : i < ps.length) (hst : 0 ≤ st.1 ∧ st.1 ≤ 2147483647) (harg : -1 ≤ arg ∧ arg ≤ 25) : CTm l D yX6_walkPiece cX6_walkPiece 6 none (rmL 13 0 0) [.ref (ad 0), .ref a, .ref t, .int (Z32 (i : Int)), .int (Z32 arg), .int (Z32 1)] w (fun u w1 => u = none ∧ w1 a = some (wkO (wpc (wpN (sT σ) 4) arg st (pcs ps i))) ∧ offR τ w w1 (τ a) (τ a + 1)) := by
  refine CTm_of hl false rfl (by rfl) (Nat.le_of_ble_eq_true rfl) (fun h => nomatch h) ?_
  intro G C
  show G 0 0 w [some (.ref (ad 0)), some (.ref a), some (.ref t), some (.int (Z32 (i : Int))), some (.int (Z32 arg)), some (.int (Z32 1))] 0 []
  have hv := hT.2.2.2.2.2.2.2.1 _ (pcs_mem hi)
  have hvR := hv.R
  refine i_aload_n C dX6_walkPiece_0 (kk := ?_)
  refine i_iload_n C dX6_walkPiece_1 (kk := ?_)
  refine i_callV C lk_X6_261 (c_X3_sortOf l hl D (hT := hT) (i := i)) (hcl := rfl) (hst := rfl) dX6_walkPiece_2 (hw := hT.2.2.2.2.1) (kk := fun v2 w2 g2 => ?_)
  obtain ⟨rfl, q2⟩ := g2
  have q2 := q2.symm
  subst q2
  rcases (show (pcs ps i).1 = 0 ∨ (pcs ps i).1 = 1 ∨ (pcs ps i).1 = 2 ∨ (pcs ps i).1 = 3 ∨ (pcs ps i).1 = 4 ∨ (pcs ps i).1 = 5 ∨ (pcs ps i).1 = 6 ∨ (pcs ps i).1 = 7 ∨ (pcs ps i).1 = 8 by omega) with hs | hs | hs | hs | hs | hs | hs | hs | hs
  · rw [hs]
    refine i_tableIn C dX6_walkPiece_5 (tgt := 100) (ha := by decide) (h1 := by decide) (h2 := by decide) (ho := rfl) (ht := by decide) (kk := ?_)
    refine i_aload_n C dX6_walkPiece_100 (kk := ?_)
    refine i_aload_n C dX6_walkPiece_101 (kk := ?_)
    refine i_iload_n C dX6_walkPiece_102 (kk := ?_)
    refine i_callV C lk_X6_287 (c_X3_itemOf l hl D (hT := hT) (i := i)) (hcl := rfl) (hst := rfl) dX6_walkPiece_103 (hw := hT.2.2.2.2.1) (kk := fun v103 w103 g103 => ?_)
    obtain ⟨rfl, q103⟩ := g103
    have q103 := q103.symm
    subst q103
    show G _ _ _ _ _ (.int (Z32 (pItem (pcs ps i))) :: _)
    refine i_callV C lk_X6_300 (c_X5_meet l hl D (hw := hA)) (hcl := rfl) (hst := rfl) dX6_walkPiece_106 (hw := hA) (kk := fun v106 w106 g106 => ?_)
    obtain ⟨rfl, rfl⟩ := g106
    refine i_goto C dX6_walkPiece_109 (tgt := 112) (kk := ?_)
    exact i_vret C (d := dX6_walkPiece_112) (h := by first | exact ⟨rfl, by unfold wpc; simp [hs]; exact hA, offR.rf⟩ | exact ⟨rfl, by unfold wpc; simp [hs, hB88]; exact hA, offR.rf⟩ | exact ⟨rfl, by rw [wset_eq]; unfold wpc; simp [hs]; rfl, offR.rf.put (by omega) (by omega)⟩ | exact ⟨rfl, by rw [wset_eq]; unfold wpc; simp [hs, hB88]; rfl, offR.rf.put (by omega) (by omega)⟩ | exact ⟨rfl, by unfold wpc; simp [hs, hqe]; exact a1, a2⟩)
  · rw [hs]
    refine i_tableIn C dX6_walkPiece_5 (tgt := 100) (ha := by decide) (h1 := by decide) (h2 := by decide) (ho := rfl) (ht := by decide) (kk := ?_)
    refine i_aload_n C dX6_walkPiece_100 (kk := ?_)
    refine i_aload_n C dX6_walkPiece_101 (kk := ?_)
    refine i_iload_n C dX6_walkPiece_102 (kk := ?_)
    refine i_callV C lk_X6_287 (c_X3_itemOf l hl D (hT := hT) (i := i)) (hcl := rfl) (hst := rfl) dX6_walkPiece_103 (hw := hT.2.2.2.2.1) (kk := fun v103 w103 g103 => ?_)
    obtain ⟨rfl, q103⟩ := g103
    have q103 := q103.symm
    subst q103
    show G _ _ _ _ _ (.int (Z32 (pItem (pcs ps i))) :: _)
    refine i_callV C lk_X6_300 (c_X5_meet l hl D (hw := hA)) (hcl := rfl) (hst := rfl) dX6_walkPiece_106 (hw := hA) (kk := fun v106 w106 g106 => ?_)
    obtain ⟨rfl, rfl⟩ := g106
    refine i_goto C dX6_walkPiece_109 (tgt := 112) (kk := ?_)
    exact i_vret C (d := dX6_walkPiece_112) (h := by first | exact ⟨rfl, by unfold wpc; simp [hs]; exact hA, offR.rf⟩ | exact ⟨rfl, by unfold wpc; simp [hs, hB88]; exact hA, offR.rf⟩ | exact ⟨rfl, by rw [wset_eq]; unfold wpc; simp [hs]; rfl, offR.rf.put (by omega) (by omega)⟩ | exact ⟨rfl, by rw [wset_eq]; unfold wpc; simp [hs, hB88]; rfl, offR.rf.put (by omega) (by omega)⟩ | exact ⟨rfl, by unfold wpc; simp [hs, hqe]; exact a1, a2⟩)
  · rw [hs]
    refine i_tableIn C dX6_walkPiece_5 (tgt := 100) (ha := by decide) (h1 := by decide) (h2 := by decide) (ho := rfl) (ht := by decide) (kk := ?_)
    refine i_aload_n C dX6_walkPiece_100 (kk := ?_)
    refine i_aload_n C dX6_walkPiece_101 (kk := ?_)
    refine i_iload_n C dX6_walkPiece_102 (kk := ?_)
    refine i_callV C lk_X6_287 (c_X3_itemOf l hl D (hT := hT) (i := i)) (hcl := rfl) (hst := rfl) dX6_walkPiece_103 (hw := hT.2.2.2.2.1) (kk := fun v103 w103 g103 => ?_)
    obtain ⟨rfl, q103⟩ := g103
    have q103 := q103.symm
    subst q103
    show G _ _ _ _ _ (.int (Z32 (pItem (pcs ps i))) :: _)
    refine i_callV C lk_X6_300 (c_X5_meet l hl D (hw := hA)) (hcl := rfl) (hst := rfl) dX6_walkPiece_106 (hw := hA) (kk := fun v106 w106 g106 => ?_)
    obtain ⟨rfl, rfl⟩ := g106
    refine i_goto C dX6_walkPiece_109 (tgt := 112) (kk := ?_)
    exact i_vret C (d := dX6_walkPiece_112) (h := by first | exact ⟨rfl, by unfold wpc; simp [hs]; exact hA, offR.rf⟩ | exact ⟨rfl, by unfold wpc; simp [hs, hB88]; exact hA, offR.rf⟩ | exact ⟨rfl, by rw [wset_eq]; unfold wpc; simp [hs]; rfl, offR.rf.put (by omega) (by omega)⟩ | exact ⟨rfl, by rw [wset_eq]; unfold wpc; simp [hs, hB88]; rfl, offR.rf.put (by omega) (by omega)⟩ | exact ⟨rfl, by unfold wpc; simp [hs, hqe]; exact a1, a2⟩)
  · rw [hs]
    refine i_tableIn C dX6_walkPiece_5 (tgt := 85) (ha := by decide) (h1 := by decide) (h2 := by decide) (ho := rfl) (ht := by decide) (kk := ?_)
    refine i_iload C dX6_walkPiece_85 (kk := ?_)
    refine i_iconst C dX6_walkPiece_87 (kk := ?_)
    refine i_icmp_eq C dX6_walkPiece_88 (tgt := 112) (kt := fun hB88 => ?_) (kf := fun hB88 => ?_)
    · exact i_vret C (d := dX6_walkPiece_112) (h := by first | exact ⟨rfl, by unfold wpc; simp [hs]; exact hA, offR.rf⟩ | exact ⟨rfl, by unfold wpc; simp [hs, hB88]; exact hA, offR.rf⟩ | exact ⟨rfl, by rw [wset_eq]; unfold wpc; simp [hs]; rfl, offR.rf.put (by omega) (by omega)⟩ | exact ⟨rfl, by rw [wset_eq]; unfold wpc; simp [hs, hB88]; rfl, offR.rf.put (by omega) (by omega)⟩ | exact ⟨rfl, by unfold wpc; simp [hs, hqe]; exact a1, a2⟩)
    · refine i_aload_n C dX6_walkPiece_91 (kk := ?_)
      refine i_iload C dX6_walkPiece_92 (kk := ?_)
      refine i_callV C lk_X6_300 (c_X5_meet l hl D (hw := hA)) (hcl := rfl) (hst := rfl) dX6_walkPiece_94 (hw := hA) (kk := fun v94 w94 g94 => ?_)
      obtain ⟨rfl, rfl⟩ := g94
      refine i_goto C dX6_walkPiece_97 (tgt := 112) (kk := ?_)
      exact i_vret C (d := dX6_walkPiece_112) (h := by first | exact ⟨rfl, by unfold wpc; simp [hs]; exact hA, offR.rf⟩ | exact ⟨rfl, by unfold wpc; simp [hs, hB88]; exact hA, offR.rf⟩ | exact ⟨rfl, by rw [wset_eq]; unfold wpc; simp [hs]; rfl, offR.rf.put (by omega) (by omega)⟩ | exact ⟨rfl, by rw [wset_eq]; unfold wpc; simp [hs, hB88]; rfl, offR.rf.put (by omega) (by omega)⟩ | exact ⟨rfl, by unfold wpc; simp [hs, hqe]; exact a1, a2⟩)
  · rw [hs]
    refine i_tableIn C dX6_walkPiece_5 (tgt := 44) (ha := by decide) (h1 := by decide) (h2 := by decide) (ho := rfl) (ht := by decide) (kk := ?_)
    refine i_aload_n C dX6_walkPiece_44 (kk := ?_)
    refine i_aload_n C dX6_walkPiece_45 (kk := ?_)
    refine i_aload_n C dX6_walkPiece_46 (kk := ?_)
    refine i_iload_n C dX6_walkPiece_47 (kk := ?_)
    refine i_callV C lk_X6_273 (c_X3_pageOf l hl D (hT := hT) (i := i)) (hcl := rfl) (hst := rfl) dX6_walkPiece_48 (hw := hT.2.2.2.2.1) (kk := fun v48 w48 g48 => ?_)
    obtain ⟨rfl, q48⟩ := g48
    have q48 := q48.symm
    subst q48
    obtain ⟨q, hqe⟩ : ∃ q : Nat, (pcs ps i).2.1 = q := ⟨(pcs ps i).2.1.toNat, by unfold PV at hv; omega⟩
    have hq12 : q < 12 := by unfold PV at hv; omega
    rw [hqe]
    refine i_aload_n C dX6_walkPiece_51 (kk := ?_)
    refine i_iload_n C dX6_walkPiece_52 (kk := ?_)
    refine i_callV C lk_X6_264 (c_X3_signOf l hl D (hT := hT) (i := i)) (hcl := rfl) (hst := rfl) dX6_walkPiece_53 (hw := hT.2.2.2.2.1) (kk := fun v53 w53 g53 => ?_)
    obtain ⟨rfl, q53⟩ := g53
    have q53 := q53.symm
    subst q53
    refine i_iload C dX6_walkPiece_56 (kk := ?_)
    refine i_iconst C dX6_walkPiece_58 (kk := ?_)
    refine i_iadd C dX6_walkPiece_59 (kk := ?_)
    refine i_callV C lk_X6_153 (cw2_X6_walkPage l hl D (hW := hW) hA hτ hq12 (by omega) (by unfold PV at hv; omega)) (hcl := rfl) (hst := rfl) dX6_walkPiece_60 (hw := hW.obj) (kk := fun v60 w60 g60 => ?_)
    obtain ⟨rfl, a1, a2⟩ := g60
    refine i_goto C dX6_walkPiece_63 (tgt := 112) (kk := ?_)
    exact i_vret C (d := dX6_walkPiece_112) (h := by first | exact ⟨rfl, by unfold wpc; simp [hs]; exact hA, offR.rf⟩ | exact ⟨rfl, by unfold wpc; simp [hs, hB88]; exact hA, offR.rf⟩ | exact ⟨rfl, by rw [wset_eq]; unfold wpc; simp [hs]; rfl, offR.rf.put (by omega) (by omega)⟩ | exact ⟨rfl, by rw [wset_eq]; unfold wpc; simp [hs, hB88]; rfl, offR.rf.put (by omega) (by omega)⟩ | exact ⟨rfl, by unfold wpc; simp [hs, hqe]; exact a1, a2⟩)
  · rw [hs]
    refine i_tableIn C dX6_walkPiece_5 (tgt := 66) (ha := by decide) (h1 := by decide) (h2 := by decide) (ho := rfl) (ht := by decide) (kk := ?_)
    refine i_aload_n C dX6_walkPiece_66 (kk := ?_)
    refine i_aload_n C dX6_walkPiece_67 (kk := ?_)
    refine i_aload_n C dX6_walkPiece_68 (kk := ?_)
    refine i_iload_n C dX6_walkPiece_69 (kk := ?_)
    refine i_callV C lk_X6_273 (c_X3_pageOf l hl D (hT := hT) (i := i)) (hcl := rfl) (hst := rfl) dX6_walkPiece_70 (hw := hT.2.2.2.2.1) (kk := fun v70 w70 g70 => ?_)
    obtain ⟨rfl, q70⟩ := g70
    have q70 := q70.symm
    subst q70
    obtain ⟨q, hqe⟩ : ∃ q : Nat, (pcs ps i).2.1 = q := ⟨(pcs ps i).2.1.toNat, by unfold PV at hv; omega⟩
    have hq12 : q < 12 := by unfold PV at hv; omega
    rw [hqe]
    refine i_iload C dX6_walkPiece_73 (kk := ?_)
    refine i_iload C dX6_walkPiece_75 (kk := ?_)
    refine i_iconst C dX6_walkPiece_77 (kk := ?_)
    refine i_iadd C dX6_walkPiece_78 (kk := ?_)
    refine i_callV C lk_X6_153 (cw2_X6_walkPage l hl D (hW := hW) hA hτ hq12 (by omega) harg) (hcl := rfl) (hst := rfl) dX6_walkPiece_79 (hw := hW.obj) (kk := fun v79 w79 g79 => ?_)
    obtain ⟨rfl, a1, a2⟩ := g79
    refine i_goto C dX6_walkPiece_82 (tgt := 112) (kk := ?_)
    exact i_vret C (d := dX6_walkPiece_112) (h := by first | exact ⟨rfl, by unfold wpc; simp [hs]; exact hA, offR.rf⟩ | exact ⟨rfl, by unfold wpc; simp [hs, hB88]; exact hA, offR.rf⟩ | exact ⟨rfl, by rw [wset_eq]; unfold wpc; simp [hs]; rfl, offR.rf.put (by omega) (by omega)⟩ | exact ⟨rfl, by rw [wset_eq]; unfold wpc; simp [hs, hB88]; rfl, offR.rf.put (by omega) (by omega)⟩ | exact ⟨rfl, by unfold wpc; simp [hs, hqe]; exact a1, a2⟩)
  · rw [hs]
    refine i_tableOut C dX6_walkPiece_5 (tgt := 112) (ha := by decide) (h1 := by decide) (ht := by decide) (kk := ?_)
    exact i_vret C (d := dX6_walkPiece_112) (h := by first | exact ⟨rfl, by unfold wpc; simp [hs]; exact hA, offR.rf⟩ | exact ⟨rfl, by unfold wpc; simp [hs, hB88]; exact hA, offR.rf⟩ | exact ⟨rfl, by rw [wset_eq]; unfold wpc; simp [hs]; rfl, offR.rf.put (by omega) (by omega)⟩ | exact ⟨rfl, by rw [wset_eq]; unfold wpc; simp [hs, hB88]; rfl, offR.rf.put (by omega) (by omega)⟩ | exact ⟨rfl, by unfold wpc; simp [hs, hqe]; exact a1, a2⟩)
  · rw [hs]
    refine i_tableOut C dX6_walkPiece_5 (tgt := 112) (ha := by decide) (h1 := by decide) (ht := by decide) (kk := ?_)
    exact i_vret C (d := dX6_walkPiece_112) (h := by first | exact ⟨rfl, by unfold wpc; simp [hs]; exact hA, offR.rf⟩ | exact ⟨rfl, by unfold wpc; simp [hs, hB88]; exact hA, offR.rf⟩ | exact ⟨rfl, by rw [wset_eq]; unfold wpc; simp [hs]; rfl, offR.rf.put (by omega) (by omega)⟩ | exact ⟨rfl, by rw [wset_eq]; unfold wpc; simp [hs, hB88]; rfl, offR.rf.put (by omega) (by omega)⟩ | exact ⟨rfl, by unfold wpc; simp [hs, hqe]; exact a1, a2⟩)
  · rw [hs]
    refine i_tableOut C dX6_walkPiece_5 (tgt := 112) (ha := by decide) (h1 := by decide) (ht := by decide) (kk := ?_)
    exact i_vret C (d := dX6_walkPiece_112) (h := by first | exact ⟨rfl, by unfold wpc; simp [hs]; exact hA, offR.rf⟩ | exact ⟨rfl, by unfold wpc; simp [hs, hB88]; exact hA, offR.rf⟩ | exact ⟨rfl, by rw [wset_eq]; unfold wpc; simp [hs]; rfl, offR.rf.put (by omega) (by omega)⟩ | exact ⟨rfl, by rw [wset_eq]; unfold wpc; simp [hs, hB88]; rfl, offR.rf.put (by omega) (by omega)⟩ | exact ⟨rfl, by unfold wpc; simp [hs, hqe]; exact a1, a2⟩)

set_option maxRecDepth 100000 in
set_option maxHeartbeats 4000000 in
theorem cw1_X6_walkPage (l : Launch) (hl : l.stackTraces = false) (D : gD) {w : wW} {τ ad : Nat → Nat} {nb tb : Nat} {σ : Sg} {a p : Nat} {arg : Int} {st : Int × Int} (hW : WkI D w τ ad nb tb σ := by assumption) (hA : w a = some (wkO st)) (hτ : 2260 ≤ τ a) (hp : p < 12) (hst : -1 ≤ st.1 ∧ st.1 ≤ 2147483647) (harg : -1 ≤ arg ∧ arg ≤ 25) : CTm l D yX6_walkPage cX6_walkPage 9 none (rmL 14 0 0) [.ref (ad 0), .ref a, .int (Z32 (p : Int)), .int (Z32 arg), .int (Z32 1)] w (fun u w1 => u = none ∧ w1 a = some (wkO (wpN (sT σ) 5 p arg st)) ∧ offR τ w w1 (τ a) (τ a + 1)) := by
  refine CTm_of hl false rfl (by rfl) (Nat.le_of_ble_eq_true rfl) (fun h => nomatch h) ?_
  intro G C
  show G 0 0 w [some (.ref (ad 0)), some (.ref a), some (.int (Z32 (p : Int))), some (.int (Z32 arg)), some (.int (Z32 1)), none, none, none, none] 0 []
  refine i_iload C dX6_walkPage_0 (kk := ?_)
  refine i_iconst C dX6_walkPage_2 (kk := ?_)
  refine i_icmp_gt C dX6_walkPage_3 (tgt := 17) (kt := fun hB3 => ?_) (kf := fun hB3 => ?_)
  · exfalso; omega
  · refine i_aload_n C dX6_walkPage_6 (kk := ?_)
    obtain ⟨hb9, -, ⟨fc, fo, fr, fd, fx, kN, kO9⟩, -⟩ := hW.2.1
    have hx9 := (kO9 p hp).2.2.2
    have hx5 := (hW.1.2.1 p hp).2.2.2.1
    have h30 := (hW.txt hp).2.2.2.2.2.1
    refine i_getf C f_X6_23 dX6_walkPage_7 (hw := hW.obj) (kk := ?_)
    refine i_iload_n C dX6_walkPage_10 (kk := ?_)
    refine i_callV C lk_X6_126 (c_X0_extentOf l hl D (hN := kN) (p := p)) (hcl := rfl) (hst := rfl) dX6_walkPage_11 (hw := kN.2.2.2.2.2.2.1) (kk := fun v11 w11 g11 => ?_)
    obtain ⟨rfl, q11⟩ := g11
    have q11 := q11.symm
    subst q11
    refine i_if_ne C dX6_walkPage_14 (tgt := 18) (kt := fun hB14 => ?_) (kf := fun hB14 => ?_)
    · have e4 : wpN (sT σ) 5 p arg st = (wtx (wpN (sT σ) 4) arg st (sT σ p)).2 := if_neg (by omega)
      refine i_aload_n C dX6_walkPage_18 (kk := ?_)
      refine i_iload_n C dX6_walkPage_19 (kk := ?_)
      refine i_callV C lk_X6_67 (c_X6_pageAt l hl D (hW := hW) (p := p)) (hcl := rfl) (hst := rfl) dX6_walkPage_20 (hw := hW.obj) (kk := fun v20 w20 g20 => ?_)
      obtain ⟨rfl, q20⟩ := g20
      have q20 := q20.symm
      subst q20
      refine i_getf C f_X6_73 dX6_walkPage_23 (hw := hW.page hp) (kk := ?_)
      refine i_getf C f_X6_113 dX6_walkPage_26 (hw := hW.ver hp) (kk := ?_)
      refine i_astore C dX6_walkPage_29 (kk := ?_)
      refine i_iconst C dX6_walkPage_31 (kk := ?_)
      refine i_istore C dX6_walkPage_32 (kk := ?_)
      refine i_iconst C dX6_walkPage_34 (kk := ?_)
      refine i_istore C dX6_walkPage_35 (kk := ?_)
      have lp : ∀ (m i : Nat) (w1 : wW) (s : Nat) (st1 : Int × Int) (o9 : Option Value), (sT σ p).length + 1 ≤ m + i → i ≤ (sT σ p).length → wtx (wpN (sT σ) 4) arg st ((sT σ p).take i) = (s, st1) → s ≤ i → w1 a = some (wkO st1) → offR τ w w1 (τ a) (τ a + 1) → G 0 0 w1 [some (.ref (ad 0)), some (.ref a), some (.int (Z32 (p : Int))), some (.int (Z32 arg)), some (.int (Z32 1)), some (.ref (ad (vr p (sNv σ p) + 1))), some (.int (Z32 (s : Int))), some (.int (Z32 (i : Int))), o9] 37 [] := by
        intro m
        induction m with
        | zero => intro i w1 s st1 o9 h1 h2; omega
        | succ m ih =>
        intro i w1 s st1 o9 h1 h2 hE hs hA1 kO1
        have hW1 := hW.far kO1 hτ
        have hSR := wtx_R (wpN_R (T := sT σ) 4) (arg := arg) hst ((sT σ p).take i)
        rw [hE] at hSR
        have hSR : -1 ≤ st1.1 ∧ st1.1 ≤ 2147483647 := hSR
        refine i_iload C dX6_walkPage_37 (kk := ?_)
        refine i_aload C dX6_walkPage_39 (kk := ?_)
        refine i_getf C f_X6_208 dX6_walkPage_41 (hw := (hW1.txt hp).2.2.2.2.1) (kk := ?_)
        refine i_icmp_ge C dX6_walkPage_44 (tgt := 133) (kt := fun hB44 => ?_) (kf := fun hB44 => ?_)
        · have e3 : (wtx (wpN (sT σ) 4) arg st (sT σ p)) = (s, st1) := by rw [← hE, List.take_of_length_le (by omega)]
          exact i_vret C (d := dX6_walkPage_133) (h := ⟨rfl, by rw [e4, e3]; exact hA1, kO1⟩)
        · refine i_aload_n C dX6_walkPage_47 (kk := ?_)
          refine i_callV C lk_X6_293 (c_X5_isOver l hl D (hw := hA1)) (hcl := rfl) (hst := rfl) dX6_walkPage_48 (hw := hA1) (kk := fun v48 w48 g48 => ?_)
          obtain ⟨rfl, q48⟩ := g48
          have q48 := q48.symm
          subst q48
          refine i_if_ne C dX6_walkPage_51 (tgt := 133) (ha := by split <;> decide) (kt := fun hB51 => ?_) (kf := fun hB51 => ?_)
          · have e8 : st1.1 < 0 := by apply Decidable.byContradiction; intro q; rw [if_neg q] at hB51; exact hB51 rfl
            have e3 : (wtx (wpN (sT σ) 4) arg st (sT σ p)) = (s, st1) := by rw [wtx_over (i := i) (by rw [hE]; exact e8), hE]
            exact i_vret C (d := dX6_walkPage_133) (h := ⟨rfl, by rw [e4, e3]; exact hA1, kO1⟩)
          · have e8 : ¬ st1.1 < 0 := by intro q; rw [if_pos q] at hB51; omega
            have e9 : wtx (wpN (sT σ) 4) arg st ((sT σ p).take (i + 1)) = wst (wpN (sT σ) 4) arg (s, st1) (pcs (sT σ p) i) := by rw [wtx_take (by omega), hE]
            have hv := (hW1.txt hp).2.2.2.2.2.2.2.1 _ (pcs_mem (i := i) (by omega))
            have hvR := hv.R
            refine i_aload C dX6_walkPage_54 (kk := ?_)
            refine i_iload C dX6_walkPage_56 (kk := ?_)
            refine i_callV C lk_X6_261 (c_X3_sortOf l hl D (hT := hW1.txt hp) (i := i)) (hcl := rfl) (hst := rfl) dX6_walkPage_58 (hw := (hW1.txt hp).2.2.2.2.1) (kk := fun v58 w58 g58 => ?_)
            obtain ⟨rfl, q58⟩ := g58
            have q58 := q58.symm
            subst q58
            refine i_istore C dX6_walkPage_61 (kk := ?_)
            refine i_iload C dX6_walkPage_63 (kk := ?_)
            refine i_bipush C dX6_walkPage_65 (kk := ?_)
            refine i_icmp_ne C dX6_walkPage_67 (tgt := 92) (kt := fun hB67 => ?_) (kf := fun hB67 => ?_)
            · refine i_iload C dX6_walkPage_92 (kk := ?_)
              refine i_bipush C dX6_walkPage_94 (kk := ?_)
              refine i_icmp_ne C dX6_walkPage_96 (tgt := 110) (kt := fun hB96 => ?_) (kf := fun hB96 => ?_)
              · refine i_iload C dX6_walkPage_110 (kk := ?_)
                refine i_if_ne C dX6_walkPage_112 (tgt := 127) (kt := fun hB112 => ?_) (kf := fun hB112 => ?_)
                · have e5 : wtx (wpN (sT σ) 4) arg st ((sT σ p).take (i + 1)) = (s, st1) := by rw [e9]; unfold wst; dsimp only; rw [if_neg e8, if_neg (by omega), if_neg (by omega), if_neg (by omega)]
                  have hs5 : s ≤ i + 1 := by omega
                  refine i_iinc C dX6_walkPage_127 (kk := ?_)
                  refine i_goto C dX6_walkPage_130 (tgt := 37) (kk := ?_)
                  first | exact ih (i + 1) _ _ _ _ (by omega) (by omega) e5 hs5 hA2 kO2 | exact ih (i + 1) _ _ _ _ (by omega) (by omega) e5 hs5 hA1 kO1
                · refine i_aload_n C dX6_walkPage_115 (kk := ?_)
                  refine i_aload_n C dX6_walkPage_116 (kk := ?_)
                  refine i_aload C dX6_walkPage_117 (kk := ?_)
                  refine i_iload C dX6_walkPage_119 (kk := ?_)
                  refine i_iload_n C dX6_walkPage_121 (kk := ?_)
                  refine i_iload C dX6_walkPage_122 (kk := ?_)
                  refine i_callV C lk_X6_296 (cp1_X6_walkPiece l hl D (hW := hW1) hA1 hτ (hT := hW1.txt hp) (i := i) (by omega) (by omega) harg) (hcl := rfl) (hst := rfl) dX6_walkPage_124 (hw := hW1.obj) (kk := fun v124 w124 g124 => ?_)
                  obtain ⟨rfl, hA2, o2⟩ := g124
                  have kO2 := kO1.trans o2
                  have e5 : wtx (wpN (sT σ) 4) arg st ((sT σ p).take (i + 1)) = (s, wpc (wpN (sT σ) 4) arg st1 (pcs (sT σ p) i)) := by rw [e9]; unfold wst; dsimp only; rw [if_neg e8, if_neg (by omega), if_neg (by omega), if_pos (by omega)]
                  have hs5 : s ≤ i + 1 := by omega
                  refine i_iinc C dX6_walkPage_127 (kk := ?_)
                  refine i_goto C dX6_walkPage_130 (tgt := 37) (kk := ?_)
                  first | exact ih (i + 1) _ _ _ _ (by omega) (by omega) e5 hs5 hA2 kO2 | exact ih (i + 1) _ _ _ _ (by omega) (by omega) e5 hs5 hA1 kO1
              · refine i_iload C dX6_walkPage_99 (kk := ?_)
                refine i_if_le C dX6_walkPage_101 (tgt := 110) (kt := fun hB101 => ?_) (kf := fun hB101 => ?_)
                · refine i_iload C dX6_walkPage_110 (kk := ?_)
                  refine i_if_ne C dX6_walkPage_112 (tgt := 127) (kt := fun hB112 => ?_) (kf := fun hB112 => ?_)
                  · have e5 : wtx (wpN (sT σ) 4) arg st ((sT σ p).take (i + 1)) = (s, st1) := by rw [e9]; unfold wst; dsimp only; rw [if_neg e8, if_neg (by omega), if_neg (by omega), if_neg (by omega)]
                    have hs5 : s ≤ i + 1 := by omega
                    refine i_iinc C dX6_walkPage_127 (kk := ?_)
                    refine i_goto C dX6_walkPage_130 (tgt := 37) (kk := ?_)
                    first | exact ih (i + 1) _ _ _ _ (by omega) (by omega) e5 hs5 hA2 kO2 | exact ih (i + 1) _ _ _ _ (by omega) (by omega) e5 hs5 hA1 kO1
                  · refine i_aload_n C dX6_walkPage_115 (kk := ?_)
                    refine i_aload_n C dX6_walkPage_116 (kk := ?_)
                    refine i_aload C dX6_walkPage_117 (kk := ?_)
                    refine i_iload C dX6_walkPage_119 (kk := ?_)
                    refine i_iload_n C dX6_walkPage_121 (kk := ?_)
                    refine i_iload C dX6_walkPage_122 (kk := ?_)
                    refine i_callV C lk_X6_296 (cp1_X6_walkPiece l hl D (hW := hW1) hA1 hτ (hT := hW1.txt hp) (i := i) (by omega) (by omega) harg) (hcl := rfl) (hst := rfl) dX6_walkPage_124 (hw := hW1.obj) (kk := fun v124 w124 g124 => ?_)
                    obtain ⟨rfl, hA2, o2⟩ := g124
                    have kO2 := kO1.trans o2
                    have e5 : wtx (wpN (sT σ) 4) arg st ((sT σ p).take (i + 1)) = (s, wpc (wpN (sT σ) 4) arg st1 (pcs (sT σ p) i)) := by rw [e9]; unfold wst; dsimp only; rw [if_neg e8, if_neg (by omega), if_neg (by omega), if_pos (by omega)]
                    have hs5 : s ≤ i + 1 := by omega
                    refine i_iinc C dX6_walkPage_127 (kk := ?_)
                    refine i_goto C dX6_walkPage_130 (tgt := 37) (kk := ?_)
                    first | exact ih (i + 1) _ _ _ _ (by omega) (by omega) e5 hs5 hA2 kO2 | exact ih (i + 1) _ _ _ _ (by omega) (by omega) e5 hs5 hA1 kO1
                · have e5 : wtx (wpN (sT σ) 4) arg st ((sT σ p).take (i + 1)) = (s - 1, st1) := by rw [e9]; unfold wst; dsimp only; rw [if_neg e8, if_neg (by omega), if_pos (by omega)]
                  have hs5 : s - 1 ≤ i + 1 := by omega
                  refine i_iinc C dX6_walkPage_104 (kk := ?_)
                  rw [show ((s : Int) + (-1)) = ((s - 1 : Nat) : Int) by omega]
                  refine i_goto C dX6_walkPage_107 (tgt := 127) (kk := ?_)
                  refine i_iinc C dX6_walkPage_127 (kk := ?_)
                  refine i_goto C dX6_walkPage_130 (tgt := 37) (kk := ?_)
                  first | exact ih (i + 1) _ _ _ _ (by omega) (by omega) e5 hs5 hA2 kO2 | exact ih (i + 1) _ _ _ _ (by omega) (by omega) e5 hs5 hA1 kO1
            · refine i_iload C dX6_walkPage_70 (kk := ?_)
              refine i_if_gt C dX6_walkPage_72 (tgt := 86) (kt := fun hB72 => ?_) (kf := fun hB72 => ?_)
              · have e5 : wtx (wpN (sT σ) 4) arg st ((sT σ p).take (i + 1)) = (s + 1, st1) := by rw [e9]; unfold wst; dsimp only; rw [if_neg e8, if_pos (by omega)]
                have hs5 : s + 1 ≤ i + 1 := by omega
                refine i_iinc C dX6_walkPage_86 (kk := ?_)
                refine i_goto C dX6_walkPage_89 (tgt := 127) (kk := ?_)
                refine i_iinc C dX6_walkPage_127 (kk := ?_)
                refine i_goto C dX6_walkPage_130 (tgt := 37) (kk := ?_)
                first | exact ih (i + 1) _ _ _ _ (by omega) (by omega) e5 hs5 hA2 kO2 | exact ih (i + 1) _ _ _ _ (by omega) (by omega) e5 hs5 hA1 kO1
              · refine i_aload C dX6_walkPage_75 (kk := ?_)
                refine i_iload C dX6_walkPage_77 (kk := ?_)
                refine i_callV C lk_X6_264 (c_X3_signOf l hl D (hT := hW1.txt hp) (i := i)) (hcl := rfl) (hst := rfl) dX6_walkPage_79 (hw := (hW1.txt hp).2.2.2.2.1) (kk := fun v79 w79 g79 => ?_)
                obtain ⟨rfl, q79⟩ := g79
                have q79 := q79.symm
                subst q79
                refine i_iload_n C dX6_walkPage_82 (kk := ?_)
                refine i_icmp_eq C dX6_walkPage_83 (tgt := 92) (kt := fun hB83 => ?_) (kf := fun hB83 => ?_)
                · refine i_iload C dX6_walkPage_92 (kk := ?_)
                  refine i_bipush C dX6_walkPage_94 (kk := ?_)
                  refine i_icmp_ne C dX6_walkPage_96 (tgt := 110) (kt := fun hB96 => ?_) (kf := fun hB96 => ?_)
                  · refine i_iload C dX6_walkPage_110 (kk := ?_)
                    refine i_if_ne C dX6_walkPage_112 (tgt := 127) (kt := fun hB112 => ?_) (kf := fun hB112 => ?_)
                    · have e5 : wtx (wpN (sT σ) 4) arg st ((sT σ p).take (i + 1)) = (s, st1) := by rw [e9]; unfold wst; dsimp only; rw [if_neg e8, if_neg (by omega), if_neg (by omega), if_neg (by omega)]
                      have hs5 : s ≤ i + 1 := by omega
                      refine i_iinc C dX6_walkPage_127 (kk := ?_)
                      refine i_goto C dX6_walkPage_130 (tgt := 37) (kk := ?_)
                      first | exact ih (i + 1) _ _ _ _ (by omega) (by omega) e5 hs5 hA2 kO2 | exact ih (i + 1) _ _ _ _ (by omega) (by omega) e5 hs5 hA1 kO1
                    · refine i_aload_n C dX6_walkPage_115 (kk := ?_)
                      refine i_aload_n C dX6_walkPage_116 (kk := ?_)
                      refine i_aload C dX6_walkPage_117 (kk := ?_)
                      refine i_iload C dX6_walkPage_119 (kk := ?_)
                      refine i_iload_n C dX6_walkPage_121 (kk := ?_)
                      refine i_iload C dX6_walkPage_122 (kk := ?_)
                      refine i_callV C lk_X6_296 (cp1_X6_walkPiece l hl D (hW := hW1) hA1 hτ (hT := hW1.txt hp) (i := i) (by omega) (by omega) harg) (hcl := rfl) (hst := rfl) dX6_walkPage_124 (hw := hW1.obj) (kk := fun v124 w124 g124 => ?_)
                      obtain ⟨rfl, hA2, o2⟩ := g124
                      have kO2 := kO1.trans o2
                      have e5 : wtx (wpN (sT σ) 4) arg st ((sT σ p).take (i + 1)) = (s, wpc (wpN (sT σ) 4) arg st1 (pcs (sT σ p) i)) := by rw [e9]; unfold wst; dsimp only; rw [if_neg e8, if_neg (by omega), if_neg (by omega), if_pos (by omega)]
                      have hs5 : s ≤ i + 1 := by omega
                      refine i_iinc C dX6_walkPage_127 (kk := ?_)
                      refine i_goto C dX6_walkPage_130 (tgt := 37) (kk := ?_)
                      first | exact ih (i + 1) _ _ _ _ (by omega) (by omega) e5 hs5 hA2 kO2 | exact ih (i + 1) _ _ _ _ (by omega) (by omega) e5 hs5 hA1 kO1
                  · refine i_iload C dX6_walkPage_99 (kk := ?_)
                    refine i_if_le C dX6_walkPage_101 (tgt := 110) (kt := fun hB101 => ?_) (kf := fun hB101 => ?_)
                    · refine i_iload C dX6_walkPage_110 (kk := ?_)
                      refine i_if_ne C dX6_walkPage_112 (tgt := 127) (kt := fun hB112 => ?_) (kf := fun hB112 => ?_)
                      · have e5 : wtx (wpN (sT σ) 4) arg st ((sT σ p).take (i + 1)) = (s, st1) := by rw [e9]; unfold wst; dsimp only; rw [if_neg e8, if_neg (by omega), if_neg (by omega), if_neg (by omega)]
                        have hs5 : s ≤ i + 1 := by omega
                        refine i_iinc C dX6_walkPage_127 (kk := ?_)
                        refine i_goto C dX6_walkPage_130 (tgt := 37) (kk := ?_)
                        first | exact ih (i + 1) _ _ _ _ (by omega) (by omega) e5 hs5 hA2 kO2 | exact ih (i + 1) _ _ _ _ (by omega) (by omega) e5 hs5 hA1 kO1
                      · refine i_aload_n C dX6_walkPage_115 (kk := ?_)
                        refine i_aload_n C dX6_walkPage_116 (kk := ?_)
                        refine i_aload C dX6_walkPage_117 (kk := ?_)
                        refine i_iload C dX6_walkPage_119 (kk := ?_)
                        refine i_iload_n C dX6_walkPage_121 (kk := ?_)
                        refine i_iload C dX6_walkPage_122 (kk := ?_)
                        refine i_callV C lk_X6_296 (cp1_X6_walkPiece l hl D (hW := hW1) hA1 hτ (hT := hW1.txt hp) (i := i) (by omega) (by omega) harg) (hcl := rfl) (hst := rfl) dX6_walkPage_124 (hw := hW1.obj) (kk := fun v124 w124 g124 => ?_)
                        obtain ⟨rfl, hA2, o2⟩ := g124
                        have kO2 := kO1.trans o2
                        have e5 : wtx (wpN (sT σ) 4) arg st ((sT σ p).take (i + 1)) = (s, wpc (wpN (sT σ) 4) arg st1 (pcs (sT σ p) i)) := by rw [e9]; unfold wst; dsimp only; rw [if_neg e8, if_neg (by omega), if_neg (by omega), if_pos (by omega)]
                        have hs5 : s ≤ i + 1 := by omega
                        refine i_iinc C dX6_walkPage_127 (kk := ?_)
                        refine i_goto C dX6_walkPage_130 (tgt := 37) (kk := ?_)
                        first | exact ih (i + 1) _ _ _ _ (by omega) (by omega) e5 hs5 hA2 kO2 | exact ih (i + 1) _ _ _ _ (by omega) (by omega) e5 hs5 hA1 kO1
                    · have e5 : wtx (wpN (sT σ) 4) arg st ((sT σ p).take (i + 1)) = (s - 1, st1) := by rw [e9]; unfold wst; dsimp only; rw [if_neg e8, if_neg (by omega), if_pos (by omega)]
                      have hs5 : s - 1 ≤ i + 1 := by omega
                      refine i_iinc C dX6_walkPage_104 (kk := ?_)
                      rw [show ((s : Int) + (-1)) = ((s - 1 : Nat) : Int) by omega]
                      refine i_goto C dX6_walkPage_107 (tgt := 127) (kk := ?_)
                      refine i_iinc C dX6_walkPage_127 (kk := ?_)
                      refine i_goto C dX6_walkPage_130 (tgt := 37) (kk := ?_)
                      first | exact ih (i + 1) _ _ _ _ (by omega) (by omega) e5 hs5 hA2 kO2 | exact ih (i + 1) _ _ _ _ (by omega) (by omega) e5 hs5 hA1 kO1
                · have e5 : wtx (wpN (sT σ) 4) arg st ((sT σ p).take (i + 1)) = (s + 1, st1) := by rw [e9]; unfold wst; dsimp only; rw [if_neg e8, if_pos (by omega)]
                  have hs5 : s + 1 ≤ i + 1 := by omega
                  refine i_iinc C dX6_walkPage_86 (kk := ?_)
                  refine i_goto C dX6_walkPage_89 (tgt := 127) (kk := ?_)
                  refine i_iinc C dX6_walkPage_127 (kk := ?_)
                  refine i_goto C dX6_walkPage_130 (tgt := 37) (kk := ?_)
                  first | exact ih (i + 1) _ _ _ _ (by omega) (by omega) e5 hs5 hA2 kO2 | exact ih (i + 1) _ _ _ _ (by omega) (by omega) e5 hs5 hA1 kO1
      exact lp ((sT σ p).length + 1) 0 _ 0 st _ (by omega) (by omega) rfl (by omega) hA offR.rf
    · have e4 : wpN (sT σ) 5 p arg st = st := if_pos (by omega)
      exact i_vret C (d := dX6_walkPage_17) (h := ⟨rfl, by rw [e4]; exact hA, offR.rf⟩)

set_option maxRecDepth 100000 in
set_option maxHeartbeats 4000000 in
theorem cp0_X6_walkPiece (l : Launch) (hl : l.stackTraces = false) (D : gD) {w : wW} {τ ad : Nat → Nat} {nb tb : Nat} {σ : Sg} {a r2 t ta te tc i : Nat} {ps : List Pc3} {arg : Int} {st : Int × Int} (hW : WkI D w τ ad nb tb σ := by assumption) (hA : w a = some (wkO st)) (hτ : 2260 ≤ τ a) (hT : TxT D w τ r2 t ta te tc ps) (hi : i < ps.length) (hst : 0 ≤ st.1 ∧ st.1 ≤ 2147483647) (harg : -1 ≤ arg ∧ arg ≤ 25) : CTm l D yX6_walkPiece cX6_walkPiece 6 none (rmL 15 0 0) [.ref (ad 0), .ref a, .ref t, .int (Z32 (i : Int)), .int (Z32 arg), .int (Z32 0)] w (fun u w1 => u = none ∧ w1 a = some (wkO (wpc (wpN (sT σ) 5) arg st (pcs ps i))) ∧ offR τ w w1 (τ a) (τ a + 1)) := by
  refine CTm_of hl false rfl (by rfl) (Nat.le_of_ble_eq_true rfl) (fun h => nomatch h) ?_
  intro G C
  show G 0 0 w [some (.ref (ad 0)), some (.ref a), some (.ref t), some (.int (Z32 (i : Int))), some (.int (Z32 arg)), some (.int (Z32 0))] 0 []
  have hv := hT.2.2.2.2.2.2.2.1 _ (pcs_mem hi)
  have hvR := hv.R
  refine i_aload_n C dX6_walkPiece_0 (kk := ?_)
  refine i_iload_n C dX6_walkPiece_1 (kk := ?_)
  refine i_callV C lk_X6_261 (c_X3_sortOf l hl D (hT := hT) (i := i)) (hcl := rfl) (hst := rfl) dX6_walkPiece_2 (hw := hT.2.2.2.2.1) (kk := fun v2 w2 g2 => ?_)
  obtain ⟨rfl, q2⟩ := g2
  have q2 := q2.symm
  subst q2
  rcases (show (pcs ps i).1 = 0 ∨ (pcs ps i).1 = 1 ∨ (pcs ps i).1 = 2 ∨ (pcs ps i).1 = 3 ∨ (pcs ps i).1 = 4 ∨ (pcs ps i).1 = 5 ∨ (pcs ps i).1 = 6 ∨ (pcs ps i).1 = 7 ∨ (pcs ps i).1 = 8 by omega) with hs | hs | hs | hs | hs | hs | hs | hs | hs
  · rw [hs]
    refine i_tableIn C dX6_walkPiece_5 (tgt := 100) (ha := by decide) (h1 := by decide) (h2 := by decide) (ho := rfl) (ht := by decide) (kk := ?_)
    refine i_aload_n C dX6_walkPiece_100 (kk := ?_)
    refine i_aload_n C dX6_walkPiece_101 (kk := ?_)
    refine i_iload_n C dX6_walkPiece_102 (kk := ?_)
    refine i_callV C lk_X6_287 (c_X3_itemOf l hl D (hT := hT) (i := i)) (hcl := rfl) (hst := rfl) dX6_walkPiece_103 (hw := hT.2.2.2.2.1) (kk := fun v103 w103 g103 => ?_)
    obtain ⟨rfl, q103⟩ := g103
    have q103 := q103.symm
    subst q103
    show G _ _ _ _ _ (.int (Z32 (pItem (pcs ps i))) :: _)
    refine i_callV C lk_X6_300 (c_X5_meet l hl D (hw := hA)) (hcl := rfl) (hst := rfl) dX6_walkPiece_106 (hw := hA) (kk := fun v106 w106 g106 => ?_)
    obtain ⟨rfl, rfl⟩ := g106
    refine i_goto C dX6_walkPiece_109 (tgt := 112) (kk := ?_)
    exact i_vret C (d := dX6_walkPiece_112) (h := by first | exact ⟨rfl, by unfold wpc; simp [hs]; exact hA, offR.rf⟩ | exact ⟨rfl, by unfold wpc; simp [hs, hB88]; exact hA, offR.rf⟩ | exact ⟨rfl, by rw [wset_eq]; unfold wpc; simp [hs]; rfl, offR.rf.put (by omega) (by omega)⟩ | exact ⟨rfl, by rw [wset_eq]; unfold wpc; simp [hs, hB88]; rfl, offR.rf.put (by omega) (by omega)⟩ | exact ⟨rfl, by unfold wpc; simp [hs, hqe]; exact a1, a2⟩)
  · rw [hs]
    refine i_tableIn C dX6_walkPiece_5 (tgt := 100) (ha := by decide) (h1 := by decide) (h2 := by decide) (ho := rfl) (ht := by decide) (kk := ?_)
    refine i_aload_n C dX6_walkPiece_100 (kk := ?_)
    refine i_aload_n C dX6_walkPiece_101 (kk := ?_)
    refine i_iload_n C dX6_walkPiece_102 (kk := ?_)
    refine i_callV C lk_X6_287 (c_X3_itemOf l hl D (hT := hT) (i := i)) (hcl := rfl) (hst := rfl) dX6_walkPiece_103 (hw := hT.2.2.2.2.1) (kk := fun v103 w103 g103 => ?_)
    obtain ⟨rfl, q103⟩ := g103
    have q103 := q103.symm
    subst q103
    show G _ _ _ _ _ (.int (Z32 (pItem (pcs ps i))) :: _)
    refine i_callV C lk_X6_300 (c_X5_meet l hl D (hw := hA)) (hcl := rfl) (hst := rfl) dX6_walkPiece_106 (hw := hA) (kk := fun v106 w106 g106 => ?_)
    obtain ⟨rfl, rfl⟩ := g106
    refine i_goto C dX6_walkPiece_109 (tgt := 112) (kk := ?_)
    exact i_vret C (d := dX6_walkPiece_112) (h := by first | exact ⟨rfl, by unfold wpc; simp [hs]; exact hA, offR.rf⟩ | exact ⟨rfl, by unfold wpc; simp [hs, hB88]; exact hA, offR.rf⟩ | exact ⟨rfl, by rw [wset_eq]; unfold wpc; simp [hs]; rfl, offR.rf.put (by omega) (by omega)⟩ | exact ⟨rfl, by rw [wset_eq]; unfold wpc; simp [hs, hB88]; rfl, offR.rf.put (by omega) (by omega)⟩ | exact ⟨rfl, by unfold wpc; simp [hs, hqe]; exact a1, a2⟩)
  · rw [hs]
    refine i_tableIn C dX6_walkPiece_5 (tgt := 100) (ha := by decide) (h1 := by decide) (h2 := by decide) (ho := rfl) (ht := by decide) (kk := ?_)
    refine i_aload_n C dX6_walkPiece_100 (kk := ?_)
    refine i_aload_n C dX6_walkPiece_101 (kk := ?_)
    refine i_iload_n C dX6_walkPiece_102 (kk := ?_)
    refine i_callV C lk_X6_287 (c_X3_itemOf l hl D (hT := hT) (i := i)) (hcl := rfl) (hst := rfl) dX6_walkPiece_103 (hw := hT.2.2.2.2.1) (kk := fun v103 w103 g103 => ?_)
    obtain ⟨rfl, q103⟩ := g103
    have q103 := q103.symm
    subst q103
    show G _ _ _ _ _ (.int (Z32 (pItem (pcs ps i))) :: _)
    refine i_callV C lk_X6_300 (c_X5_meet l hl D (hw := hA)) (hcl := rfl) (hst := rfl) dX6_walkPiece_106 (hw := hA) (kk := fun v106 w106 g106 => ?_)
    obtain ⟨rfl, rfl⟩ := g106
    refine i_goto C dX6_walkPiece_109 (tgt := 112) (kk := ?_)
    exact i_vret C (d := dX6_walkPiece_112) (h := by first | exact ⟨rfl, by unfold wpc; simp [hs]; exact hA, offR.rf⟩ | exact ⟨rfl, by unfold wpc; simp [hs, hB88]; exact hA, offR.rf⟩ | exact ⟨rfl, by rw [wset_eq]; unfold wpc; simp [hs]; rfl, offR.rf.put (by omega) (by omega)⟩ | exact ⟨rfl, by rw [wset_eq]; unfold wpc; simp [hs, hB88]; rfl, offR.rf.put (by omega) (by omega)⟩ | exact ⟨rfl, by unfold wpc; simp [hs, hqe]; exact a1, a2⟩)
  · rw [hs]
    refine i_tableIn C dX6_walkPiece_5 (tgt := 85) (ha := by decide) (h1 := by decide) (h2 := by decide) (ho := rfl) (ht := by decide) (kk := ?_)
    refine i_iload C dX6_walkPiece_85 (kk := ?_)
    refine i_iconst C dX6_walkPiece_87 (kk := ?_)
    refine i_icmp_eq C dX6_walkPiece_88 (tgt := 112) (kt := fun hB88 => ?_) (kf := fun hB88 => ?_)
    · exact i_vret C (d := dX6_walkPiece_112) (h := by first | exact ⟨rfl, by unfold wpc; simp [hs]; exact hA, offR.rf⟩ | exact ⟨rfl, by unfold wpc; simp [hs, hB88]; exact hA, offR.rf⟩ | exact ⟨rfl, by rw [wset_eq]; unfold wpc; simp [hs]; rfl, offR.rf.put (by omega) (by omega)⟩ | exact ⟨rfl, by rw [wset_eq]; unfold wpc; simp [hs, hB88]; rfl, offR.rf.put (by omega) (by omega)⟩ | exact ⟨rfl, by unfold wpc; simp [hs, hqe]; exact a1, a2⟩)
    · refine i_aload_n C dX6_walkPiece_91 (kk := ?_)
      refine i_iload C dX6_walkPiece_92 (kk := ?_)
      refine i_callV C lk_X6_300 (c_X5_meet l hl D (hw := hA)) (hcl := rfl) (hst := rfl) dX6_walkPiece_94 (hw := hA) (kk := fun v94 w94 g94 => ?_)
      obtain ⟨rfl, rfl⟩ := g94
      refine i_goto C dX6_walkPiece_97 (tgt := 112) (kk := ?_)
      exact i_vret C (d := dX6_walkPiece_112) (h := by first | exact ⟨rfl, by unfold wpc; simp [hs]; exact hA, offR.rf⟩ | exact ⟨rfl, by unfold wpc; simp [hs, hB88]; exact hA, offR.rf⟩ | exact ⟨rfl, by rw [wset_eq]; unfold wpc; simp [hs]; rfl, offR.rf.put (by omega) (by omega)⟩ | exact ⟨rfl, by rw [wset_eq]; unfold wpc; simp [hs, hB88]; rfl, offR.rf.put (by omega) (by omega)⟩ | exact ⟨rfl, by unfold wpc; simp [hs, hqe]; exact a1, a2⟩)
  · rw [hs]
    refine i_tableIn C dX6_walkPiece_5 (tgt := 44) (ha := by decide) (h1 := by decide) (h2 := by decide) (ho := rfl) (ht := by decide) (kk := ?_)
    refine i_aload_n C dX6_walkPiece_44 (kk := ?_)
    refine i_aload_n C dX6_walkPiece_45 (kk := ?_)
    refine i_aload_n C dX6_walkPiece_46 (kk := ?_)
    refine i_iload_n C dX6_walkPiece_47 (kk := ?_)
    refine i_callV C lk_X6_273 (c_X3_pageOf l hl D (hT := hT) (i := i)) (hcl := rfl) (hst := rfl) dX6_walkPiece_48 (hw := hT.2.2.2.2.1) (kk := fun v48 w48 g48 => ?_)
    obtain ⟨rfl, q48⟩ := g48
    have q48 := q48.symm
    subst q48
    obtain ⟨q, hqe⟩ : ∃ q : Nat, (pcs ps i).2.1 = q := ⟨(pcs ps i).2.1.toNat, by unfold PV at hv; omega⟩
    have hq12 : q < 12 := by unfold PV at hv; omega
    rw [hqe]
    refine i_aload_n C dX6_walkPiece_51 (kk := ?_)
    refine i_iload_n C dX6_walkPiece_52 (kk := ?_)
    refine i_callV C lk_X6_264 (c_X3_signOf l hl D (hT := hT) (i := i)) (hcl := rfl) (hst := rfl) dX6_walkPiece_53 (hw := hT.2.2.2.2.1) (kk := fun v53 w53 g53 => ?_)
    obtain ⟨rfl, q53⟩ := g53
    have q53 := q53.symm
    subst q53
    refine i_iload C dX6_walkPiece_56 (kk := ?_)
    refine i_iconst C dX6_walkPiece_58 (kk := ?_)
    refine i_iadd C dX6_walkPiece_59 (kk := ?_)
    refine i_callV C lk_X6_153 (cw1_X6_walkPage l hl D (hW := hW) hA hτ hq12 (by omega) (by unfold PV at hv; omega)) (hcl := rfl) (hst := rfl) dX6_walkPiece_60 (hw := hW.obj) (kk := fun v60 w60 g60 => ?_)
    obtain ⟨rfl, a1, a2⟩ := g60
    refine i_goto C dX6_walkPiece_63 (tgt := 112) (kk := ?_)
    exact i_vret C (d := dX6_walkPiece_112) (h := by first | exact ⟨rfl, by unfold wpc; simp [hs]; exact hA, offR.rf⟩ | exact ⟨rfl, by unfold wpc; simp [hs, hB88]; exact hA, offR.rf⟩ | exact ⟨rfl, by rw [wset_eq]; unfold wpc; simp [hs]; rfl, offR.rf.put (by omega) (by omega)⟩ | exact ⟨rfl, by rw [wset_eq]; unfold wpc; simp [hs, hB88]; rfl, offR.rf.put (by omega) (by omega)⟩ | exact ⟨rfl, by unfold wpc; simp [hs, hqe]; exact a1, a2⟩)
  · rw [hs]
    refine i_tableIn C dX6_walkPiece_5 (tgt := 66) (ha := by decide) (h1 := by decide) (h2 := by decide) (ho := rfl) (ht := by decide) (kk := ?_)
    refine i_aload_n C dX6_walkPiece_66 (kk := ?_)
    refine i_aload_n C dX6_walkPiece_67 (kk := ?_)
    refine i_aload_n C dX6_walkPiece_68 (kk := ?_)
    refine i_iload_n C dX6_walkPiece_69 (kk := ?_)
    refine i_callV C lk_X6_273 (c_X3_pageOf l hl D (hT := hT) (i := i)) (hcl := rfl) (hst := rfl) dX6_walkPiece_70 (hw := hT.2.2.2.2.1) (kk := fun v70 w70 g70 => ?_)
    obtain ⟨rfl, q70⟩ := g70
    have q70 := q70.symm
    subst q70
    obtain ⟨q, hqe⟩ : ∃ q : Nat, (pcs ps i).2.1 = q := ⟨(pcs ps i).2.1.toNat, by unfold PV at hv; omega⟩
    have hq12 : q < 12 := by unfold PV at hv; omega
    rw [hqe]
    refine i_iload C dX6_walkPiece_73 (kk := ?_)
    refine i_iload C dX6_walkPiece_75 (kk := ?_)
    refine i_iconst C dX6_walkPiece_77 (kk := ?_)
    refine i_iadd C dX6_walkPiece_78 (kk := ?_)
    refine i_callV C lk_X6_153 (cw1_X6_walkPage l hl D (hW := hW) hA hτ hq12 (by omega) harg) (hcl := rfl) (hst := rfl) dX6_walkPiece_79 (hw := hW.obj) (kk := fun v79 w79 g79 => ?_)
    obtain ⟨rfl, a1, a2⟩ := g79
    refine i_goto C dX6_walkPiece_82 (tgt := 112) (kk := ?_)
    exact i_vret C (d := dX6_walkPiece_112) (h := by first | exact ⟨rfl, by unfold wpc; simp [hs]; exact hA, offR.rf⟩ | exact ⟨rfl, by unfold wpc; simp [hs, hB88]; exact hA, offR.rf⟩ | exact ⟨rfl, by rw [wset_eq]; unfold wpc; simp [hs]; rfl, offR.rf.put (by omega) (by omega)⟩ | exact ⟨rfl, by rw [wset_eq]; unfold wpc; simp [hs, hB88]; rfl, offR.rf.put (by omega) (by omega)⟩ | exact ⟨rfl, by unfold wpc; simp [hs, hqe]; exact a1, a2⟩)
  · rw [hs]
    refine i_tableOut C dX6_walkPiece_5 (tgt := 112) (ha := by decide) (h1 := by decide) (ht := by decide) (kk := ?_)
    exact i_vret C (d := dX6_walkPiece_112) (h := by first | exact ⟨rfl, by unfold wpc; simp [hs]; exact hA, offR.rf⟩ | exact ⟨rfl, by unfold wpc; simp [hs, hB88]; exact hA, offR.rf⟩ | exact ⟨rfl, by rw [wset_eq]; unfold wpc; simp [hs]; rfl, offR.rf.put (by omega) (by omega)⟩ | exact ⟨rfl, by rw [wset_eq]; unfold wpc; simp [hs, hB88]; rfl, offR.rf.put (by omega) (by omega)⟩ | exact ⟨rfl, by unfold wpc; simp [hs, hqe]; exact a1, a2⟩)
  · rw [hs]
    refine i_tableOut C dX6_walkPiece_5 (tgt := 112) (ha := by decide) (h1 := by decide) (ht := by decide) (kk := ?_)
    exact i_vret C (d := dX6_walkPiece_112) (h := by first | exact ⟨rfl, by unfold wpc; simp [hs]; exact hA, offR.rf⟩ | exact ⟨rfl, by unfold wpc; simp [hs, hB88]; exact hA, offR.rf⟩ | exact ⟨rfl, by rw [wset_eq]; unfold wpc; simp [hs]; rfl, offR.rf.put (by omega) (by omega)⟩ | exact ⟨rfl, by rw [wset_eq]; unfold wpc; simp [hs, hB88]; rfl, offR.rf.put (by omega) (by omega)⟩ | exact ⟨rfl, by unfold wpc; simp [hs, hqe]; exact a1, a2⟩)
  · rw [hs]
    refine i_tableOut C dX6_walkPiece_5 (tgt := 112) (ha := by decide) (h1 := by decide) (ht := by decide) (kk := ?_)
    exact i_vret C (d := dX6_walkPiece_112) (h := by first | exact ⟨rfl, by unfold wpc; simp [hs]; exact hA, offR.rf⟩ | exact ⟨rfl, by unfold wpc; simp [hs, hB88]; exact hA, offR.rf⟩ | exact ⟨rfl, by rw [wset_eq]; unfold wpc; simp [hs]; rfl, offR.rf.put (by omega) (by omega)⟩ | exact ⟨rfl, by rw [wset_eq]; unfold wpc; simp [hs, hB88]; rfl, offR.rf.put (by omega) (by omega)⟩ | exact ⟨rfl, by unfold wpc; simp [hs, hqe]; exact a1, a2⟩)

set_option maxRecDepth 100000 in
set_option maxHeartbeats 4000000 in
theorem cw0_X6_walkPage (l : Launch) (hl : l.stackTraces = false) (D : gD) {w : wW} {τ ad : Nat → Nat} {nb tb : Nat} {σ : Sg} {a p : Nat} {arg : Int} {st : Int × Int} (hW : WkI D w τ ad nb tb σ := by assumption) (hA : w a = some (wkO st)) (hτ : 2260 ≤ τ a) (hp : p < 12) (hst : -1 ≤ st.1 ∧ st.1 ≤ 2147483647) (harg : -1 ≤ arg ∧ arg ≤ 25) : CTm l D yX6_walkPage cX6_walkPage 9 none (rmL 16 0 0) [.ref (ad 0), .ref a, .int (Z32 (p : Int)), .int (Z32 arg), .int (Z32 0)] w (fun u w1 => u = none ∧ w1 a = some (wkO (wpN (sT σ) 6 p arg st)) ∧ offR τ w w1 (τ a) (τ a + 1)) := by
  refine CTm_of hl false rfl (by rfl) (Nat.le_of_ble_eq_true rfl) (fun h => nomatch h) ?_
  intro G C
  show G 0 0 w [some (.ref (ad 0)), some (.ref a), some (.int (Z32 (p : Int))), some (.int (Z32 arg)), some (.int (Z32 0)), none, none, none, none] 0 []
  refine i_iload C dX6_walkPage_0 (kk := ?_)
  refine i_iconst C dX6_walkPage_2 (kk := ?_)
  refine i_icmp_gt C dX6_walkPage_3 (tgt := 17) (kt := fun hB3 => ?_) (kf := fun hB3 => ?_)
  · exfalso; omega
  · refine i_aload_n C dX6_walkPage_6 (kk := ?_)
    obtain ⟨hb9, -, ⟨fc, fo, fr, fd, fx, kN, kO9⟩, -⟩ := hW.2.1
    have hx9 := (kO9 p hp).2.2.2
    have hx5 := (hW.1.2.1 p hp).2.2.2.1
    have h30 := (hW.txt hp).2.2.2.2.2.1
    refine i_getf C f_X6_23 dX6_walkPage_7 (hw := hW.obj) (kk := ?_)
    refine i_iload_n C dX6_walkPage_10 (kk := ?_)
    refine i_callV C lk_X6_126 (c_X0_extentOf l hl D (hN := kN) (p := p)) (hcl := rfl) (hst := rfl) dX6_walkPage_11 (hw := kN.2.2.2.2.2.2.1) (kk := fun v11 w11 g11 => ?_)
    obtain ⟨rfl, q11⟩ := g11
    have q11 := q11.symm
    subst q11
    refine i_if_ne C dX6_walkPage_14 (tgt := 18) (kt := fun hB14 => ?_) (kf := fun hB14 => ?_)
    · have e4 : wpN (sT σ) 6 p arg st = (wtx (wpN (sT σ) 5) arg st (sT σ p)).2 := if_neg (by omega)
      refine i_aload_n C dX6_walkPage_18 (kk := ?_)
      refine i_iload_n C dX6_walkPage_19 (kk := ?_)
      refine i_callV C lk_X6_67 (c_X6_pageAt l hl D (hW := hW) (p := p)) (hcl := rfl) (hst := rfl) dX6_walkPage_20 (hw := hW.obj) (kk := fun v20 w20 g20 => ?_)
      obtain ⟨rfl, q20⟩ := g20
      have q20 := q20.symm
      subst q20
      refine i_getf C f_X6_73 dX6_walkPage_23 (hw := hW.page hp) (kk := ?_)
      refine i_getf C f_X6_113 dX6_walkPage_26 (hw := hW.ver hp) (kk := ?_)
      refine i_astore C dX6_walkPage_29 (kk := ?_)
      refine i_iconst C dX6_walkPage_31 (kk := ?_)
      refine i_istore C dX6_walkPage_32 (kk := ?_)
      refine i_iconst C dX6_walkPage_34 (kk := ?_)
      refine i_istore C dX6_walkPage_35 (kk := ?_)
      have lp : ∀ (m i : Nat) (w1 : wW) (s : Nat) (st1 : Int × Int) (o9 : Option Value), (sT σ p).length + 1 ≤ m + i → i ≤ (sT σ p).length → wtx (wpN (sT σ) 5) arg st ((sT σ p).take i) = (s, st1) → s ≤ i → w1 a = some (wkO st1) → offR τ w w1 (τ a) (τ a + 1) → G 0 0 w1 [some (.ref (ad 0)), some (.ref a), some (.int (Z32 (p : Int))), some (.int (Z32 arg)), some (.int (Z32 0)), some (.ref (ad (vr p (sNv σ p) + 1))), some (.int (Z32 (s : Int))), some (.int (Z32 (i : Int))), o9] 37 [] := by
        intro m
        induction m with
        | zero => intro i w1 s st1 o9 h1 h2; omega
        | succ m ih =>
        intro i w1 s st1 o9 h1 h2 hE hs hA1 kO1
        have hW1 := hW.far kO1 hτ
        have hSR := wtx_R (wpN_R (T := sT σ) 5) (arg := arg) hst ((sT σ p).take i)
        rw [hE] at hSR
        have hSR : -1 ≤ st1.1 ∧ st1.1 ≤ 2147483647 := hSR
        refine i_iload C dX6_walkPage_37 (kk := ?_)
        refine i_aload C dX6_walkPage_39 (kk := ?_)
        refine i_getf C f_X6_208 dX6_walkPage_41 (hw := (hW1.txt hp).2.2.2.2.1) (kk := ?_)
        refine i_icmp_ge C dX6_walkPage_44 (tgt := 133) (kt := fun hB44 => ?_) (kf := fun hB44 => ?_)
        · have e3 : (wtx (wpN (sT σ) 5) arg st (sT σ p)) = (s, st1) := by rw [← hE, List.take_of_length_le (by omega)]
          exact i_vret C (d := dX6_walkPage_133) (h := ⟨rfl, by rw [e4, e3]; exact hA1, kO1⟩)
        · refine i_aload_n C dX6_walkPage_47 (kk := ?_)
          refine i_callV C lk_X6_293 (c_X5_isOver l hl D (hw := hA1)) (hcl := rfl) (hst := rfl) dX6_walkPage_48 (hw := hA1) (kk := fun v48 w48 g48 => ?_)
          obtain ⟨rfl, q48⟩ := g48
          have q48 := q48.symm
          subst q48
          refine i_if_ne C dX6_walkPage_51 (tgt := 133) (ha := by split <;> decide) (kt := fun hB51 => ?_) (kf := fun hB51 => ?_)
          · have e8 : st1.1 < 0 := by apply Decidable.byContradiction; intro q; rw [if_neg q] at hB51; exact hB51 rfl
            have e3 : (wtx (wpN (sT σ) 5) arg st (sT σ p)) = (s, st1) := by rw [wtx_over (i := i) (by rw [hE]; exact e8), hE]
            exact i_vret C (d := dX6_walkPage_133) (h := ⟨rfl, by rw [e4, e3]; exact hA1, kO1⟩)
          · have e8 : ¬ st1.1 < 0 := by intro q; rw [if_pos q] at hB51; omega
            have e9 : wtx (wpN (sT σ) 5) arg st ((sT σ p).take (i + 1)) = wst (wpN (sT σ) 5) arg (s, st1) (pcs (sT σ p) i) := by rw [wtx_take (by omega), hE]
            have hv := (hW1.txt hp).2.2.2.2.2.2.2.1 _ (pcs_mem (i := i) (by omega))
            have hvR := hv.R
            refine i_aload C dX6_walkPage_54 (kk := ?_)
            refine i_iload C dX6_walkPage_56 (kk := ?_)
            refine i_callV C lk_X6_261 (c_X3_sortOf l hl D (hT := hW1.txt hp) (i := i)) (hcl := rfl) (hst := rfl) dX6_walkPage_58 (hw := (hW1.txt hp).2.2.2.2.1) (kk := fun v58 w58 g58 => ?_)
            obtain ⟨rfl, q58⟩ := g58
            have q58 := q58.symm
            subst q58
            refine i_istore C dX6_walkPage_61 (kk := ?_)
            refine i_iload C dX6_walkPage_63 (kk := ?_)
            refine i_bipush C dX6_walkPage_65 (kk := ?_)
            refine i_icmp_ne C dX6_walkPage_67 (tgt := 92) (kt := fun hB67 => ?_) (kf := fun hB67 => ?_)
            · refine i_iload C dX6_walkPage_92 (kk := ?_)
              refine i_bipush C dX6_walkPage_94 (kk := ?_)
              refine i_icmp_ne C dX6_walkPage_96 (tgt := 110) (kt := fun hB96 => ?_) (kf := fun hB96 => ?_)
              · refine i_iload C dX6_walkPage_110 (kk := ?_)
                refine i_if_ne C dX6_walkPage_112 (tgt := 127) (kt := fun hB112 => ?_) (kf := fun hB112 => ?_)
                · have e5 : wtx (wpN (sT σ) 5) arg st ((sT σ p).take (i + 1)) = (s, st1) := by rw [e9]; unfold wst; dsimp only; rw [if_neg e8, if_neg (by omega), if_neg (by omega), if_neg (by omega)]
                  have hs5 : s ≤ i + 1 := by omega
                  refine i_iinc C dX6_walkPage_127 (kk := ?_)
                  refine i_goto C dX6_walkPage_130 (tgt := 37) (kk := ?_)
                  first | exact ih (i + 1) _ _ _ _ (by omega) (by omega) e5 hs5 hA2 kO2 | exact ih (i + 1) _ _ _ _ (by omega) (by omega) e5 hs5 hA1 kO1
                · refine i_aload_n C dX6_walkPage_115 (kk := ?_)
                  refine i_aload_n C dX6_walkPage_116 (kk := ?_)
                  refine i_aload C dX6_walkPage_117 (kk := ?_)
                  refine i_iload C dX6_walkPage_119 (kk := ?_)
                  refine i_iload_n C dX6_walkPage_121 (kk := ?_)
                  refine i_iload C dX6_walkPage_122 (kk := ?_)
                  refine i_callV C lk_X6_296 (cp0_X6_walkPiece l hl D (hW := hW1) hA1 hτ (hT := hW1.txt hp) (i := i) (by omega) (by omega) harg) (hcl := rfl) (hst := rfl) dX6_walkPage_124 (hw := hW1.obj) (kk := fun v124 w124 g124 => ?_)
                  obtain ⟨rfl, hA2, o2⟩ := g124
                  have kO2 := kO1.trans o2
                  have e5 : wtx (wpN (sT σ) 5) arg st ((sT σ p).take (i + 1)) = (s, wpc (wpN (sT σ) 5) arg st1 (pcs (sT σ p) i)) := by rw [e9]; unfold wst; dsimp only; rw [if_neg e8, if_neg (by omega), if_neg (by omega), if_pos (by omega)]
                  have hs5 : s ≤ i + 1 := by omega
                  refine i_iinc C dX6_walkPage_127 (kk := ?_)
                  refine i_goto C dX6_walkPage_130 (tgt := 37) (kk := ?_)
                  first | exact ih (i + 1) _ _ _ _ (by omega) (by omega) e5 hs5 hA2 kO2 | exact ih (i + 1) _ _ _ _ (by omega) (by omega) e5 hs5 hA1 kO1
              · refine i_iload C dX6_walkPage_99 (kk := ?_)
                refine i_if_le C dX6_walkPage_101 (tgt := 110) (kt := fun hB101 => ?_) (kf := fun hB101 => ?_)
                · refine i_iload C dX6_walkPage_110 (kk := ?_)
                  refine i_if_ne C dX6_walkPage_112 (tgt := 127) (kt := fun hB112 => ?_) (kf := fun hB112 => ?_)
                  · have e5 : wtx (wpN (sT σ) 5) arg st ((sT σ p).take (i + 1)) = (s, st1) := by rw [e9]; unfold wst; dsimp only; rw [if_neg e8, if_neg (by omega), if_neg (by omega), if_neg (by omega)]
                    have hs5 : s ≤ i + 1 := by omega
                    refine i_iinc C dX6_walkPage_127 (kk := ?_)
                    refine i_goto C dX6_walkPage_130 (tgt := 37) (kk := ?_)
                    first | exact ih (i + 1) _ _ _ _ (by omega) (by omega) e5 hs5 hA2 kO2 | exact ih (i + 1) _ _ _ _ (by omega) (by omega) e5 hs5 hA1 kO1
                  · refine i_aload_n C dX6_walkPage_115 (kk := ?_)
                    refine i_aload_n C dX6_walkPage_116 (kk := ?_)
                    refine i_aload C dX6_walkPage_117 (kk := ?_)
                    refine i_iload C dX6_walkPage_119 (kk := ?_)
                    refine i_iload_n C dX6_walkPage_121 (kk := ?_)
                    refine i_iload C dX6_walkPage_122 (kk := ?_)
                    refine i_callV C lk_X6_296 (cp0_X6_walkPiece l hl D (hW := hW1) hA1 hτ (hT := hW1.txt hp) (i := i) (by omega) (by omega) harg) (hcl := rfl) (hst := rfl) dX6_walkPage_124 (hw := hW1.obj) (kk := fun v124 w124 g124 => ?_)
                    obtain ⟨rfl, hA2, o2⟩ := g124
                    have kO2 := kO1.trans o2
                    have e5 : wtx (wpN (sT σ) 5) arg st ((sT σ p).take (i + 1)) = (s, wpc (wpN (sT σ) 5) arg st1 (pcs (sT σ p) i)) := by rw [e9]; unfold wst; dsimp only; rw [if_neg e8, if_neg (by omega), if_neg (by omega), if_pos (by omega)]
                    have hs5 : s ≤ i + 1 := by omega
                    refine i_iinc C dX6_walkPage_127 (kk := ?_)
                    refine i_goto C dX6_walkPage_130 (tgt := 37) (kk := ?_)
                    first | exact ih (i + 1) _ _ _ _ (by omega) (by omega) e5 hs5 hA2 kO2 | exact ih (i + 1) _ _ _ _ (by omega) (by omega) e5 hs5 hA1 kO1
                · have e5 : wtx (wpN (sT σ) 5) arg st ((sT σ p).take (i + 1)) = (s - 1, st1) := by rw [e9]; unfold wst; dsimp only; rw [if_neg e8, if_neg (by omega), if_pos (by omega)]
                  have hs5 : s - 1 ≤ i + 1 := by omega
                  refine i_iinc C dX6_walkPage_104 (kk := ?_)
                  rw [show ((s : Int) + (-1)) = ((s - 1 : Nat) : Int) by omega]
                  refine i_goto C dX6_walkPage_107 (tgt := 127) (kk := ?_)
                  refine i_iinc C dX6_walkPage_127 (kk := ?_)
                  refine i_goto C dX6_walkPage_130 (tgt := 37) (kk := ?_)
                  first | exact ih (i + 1) _ _ _ _ (by omega) (by omega) e5 hs5 hA2 kO2 | exact ih (i + 1) _ _ _ _ (by omega) (by omega) e5 hs5 hA1 kO1
            · refine i_iload C dX6_walkPage_70 (kk := ?_)
              refine i_if_gt C dX6_walkPage_72 (tgt := 86) (kt := fun hB72 => ?_) (kf := fun hB72 => ?_)
              · have e5 : wtx (wpN (sT σ) 5) arg st ((sT σ p).take (i + 1)) = (s + 1, st1) := by rw [e9]; unfold wst; dsimp only; rw [if_neg e8, if_pos (by omega)]
                have hs5 : s + 1 ≤ i + 1 := by omega
                refine i_iinc C dX6_walkPage_86 (kk := ?_)
                refine i_goto C dX6_walkPage_89 (tgt := 127) (kk := ?_)
                refine i_iinc C dX6_walkPage_127 (kk := ?_)
                refine i_goto C dX6_walkPage_130 (tgt := 37) (kk := ?_)
                first | exact ih (i + 1) _ _ _ _ (by omega) (by omega) e5 hs5 hA2 kO2 | exact ih (i + 1) _ _ _ _ (by omega) (by omega) e5 hs5 hA1 kO1
              · refine i_aload C dX6_walkPage_75 (kk := ?_)
                refine i_iload C dX6_walkPage_77 (kk := ?_)
                refine i_callV C lk_X6_264 (c_X3_signOf l hl D (hT := hW1.txt hp) (i := i)) (hcl := rfl) (hst := rfl) dX6_walkPage_79 (hw := (hW1.txt hp).2.2.2.2.1) (kk := fun v79 w79 g79 => ?_)
                obtain ⟨rfl, q79⟩ := g79
                have q79 := q79.symm
                subst q79
                refine i_iload_n C dX6_walkPage_82 (kk := ?_)
                refine i_icmp_eq C dX6_walkPage_83 (tgt := 92) (kt := fun hB83 => ?_) (kf := fun hB83 => ?_)
                · refine i_iload C dX6_walkPage_92 (kk := ?_)
                  refine i_bipush C dX6_walkPage_94 (kk := ?_)
                  refine i_icmp_ne C dX6_walkPage_96 (tgt := 110) (kt := fun hB96 => ?_) (kf := fun hB96 => ?_)
                  · refine i_iload C dX6_walkPage_110 (kk := ?_)
                    refine i_if_ne C dX6_walkPage_112 (tgt := 127) (kt := fun hB112 => ?_) (kf := fun hB112 => ?_)
                    · have e5 : wtx (wpN (sT σ) 5) arg st ((sT σ p).take (i + 1)) = (s, st1) := by rw [e9]; unfold wst; dsimp only; rw [if_neg e8, if_neg (by omega), if_neg (by omega), if_neg (by omega)]
                      have hs5 : s ≤ i + 1 := by omega
                      refine i_iinc C dX6_walkPage_127 (kk := ?_)
                      refine i_goto C dX6_walkPage_130 (tgt := 37) (kk := ?_)
                      first | exact ih (i + 1) _ _ _ _ (by omega) (by omega) e5 hs5 hA2 kO2 | exact ih (i + 1) _ _ _ _ (by omega) (by omega) e5 hs5 hA1 kO1
                    · refine i_aload_n C dX6_walkPage_115 (kk := ?_)
                      refine i_aload_n C dX6_walkPage_116 (kk := ?_)
                      refine i_aload C dX6_walkPage_117 (kk := ?_)
                      refine i_iload C dX6_walkPage_119 (kk := ?_)
                      refine i_iload_n C dX6_walkPage_121 (kk := ?_)
                      refine i_iload C dX6_walkPage_122 (kk := ?_)
                      refine i_callV C lk_X6_296 (cp0_X6_walkPiece l hl D (hW := hW1) hA1 hτ (hT := hW1.txt hp) (i := i) (by omega) (by omega) harg) (hcl := rfl) (hst := rfl) dX6_walkPage_124 (hw := hW1.obj) (kk := fun v124 w124 g124 => ?_)
                      obtain ⟨rfl, hA2, o2⟩ := g124
                      have kO2 := kO1.trans o2
                      have e5 : wtx (wpN (sT σ) 5) arg st ((sT σ p).take (i + 1)) = (s, wpc (wpN (sT σ) 5) arg st1 (pcs (sT σ p) i)) := by rw [e9]; unfold wst; dsimp only; rw [if_neg e8, if_neg (by omega), if_neg (by omega), if_pos (by omega)]
                      have hs5 : s ≤ i + 1 := by omega
                      refine i_iinc C dX6_walkPage_127 (kk := ?_)
                      refine i_goto C dX6_walkPage_130 (tgt := 37) (kk := ?_)
                      first | exact ih (i + 1) _ _ _ _ (by omega) (by omega) e5 hs5 hA2 kO2 | exact ih (i + 1) _ _ _ _ (by omega) (by omega) e5 hs5 hA1 kO1
                  · refine i_iload C dX6_walkPage_99 (kk := ?_)
                    refine i_if_le C dX6_walkPage_101 (tgt := 110) (kt := fun hB101 => ?_) (kf := fun hB101 => ?_)
                    · refine i_iload C dX6_walkPage_110 (kk := ?_)
                      refine i_if_ne C dX6_walkPage_112 (tgt := 127) (kt := fun hB112 => ?_) (kf := fun hB112 => ?_)
                      · have e5 : wtx (wpN (sT σ) 5) arg st ((sT σ p).take (i + 1)) = (s, st1) := by rw [e9]; unfold wst; dsimp only; rw [if_neg e8, if_neg (by omega), if_neg (by omega), if_neg (by omega)]
                        have hs5 : s ≤ i + 1 := by omega
                        refine i_iinc C dX6_walkPage_127 (kk := ?_)
                        refine i_goto C dX6_walkPage_130 (tgt := 37) (kk := ?_)
                        first | exact ih (i + 1) _ _ _ _ (by omega) (by omega) e5 hs5 hA2 kO2 | exact ih (i + 1) _ _ _ _ (by omega) (by omega) e5 hs5 hA1 kO1
                      · refine i_aload_n C dX6_walkPage_115 (kk := ?_)
                        refine i_aload_n C dX6_walkPage_116 (kk := ?_)
                        refine i_aload C dX6_walkPage_117 (kk := ?_)
                        refine i_iload C dX6_walkPage_119 (kk := ?_)
                        refine i_iload_n C dX6_walkPage_121 (kk := ?_)
                        refine i_iload C dX6_walkPage_122 (kk := ?_)
                        refine i_callV C lk_X6_296 (cp0_X6_walkPiece l hl D (hW := hW1) hA1 hτ (hT := hW1.txt hp) (i := i) (by omega) (by omega) harg) (hcl := rfl) (hst := rfl) dX6_walkPage_124 (hw := hW1.obj) (kk := fun v124 w124 g124 => ?_)
                        obtain ⟨rfl, hA2, o2⟩ := g124
                        have kO2 := kO1.trans o2
                        have e5 : wtx (wpN (sT σ) 5) arg st ((sT σ p).take (i + 1)) = (s, wpc (wpN (sT σ) 5) arg st1 (pcs (sT σ p) i)) := by rw [e9]; unfold wst; dsimp only; rw [if_neg e8, if_neg (by omega), if_neg (by omega), if_pos (by omega)]
                        have hs5 : s ≤ i + 1 := by omega
                        refine i_iinc C dX6_walkPage_127 (kk := ?_)
                        refine i_goto C dX6_walkPage_130 (tgt := 37) (kk := ?_)
                        first | exact ih (i + 1) _ _ _ _ (by omega) (by omega) e5 hs5 hA2 kO2 | exact ih (i + 1) _ _ _ _ (by omega) (by omega) e5 hs5 hA1 kO1
                    · have e5 : wtx (wpN (sT σ) 5) arg st ((sT σ p).take (i + 1)) = (s - 1, st1) := by rw [e9]; unfold wst; dsimp only; rw [if_neg e8, if_neg (by omega), if_pos (by omega)]
                      have hs5 : s - 1 ≤ i + 1 := by omega
                      refine i_iinc C dX6_walkPage_104 (kk := ?_)
                      rw [show ((s : Int) + (-1)) = ((s - 1 : Nat) : Int) by omega]
                      refine i_goto C dX6_walkPage_107 (tgt := 127) (kk := ?_)
                      refine i_iinc C dX6_walkPage_127 (kk := ?_)
                      refine i_goto C dX6_walkPage_130 (tgt := 37) (kk := ?_)
                      first | exact ih (i + 1) _ _ _ _ (by omega) (by omega) e5 hs5 hA2 kO2 | exact ih (i + 1) _ _ _ _ (by omega) (by omega) e5 hs5 hA1 kO1
                · have e5 : wtx (wpN (sT σ) 5) arg st ((sT σ p).take (i + 1)) = (s + 1, st1) := by rw [e9]; unfold wst; dsimp only; rw [if_neg e8, if_pos (by omega)]
                  have hs5 : s + 1 ≤ i + 1 := by omega
                  refine i_iinc C dX6_walkPage_86 (kk := ?_)
                  refine i_goto C dX6_walkPage_89 (tgt := 127) (kk := ?_)
                  refine i_iinc C dX6_walkPage_127 (kk := ?_)
                  refine i_goto C dX6_walkPage_130 (tgt := 37) (kk := ?_)
                  first | exact ih (i + 1) _ _ _ _ (by omega) (by omega) e5 hs5 hA2 kO2 | exact ih (i + 1) _ _ _ _ (by omega) (by omega) e5 hs5 hA1 kO1
      exact lp ((sT σ p).length + 1) 0 _ 0 st _ (by omega) (by omega) rfl (by omega) hA offR.rf
    · have e4 : wpN (sT σ) 6 p arg st = st := if_pos (by omega)
      exact i_vret C (d := dX6_walkPage_17) (h := ⟨rfl, by rw [e4]; exact hA, offR.rf⟩)
