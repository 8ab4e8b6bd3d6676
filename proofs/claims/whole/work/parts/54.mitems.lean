def oItems (σ : Sg) (i j : Int) : Rs := op3 (isPg i) (isPg i ∧ (j = -1 ∨ isLt j)) True σ (0, ((shl j (sprT (sT σ) i.toNat)).length : Int), σ)
def oSortAt (σ : Sg) (i j k : Int) : Rs := op3 (isPg i) (isPg i ∧ (j = -1 ∨ isLt j)) ((isPg i ∧ (j = -1 ∨ isLt j)) ∧ 0 ≤ k ∧ k < ((shl j (sprT (sT σ) i.toNat)).length : Int)) σ (0, ((shl j (sprT (sT σ) i.toNat)).getD k.toNat (0, 0, 0)).1, σ)
def oItemAt (σ : Sg) (i j k : Int) : Rs := op3 (isPg i) (isPg i ∧ (j = -1 ∨ isLt j)) ((isPg i ∧ (j = -1 ∨ isLt j)) ∧ 0 ≤ k ∧ k < ((shl j (sprT (sT σ) i.toNat)).length : Int)) σ (0, ((shl j (sprT (sT σ) i.toNat)).getD k.toNat (0, 0, 0)).2.1, σ)
def oSourceAt (σ : Sg) (i j k : Int) : Rs := op3 (isPg i) (isPg i ∧ (j = -1 ∨ isLt j)) ((isPg i ∧ (j = -1 ∨ isLt j)) ∧ 0 ≤ k ∧ k < ((shl j (sprT (sT σ) i.toNat)).length : Int)) σ (0, ((shl j (sprT (sT σ) i.toNat)).getD k.toNat (0, 0, 0)).2.2, σ)
theorem gol_0 {a b c : Prop} [Decidable a] [Decidable b] [Decidable c] (h : gol (bz a) (bz b) (bz c) = 0) : a ∧ b ∧ c := (op3_yes (σ := sg0) (X := (0, 0, sg0)) h).2
theorem getD_some {α : Type} {L : List α} {n : Nat} {x d : α} (h : L[n]? = some x) : L.getD n d = x := by rw [List.getD_eq_getElem?_getD, h]; rfl
set_option maxRecDepth 100000 in
set_option maxHeartbeats 4000000 in
theorem c_X7_stands (l : Launch) (hl : l.stackTraces = false) (D : gD) {w0 w : wW} {τ ad : Nat → Nat} {F : Nat → Nat → Int} {dn op sh la : Int} {σ : Sg} {p : Nat} (hM : MdR D w0 w τ ad F dn op sh la := by assumption) (hS : SgOK σ) (hV : MdV σ F dn op) (hp : p < 12) : CTm l D yX7_stands cX7_stands 4 (some .int) (rmL 2 0 0) [.ref (ad 5000), .int (Z32 (p : Int))] w (fun u w1 => u = some (.int (Z32 (stT (sT σ) p))) ∧ w1 = w) := by
  refine CTm_of hl false rfl (by rfl) (Nat.le_of_ble_eq_true rfl) (fun h => nomatch h) ?_
  intro G C
  show G 0 0 w [some (.ref (ad 5000)), some (.int (Z32 (p : Int))), none, none] 0 []
  refine i_iload_n C dX7_stands_0 (kk := ?_)
  refine i_istore_n C dX7_stands_1 (kk := ?_)
  refine i_iconst C dX7_stands_2 (kk := ?_)
  refine i_istore_n C dX7_stands_3 (kk := ?_)
  have lp : ∀ (m r : Nat) (q : Nat), 3 + 1 ≤ m + r → r ≤ 3 → q < 12 → stN (sT σ) (4 - r) q = stT (sT σ) p → G 0 0 w [some (.ref (ad 5000)), some (.int (Z32 (p : Int))), some (.int (Z32 (q : Int))), some (.int (Z32 (r : Int)))] 4 [] := by
    intro m
    induction m with
    | zero => intro r q h1 h2; omega
    | succ m ih =>
    intro r q h1 h2 hq hst
    have h20 := (hS.2.1 q hq).1
    have htx : txOK (sT σ q) ∧ owc (sT σ q) = 0 ∧ 0 ≤ sRk σ q (sNv σ q) ∧ sRk σ q (sNv σ q) ≤ 3 := (hS.2.1 q hq).2.2.2.2.2 _ (Nat.le_refl _)
    have hlen : F 4 (21 * q + sNv σ q) = ((sT σ q).length : Int) := ((hV.2.2.2.1 q hq).2.2 _ (Nat.le_refl _)).1
    have htxt : ∀ j, j < (sT σ q).length → F 3 (30 * (21 * q + sNv σ q) + j) = enc (pcs (sT σ q) j) := ((hV.2.2.2.1 q hq).2.2 _ (Nat.le_refl _)).2.2
    have h30 := htx.1.2.2
    refine i_aload_n C dX7_stands_4 (kk := ?_)
    refine i_getf C f_X7_16 dX7_stands_5 (hw := hM.obj) (kk := ?_)
    refine i_aload_n C dX7_stands_8 (kk := ?_)
    refine i_iload_n C dX7_stands_9 (kk := ?_)
    refine i_callV C lk_X7_97 (c_X7_now l hl D (hM := hM) (p := q) (v := sNv σ q) hq (hV.2.2.2.1 q hq).1 h20) (hcl := rfl) (hst := rfl) dX7_stands_10 (hw := hM.obj) (kk := fun v10 w10 g10 => ?_)
    obtain ⟨rfl, q10⟩ := g10
    have q10 := q10.symm
    subst q10
    refine m_ial C hM 4 (21 * q + sNv σ q) (N := 252) dX7_stands_13 (kk := ?_)
    rw [hlen]
    refine i_iconst C dX7_stands_14 (kk := ?_)
    refine i_icmp_ne C dX7_stands_15 (tgt := 73) (kt := fun hB15 => ?_) (kf := fun hB15 => ?_)
    · have hno : ¬ ((sT σ q).length = 1 ∧ (pcs (sT σ q) 0).1 = 8) := fun z => by omega
      refine i_iload_n C dX7_stands_73 (kk := ?_)
      exact i_iret C (d := dX7_stands_74) (h := ⟨by rw [← hst, show 4 - r = (3 - r) + 1 by omega, stN_no hno], rfl⟩)
    · have hpv := htx.1.1 _ (pcs_mem (ps := sT σ q) (i := 0) (by omega))
      have hE := enc_R hpv
      have hvR := hpv.R
      have hK := kd_iff (s := (pcs (sT σ q) 0).1) ⟨by omega, by omega⟩
      refine i_aload_n C dX7_stands_18 (kk := ?_)
      refine i_getf C f_X7_13 dX7_stands_19 (hw := hM.obj) (kk := ?_)
      refine i_bipush C dX7_stands_22 (kk := ?_)
      refine i_aload_n C dX7_stands_24 (kk := ?_)
      refine i_iload_n C dX7_stands_25 (kk := ?_)
      refine i_callV C lk_X7_97 (c_X7_now l hl D (hM := hM) (p := q) (v := sNv σ q) hq (hV.2.2.2.1 q hq).1 h20) (hcl := rfl) (hst := rfl) dX7_stands_26 (hw := hM.obj) (kk := fun v26 w26 g26 => ?_)
      obtain ⟨rfl, q26⟩ := g26
      have q26 := q26.symm
      subst q26
      refine i_imul C dX7_stands_29 (kk := ?_)
      refine m_ial C hM 3 (30 * (21 * q + sNv σ q) + 0) (N := 7560) dX7_stands_30 (kk := ?_)
      rw [htxt 0 (by omega)]
      refine i_sipush C dX7_stands_31 (kk := ?_)
      refine i_idiv C dX7_stands_34 (kk := ?_)
      rw [hE.2.2.1]
      refine i_bipush C dX7_stands_35 (kk := ?_)
      refine i_icmp_ne C dX7_stands_37 (tgt := 73) (kt := fun hB37 => ?_) (kf := fun hB37 => ?_)
      · have hno : ¬ ((sT σ q).length = 1 ∧ (pcs (sT σ q) 0).1 = 8) := fun z => by omega
        refine i_iload_n C dX7_stands_73 (kk := ?_)
        exact i_iret C (d := dX7_stands_74) (h := ⟨by rw [← hst, show 4 - r = (3 - r) + 1 by omega, stN_no hno], rfl⟩)
      · have hys : (sT σ q).length = 1 ∧ (pcs (sT σ q) 0).1 = 8 := ⟨by omega, by omega⟩
        obtain ⟨q2, hq2⟩ : ∃ q2 : Nat, (pcs (sT σ q) 0).2.1 = q2 := ⟨(pcs (sT σ q) 0).2.1.toNat, by unfold PV at hpv; omega⟩
        have hq12 : q2 < 12 := by unfold PV at hpv; omega
        have hone : enc (pcs (sT σ q) 0) / 100 % 100 = (q2 : Int) := by rw [← hq2]; exact hE.2.2.2.2.2.2.2.2.2.1 (by omega)
        have hst2 : stN (sT σ) (4 - r) q = stN (sT σ) (3 - r) q2 := by rw [show 4 - r = (3 - r) + 1 by omega, stN_yes hys, hq2, Int.toNat_natCast]
        refine i_iload_n C dX7_stands_40 (kk := ?_)
        refine i_iconst C dX7_stands_41 (kk := ?_)
        refine i_icmp_ne C dX7_stands_42 (tgt := 47) (kt := fun hB42 => ?_) (kf := fun hB42 => ?_)
        · refine i_aload_n C dX7_stands_47 (kk := ?_)
          refine i_getf C f_X7_13 dX7_stands_48 (hw := hM.obj) (kk := ?_)
          refine i_bipush C dX7_stands_51 (kk := ?_)
          refine i_aload_n C dX7_stands_53 (kk := ?_)
          refine i_iload_n C dX7_stands_54 (kk := ?_)
          refine i_callV C lk_X7_97 (c_X7_now l hl D (hM := hM) (p := q) (v := sNv σ q) hq (hV.2.2.2.1 q hq).1 h20) (hcl := rfl) (hst := rfl) dX7_stands_55 (hw := hM.obj) (kk := fun v55 w55 g55 => ?_)
          obtain ⟨rfl, q55⟩ := g55
          have q55 := q55.symm
          subst q55
          refine i_imul C dX7_stands_58 (kk := ?_)
          refine m_ial C hM 3 (30 * (21 * q + sNv σ q) + 0) (N := 7560) dX7_stands_59 (kk := ?_)
          rw [htxt 0 (by omega)]
          refine i_bipush C dX7_stands_60 (kk := ?_)
          refine i_idiv C dX7_stands_62 (kk := ?_)
          refine i_bipush C dX7_stands_63 (kk := ?_)
          refine i_irem C dX7_stands_65 (kk := ?_)
          rw [hone]
          refine i_istore_n C dX7_stands_66 (kk := ?_)
          refine i_iinc C dX7_stands_67 (kk := ?_)
          refine i_goto C dX7_stands_70 (tgt := 4) (kk := ?_)
          exact ih (r + 1) q2 (by omega) (by omega) hq12 (by rw [← hst, hst2, show 4 - (r + 1) = 3 - r by omega])
        · have hr3 : r = 3 := by omega
          subst hr3
          refine i_iconst C dX7_stands_45 (kk := ?_)
          exact i_iret C (d := dX7_stands_46) (h := ⟨by rw [← hst, hst2]; rfl, rfl⟩)
  exact lp 4 0 p (by omega) (by omega) hp rfl

set_option maxRecDepth 100000 in
set_option maxHeartbeats 4000000 in
theorem c_X7_isShown (l : Launch) (hl : l.stackTraces = false) (D : gD) {w0 w : wW} {τ ad : Nat → Nat} {F : Nat → Nat → Int} {dn op sh la : Int} {σ : Sg} {i j k : Int} (hM : MdR D w0 w τ ad F dn op sh la := by assumption) (hS : SgOK σ) (hV : MdV σ F dn op) (hi : inR i := by omega) (hj : inR j := by omega) (hk : inR k := by omega) : CTm l D yX7_isShown cX7_isShown 5 (some .boolean) (rmL 3 0 0) [.ref (ad 5000), .int (Z32 i), .int (Z32 j), .int (Z32 k)] w (fun u w1 => u = some (.int (Z32 (bz (gol (bz (isPg i)) (bz (isPg i ∧ (j = -1 ∨ isLt j))) (bz ((isPg i ∧ (j = -1 ∨ isLt j)) ∧ 0 ≤ k ∧ k < ((shl j (sprT (sT σ) i.toNat)).length : Int))) = 0)))) ∧ ∃ F1 sh1, MdR D w0 w1 τ ad F1 dn op sh1 (gol (bz (isPg i)) (bz (isPg i ∧ (j = -1 ∨ isLt j))) (bz ((isPg i ∧ (j = -1 ∨ isLt j)) ∧ 0 ≤ k ∧ k < ((shl j (sprT (sT σ) i.toNat)).length : Int)))) ∧ (∀ z, z ≤ 13 → F1 z = F z) ∧ (gol (bz (isPg i)) (bz (isPg i ∧ (j = -1 ∨ isLt j))) (bz ((isPg i ∧ (j = -1 ∨ isLt j)) ∧ 0 ≤ k ∧ k < ((shl j (sprT (sT σ) i.toNat)).length : Int))) = 0 → shown (shl j (sprT (sT σ) i.toNat)) F1)) := by
  refine CTm_of hl false rfl (by rfl) (Nat.le_of_ble_eq_true rfl) (fun h => nomatch h) ?_
  intro G C
  show G 0 0 w [some (.ref (ad 5000)), some (.int (Z32 i)), some (.int (Z32 j)), some (.int (Z32 k)), none] 0 []
  refine i_iload_n C dX7_isShown_0 (kk := ?_)
  refine i_callS C lk_X7_91 (c_X7_isPage l hl D (v := i)) (hst := rfl) dX7_isShown_1 (kk := fun v1 w1 g1 => ?_)
  obtain ⟨rfl, q1⟩ := g1
  have q1 := q1.symm
  subst q1
  have jn : ∀ x : Int, x = bz (isPg i ∧ (j = -1 ∨ isLt j)) → G 0 0 w [some (.ref (ad 5000)), some (.int (Z32 i)), some (.int (Z32 j)), some (.int (Z32 k)), none] 24 [.int (Z32 x)] := by
    intro x hx
    subst hx
    refine i_istore C dX7_isShown_24 (kk := ?_)
    refine i_iload C dX7_isShown_26 (kk := ?_)
    have jm : ∀ (w1 : wW) (F1 : Nat → Nat → Int) (sh1 : Int), MdR D w0 w1 τ ad F1 dn op sh1 la → (∀ z, z ≤ 13 → F1 z = F z) → ((isPg i ∧ (j = -1 ∨ isLt j)) → shown (shl j (sprT (sT σ) i.toNat)) F1 ∧ sh1 = ((shl j (sprT (sT σ) i.toNat)).length : Int) ∧ (shl j (sprT (sT σ) i.toNat)).length ≤ 100) → G 0 0 w1 [some (.ref (ad 5000)), some (.int (Z32 i)), some (.int (Z32 j)), some (.int (Z32 k)), some (.int (Z32 (bz (isPg i ∧ (j = -1 ∨ isLt j)))))] 37 [] := by
      intro w1 F1 sh1 hM er hfs
      refine i_aload_n C dX7_isShown_37 (kk := ?_)
      refine i_iload_n C dX7_isShown_38 (kk := ?_)
      refine i_callS C lk_X7_91 (c_X7_isPage l hl D (v := i)) (hst := rfl) dX7_isShown_39 (kk := fun v39 w39 g39 => ?_)
      obtain ⟨rfl, q39⟩ := g39
      have q39 := q39.symm
      subst q39
      refine i_iload C dX7_isShown_42 (kk := ?_)
      refine i_iload C dX7_isShown_44 (kk := ?_)
      have jk : ∀ x : Int, x = bz ((isPg i ∧ (j = -1 ∨ isLt j)) ∧ 0 ≤ k ∧ k < ((shl j (sprT (sT σ) i.toNat)).length : Int)) → G 0 0 w1 [some (.ref (ad 5000)), some (.int (Z32 i)), some (.int (Z32 j)), some (.int (Z32 k)), some (.int (Z32 (bz (isPg i ∧ (j = -1 ∨ isLt j)))))] 68 [.int (Z32 x), .int (Z32 (bz (isPg i ∧ (j = -1 ∨ isLt j)))), .int (Z32 (bz (isPg i))), .ref (ad 5000)] := by
        intro x hx
        subst hx
        refine i_callV C lk_X7_83 (c_X7_goes l hl D (hM := hM) (a := bz (isPg i)) (b := bz (isPg i ∧ (j = -1 ∨ isLt j))) (c := bz ((isPg i ∧ (j = -1 ∨ isLt j)) ∧ 0 ≤ k ∧ k < ((shl j (sprT (sT σ) i.toNat)).length : Int))) (by rcases bz_R (isPg i) with h | h <;> omega) (by rcases bz_R (isPg i ∧ (j = -1 ∨ isLt j)) with h | h <;> omega) (by rcases bz_R ((isPg i ∧ (j = -1 ∨ isLt j)) ∧ 0 ≤ k ∧ k < ((shl j (sprT (sT σ) i.toNat)).length : Int)) with h | h <;> omega)) (hcl := rfl) (hst := rfl) dX7_isShown_68 (hw := hM.obj) (kk := fun v68 w68 g68 => ?_)
        obtain ⟨rfl, hM⟩ := g68
        exact i_zret C (d := dX7_isShown_71) (ha := bz_R _) (h := ⟨rfl, F1, sh1, hM, er, fun hz => (hfs (gol_0 hz).2.1).1⟩)
      refine i_if_eq C dX7_isShown_46 (tgt := 67) (ha := by rcases bz_R (isPg i ∧ (j = -1 ∨ isLt j)) with h | h <;> omega) (kt := fun hB46 => ?_) (kf := fun hB46 => ?_)
      · have hz4 := bz_z.mp hB46
        refine i_iconst C dX7_isShown_67 (kk := ?_)
        exact jk _ (by first | (rw [bz_f (fun q => hz4 q.1)]; done) | (rw [bz_t ⟨hz4, by omega⟩]; done) | (rw [bz_f (fun q => hz5 ⟨q.2.1, by omega⟩)]; done))
      · have hz4 := bz_ne.mp hB46
        obtain ⟨hs1, hsh1, h100⟩ := hfs hz4
        refine i_iload_n C dX7_isShown_49 (kk := ?_)
        refine i_iconst C dX7_isShown_50 (kk := ?_)
        refine i_aload_n C dX7_isShown_51 (kk := ?_)
        refine i_getf C f_X7_131 dX7_isShown_52 (hw := hM.obj) (kk := ?_)
        refine i_iconst C dX7_isShown_55 (kk := ?_)
        refine i_isub C dX7_isShown_56 (kk := ?_)
        refine i_callS C lk_X7_68 (c_X7_in l hl D (v := k) (a := 0) (b := sh1 - 1)) (hst := rfl) dX7_isShown_57 (kk := fun v57 w57 g57 => ?_)
        obtain ⟨rfl, q57⟩ := g57
        have q57 := q57.symm
        subst q57
        refine i_if_eq C dX7_isShown_60 (tgt := 67) (ha := by rcases bz_R (0 ≤ k ∧ k ≤ sh1 - 1) with h | h <;> omega) (kt := fun hB60 => ?_) (kf := fun hB60 => ?_)
        · have hz5 := bz_z.mp hB60
          refine i_iconst C dX7_isShown_67 (kk := ?_)
          exact jk _ (by first | (rw [bz_f (fun q => hz4 q.1)]; done) | (rw [bz_t ⟨hz4, by omega⟩]; done) | (rw [bz_f (fun q => hz5 ⟨q.2.1, by omega⟩)]; done))
        · have hz5 := bz_ne.mp hB60
          refine i_iconst C dX7_isShown_63 (kk := ?_)
          refine i_goto C dX7_isShown_64 (tgt := 68) (kk := ?_)
          exact jk _ (by first | (rw [bz_f (fun q => hz4 q.1)]; done) | (rw [bz_t ⟨hz4, by omega⟩]; done) | (rw [bz_f (fun q => hz5 ⟨q.2.1, by omega⟩)]; done))
    refine i_if_eq C dX7_isShown_28 (tgt := 37) (ha := by rcases bz_R (isPg i ∧ (j = -1 ∨ isLt j)) with h | h <;> omega) (kt := fun hB28 => ?_) (kf := fun hB28 => ?_)
    · have hz3 := bz_z.mp hB28
      have er0 : ∀ z, z ≤ 13 → F z = F z := fun _ _ => rfl
      have hf0 : (isPg i ∧ (j = -1 ∨ isLt j)) → shown (shl j (sprT (sT σ) i.toNat)) F ∧ sh = ((shl j (sprT (sT σ) i.toNat)).length : Int) ∧ (shl j (sprT (sT σ) i.toNat)).length ≤ 100 := fun q => absurd q hz3
      exact jm _ _ _ hM (by assumption) (by assumption)
    · have hz3 := bz_ne.mp hB28
      obtain ⟨p, hp, rfl⟩ : ∃ p : Nat, p < 12 ∧ i = (p : Int) := ⟨i.toNat, by omega, by omega⟩
      refine i_aload_n C dX7_isShown_31 (kk := ?_)
      refine i_iload_n C dX7_isShown_32 (kk := ?_)
      refine i_iload_n C dX7_isShown_33 (kk := ?_)
      refine i_callV C lk_X7_142 (c_X7_lays l hl D (hM := hM) (p0 := p) (g0 := j) hS hV hp ⟨by omega, by omega⟩) (hcl := rfl) (hst := rfl) dX7_isShown_34 (hw := hM.obj) (kk := fun v34 w34 g34 => ?_)
      obtain ⟨rfl, F2, hM, er2, hs2⟩ := g34
      have hf0 := fun (_ : isPg ((p : Nat) : Int) ∧ (j = -1 ∨ isLt j)) => And.intro hs2 (And.intro (rfl : ((shl j (sprT (sT σ) p)).length : Int) = ((shl j (sprT (sT σ) p)).length : Int)) (shl_le hS hp j))
      exact jm _ _ _ hM (by assumption) (by assumption)
  refine i_if_eq C dX7_isShown_4 (tgt := 23) (ha := by rcases bz_R (isPg i) with h | h <;> omega) (kt := fun hB4 => ?_) (kf := fun hB4 => ?_)
  · have hz1 := bz_z.mp hB4
    refine i_iconst C dX7_isShown_23 (kk := ?_)
    exact jn _ (by first | (rw [bz_f (fun q => hz1 q.1)]; done) | (rw [bz_t ⟨hz1, Or.inl (by assumption)⟩]; done) | (rw [bz_t ⟨hz1, Or.inr hz2⟩]; done) | (rw [bz_f (fun q => q.2.elim (by assumption) hz2)]; done))
  · have hz1 := bz_ne.mp hB4
    refine i_iload_n C dX7_isShown_7 (kk := ?_)
    refine i_iconst C dX7_isShown_8 (kk := ?_)
    refine i_icmp_eq C dX7_isShown_9 (tgt := 19) (kt := fun hB9 => ?_) (kf := fun hB9 => ?_)
    · refine i_iconst C dX7_isShown_19 (kk := ?_)
      refine i_goto C dX7_isShown_20 (tgt := 24) (kk := ?_)
      exact jn _ (by first | (rw [bz_f (fun q => hz1 q.1)]; done) | (rw [bz_t ⟨hz1, Or.inl (by assumption)⟩]; done) | (rw [bz_t ⟨hz1, Or.inr hz2⟩]; done) | (rw [bz_f (fun q => q.2.elim (by assumption) hz2)]; done))
    · refine i_iload_n C dX7_isShown_12 (kk := ?_)
      refine i_callS C lk_X7_75 (c_X7_isLetter l hl D (v := j)) (hst := rfl) dX7_isShown_13 (kk := fun v13 w13 g13 => ?_)
      obtain ⟨rfl, q13⟩ := g13
      have q13 := q13.symm
      subst q13
      refine i_if_eq C dX7_isShown_16 (tgt := 23) (ha := by rcases bz_R (isLt j) with h | h <;> omega) (kt := fun hB16 => ?_) (kf := fun hB16 => ?_)
      · have hz2 := bz_z.mp hB16
        refine i_iconst C dX7_isShown_23 (kk := ?_)
        exact jn _ (by first | (rw [bz_f (fun q => hz1 q.1)]; done) | (rw [bz_t ⟨hz1, Or.inl (by assumption)⟩]; done) | (rw [bz_t ⟨hz1, Or.inr hz2⟩]; done) | (rw [bz_f (fun q => q.2.elim (by assumption) hz2)]; done))
      · have hz2 := bz_ne.mp hB16
        refine i_iconst C dX7_isShown_19 (kk := ?_)
        refine i_goto C dX7_isShown_20 (tgt := 24) (kk := ?_)
        exact jn _ (by first | (rw [bz_f (fun q => hz1 q.1)]; done) | (rw [bz_t ⟨hz1, Or.inl (by assumption)⟩]; done) | (rw [bz_t ⟨hz1, Or.inr hz2⟩]; done) | (rw [bz_f (fun q => q.2.elim (by assumption) hz2)]; done))

set_option maxRecDepth 100000 in
set_option maxHeartbeats 4000000 in
theorem c_X7_items (l : Launch) (hl : l.stackTraces = false) (D : gD) {w0 w : wW} {τ ad : Nat → Nat} {σ : Sg} {la : Int} {i j : Int} (hI : MdI D w0 w τ ad σ la := by assumption) (hi : inR i := by omega) (hj : inR j := by omega) : CTm l D yX7_items cX7_items 4 (some .int) (rmL 3 0 0) [.ref (ad 5000), .int (Z32 i), .int (Z32 j)] w (fun u w1 => u = some (.int (Z32 (oItems σ i j).2.1)) ∧ MdJ D w0 w1 τ ad (oItems σ i j).2.2 (oItems σ i j).1) := by
  refine CTm_of hl false rfl (by rfl) (Nat.le_of_ble_eq_true rfl) (fun h => nomatch h) ?_
  intro G C
  show G 0 0 w [some (.ref (ad 5000)), some (.int (Z32 i)), some (.int (Z32 j)), none] 0 []
  obtain ⟨hS, F, dn, op, sh, hM, hV⟩ := hI
  refine i_iload_n C dX7_items_0 (kk := ?_)
  refine i_callS C lk_X7_91 (c_X7_isPage l hl D (v := i)) (hst := rfl) dX7_items_1 (kk := fun v1 w1 g1 => ?_)
  obtain ⟨rfl, q1⟩ := g1
  have q1 := q1.symm
  subst q1
  have jn : ∀ x : Int, x = bz (isPg i ∧ (j = -1 ∨ isLt j)) → G 0 0 w [some (.ref (ad 5000)), some (.int (Z32 i)), some (.int (Z32 j)), none] 24 [.int (Z32 x)] := by
    intro x hx
    subst hx
    refine i_istore_n C dX7_items_24 (kk := ?_)
    refine i_aload_n C dX7_items_25 (kk := ?_)
    refine i_iload_n C dX7_items_26 (kk := ?_)
    refine i_callS C lk_X7_91 (c_X7_isPage l hl D (v := i)) (hst := rfl) dX7_items_27 (kk := fun v27 w27 g27 => ?_)
    obtain ⟨rfl, q27⟩ := g27
    have q27 := q27.symm
    subst q27
    refine i_iload_n C dX7_items_30 (kk := ?_)
    refine i_iconst C dX7_items_31 (kk := ?_)
    refine i_callV C lk_X7_83 (c_X7_goes l hl D (hM := hM) (a := bz (isPg i)) (b := bz (isPg i ∧ (j = -1 ∨ isLt j))) (c := 1) (by rcases bz_R (isPg i) with h | h <;> omega) (by rcases bz_R (isPg i ∧ (j = -1 ∨ isLt j)) with h | h <;> omega) (by decide)) (hcl := rfl) (hst := rfl) dX7_items_32 (hw := hM.obj) (kk := fun v32 w32 g32 => ?_)
    obtain ⟨rfl, hM⟩ := g32
    replace hM : MdR D w0 w32 τ ad F _ op sh (gol (bz (isPg i)) (bz (isPg i ∧ (j = -1 ∨ isLt j))) (bz (True))) := hM
    show G _ _ _ _ _ (.int (Z32 (bz (gol (bz (isPg i)) (bz (isPg i ∧ (j = -1 ∨ isLt j))) (bz (True)) = 0))) :: _)
    refine i_if_ne C dX7_items_35 (tgt := 40) (ha := by rcases bz_R (gol (bz (isPg i)) (bz (isPg i ∧ (j = -1 ∨ isLt j))) (bz (True)) = 0) with h | h <;> omega) (kt := fun hB35 => ?_) (kf := fun hB35 => ?_)
    · have hz : gol (bz (isPg i)) (bz (isPg i ∧ (j = -1 ∨ isLt j))) (bz (True)) = 0 := bz_ne.mp hB35
      obtain ⟨e0, pa, pb, pc3⟩ := op3_yes (σ := σ) (X := (0, ((shl j (sprT (sT σ) i.toNat)).length : Int), σ)) hz
      have e0 : oItems σ i j = (0, ((shl j (sprT (sT σ) i.toNat)).length : Int), σ) := e0
      rw [hz] at hM
      obtain ⟨p, hp, rfl⟩ : ∃ p : Nat, p < 12 ∧ i = (p : Int) := ⟨i.toNat, by omega, by omega⟩
      simp only [Int.toNat_natCast] at e0
      refine i_aload_n C dX7_items_40 (kk := ?_)
      refine i_iload_n C dX7_items_41 (kk := ?_)
      refine i_iload_n C dX7_items_42 (kk := ?_)
      refine i_callV C lk_X7_142 (c_X7_lays l hl D (hM := hM) (p0 := p) (g0 := j) hS hV hp ⟨by omega, by omega⟩) (hcl := rfl) (hst := rfl) dX7_items_43 (hw := hM.obj) (kk := fun v43 w43 g43 => ?_)
      obtain ⟨rfl, F2, hM, er2, hs2⟩ := g43
      have hV2 := hV.congr (F' := F2) (fun z hz => er2 z (by omega))
      refine i_aload_n C dX7_items_46 (kk := ?_)
      refine i_getf C f_X7_131 dX7_items_47 (hw := hM.obj) (kk := ?_)
      exact i_iret C (d := dX7_items_50) (h := by rw [e0]; exact ⟨rfl, _, _, _, _, hM, hV2⟩)
    · have hz : gol (bz (isPg i)) (bz (isPg i ∧ (j = -1 ∨ isLt j))) (bz (True)) ≠ 0 := bz_z.mp hB35
      have e0 : oItems σ i j = (gol (bz (isPg i)) (bz (isPg i ∧ (j = -1 ∨ isLt j))) (bz (True)), 0, σ) := op3_no hz
      refine i_iconst C dX7_items_38 (kk := ?_)
      exact i_iret C (d := dX7_items_39) (h := by rw [e0]; exact ⟨rfl, F, _, _, _, hM, hV⟩)
  refine i_if_eq C dX7_items_4 (tgt := 23) (ha := by rcases bz_R (isPg i) with h | h <;> omega) (kt := fun hB4 => ?_) (kf := fun hB4 => ?_)
  · have hz1 := bz_z.mp hB4
    refine i_iconst C dX7_items_23 (kk := ?_)
    exact jn _ (by first | (rw [bz_f (fun q => hz1 q.1)]; done) | (rw [bz_t ⟨hz1, Or.inl (by assumption)⟩]; done) | (rw [bz_t ⟨hz1, Or.inr hz2⟩]; done) | (rw [bz_f (fun q => q.2.elim (by assumption) hz2)]; done))
  · have hz1 := bz_ne.mp hB4
    refine i_iload_n C dX7_items_7 (kk := ?_)
    refine i_iconst C dX7_items_8 (kk := ?_)
    refine i_icmp_eq C dX7_items_9 (tgt := 19) (kt := fun hB9 => ?_) (kf := fun hB9 => ?_)
    · refine i_iconst C dX7_items_19 (kk := ?_)
      refine i_goto C dX7_items_20 (tgt := 24) (kk := ?_)
      exact jn _ (by first | (rw [bz_f (fun q => hz1 q.1)]; done) | (rw [bz_t ⟨hz1, Or.inl (by assumption)⟩]; done) | (rw [bz_t ⟨hz1, Or.inr hz2⟩]; done) | (rw [bz_f (fun q => q.2.elim (by assumption) hz2)]; done))
    · refine i_iload_n C dX7_items_12 (kk := ?_)
      refine i_callS C lk_X7_75 (c_X7_isLetter l hl D (v := j)) (hst := rfl) dX7_items_13 (kk := fun v13 w13 g13 => ?_)
      obtain ⟨rfl, q13⟩ := g13
      have q13 := q13.symm
      subst q13
      refine i_if_eq C dX7_items_16 (tgt := 23) (ha := by rcases bz_R (isLt j) with h | h <;> omega) (kt := fun hB16 => ?_) (kf := fun hB16 => ?_)
      · have hz2 := bz_z.mp hB16
        refine i_iconst C dX7_items_23 (kk := ?_)
        exact jn _ (by first | (rw [bz_f (fun q => hz1 q.1)]; done) | (rw [bz_t ⟨hz1, Or.inl (by assumption)⟩]; done) | (rw [bz_t ⟨hz1, Or.inr hz2⟩]; done) | (rw [bz_f (fun q => q.2.elim (by assumption) hz2)]; done))
      · have hz2 := bz_ne.mp hB16
        refine i_iconst C dX7_items_19 (kk := ?_)
        refine i_goto C dX7_items_20 (tgt := 24) (kk := ?_)
        exact jn _ (by first | (rw [bz_f (fun q => hz1 q.1)]; done) | (rw [bz_t ⟨hz1, Or.inl (by assumption)⟩]; done) | (rw [bz_t ⟨hz1, Or.inr hz2⟩]; done) | (rw [bz_f (fun q => q.2.elim (by assumption) hz2)]; done))

set_option maxRecDepth 100000 in
set_option maxHeartbeats 4000000 in
theorem c_X7_sortAt (l : Launch) (hl : l.stackTraces = false) (D : gD) {w0 w : wW} {τ ad : Nat → Nat} {σ : Sg} {la : Int} {i j k : Int} (hI : MdI D w0 w τ ad σ la := by assumption) (hi : inR i := by omega) (hj : inR j := by omega) (hk : inR k := by omega) : CTm l D yX7_sortAt cX7_sortAt 4 (some .int) (rmL 4 0 0) [.ref (ad 5000), .int (Z32 i), .int (Z32 j), .int (Z32 k)] w (fun u w1 => u = some (.int (Z32 (oSortAt σ i j k).2.1)) ∧ MdJ D w0 w1 τ ad (oSortAt σ i j k).2.2 (oSortAt σ i j k).1) := by
  refine CTm_of hl false rfl (by rfl) (Nat.le_of_ble_eq_true rfl) (fun h => nomatch h) ?_
  intro G C
  show G 0 0 w [some (.ref (ad 5000)), some (.int (Z32 i)), some (.int (Z32 j)), some (.int (Z32 k))] 0 []
  obtain ⟨hS, F, dn, op, sh, hM, hV⟩ := hI
  refine i_aload_n C dX7_sortAt_0 (kk := ?_)
  refine i_iload_n C dX7_sortAt_1 (kk := ?_)
  refine i_iload_n C dX7_sortAt_2 (kk := ?_)
  refine i_iload_n C dX7_sortAt_3 (kk := ?_)
  refine i_callV C lk_X7_145 (c_X7_isShown l hl D (hM := hM) (i := i) (j := j) (k := k) hS hV) (hcl := rfl) (hst := rfl) dX7_sortAt_4 (hw := hM.obj) (kk := fun v4 w4 g4 => ?_)
  obtain ⟨rfl, F2, sh2, hM, er2, hs2⟩ := g4
  have hV2 := hV.congr (F' := F2) (fun z hz => er2 z (by omega))
  refine i_if_eq C dX7_sortAt_7 (tgt := 19) (ha := by rcases bz_R (gol (bz (isPg i)) (bz (isPg i ∧ (j = -1 ∨ isLt j))) (bz ((isPg i ∧ (j = -1 ∨ isLt j)) ∧ 0 ≤ k ∧ k < ((shl j (sprT (sT σ) i.toNat)).length : Int))) = 0) with h | h <;> omega) (kt := fun hB7 => ?_) (kf := fun hB7 => ?_)
  · have hz := bz_z.mp hB7
    have e0 : oSortAt σ i j k = (gol (bz (isPg i)) (bz (isPg i ∧ (j = -1 ∨ isLt j))) (bz ((isPg i ∧ (j = -1 ∨ isLt j)) ∧ 0 ≤ k ∧ k < ((shl j (sprT (sT σ) i.toNat)).length : Int))), 0, σ) := op3_no hz
    refine i_iconst C dX7_sortAt_19 (kk := ?_)
    exact i_iret C (d := dX7_sortAt_20) (h := by first | (rw [e0]; exact ⟨rfl, F2, _, _, _, hM, hV2⟩) | (rw [e0, getD_some hx]; exact ⟨rfl, _, _, _, _, hM, hV2⟩))
  · have hz := bz_ne.mp hB7
    obtain ⟨e0, pa, pb, pc3⟩ := op3_yes (σ := σ) (X := (0, ((shl j (sprT (sT σ) i.toNat)).getD k.toNat (0, 0, 0)).1, σ)) hz
    have e0 : oSortAt σ i j k = (0, ((shl j (sprT (sT σ) i.toNat)).getD k.toNat (0, 0, 0)).1, σ) := e0
    rw [hz] at hM
    have hs3 := hs2 hz
    have hl9 := shl_le hS (p := i.toNat) (by omega) j
    obtain ⟨x, hx⟩ := get_lt (L := shl j (sprT (sT σ) i.toNat)) (k := k.toNat) (by omega)
    have h9 := hs3 _ x hx
    refine i_aload_n C dX7_sortAt_10 (kk := ?_)
    refine i_getf C f_X7_46 dX7_sortAt_11 (hw := hM.obj) (kk := ?_)
    refine i_iload_n C dX7_sortAt_14 (kk := ?_)
    refine m_ial C hM 14 (k.toNat) (N := 128) dX7_sortAt_15 (kk := ?_)
    rw [h9.1]
    refine i_goto C dX7_sortAt_16 (tgt := 20) (kk := ?_)
    exact i_iret C (d := dX7_sortAt_20) (h := by first | (rw [e0]; exact ⟨rfl, F2, _, _, _, hM, hV2⟩) | (rw [e0, getD_some hx]; exact ⟨rfl, _, _, _, _, hM, hV2⟩))

set_option maxRecDepth 100000 in
set_option maxHeartbeats 4000000 in
theorem c_X7_itemAt (l : Launch) (hl : l.stackTraces = false) (D : gD) {w0 w : wW} {τ ad : Nat → Nat} {σ : Sg} {la : Int} {i j k : Int} (hI : MdI D w0 w τ ad σ la := by assumption) (hi : inR i := by omega) (hj : inR j := by omega) (hk : inR k := by omega) : CTm l D yX7_itemAt cX7_itemAt 4 (some .int) (rmL 4 0 0) [.ref (ad 5000), .int (Z32 i), .int (Z32 j), .int (Z32 k)] w (fun u w1 => u = some (.int (Z32 (oItemAt σ i j k).2.1)) ∧ MdJ D w0 w1 τ ad (oItemAt σ i j k).2.2 (oItemAt σ i j k).1) := by
  refine CTm_of hl false rfl (by rfl) (Nat.le_of_ble_eq_true rfl) (fun h => nomatch h) ?_
  intro G C
  show G 0 0 w [some (.ref (ad 5000)), some (.int (Z32 i)), some (.int (Z32 j)), some (.int (Z32 k))] 0 []
  obtain ⟨hS, F, dn, op, sh, hM, hV⟩ := hI
  refine i_aload_n C dX7_itemAt_0 (kk := ?_)
  refine i_iload_n C dX7_itemAt_1 (kk := ?_)
  refine i_iload_n C dX7_itemAt_2 (kk := ?_)
  refine i_iload_n C dX7_itemAt_3 (kk := ?_)
  refine i_callV C lk_X7_145 (c_X7_isShown l hl D (hM := hM) (i := i) (j := j) (k := k) hS hV) (hcl := rfl) (hst := rfl) dX7_itemAt_4 (hw := hM.obj) (kk := fun v4 w4 g4 => ?_)
  obtain ⟨rfl, F2, sh2, hM, er2, hs2⟩ := g4
  have hV2 := hV.congr (F' := F2) (fun z hz => er2 z (by omega))
  refine i_if_eq C dX7_itemAt_7 (tgt := 19) (ha := by rcases bz_R (gol (bz (isPg i)) (bz (isPg i ∧ (j = -1 ∨ isLt j))) (bz ((isPg i ∧ (j = -1 ∨ isLt j)) ∧ 0 ≤ k ∧ k < ((shl j (sprT (sT σ) i.toNat)).length : Int))) = 0) with h | h <;> omega) (kt := fun hB7 => ?_) (kf := fun hB7 => ?_)
  · have hz := bz_z.mp hB7
    have e0 : oItemAt σ i j k = (gol (bz (isPg i)) (bz (isPg i ∧ (j = -1 ∨ isLt j))) (bz ((isPg i ∧ (j = -1 ∨ isLt j)) ∧ 0 ≤ k ∧ k < ((shl j (sprT (sT σ) i.toNat)).length : Int))), 0, σ) := op3_no hz
    refine i_iconst C dX7_itemAt_19 (kk := ?_)
    exact i_iret C (d := dX7_itemAt_20) (h := by first | (rw [e0]; exact ⟨rfl, F2, _, _, _, hM, hV2⟩) | (rw [e0, getD_some hx]; exact ⟨rfl, _, _, _, _, hM, hV2⟩))
  · have hz := bz_ne.mp hB7
    obtain ⟨e0, pa, pb, pc3⟩ := op3_yes (σ := σ) (X := (0, ((shl j (sprT (sT σ) i.toNat)).getD k.toNat (0, 0, 0)).2.1, σ)) hz
    have e0 : oItemAt σ i j k = (0, ((shl j (sprT (sT σ) i.toNat)).getD k.toNat (0, 0, 0)).2.1, σ) := e0
    rw [hz] at hM
    have hs3 := hs2 hz
    have hl9 := shl_le hS (p := i.toNat) (by omega) j
    obtain ⟨x, hx⟩ := get_lt (L := shl j (sprT (sT σ) i.toNat)) (k := k.toNat) (by omega)
    have h9 := hs3 _ x hx
    refine i_aload_n C dX7_itemAt_10 (kk := ?_)
    refine i_getf C f_X7_49 dX7_itemAt_11 (hw := hM.obj) (kk := ?_)
    refine i_iload_n C dX7_itemAt_14 (kk := ?_)
    refine m_ial C hM 15 (k.toNat) (N := 128) dX7_itemAt_15 (kk := ?_)
    rw [h9.2.1]
    refine i_goto C dX7_itemAt_16 (tgt := 20) (kk := ?_)
    exact i_iret C (d := dX7_itemAt_20) (h := by first | (rw [e0]; exact ⟨rfl, F2, _, _, _, hM, hV2⟩) | (rw [e0, getD_some hx]; exact ⟨rfl, _, _, _, _, hM, hV2⟩))

set_option maxRecDepth 100000 in
set_option maxHeartbeats 4000000 in
theorem c_X7_sourceAt (l : Launch) (hl : l.stackTraces = false) (D : gD) {w0 w : wW} {τ ad : Nat → Nat} {σ : Sg} {la : Int} {i j k : Int} (hI : MdI D w0 w τ ad σ la := by assumption) (hi : inR i := by omega) (hj : inR j := by omega) (hk : inR k := by omega) : CTm l D yX7_sourceAt cX7_sourceAt 4 (some .int) (rmL 4 0 0) [.ref (ad 5000), .int (Z32 i), .int (Z32 j), .int (Z32 k)] w (fun u w1 => u = some (.int (Z32 (oSourceAt σ i j k).2.1)) ∧ MdJ D w0 w1 τ ad (oSourceAt σ i j k).2.2 (oSourceAt σ i j k).1) := by
  refine CTm_of hl false rfl (by rfl) (Nat.le_of_ble_eq_true rfl) (fun h => nomatch h) ?_
  intro G C
  show G 0 0 w [some (.ref (ad 5000)), some (.int (Z32 i)), some (.int (Z32 j)), some (.int (Z32 k))] 0 []
  obtain ⟨hS, F, dn, op, sh, hM, hV⟩ := hI
  refine i_aload_n C dX7_sourceAt_0 (kk := ?_)
  refine i_iload_n C dX7_sourceAt_1 (kk := ?_)
  refine i_iload_n C dX7_sourceAt_2 (kk := ?_)
  refine i_iload_n C dX7_sourceAt_3 (kk := ?_)
  refine i_callV C lk_X7_145 (c_X7_isShown l hl D (hM := hM) (i := i) (j := j) (k := k) hS hV) (hcl := rfl) (hst := rfl) dX7_sourceAt_4 (hw := hM.obj) (kk := fun v4 w4 g4 => ?_)
  obtain ⟨rfl, F2, sh2, hM, er2, hs2⟩ := g4
  have hV2 := hV.congr (F' := F2) (fun z hz => er2 z (by omega))
  refine i_if_eq C dX7_sourceAt_7 (tgt := 19) (ha := by rcases bz_R (gol (bz (isPg i)) (bz (isPg i ∧ (j = -1 ∨ isLt j))) (bz ((isPg i ∧ (j = -1 ∨ isLt j)) ∧ 0 ≤ k ∧ k < ((shl j (sprT (sT σ) i.toNat)).length : Int))) = 0) with h | h <;> omega) (kt := fun hB7 => ?_) (kf := fun hB7 => ?_)
  · have hz := bz_z.mp hB7
    have e0 : oSourceAt σ i j k = (gol (bz (isPg i)) (bz (isPg i ∧ (j = -1 ∨ isLt j))) (bz ((isPg i ∧ (j = -1 ∨ isLt j)) ∧ 0 ≤ k ∧ k < ((shl j (sprT (sT σ) i.toNat)).length : Int))), 0, σ) := op3_no hz
    refine i_iconst C dX7_sourceAt_19 (kk := ?_)
    exact i_iret C (d := dX7_sourceAt_20) (h := by first | (rw [e0]; exact ⟨rfl, F2, _, _, _, hM, hV2⟩) | (rw [e0, getD_some hx]; exact ⟨rfl, _, _, _, _, hM, hV2⟩))
  · have hz := bz_ne.mp hB7
    obtain ⟨e0, pa, pb, pc3⟩ := op3_yes (σ := σ) (X := (0, ((shl j (sprT (sT σ) i.toNat)).getD k.toNat (0, 0, 0)).2.2, σ)) hz
    have e0 : oSourceAt σ i j k = (0, ((shl j (sprT (sT σ) i.toNat)).getD k.toNat (0, 0, 0)).2.2, σ) := e0
    rw [hz] at hM
    have hs3 := hs2 hz
    have hl9 := shl_le hS (p := i.toNat) (by omega) j
    obtain ⟨x, hx⟩ := get_lt (L := shl j (sprT (sT σ) i.toNat)) (k := k.toNat) (by omega)
    have h9 := hs3 _ x hx
    refine i_aload_n C dX7_sourceAt_10 (kk := ?_)
    refine i_getf C f_X7_52 dX7_sourceAt_11 (hw := hM.obj) (kk := ?_)
    refine i_iload_n C dX7_sourceAt_14 (kk := ?_)
    refine m_ial C hM 16 (k.toNat) (N := 128) dX7_sourceAt_15 (kk := ?_)
    rw [h9.2.2]
    refine i_goto C dX7_sourceAt_16 (tgt := 20) (kk := ?_)
    exact i_iret C (d := dX7_sourceAt_20) (h := by first | (rw [e0]; exact ⟨rfl, F2, _, _, _, hM, hV2⟩) | (rw [e0, getD_some hx]; exact ⟨rfl, _, _, _, _, hM, hV2⟩))

set_option maxRecDepth 100000 in
set_option maxHeartbeats 4000000 in
theorem c_X7_itemAnew (l : Launch) (hl : l.stackTraces = false) (D : gD) {w0 w : wW} {τ ad : Nat → Nat} {σ : Sg} {la : Int} {i j k : Int} (hI : MdI D w0 w τ ad σ la := by assumption) (hi : inR i := by omega) (hj : inR j := by omega) (hk : inR k := by omega) : CTm l D yX7_itemAnew cX7_itemAnew 4 (some .int) (rmL 5 0 0) [.ref (ad 5000), .int (Z32 i), .int (Z32 j), .int (Z32 k)] w (fun u w1 => u = some (.int (Z32 (oItemAt σ i j k).2.1)) ∧ MdJ D w0 w1 τ ad (oItemAt σ i j k).2.2 (oItemAt σ i j k).1) := by
  refine CTm_of hl false rfl (by rfl) (Nat.le_of_ble_eq_true rfl) (fun h => nomatch h) ?_
  intro G C
  show G 0 0 w [some (.ref (ad 5000)), some (.int (Z32 i)), some (.int (Z32 j)), some (.int (Z32 k))] 0 []
  refine i_aload_n C dX7_itemAnew_0 (kk := ?_)
  refine i_iload_n C dX7_itemAnew_1 (kk := ?_)
  refine i_iload_n C dX7_itemAnew_2 (kk := ?_)
  refine i_iload_n C dX7_itemAnew_3 (kk := ?_)
  refine i_callV C lk_X7_148 (c_X7_itemAt l hl D (hI := hI) (i := i) (j := j) (k := k)) (hcl := rfl) (hst := rfl) dX7_itemAnew_4 (hw := hI.2.choose_spec.choose_spec.choose_spec.choose_spec.1.obj) (kk := fun v4 w4 g4 => ?_)
  obtain ⟨rfl, hJ⟩ := g4
  exact i_iret C (d := dX7_itemAnew_7) (h := ⟨rfl, hJ⟩)
