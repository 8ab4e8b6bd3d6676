def itOK (σ : Sg) : Prop := ∀ p, p < 12 → ∀ q ∈ sprT (sT σ) p, ItV q
theorem anL_snoc {x : Int} {L : List Sh3} {k : Nat} {y : Sh3} (h : L[k]? = some y) : anL x (L.take (k + 1)) = true ↔ (anL x (L.take k) = true ∨ (y.1 = 1 ∧ y.2.1 = x)) := by
  rw [take_snoc h]
  unfold anL
  rw [List.any_append, Bool.or_eq_true]
  simp
theorem lkL_split {L : List Sh3} {k : Nat} {y : Sh3} (h : L[k]? = some y) : lkL L = lkL (L.take k) ++ (lkL [y] ++ lkL (L.drop (k + 1))) := by
  have e : L = L.take k ++ ([y] ++ L.drop (k + 1)) := by
    have h1 := List.take_append_drop (k + 1) L
    rw [take_snoc h, List.append_assoc] at h1
    exact h1.symm
  conv => lhs; rw [e]
  rw [lkL_app, lkL_app]
theorem lkL_get {L : List Sh3} {k : Nat} {y : Sh3} (h : L[k]? = some y) (h2 : y.1 = 2) : (lkL L).getD (lkL (L.take k)).length (-1) = y.2.1 := by
  rw [lkL_split h, lkL_yes h2, List.getD_eq_getElem?_getD, List.getElem?_append_right (Nat.le_refl _), Nat.sub_self]
  rfl
theorem lkL_le (L : List Sh3) : (lkL L).length ≤ L.length := by
  unfold lkL
  rw [List.length_map]
  exact List.length_filter_le _ _
/-- what is shown, as numbers -/
theorem shown_R {σ : Sg} (hI : itOK σ) {p : Nat} (hp : p < 12) {i : Nat} {x : Sh3} (h : (shl (-1) (sprT (sT σ) p))[i]? = some x) : (0 ≤ x.1 ∧ x.1 ≤ 2) ∧ 0 ≤ x.2.1 ∧ x.2.1 ≤ 119 ∧ 0 ≤ x.2.2 ∧ x.2.2 ≤ 11 := shl_val (hI p hp) (by decide) (by decide) (List.mem_of_getElem? h)
theorem lkL_R {σ : Sg} (hI : itOK σ) {p : Nat} (hp : p < 12) {k : Int} (h : k ∈ lkL (shl (-1) (sprT (sT σ) p))) : 0 ≤ k ∧ k ≤ 119 := by
  unfold lkL at h
  obtain ⟨x, hx, rfl⟩ := List.mem_map.mp h
  have h2 := shl_val (hI p hp) (by decide) (by decide) (List.mem_filter.mp hx).1
  exact ⟨h2.2.1, h2.2.2.1⟩
theorem lkL_G {σ : Sg} (hI : itOK σ) {p : Nat} (hp : p < 12) (n : Nat) : ((lkL (shl (-1) (sprT (sT σ) p))).getD n (-1) = -1 ↔ (lkL (shl (-1) (sprT (sT σ) p))).length ≤ n) ∧ -1 ≤ (lkL (shl (-1) (sprT (sT σ) p))).getD n (-1) ∧ (lkL (shl (-1) (sprT (sT σ) p))).getD n (-1) ≤ 119 := by
  by_cases h : n < (lkL (shl (-1) (sprT (sT σ) p))).length
  · obtain ⟨x, hx⟩ := get_lt h
    have h2 := lkL_R hI hp (List.mem_of_getElem? hx)
    rw [getD_some hx]
    omega
  · rw [List.getD_eq_getElem?_getD, List.getElem?_eq_none_iff.mpr (by omega)]
    show ((-1 : Int) = -1 ↔ _) ∧ (-1 : Int) ≤ -1 ∧ (-1 : Int) ≤ 119
    omega
theorem get_of {M : List Int} {n : Nat} (h : n < M.length) : M[n]? = some (M.getD n (-1)) := by
  obtain ⟨x, hx⟩ := get_lt h
  rw [hx, getD_some hx]
theorem fbL_drop {T : Nat → List Pc3} {M : List Int} {n : Nat} (h : n < M.length) : fbL T (M.drop n) = if goodb T (M.getD n (-1)) = true then fbL T (M.drop (n + 1)) else M.getD n (-1) := by
  rw [List.drop_eq_getElem_cons h]
  have e : M.getD n (-1) = M[n] := by rw [List.getD_eq_getElem?_getD, List.getElem?_eq_getElem h]; rfl
  rw [e]; rfl
theorem badN_take {T : Nat → List Pc3} {M : List Int} {n : Nat} (h : n < M.length) : badN T (M.take (n + 1)) = badN T (M.take n) + (if goodb T (M.getD n (-1)) = true then 0 else 1) := by
  rw [take_snoc (get_of h), badN_app, badN_one]
theorem badN_le {T : Nat → List Pc3} (M : List Int) : badN T M ≤ M.length := List.length_filter_le _ _
def lfk (T : Nat → List Pc3) (p f n : Nat) : Nat := if ((lkL (shl (-1) (sprT T f))).take n).any (fun k => leadb T p k && goodb T k) = true then lfs T p f ||| 2 ^ f else lfs T p f
theorem lfk_lt {T : Nat → List Pc3} {p f n : Nat} (hf : f < 12) : lfk T p f n < 4096 := by
  have h1 := lfs_lt (T := T) (p := p) f
  have h2 : (2 : Nat) ^ f ≤ 2 ^ 11 := Nat.pow_le_pow_right (by decide) (by omega)
  have h3 : (2 : Nat) ^ 11 = 2048 := by decide
  unfold lfk
  split
  · exact Nat.or_lt_two_pow (n := 12) (by omega) (by omega)
  · omega
theorem lfk_0 {T : Nat → List Pc3} {p f : Nat} : lfk T p f 0 = lfs T p f := if_neg (by rw [List.take_zero]; exact Bool.false_ne_true)
theorem lfk_all {T : Nat → List Pc3} {p f n : Nat} (h : (lkL (shl (-1) (sprT T f))).length ≤ n) : lfk T p f n = lfs T p (f + 1) := by
  show _ = if lfb T p f = true then lfs T p f ||| 2 ^ f else lfs T p f
  unfold lfk lfb
  rw [List.take_of_length_le h, lfb_lkL]
theorem lfk_step {T : Nat → List Pc3} {p f n : Nat} (h : n < (lkL (shl (-1) (sprT T f))).length) : lfk T p f (n + 1) = lfk T p f n ||| (if leadb T p ((lkL (shl (-1) (sprT T f))).getD n (-1)) = true ∧ goodb T ((lkL (shl (-1) (sprT T f))).getD n (-1)) = true then 2 ^ f else 0) := by
  unfold lfk
  rw [take_snoc (get_of h), List.any_append]
  generalize ((lkL (shl (-1) (sprT T f))).take n).any (fun k => leadb T p k && goodb T k) = b
  generalize (lkL (shl (-1) (sprT T f))).getD n (-1) = k
  by_cases z : leadb T p k = true ∧ goodb T k = true
  · rw [if_pos z]
    cases b
    · simp [z.1, z.2]
    · simp [Nat.or_assoc]
  · rw [if_neg z]
    have e : (leadb T p k && goodb T k) = false := by
      cases h1 : leadb T p k
      · rfl
      · cases h2 : goodb T k
        · rfl
        · exact absurd ⟨h1, h2⟩ z
    simp [e]
def oStandsFor (σ : Sg) (i : Int) : Rs := op3 (isPg i) True True σ (0, stT (sT σ) i.toNat, σ)
def oLinks (σ : Sg) (i : Int) : Rs := op3 (isPg i) True True σ (0, (cnb isl (sprT (sT σ) i.toNat) : Int), σ)
def oBroken (σ : Sg) (i : Int) : Rs := op3 (isPg i) True True σ (0, (cnb (badb (sT σ)) (sprT (sT σ) i.toNat) : Int), σ)
def oFirstBroken (σ : Sg) (i : Int) : Rs := op3 (isPg i) True True σ (0, fbk (sT σ) (sprT (sT σ) i.toNat), σ)
def oLinkedFrom (σ : Sg) (i : Int) : Rs := op3 (isPg i) True True σ (0, (lfs (sT σ) i.toNat 12 : Int), σ)
def oBreaches (σ : Sg) (i : Int) : Rs := op3 (isPg i) True True σ (0, (brc σ i.toNat : Int), σ)
set_option maxRecDepth 100000 in
set_option maxHeartbeats 4000000 in
theorem c_X7_showsAnchor (l : Launch) (hl : l.stackTraces = false) (D : gD) {w0 w : wW} {τ ad : Nat → Nat} {F : Nat → Nat → Int} {dn op sh la : Int} {σ : Sg} {p : Nat} {x : Int} (hM : MdR D w0 w τ ad F dn op sh la := by assumption) (hS : SgOK σ) (hV : MdV σ F dn op) (hI9 : itOK σ) (hp : p < 12) (hx : inR x := by omega) : CTm l D yX7_showsAnchor cX7_showsAnchor 5 (some .boolean) (rmL 3 0 0) [.ref (ad 5000), .int (Z32 (p : Int)), .int (Z32 x)] w (fun u w1 => u = some (.int (Z32 (bz (anL x (shl (-1) (sprT (sT σ) p)) = true)))) ∧ ∃ F1 sh1, MdR D w0 w1 τ ad F1 dn op sh1 la ∧ ∀ z, z ≤ 13 → F1 z = F z) := by
  refine CTm_of hl false rfl (by rfl) (Nat.le_of_ble_eq_true rfl) (fun h => nomatch h) ?_
  intro G C
  show G 0 0 w [some (.ref (ad 5000)), some (.int (Z32 (p : Int))), some (.int (Z32 x)), none, none] 0 []
  refine i_iconst C dX7_showsAnchor_0 (kk := ?_)
  refine i_istore_n C dX7_showsAnchor_1 (kk := ?_)
  refine i_aload_n C dX7_showsAnchor_2 (kk := ?_)
  refine i_iload_n C dX7_showsAnchor_3 (kk := ?_)
  refine i_iconst C dX7_showsAnchor_4 (kk := ?_)
  refine i_callV C lk_X7_142 (c_X7_lays l hl D (hM := hM) (p0 := p) (g0 := -1) hS hV hp ⟨by decide, by decide⟩) (hcl := rfl) (hst := rfl) dX7_showsAnchor_5 (hw := hM.obj) (kk := fun v5 w5 g5 => ?_)
  obtain ⟨rfl, F2, hM, er2, hs2⟩ := g5
  have h100 := shl_le hS hp (-1)
  obtain ⟨L, hL⟩ : ∃ L, L = (shl (-1) (sprT (sT σ) p)) := ⟨_, rfl⟩
  rw [← hL] at hM hs2 h100
  refine i_iconst C dX7_showsAnchor_8 (kk := ?_)
  refine i_istore C dX7_showsAnchor_9 (kk := ?_)
  have lp : ∀ (m k : Nat), L.length + 1 ≤ m + k → k ≤ L.length → G 0 0 w5 [some (.ref (ad 5000)), some (.int (Z32 (p : Int))), some (.int (Z32 x)), some (.int (Z32 (bz (anL x (L.take k) = true)))), some (.int (Z32 (k : Int)))] 11 [] := by
    intro m
    induction m with
    | zero => intro k h1 h2; omega
    | succ m ih =>
    intro k h1 h2
    refine i_iload C dX7_showsAnchor_11 (kk := ?_)
    refine i_aload_n C dX7_showsAnchor_13 (kk := ?_)
    refine i_getf C f_X7_131 dX7_showsAnchor_14 (hw := hM.obj) (kk := ?_)
    refine i_icmp_ge C dX7_showsAnchor_17 (tgt := 58) (kt := fun hB17 => ?_) (kf := fun hB17 => ?_)
    · have hkl : k = L.length := by omega
      refine i_iload_n C dX7_showsAnchor_58 (kk := ?_)
      exact i_zret C (d := dX7_showsAnchor_59) (ha := bz_R _) (h := ⟨by rw [← hL, hkl, List.take_length], F2, _, hM, er2⟩)
    · obtain ⟨y, hy⟩ := get_lt (L := L) (k := k) (by omega)
      have hyv := hs2 k y hy
      have hyR := shown_R hI9 hp (i := k) (x := y) (by rw [← hL]; exact hy)
      refine i_iload_n C dX7_showsAnchor_20 (kk := ?_)
      have jn : ∀ z : Int, z = bz (anL x (L.take (k + 1)) = true) → G 0 0 w5 [some (.ref (ad 5000)), some (.int (Z32 (p : Int))), some (.int (Z32 x)), some (.int (Z32 (bz (anL x (L.take k) = true)))), some (.int (Z32 (k : Int)))] 51 [.int (Z32 z)] := by
        intro z hz
        subst hz
        refine i_istore_n C dX7_showsAnchor_51 (kk := ?_)
        refine i_iinc C dX7_showsAnchor_52 (kk := ?_)
        refine i_goto C dX7_showsAnchor_55 (tgt := 11) (kk := ?_)
        exact ih (k + 1) (by omega) (by omega)
      refine i_if_ne C dX7_showsAnchor_21 (tgt := 46) (ha := by rcases bz_R (anL x (L.take k) = true) with h | h <;> omega) (kt := fun hB21 => ?_) (kf := fun hB21 => ?_)
      · have hz1 := bz_ne.mp hB21
        refine i_iconst C dX7_showsAnchor_46 (kk := ?_)
        refine i_goto C dX7_showsAnchor_47 (tgt := 51) (kk := ?_)
        exact jn _ (by first | (rw [bz_t ((anL_snoc hy).mpr (Or.inl hz1))]; done) | (rw [bz_t ((anL_snoc hy).mpr (Or.inr ⟨by omega, by omega⟩))]; done) | (rw [bz_f (fun q => ((anL_snoc hy).mp q).elim hz1 (fun q2 => by omega))]; done))
      · have hz1 := bz_z.mp hB21
        refine i_aload_n C dX7_showsAnchor_24 (kk := ?_)
        refine i_getf C f_X7_46 dX7_showsAnchor_25 (hw := hM.obj) (kk := ?_)
        refine i_iload C dX7_showsAnchor_28 (kk := ?_)
        refine m_ial C hM 14 (k) (N := 128) dX7_showsAnchor_30 (kk := ?_)
        rw [hyv.1]
        refine i_iconst C dX7_showsAnchor_31 (kk := ?_)
        refine i_icmp_ne C dX7_showsAnchor_32 (tgt := 50) (kt := fun hB32 => ?_) (kf := fun hB32 => ?_)
        · refine i_iconst C dX7_showsAnchor_50 (kk := ?_)
          exact jn _ (by first | (rw [bz_t ((anL_snoc hy).mpr (Or.inl hz1))]; done) | (rw [bz_t ((anL_snoc hy).mpr (Or.inr ⟨by omega, by omega⟩))]; done) | (rw [bz_f (fun q => ((anL_snoc hy).mp q).elim hz1 (fun q2 => by omega))]; done))
        · refine i_aload_n C dX7_showsAnchor_35 (kk := ?_)
          refine i_getf C f_X7_49 dX7_showsAnchor_36 (hw := hM.obj) (kk := ?_)
          refine i_iload C dX7_showsAnchor_39 (kk := ?_)
          refine m_ial C hM 15 (k) (N := 128) dX7_showsAnchor_41 (kk := ?_)
          rw [hyv.2.1]
          refine i_iload_n C dX7_showsAnchor_42 (kk := ?_)
          refine i_icmp_ne C dX7_showsAnchor_43 (tgt := 50) (kt := fun hB43 => ?_) (kf := fun hB43 => ?_)
          · refine i_iconst C dX7_showsAnchor_50 (kk := ?_)
            exact jn _ (by first | (rw [bz_t ((anL_snoc hy).mpr (Or.inl hz1))]; done) | (rw [bz_t ((anL_snoc hy).mpr (Or.inr ⟨by omega, by omega⟩))]; done) | (rw [bz_f (fun q => ((anL_snoc hy).mp q).elim hz1 (fun q2 => by omega))]; done))
          · refine i_iconst C dX7_showsAnchor_46 (kk := ?_)
            refine i_goto C dX7_showsAnchor_47 (tgt := 51) (kk := ?_)
            exact jn _ (by first | (rw [bz_t ((anL_snoc hy).mpr (Or.inl hz1))]; done) | (rw [bz_t ((anL_snoc hy).mpr (Or.inr ⟨by omega, by omega⟩))]; done) | (rw [bz_f (fun q => ((anL_snoc hy).mp q).elim hz1 (fun q2 => by omega))]; done))
  exact lp (L.length + 1) 0 (by omega) (by omega)

set_option maxRecDepth 100000 in
set_option maxHeartbeats 4000000 in
theorem c_X7_isGood (l : Launch) (hl : l.stackTraces = false) (D : gD) {w0 w : wW} {τ ad : Nat → Nat} {F : Nat → Nat → Int} {dn op sh la : Int} {σ : Sg} {k : Int} (hM : MdR D w0 w τ ad F dn op sh la := by assumption) (hS : SgOK σ) (hV : MdV σ F dn op) (hI9 : itOK σ) (hk : 0 ≤ k ∧ k ≤ 119) : CTm l D yX7_isGood cX7_isGood 3 (some .boolean) (rmL 4 0 0) [.ref (ad 5000), .int (Z32 k)] w (fun u w1 => u = some (.int (Z32 (bz (goodb (sT σ) k = true)))) ∧ ∃ F1 sh1, MdR D w0 w1 τ ad F1 dn op sh1 la ∧ ∀ z, z ≤ 13 → F1 z = F z) := by
  refine CTm_of hl false rfl (by rfl) (Nat.le_of_ble_eq_true rfl) (fun h => nomatch h) ?_
  intro G C
  show G 0 0 w [some (.ref (ad 5000)), some (.int (Z32 k)), none] 0 []
  refine i_aload_n C dX7_isGood_0 (kk := ?_)
  refine i_iload_n C dX7_isGood_1 (kk := ?_)
  refine i_bipush C dX7_isGood_2 (kk := ?_)
  refine i_idiv C dX7_isGood_4 (kk := ?_)
  obtain ⟨q, hq⟩ : ∃ q : Nat, k / 10 = (q : Int) := ⟨(k / 10).toNat, by omega⟩
  rw [hq]
  have hq12 : q < 12 := by omega
  have hsr := stN_R hS.dx.1 4 q hq12
  have hgd : goodb (sT σ) k = if stT (sT σ) q = -1 then false else ancb (k % 10) (sprT (sT σ) (stT (sT σ) q).toNat) := by unfold goodb; rw [hq, Int.toNat_natCast]
  have hsr2 : stT (sT σ) q = -1 ∨ (0 ≤ stT (sT σ) q ∧ stT (sT σ) q < 12) := hsr
  refine i_callV C lk_X7_151 (c_X7_stands l hl D (hM := hM) (p := q) hS hV hq12) (hcl := rfl) (hst := rfl) dX7_isGood_5 (hw := hM.obj) (kk := fun v5 w5 g5 => ?_)
  obtain ⟨rfl, q5⟩ := g5
  have q5 := q5.symm
  subst q5
  refine i_istore_n C dX7_isGood_8 (kk := ?_)
  refine i_iload_n C dX7_isGood_9 (kk := ?_)
  refine i_iconst C dX7_isGood_10 (kk := ?_)
  refine i_icmp_eq C dX7_isGood_11 (tgt := 30) (kt := fun hB11 => ?_) (kf := fun hB11 => ?_)
  · have hno : ¬ goodb (sT σ) k = true := by rw [hgd, if_pos (by omega)]; decide
    have er0 : ∀ z, z ≤ 13 → F z = F z := fun _ _ => rfl
    refine i_iconst C dX7_isGood_30 (kk := ?_)
    exact i_zret C (d := dX7_isGood_31) (ha := by first | exact Or.inl rfl | exact Or.inr rfl) (h := by first | exact ⟨by rw [bz_t hys], _, _, hM, er0⟩ | exact ⟨by rw [bz_f hno], _, _, hM, er0⟩)
  · obtain ⟨p, hpe⟩ : ∃ p : Nat, stT (sT σ) q = (p : Int) := ⟨(stT (sT σ) q).toNat, by omega⟩
    have hp : p < 12 := by omega
    rw [hpe, Int.toNat_natCast, if_neg (by omega), anL_anc] at hgd
    rw [hpe]
    refine i_aload_n C dX7_isGood_14 (kk := ?_)
    refine i_iload_n C dX7_isGood_15 (kk := ?_)
    refine i_iload_n C dX7_isGood_16 (kk := ?_)
    refine i_bipush C dX7_isGood_17 (kk := ?_)
    refine i_irem C dX7_isGood_19 (kk := ?_)
    refine i_callV C lk_X7_154 (c_X7_showsAnchor l hl D (hM := hM) (p := p) (x := k % 10) hS hV hI9 hp) (hcl := rfl) (hst := rfl) dX7_isGood_20 (hw := hM.obj) (kk := fun v20 w20 g20 => ?_)
    obtain ⟨rfl, F2, sh2, hM, er0⟩ := g20
    rw [← hgd]
    refine i_if_eq C dX7_isGood_23 (tgt := 30) (ha := by rcases bz_R (goodb (sT σ) k = true) with h | h <;> omega) (kt := fun hB23 => ?_) (kf := fun hB23 => ?_)
    · have hno := bz_z.mp hB23
      refine i_iconst C dX7_isGood_30 (kk := ?_)
      exact i_zret C (d := dX7_isGood_31) (ha := by first | exact Or.inl rfl | exact Or.inr rfl) (h := by first | exact ⟨by rw [bz_t hys], _, _, hM, er0⟩ | exact ⟨by rw [bz_f hno], _, _, hM, er0⟩)
    · have hys := bz_ne.mp hB23
      refine i_iconst C dX7_isGood_26 (kk := ?_)
      refine i_goto C dX7_isGood_27 (tgt := 31) (kk := ?_)
      exact i_zret C (d := dX7_isGood_31) (ha := by first | exact Or.inl rfl | exact Or.inr rfl) (h := by first | exact ⟨by rw [bz_t hys], _, _, hM, er0⟩ | exact ⟨by rw [bz_f hno], _, _, hM, er0⟩)

set_option maxRecDepth 100000 in
set_option maxHeartbeats 4000000 in
theorem c_X7_linkAt (l : Launch) (hl : l.stackTraces = false) (D : gD) {w0 w : wW} {τ ad : Nat → Nat} {F : Nat → Nat → Int} {dn op sh la : Int} {σ : Sg} {p n : Nat} (hM : MdR D w0 w τ ad F dn op sh la := by assumption) (hS : SgOK σ) (hV : MdV σ F dn op) (hI9 : itOK σ) (hp : p < 12) (hn : n ≤ 200) : CTm l D yX7_linkAt cX7_linkAt 5 (some .int) (rmL 3 0 0) [.ref (ad 5000), .int (Z32 (p : Int)), .int (Z32 (n : Int))] w (fun u w1 => u = some (.int (Z32 ((lkL (shl (-1) (sprT (sT σ) p))).getD n (-1)))) ∧ ∃ F1 sh1, MdR D w0 w1 τ ad F1 dn op sh1 la ∧ ∀ z, z ≤ 13 → F1 z = F z) := by
  refine CTm_of hl false rfl (by rfl) (Nat.le_of_ble_eq_true rfl) (fun h => nomatch h) ?_
  intro G C
  show G 0 0 w [some (.ref (ad 5000)), some (.int (Z32 (p : Int))), some (.int (Z32 (n : Int))), none, none] 0 []
  refine i_iconst C dX7_linkAt_0 (kk := ?_)
  refine i_istore_n C dX7_linkAt_1 (kk := ?_)
  refine i_aload_n C dX7_linkAt_2 (kk := ?_)
  refine i_iload_n C dX7_linkAt_3 (kk := ?_)
  refine i_iconst C dX7_linkAt_4 (kk := ?_)
  refine i_callV C lk_X7_142 (c_X7_lays l hl D (hM := hM) (p0 := p) (g0 := -1) hS hV hp ⟨by decide, by decide⟩) (hcl := rfl) (hst := rfl) dX7_linkAt_5 (hw := hM.obj) (kk := fun v5 w5 g5 => ?_)
  obtain ⟨rfl, F2, hM, er2, hs2⟩ := g5
  have h100 := shl_le hS hp (-1)
  obtain ⟨L, hL⟩ : ∃ L, L = (shl (-1) (sprT (sT σ) p)) := ⟨_, rfl⟩
  rw [← hL] at hM hs2 h100
  refine i_iconst C dX7_linkAt_8 (kk := ?_)
  refine i_istore C dX7_linkAt_9 (kk := ?_)
  have lp : ∀ (m k : Nat), L.length + 1 ≤ m + k → k ≤ L.length → (lkL (L.take k)).length ≤ n → G 0 0 w5 [some (.ref (ad 5000)), some (.int (Z32 (p : Int))), some (.int (Z32 (n : Int))), some (.int (Z32 ((lkL (L.take k)).length : Int))), some (.int (Z32 (k : Int)))] 11 [] := by
    intro m
    induction m with
    | zero => intro k h1 h2; omega
    | succ m ih =>
    intro k h1 h2 hcn
    refine i_iload C dX7_linkAt_11 (kk := ?_)
    refine i_aload_n C dX7_linkAt_13 (kk := ?_)
    refine i_getf C f_X7_131 dX7_linkAt_14 (hw := hM.obj) (kk := ?_)
    have hl1 := lkL_le (L.take k)
    rw [List.length_take] at hl1
    refine i_icmp_ge C dX7_linkAt_17 (tgt := 53) (kt := fun hB17 => ?_) (kf := fun hB17 => ?_)
    · have hkl : k = L.length := by omega
      refine i_iconst C dX7_linkAt_53 (kk := ?_)
      exact i_iret C (d := dX7_linkAt_54) (h := ⟨by rw [← hL, List.getD_eq_getElem?_getD, List.getElem?_eq_none_iff.mpr (by rw [hkl, List.take_length] at hcn; exact hcn)]; rfl, F2, _, hM, er2⟩)
    · obtain ⟨y, hy⟩ := get_lt (L := L) (k := k) (by omega)
      have hyv := hs2 k y hy
      have hyR := shown_R hI9 hp (i := k) (x := y) (by rw [← hL]; exact hy)
      refine i_aload_n C dX7_linkAt_20 (kk := ?_)
      refine i_getf C f_X7_46 dX7_linkAt_21 (hw := hM.obj) (kk := ?_)
      refine i_iload C dX7_linkAt_24 (kk := ?_)
      refine m_ial C hM 14 (k) (N := 128) dX7_linkAt_26 (kk := ?_)
      rw [hyv.1]
      refine i_iconst C dX7_linkAt_27 (kk := ?_)
      refine i_icmp_ne C dX7_linkAt_28 (tgt := 47) (kt := fun hB28 => ?_) (kf := fun hB28 => ?_)
      · have hlk : lkL (L.take (k + 1)) = lkL (L.take k) := by rw [take_snoc hy, lkL_app, lkL_no (by omega), List.append_nil]
        refine i_iinc C dX7_linkAt_47 (kk := ?_)
        refine i_goto C dX7_linkAt_50 (tgt := 11) (kk := ?_)
        first | (have i9 := ih (k + 1) (by omega) (by omega) (by rw [hlk]; exact hcn); rw [hlk] at i9; exact i9) | (rw [show ((lkL (L.take k)).length : Int) + 1 = ((lkL (L.take (k + 1))).length : Int) by omega]; exact ih (k + 1) (by omega) (by omega) (by omega))
      · have hlk : (lkL (L.take (k + 1))).length = (lkL (L.take k)).length + 1 := by rw [take_snoc hy, lkL_app, lkL_yes (by omega), List.length_append]; rfl
        refine i_iload_n C dX7_linkAt_31 (kk := ?_)
        refine i_iload_n C dX7_linkAt_32 (kk := ?_)
        refine i_icmp_ne C dX7_linkAt_33 (tgt := 44) (kt := fun hB33 => ?_) (kf := fun hB33 => ?_)
        · refine i_iinc C dX7_linkAt_44 (kk := ?_)
          refine i_iinc C dX7_linkAt_47 (kk := ?_)
          refine i_goto C dX7_linkAt_50 (tgt := 11) (kk := ?_)
          first | (have i9 := ih (k + 1) (by omega) (by omega) (by rw [hlk]; exact hcn); rw [hlk] at i9; exact i9) | (rw [show ((lkL (L.take k)).length : Int) + 1 = ((lkL (L.take (k + 1))).length : Int) by omega]; exact ih (k + 1) (by omega) (by omega) (by omega))
        · have hne : (lkL (L.take k)).length = n := by omega
          refine i_aload_n C dX7_linkAt_36 (kk := ?_)
          refine i_getf C f_X7_49 dX7_linkAt_37 (hw := hM.obj) (kk := ?_)
          refine i_iload C dX7_linkAt_40 (kk := ?_)
          refine m_ial C hM 15 (k) (N := 128) dX7_linkAt_42 (kk := ?_)
          rw [hyv.2.1]
          exact i_iret C (d := dX7_linkAt_43) (h := ⟨by rw [← hL, ← hne, lkL_get hy (by omega)], F2, _, hM, er2⟩)
  exact lp (L.length + 1) 0 (by omega) (by omega) (Nat.zero_le _)

set_option maxRecDepth 100000 in
set_option maxHeartbeats 4000000 in
theorem c_X7_breachesOf (l : Launch) (hl : l.stackTraces = false) (D : gD) {w0 w : wW} {τ ad : Nat → Nat} {F : Nat → Nat → Int} {dn op sh la : Int} {σ : Sg} {p : Nat} (hM : MdR D w0 w τ ad F dn op sh la := by assumption) (hS : SgOK σ) (hV : MdV σ F dn op) (hI9 : itOK σ) (hp : p < 12) : CTm l D yX7_breachesOf cX7_breachesOf 4 (some .int) (rmL 3 0 0) [.ref (ad 5000), .int (Z32 (p : Int))] w (fun u w1 => u = some (.int (Z32 (brc σ p : Int))) ∧ ∃ F1 sh1, MdR D w0 w1 τ ad F1 dn op sh1 la ∧ ∀ z, z ≤ 13 → F1 z = F z) := by
  refine CTm_of hl false rfl (by rfl) (Nat.le_of_ble_eq_true rfl) (fun h => nomatch h) ?_
  intro G C
  show G 0 0 w [some (.ref (ad 5000)), some (.int (Z32 (p : Int))), none, none] 0 []
  refine i_iconst C dX7_breachesOf_0 (kk := ?_)
  refine i_istore_n C dX7_breachesOf_1 (kk := ?_)
  refine i_aload_n C dX7_breachesOf_2 (kk := ?_)
  refine i_iload_n C dX7_breachesOf_3 (kk := ?_)
  refine i_iconst C dX7_breachesOf_4 (kk := ?_)
  refine i_callV C lk_X7_142 (c_X7_lays l hl D (hM := hM) (p0 := p) (g0 := -1) hS hV hp ⟨by decide, by decide⟩) (hcl := rfl) (hst := rfl) dX7_breachesOf_5 (hw := hM.obj) (kk := fun v5 w5 g5 => ?_)
  obtain ⟨rfl, F2, hM, er2, hs2⟩ := g5
  have h100 := shl_le hS hp (-1)
  obtain ⟨L, hL⟩ : ∃ L, L = (shl (-1) (sprT (sT σ) p)) := ⟨_, rfl⟩
  rw [← hL] at hM hs2 h100
  refine i_iconst C dX7_breachesOf_8 (kk := ?_)
  refine i_istore_n C dX7_breachesOf_9 (kk := ?_)
  have lp : ∀ (m k : Nat), L.length + 1 ≤ m + k → k ≤ L.length → G 0 0 w5 [some (.ref (ad 5000)), some (.int (Z32 (p : Int))), some (.int (Z32 (brL σ p (L.take k) : Int))), some (.int (Z32 (k : Int)))] 10 [] := by
    intro m
    induction m with
    | zero => intro k h1 h2; omega
    | succ m ih =>
    intro k h1 h2
    refine i_iload_n C dX7_breachesOf_10 (kk := ?_)
    refine i_aload_n C dX7_breachesOf_11 (kk := ?_)
    refine i_getf C f_X7_131 dX7_breachesOf_12 (hw := hM.obj) (kk := ?_)
    have hl1 := brL_le (σ := σ) (p := p) (L.take k)
    rw [List.length_take] at hl1
    refine i_icmp_ge C dX7_breachesOf_15 (tgt := 56) (kt := fun hB15 => ?_) (kf := fun hB15 => ?_)
    · have hkl : k = L.length := by omega
      refine i_iload_n C dX7_breachesOf_56 (kk := ?_)
      exact i_iret C (d := dX7_breachesOf_57) (h := ⟨by unfold brc; rw [brL_cnt, ← hL, hkl, List.take_length], F2, _, hM, er2⟩)
    · obtain ⟨y, hy⟩ := get_lt (L := L) (k := k) (by omega)
      have hyv := hs2 k y hy
      have hyR := shown_R hI9 hp (i := k) (x := y) (by rw [← hL]; exact hy)
      have hV2 := hV.congr (F' := F2) (fun z hz => er2 z (by omega))
      obtain ⟨s, hs9⟩ : ∃ s : Nat, y.2.2 = (s : Int) := ⟨y.2.2.toNat, by omega⟩
      have hs12 : s < 12 := by omega
      have h20 := (hS.2.1 s hs12).1
      have hrk := ((hS.2.1 s hs12).2.2.2.2.2 _ (Nat.le_refl _)).2.2
      have hlk := (hS.2.1 p hp).2.1
      refine i_iload_n C dX7_breachesOf_18 (kk := ?_)
      refine i_aload_n C dX7_breachesOf_19 (kk := ?_)
      refine i_getf C f_X7_19 dX7_breachesOf_20 (hw := hM.obj) (kk := ?_)
      refine i_aload_n C dX7_breachesOf_23 (kk := ?_)
      refine i_aload_n C dX7_breachesOf_24 (kk := ?_)
      refine i_getf C f_X7_52 dX7_breachesOf_25 (hw := hM.obj) (kk := ?_)
      refine i_iload_n C dX7_breachesOf_28 (kk := ?_)
      refine m_ial C hM 16 (k) (N := 128) dX7_breachesOf_29 (kk := ?_)
      rw [hyv.2.2, hs9]
      refine i_callV C lk_X7_97 (c_X7_now l hl D (hM := hM) (p := s) (v := sNv σ s) hs12 (hV2.2.2.2.1 s hs12).1 h20) (hcl := rfl) (hst := rfl) dX7_breachesOf_30 (hw := hM.obj) (kk := fun v30 w30 g30 => ?_)
      obtain ⟨rfl, q30⟩ := g30
      have q30 := q30.symm
      subst q30
      refine m_ial C hM 5 (21 * s + sNv σ s) (N := 252) dX7_breachesOf_33 (kk := ?_)
      rw [((hV2.2.2.2.1 s hs12).2.2 _ (Nat.le_refl _)).2.1]
      refine i_aload_n C dX7_breachesOf_34 (kk := ?_)
      refine i_getf C f_X7_25 dX7_breachesOf_35 (hw := hM.obj) (kk := ?_)
      refine i_iload_n C dX7_breachesOf_38 (kk := ?_)
      refine m_ial C hM 7 (p) (N := 12) dX7_breachesOf_39 (kk := ?_)
      rw [(hV2.2.2.2.1 p hp).2.1]
      have jn : ∀ z : Int, (brL σ p (L.take k) : Int) + z = (brL σ p (L.take (k + 1)) : Int) → G 0 0 w5 [some (.ref (ad 5000)), some (.int (Z32 (p : Int))), some (.int (Z32 (brL σ p (L.take k) : Int))), some (.int (Z32 (k : Int)))] 48 [.int (Z32 z), .int (Z32 (brL σ p (L.take k) : Int))] := by
        intro z hz
        refine i_iadd C dX7_breachesOf_48 (kk := ?_)
        rw [hz]
        refine i_istore_n C dX7_breachesOf_49 (kk := ?_)
        refine i_iinc C dX7_breachesOf_50 (kk := ?_)
        refine i_goto C dX7_breachesOf_53 (tgt := 10) (kk := ?_)
        exact ih (k + 1) (by omega) (by omega)
      refine i_icmp_ge C dX7_breachesOf_40 (tgt := 47) (kt := fun hB40 => ?_) (kf := fun hB40 => ?_)
      · refine i_iconst C dX7_breachesOf_47 (kk := ?_)
        exact jn _ (by first | (rw [take_snoc hy, brL_app, brL_one, hs9, Int.toNat_natCast, if_pos (by omega)]; rfl) | (rw [take_snoc hy, brL_app, brL_one, hs9, Int.toNat_natCast, if_neg (by omega)]; rfl))
      · refine i_iconst C dX7_breachesOf_43 (kk := ?_)
        refine i_goto C dX7_breachesOf_44 (tgt := 48) (kk := ?_)
        exact jn _ (by first | (rw [take_snoc hy, brL_app, brL_one, hs9, Int.toNat_natCast, if_pos (by omega)]; rfl) | (rw [take_snoc hy, brL_app, brL_one, hs9, Int.toNat_natCast, if_neg (by omega)]; rfl))
  exact lp (L.length + 1) 0 (by omega) (by omega)

set_option maxRecDepth 100000 in
set_option maxHeartbeats 4000000 in
theorem c_X7_standsFor (l : Launch) (hl : l.stackTraces = false) (D : gD) {w0 w : wW} {τ ad : Nat → Nat} {σ : Sg} {la : Int} {i : Int} (hI : MdI D w0 w τ ad σ la := by assumption) (hI9 : itOK σ) (hi : inR i := by omega) : CTm l D yX7_standsFor cX7_standsFor 2 (some .int) (rmL 4 0 0) [.ref (ad 5000), .int (Z32 i)] w (fun u w1 => u = some (.int (Z32 (oStandsFor σ i).2.1)) ∧ MdJ D w0 w1 τ ad (oStandsFor σ i).2.2 (oStandsFor σ i).1) := by
  refine CTm_of hl false rfl (by rfl) (Nat.le_of_ble_eq_true rfl) (fun h => nomatch h) ?_
  intro G C
  show G 0 0 w [some (.ref (ad 5000)), some (.int (Z32 i))] 0 []
  obtain ⟨hS, F, dn, op, sh, hM, hV⟩ := hI
  refine i_aload_n C dX7_standsFor_0 (kk := ?_)
  refine i_iload_n C dX7_standsFor_1 (kk := ?_)
  refine i_callS C lk_X7_91 (c_X7_isPage l hl D (v := i)) (hst := rfl) dX7_standsFor_2 (kk := fun v2 w2 g2 => ?_)
  obtain ⟨rfl, q2⟩ := g2
  have q2 := q2.symm
  subst q2
  refine i_iconst C dX7_standsFor_5 (kk := ?_)
  refine i_iconst C dX7_standsFor_6 (kk := ?_)
  refine i_callV C lk_X7_83 (c_X7_goes l hl D (hM := hM) (a := bz (isPg i)) (b := 1) (c := 1) (by rcases bz_R (isPg i) with h | h <;> omega) (by decide) (by decide)) (hcl := rfl) (hst := rfl) dX7_standsFor_7 (hw := hM.obj) (kk := fun v7 w7 g7 => ?_)
  obtain ⟨rfl, hM⟩ := g7
  replace hM : MdR D w0 w7 τ ad F _ op sh (gol (bz (isPg i)) (bz (True)) (bz (True))) := hM
  show G _ _ _ _ _ (.int (Z32 (bz (gol (bz (isPg i)) (bz (True)) (bz (True)) = 0))) :: _)
  refine i_if_eq C dX7_standsFor_10 (tgt := 21) (ha := by rcases bz_R (gol (bz (isPg i)) (bz (True)) (bz (True)) = 0) with h | h <;> omega) (kt := fun hB10 => ?_) (kf := fun hB10 => ?_)
  · have hz : gol (bz (isPg i)) (bz (True)) (bz (True)) ≠ 0 := bz_z.mp hB10
    have e0 : oStandsFor σ i = (gol (bz (isPg i)) (bz (True)) (bz (True)), 0, σ) := op3_no hz
    refine i_iconst C dX7_standsFor_21 (kk := ?_)
    exact i_iret C (d := dX7_standsFor_22) (h := by first | (rw [e0]; exact ⟨rfl, F, _, _, _, hM, hV⟩) | (rw [e0]; exact ⟨rfl, _, _, _, _, hM, hV⟩))
  · have hz : gol (bz (isPg i)) (bz (True)) (bz (True)) = 0 := bz_ne.mp hB10
    obtain ⟨e0, pa, pb, pc3⟩ := op3_yes (σ := σ) (X := (0, stT (sT σ) i.toNat, σ)) hz
    have e0 : oStandsFor σ i = (0, stT (sT σ) i.toNat, σ) := e0
    rw [hz] at hM
    obtain ⟨p, hp, rfl⟩ : ∃ p : Nat, p < 12 ∧ i = (p : Int) := ⟨i.toNat, by omega, by omega⟩
    simp only [Int.toNat_natCast] at e0
    refine i_aload_n C dX7_standsFor_13 (kk := ?_)
    refine i_iload_n C dX7_standsFor_14 (kk := ?_)
    refine i_callV C lk_X7_151 (c_X7_stands l hl D (hM := hM) (p := p) hS hV hp) (hcl := rfl) (hst := rfl) dX7_standsFor_15 (hw := hM.obj) (kk := fun v15 w15 g15 => ?_)
    obtain ⟨rfl, q15⟩ := g15
    have q15 := q15.symm
    subst q15
    refine i_goto C dX7_standsFor_18 (tgt := 22) (kk := ?_)
    exact i_iret C (d := dX7_standsFor_22) (h := by first | (rw [e0]; exact ⟨rfl, F, _, _, _, hM, hV⟩) | (rw [e0]; exact ⟨rfl, _, _, _, _, hM, hV⟩))

set_option maxRecDepth 100000 in
set_option maxHeartbeats 4000000 in
theorem c_X7_breaches (l : Launch) (hl : l.stackTraces = false) (D : gD) {w0 w : wW} {τ ad : Nat → Nat} {σ : Sg} {la : Int} {i : Int} (hI : MdI D w0 w τ ad σ la := by assumption) (hI9 : itOK σ) (hi : inR i := by omega) : CTm l D yX7_breaches cX7_breaches 2 (some .int) (rmL 5 0 0) [.ref (ad 5000), .int (Z32 i)] w (fun u w1 => u = some (.int (Z32 (oBreaches σ i).2.1)) ∧ MdJ D w0 w1 τ ad (oBreaches σ i).2.2 (oBreaches σ i).1) := by
  refine CTm_of hl false rfl (by rfl) (Nat.le_of_ble_eq_true rfl) (fun h => nomatch h) ?_
  intro G C
  show G 0 0 w [some (.ref (ad 5000)), some (.int (Z32 i))] 0 []
  obtain ⟨hS, F, dn, op, sh, hM, hV⟩ := hI
  refine i_aload_n C dX7_breaches_0 (kk := ?_)
  refine i_iload_n C dX7_breaches_1 (kk := ?_)
  refine i_callS C lk_X7_91 (c_X7_isPage l hl D (v := i)) (hst := rfl) dX7_breaches_2 (kk := fun v2 w2 g2 => ?_)
  obtain ⟨rfl, q2⟩ := g2
  have q2 := q2.symm
  subst q2
  refine i_iconst C dX7_breaches_5 (kk := ?_)
  refine i_iconst C dX7_breaches_6 (kk := ?_)
  refine i_callV C lk_X7_83 (c_X7_goes l hl D (hM := hM) (a := bz (isPg i)) (b := 1) (c := 1) (by rcases bz_R (isPg i) with h | h <;> omega) (by decide) (by decide)) (hcl := rfl) (hst := rfl) dX7_breaches_7 (hw := hM.obj) (kk := fun v7 w7 g7 => ?_)
  obtain ⟨rfl, hM⟩ := g7
  replace hM : MdR D w0 w7 τ ad F _ op sh (gol (bz (isPg i)) (bz (True)) (bz (True))) := hM
  show G _ _ _ _ _ (.int (Z32 (bz (gol (bz (isPg i)) (bz (True)) (bz (True)) = 0))) :: _)
  refine i_if_eq C dX7_breaches_10 (tgt := 21) (ha := by rcases bz_R (gol (bz (isPg i)) (bz (True)) (bz (True)) = 0) with h | h <;> omega) (kt := fun hB10 => ?_) (kf := fun hB10 => ?_)
  · have hz : gol (bz (isPg i)) (bz (True)) (bz (True)) ≠ 0 := bz_z.mp hB10
    have e0 : oBreaches σ i = (gol (bz (isPg i)) (bz (True)) (bz (True)), 0, σ) := op3_no hz
    refine i_iconst C dX7_breaches_21 (kk := ?_)
    exact i_iret C (d := dX7_breaches_22) (h := by first | (rw [e0]; exact ⟨rfl, F, _, _, _, hM, hV⟩) | (rw [e0]; exact ⟨rfl, _, _, _, _, hM, hV2⟩))
  · have hz : gol (bz (isPg i)) (bz (True)) (bz (True)) = 0 := bz_ne.mp hB10
    obtain ⟨e0, pa, pb, pc3⟩ := op3_yes (σ := σ) (X := (0, (brc σ i.toNat : Int), σ)) hz
    have e0 : oBreaches σ i = (0, (brc σ i.toNat : Int), σ) := e0
    rw [hz] at hM
    obtain ⟨p, hp, rfl⟩ : ∃ p : Nat, p < 12 ∧ i = (p : Int) := ⟨i.toNat, by omega, by omega⟩
    simp only [Int.toNat_natCast] at e0
    refine i_aload_n C dX7_breaches_13 (kk := ?_)
    refine i_iload_n C dX7_breaches_14 (kk := ?_)
    refine i_callV C lk_X7_163 (c_X7_breachesOf l hl D (hM := hM) (p := p) hS hV hI9 hp) (hcl := rfl) (hst := rfl) dX7_breaches_15 (hw := hM.obj) (kk := fun v15 w15 g15 => ?_)
    obtain ⟨rfl, F2, sh2, hM, er2⟩ := g15
    have hV2 := hV.congr (F' := F2) (fun z hz => er2 z (by omega))
    refine i_goto C dX7_breaches_18 (tgt := 22) (kk := ?_)
    exact i_iret C (d := dX7_breaches_22) (h := by first | (rw [e0]; exact ⟨rfl, F, _, _, _, hM, hV⟩) | (rw [e0]; exact ⟨rfl, _, _, _, _, hM, hV2⟩))

set_option maxRecDepth 100000 in
set_option maxHeartbeats 4000000 in
theorem c_X7_links (l : Launch) (hl : l.stackTraces = false) (D : gD) {w0 w : wW} {τ ad : Nat → Nat} {σ : Sg} {la : Int} {i : Int} (hI : MdI D w0 w τ ad σ la := by assumption) (hI9 : itOK σ) (hi : inR i := by omega) : CTm l D yX7_links cX7_links 3 (some .int) (rmL 5 0 0) [.ref (ad 5000), .int (Z32 i)] w (fun u w1 => u = some (.int (Z32 (oLinks σ i).2.1)) ∧ MdJ D w0 w1 τ ad (oLinks σ i).2.2 (oLinks σ i).1) := by
  refine CTm_of hl false rfl (by rfl) (Nat.le_of_ble_eq_true rfl) (fun h => nomatch h) ?_
  intro G C
  show G 0 0 w [some (.ref (ad 5000)), some (.int (Z32 i)), none] 0 []
  obtain ⟨hS, F, dn, op, sh, hM, hV⟩ := hI
  refine i_aload_n C dX7_links_0 (kk := ?_)
  refine i_iload_n C dX7_links_1 (kk := ?_)
  refine i_callS C lk_X7_91 (c_X7_isPage l hl D (v := i)) (hst := rfl) dX7_links_2 (kk := fun v2 w2 g2 => ?_)
  obtain ⟨rfl, q2⟩ := g2
  have q2 := q2.symm
  subst q2
  refine i_iconst C dX7_links_5 (kk := ?_)
  refine i_iconst C dX7_links_6 (kk := ?_)
  refine i_callV C lk_X7_83 (c_X7_goes l hl D (hM := hM) (a := bz (isPg i)) (b := 1) (c := 1) (by rcases bz_R (isPg i) with h | h <;> omega) (by decide) (by decide)) (hcl := rfl) (hst := rfl) dX7_links_7 (hw := hM.obj) (kk := fun v7 w7 g7 => ?_)
  obtain ⟨rfl, hM⟩ := g7
  replace hM : MdR D w0 w7 τ ad F _ op sh (gol (bz (isPg i)) (bz (True)) (bz (True))) := hM
  show G _ _ _ _ _ (.int (Z32 (bz (gol (bz (isPg i)) (bz (True)) (bz (True)) = 0))) :: _)
  refine i_if_ne C dX7_links_10 (tgt := 15) (ha := by rcases bz_R (gol (bz (isPg i)) (bz (True)) (bz (True)) = 0) with h | h <;> omega) (kt := fun hB10 => ?_) (kf := fun hB10 => ?_)
  · have hz : gol (bz (isPg i)) (bz (True)) (bz (True)) = 0 := bz_ne.mp hB10
    obtain ⟨e0, pa, pb, pc3⟩ := op3_yes (σ := σ) (X := (0, (cnb isl (sprT (sT σ) i.toNat) : Int), σ)) hz
    have e0 : oLinks σ i = (0, (cnb isl (sprT (sT σ) i.toNat) : Int), σ) := e0
    rw [hz] at hM
    obtain ⟨p, hp, rfl⟩ : ∃ p : Nat, p < 12 ∧ i = (p : Int) := ⟨i.toNat, by omega, by omega⟩
    simp only [Int.toNat_natCast] at e0
    obtain ⟨M, hMM⟩ : ∃ M, M = lkL (shl (-1) (sprT (sT σ) p)) := ⟨_, rfl⟩
    have hMl : M.length ≤ 100 := by rw [hMM]; exact Nat.le_trans (lkL_le _) (shl_le hS hp _)
    have hMG := fun n => lkL_G hI9 hp n
    rw [← hMM] at hMG
    refine i_iconst C dX7_links_15 (kk := ?_)
    refine i_istore_n C dX7_links_16 (kk := ?_)
    have lp : ∀ (m n : Nat) (w1 : wW) (F1 : Nat → Nat → Int) (sh1 : Int), M.length + 1 ≤ m + n → n ≤ M.length → MdR D w0 w1 τ ad F1 dn op sh1 0 → (∀ z, z ≤ 13 → F1 z = F z) → G 0 0 w1 [some (.ref (ad 5000)), some (.int (Z32 (p : Int))), some (.int (Z32 (n : Int)))] 17 [] := by
      intro m
      induction m with
      | zero => intro n w1 F1 sh1 h1 h2; omega
      | succ m ih =>
      intro n w1 F1 sh1 h1 h2 hM er
      refine i_aload_n C dX7_links_17 (kk := ?_)
      refine i_iload_n C dX7_links_18 (kk := ?_)
      refine i_iload_n C dX7_links_19 (kk := ?_)
      have hV1 := hV.congr (F' := F1) (fun z hz => er z (by omega))
      refine i_callV C lk_X7_157 (c_X7_linkAt l hl D (hM := hM) (p := p) (n := n) hS hV1 hI9 hp (by omega)) (hcl := rfl) (hst := rfl) dX7_links_20 (hw := hM.obj) (kk := fun v20 w20 g20 => ?_)
      obtain ⟨rfl, F2, sh2, hM, er2'⟩ := g20
      have er2 : ∀ z, z ≤ 13 → F2 z = F z := fun z hz => (er2' z hz).trans (er z hz)
      rw [← hMM]
      have hG := hMG n
      refine i_iconst C dX7_links_23 (kk := ?_)
      refine i_icmp_eq C dX7_links_24 (tgt := 33) (kt := fun hB24 => ?_) (kf := fun hB24 => ?_)
      · have hnl : n = M.length := by omega
        refine i_iload_n C dX7_links_33 (kk := ?_)
        exact i_iret C (d := dX7_links_34) (h := by rw [e0, lkL_cnt, ← hMM]; exact ⟨by rw [hnl], _, _, _, _, hM, hV.congr (F' := F2) (fun z hz => er2 z (by omega))⟩)
      · have hnl : n < M.length := by omega
        refine i_iinc C dX7_links_27 (kk := ?_)
        refine i_goto C dX7_links_30 (tgt := 17) (kk := ?_)
        exact ih (n + 1) _ F2 sh2 (by omega) (by omega) hM er2
    exact lp (M.length + 1) 0 _ F sh (by omega) (by omega) hM (fun _ _ => rfl)
  · have hz : gol (bz (isPg i)) (bz (True)) (bz (True)) ≠ 0 := bz_z.mp hB10
    have e0 : oLinks σ i = (gol (bz (isPg i)) (bz (True)) (bz (True)), 0, σ) := op3_no hz
    refine i_iconst C dX7_links_13 (kk := ?_)
    exact i_iret C (d := dX7_links_14) (h := by rw [e0]; exact ⟨rfl, F, _, _, _, hM, hV⟩)

set_option maxRecDepth 100000 in
set_option maxHeartbeats 4000000 in
theorem c_X7_broken (l : Launch) (hl : l.stackTraces = false) (D : gD) {w0 w : wW} {τ ad : Nat → Nat} {σ : Sg} {la : Int} {i : Int} (hI : MdI D w0 w τ ad σ la := by assumption) (hI9 : itOK σ) (hi : inR i := by omega) : CTm l D yX7_broken cX7_broken 4 (some .int) (rmL 6 0 0) [.ref (ad 5000), .int (Z32 i)] w (fun u w1 => u = some (.int (Z32 (oBroken σ i).2.1)) ∧ MdJ D w0 w1 τ ad (oBroken σ i).2.2 (oBroken σ i).1) := by
  refine CTm_of hl false rfl (by rfl) (Nat.le_of_ble_eq_true rfl) (fun h => nomatch h) ?_
  intro G C
  show G 0 0 w [some (.ref (ad 5000)), some (.int (Z32 i)), none, none] 0 []
  obtain ⟨hS, F, dn, op, sh, hM, hV⟩ := hI
  refine i_aload_n C dX7_broken_0 (kk := ?_)
  refine i_iload_n C dX7_broken_1 (kk := ?_)
  refine i_callS C lk_X7_91 (c_X7_isPage l hl D (v := i)) (hst := rfl) dX7_broken_2 (kk := fun v2 w2 g2 => ?_)
  obtain ⟨rfl, q2⟩ := g2
  have q2 := q2.symm
  subst q2
  refine i_iconst C dX7_broken_5 (kk := ?_)
  refine i_iconst C dX7_broken_6 (kk := ?_)
  refine i_callV C lk_X7_83 (c_X7_goes l hl D (hM := hM) (a := bz (isPg i)) (b := 1) (c := 1) (by rcases bz_R (isPg i) with h | h <;> omega) (by decide) (by decide)) (hcl := rfl) (hst := rfl) dX7_broken_7 (hw := hM.obj) (kk := fun v7 w7 g7 => ?_)
  obtain ⟨rfl, hM⟩ := g7
  replace hM : MdR D w0 w7 τ ad F _ op sh (gol (bz (isPg i)) (bz (True)) (bz (True))) := hM
  show G _ _ _ _ _ (.int (Z32 (bz (gol (bz (isPg i)) (bz (True)) (bz (True)) = 0))) :: _)
  refine i_if_ne C dX7_broken_10 (tgt := 15) (ha := by rcases bz_R (gol (bz (isPg i)) (bz (True)) (bz (True)) = 0) with h | h <;> omega) (kt := fun hB10 => ?_) (kf := fun hB10 => ?_)
  · have hz : gol (bz (isPg i)) (bz (True)) (bz (True)) = 0 := bz_ne.mp hB10
    obtain ⟨e0, pa, pb, pc3⟩ := op3_yes (σ := σ) (X := (0, (cnb (badb (sT σ)) (sprT (sT σ) i.toNat) : Int), σ)) hz
    have e0 : oBroken σ i = (0, (cnb (badb (sT σ)) (sprT (sT σ) i.toNat) : Int), σ) := e0
    rw [hz] at hM
    obtain ⟨p, hp, rfl⟩ : ∃ p : Nat, p < 12 ∧ i = (p : Int) := ⟨i.toNat, by omega, by omega⟩
    simp only [Int.toNat_natCast] at e0
    obtain ⟨M, hMM⟩ : ∃ M, M = lkL (shl (-1) (sprT (sT σ) p)) := ⟨_, rfl⟩
    have hMl : M.length ≤ 100 := by rw [hMM]; exact Nat.le_trans (lkL_le _) (shl_le hS hp _)
    have hMG := fun n => lkL_G hI9 hp n
    rw [← hMM] at hMG
    refine i_iconst C dX7_broken_15 (kk := ?_)
    refine i_istore_n C dX7_broken_16 (kk := ?_)
    refine i_iconst C dX7_broken_17 (kk := ?_)
    refine i_istore_n C dX7_broken_18 (kk := ?_)
    have lp : ∀ (m n : Nat) (w1 : wW) (F1 : Nat → Nat → Int) (sh1 : Int), M.length + 1 ≤ m + n → n ≤ M.length → MdR D w0 w1 τ ad F1 dn op sh1 0 → (∀ z, z ≤ 13 → F1 z = F z) → G 0 0 w1 [some (.ref (ad 5000)), some (.int (Z32 (p : Int))), some (.int (Z32 (badN (sT σ) (M.take n) : Int))), some (.int (Z32 (n : Int)))] 19 [] := by
      intro m
      induction m with
      | zero => intro n w1 F1 sh1 h1 h2; omega
      | succ m ih =>
      intro n w1 F1 sh1 h1 h2 hM er
      refine i_aload_n C dX7_broken_19 (kk := ?_)
      refine i_iload_n C dX7_broken_20 (kk := ?_)
      refine i_iload_n C dX7_broken_21 (kk := ?_)
      have hV1 := hV.congr (F' := F1) (fun z hz => er z (by omega))
      refine i_callV C lk_X7_157 (c_X7_linkAt l hl D (hM := hM) (p := p) (n := n) hS hV1 hI9 hp (by omega)) (hcl := rfl) (hst := rfl) dX7_broken_22 (hw := hM.obj) (kk := fun v22 w22 g22 => ?_)
      obtain ⟨rfl, F2, sh2, hM, er2'⟩ := g22
      have er2 : ∀ z, z ≤ 13 → F2 z = F z := fun z hz => (er2' z hz).trans (er z hz)
      rw [← hMM]
      have hG := hMG n
      refine i_iconst C dX7_broken_25 (kk := ?_)
      have hb9 := badN_le (T := sT σ) (M.take n)
      rw [List.length_take] at hb9
      refine i_icmp_eq C dX7_broken_26 (tgt := 56) (kt := fun hB26 => ?_) (kf := fun hB26 => ?_)
      · have hnl : n = M.length := by omega
        refine i_iload_n C dX7_broken_56 (kk := ?_)
        exact i_iret C (d := dX7_broken_57) (h := by rw [e0, badN_cnt, ← hMM]; exact ⟨by rw [hnl, List.take_length], _, _, _, _, hM, hV.congr (F' := F2) (fun z hz => er2 z (by omega))⟩)
      · have hnl : n < M.length := by omega
        refine i_iload_n C dX7_broken_29 (kk := ?_)
        refine i_aload_n C dX7_broken_30 (kk := ?_)
        refine i_aload_n C dX7_broken_31 (kk := ?_)
        refine i_iload_n C dX7_broken_32 (kk := ?_)
        refine i_iload_n C dX7_broken_33 (kk := ?_)
        have hV1 := hV.congr (F' := F2) (fun z hz => er2 z (by omega))
        refine i_callV C lk_X7_157 (c_X7_linkAt l hl D (hM := hM) (p := p) (n := n) hS hV1 hI9 hp (by omega)) (hcl := rfl) (hst := rfl) dX7_broken_34 (hw := hM.obj) (kk := fun v34 w34 g34 => ?_)
        obtain ⟨rfl, F2, sh2, hM, er2'⟩ := g34
        have er2 : ∀ z, z ≤ 13 → F2 z = F z := fun z hz => (er2' z hz).trans (er2 z hz)
        rw [← hMM]
        have hG := hMG n
        have hV1 := hV.congr (F' := F2) (fun z hz => er2 z (by omega))
        refine i_callV C lk_X7_160 (c_X7_isGood l hl D (hM := hM) (k := M.getD n (-1)) hS hV1 hI9 (by omega)) (hcl := rfl) (hst := rfl) dX7_broken_37 (hw := hM.obj) (kk := fun v37 w37 g37 => ?_)
        obtain ⟨rfl, F3, sh3, hM, er3'⟩ := g37
        have er3 : ∀ z, z ≤ 13 → F3 z = F z := fun z hz => (er3' z hz).trans (er2 z hz)
        have jn : ∀ z : Int, (badN (sT σ) (M.take n) : Int) + z = (badN (sT σ) (M.take (n + 1)) : Int) → G 0 0 w37 [some (.ref (ad 5000)), some (.int (Z32 (p : Int))), some (.int (Z32 (badN (sT σ) (M.take n) : Int))), some (.int (Z32 (n : Int)))] 48 [.int (Z32 z), .int (Z32 (badN (sT σ) (M.take n) : Int))] := by
          intro z hz
          refine i_iadd C dX7_broken_48 (kk := ?_)
          rw [hz]
          refine i_istore_n C dX7_broken_49 (kk := ?_)
          refine i_iinc C dX7_broken_50 (kk := ?_)
          refine i_goto C dX7_broken_53 (tgt := 19) (kk := ?_)
          exact ih (n + 1) _ F3 sh3 (by omega) (by omega) hM er3
        refine i_if_eq C dX7_broken_40 (tgt := 47) (ha := by rcases bz_R (goodb (sT σ) (M.getD n (-1)) = true) with h | h <;> omega) (kt := fun hB40 => ?_) (kf := fun hB40 => ?_)
        · have hz1 := bz_z.mp hB40
          refine i_iconst C dX7_broken_47 (kk := ?_)
          exact jn _ (by first | (rw [badN_take hnl, if_pos hz1]; rfl) | (rw [badN_take hnl, if_neg hz1]; rfl))
        · have hz1 := bz_ne.mp hB40
          refine i_iconst C dX7_broken_43 (kk := ?_)
          refine i_goto C dX7_broken_44 (tgt := 48) (kk := ?_)
          exact jn _ (by first | (rw [badN_take hnl, if_pos hz1]; rfl) | (rw [badN_take hnl, if_neg hz1]; rfl))
    exact lp (M.length + 1) 0 _ F sh (by omega) (by omega) hM (fun _ _ => rfl)
  · have hz : gol (bz (isPg i)) (bz (True)) (bz (True)) ≠ 0 := bz_z.mp hB10
    have e0 : oBroken σ i = (gol (bz (isPg i)) (bz (True)) (bz (True)), 0, σ) := op3_no hz
    refine i_iconst C dX7_broken_13 (kk := ?_)
    exact i_iret C (d := dX7_broken_14) (h := by rw [e0]; exact ⟨rfl, F, _, _, _, hM, hV⟩)

set_option maxRecDepth 100000 in
set_option maxHeartbeats 4000000 in
theorem c_X7_firstBroken (l : Launch) (hl : l.stackTraces = false) (D : gD) {w0 w : wW} {τ ad : Nat → Nat} {σ : Sg} {la : Int} {i : Int} (hI : MdI D w0 w τ ad σ la := by assumption) (hI9 : itOK σ) (hi : inR i := by omega) : CTm l D yX7_firstBroken cX7_firstBroken 3 (some .int) (rmL 6 0 0) [.ref (ad 5000), .int (Z32 i)] w (fun u w1 => u = some (.int (Z32 (oFirstBroken σ i).2.1)) ∧ MdJ D w0 w1 τ ad (oFirstBroken σ i).2.2 (oFirstBroken σ i).1) := by
  refine CTm_of hl false rfl (by rfl) (Nat.le_of_ble_eq_true rfl) (fun h => nomatch h) ?_
  intro G C
  show G 0 0 w [some (.ref (ad 5000)), some (.int (Z32 i)), none] 0 []
  obtain ⟨hS, F, dn, op, sh, hM, hV⟩ := hI
  refine i_aload_n C dX7_firstBroken_0 (kk := ?_)
  refine i_iload_n C dX7_firstBroken_1 (kk := ?_)
  refine i_callS C lk_X7_91 (c_X7_isPage l hl D (v := i)) (hst := rfl) dX7_firstBroken_2 (kk := fun v2 w2 g2 => ?_)
  obtain ⟨rfl, q2⟩ := g2
  have q2 := q2.symm
  subst q2
  refine i_iconst C dX7_firstBroken_5 (kk := ?_)
  refine i_iconst C dX7_firstBroken_6 (kk := ?_)
  refine i_callV C lk_X7_83 (c_X7_goes l hl D (hM := hM) (a := bz (isPg i)) (b := 1) (c := 1) (by rcases bz_R (isPg i) with h | h <;> omega) (by decide) (by decide)) (hcl := rfl) (hst := rfl) dX7_firstBroken_7 (hw := hM.obj) (kk := fun v7 w7 g7 => ?_)
  obtain ⟨rfl, hM⟩ := g7
  replace hM : MdR D w0 w7 τ ad F _ op sh (gol (bz (isPg i)) (bz (True)) (bz (True))) := hM
  show G _ _ _ _ _ (.int (Z32 (bz (gol (bz (isPg i)) (bz (True)) (bz (True)) = 0))) :: _)
  refine i_if_ne C dX7_firstBroken_10 (tgt := 15) (ha := by rcases bz_R (gol (bz (isPg i)) (bz (True)) (bz (True)) = 0) with h | h <;> omega) (kt := fun hB10 => ?_) (kf := fun hB10 => ?_)
  · have hz : gol (bz (isPg i)) (bz (True)) (bz (True)) = 0 := bz_ne.mp hB10
    obtain ⟨e0, pa, pb, pc3⟩ := op3_yes (σ := σ) (X := (0, fbk (sT σ) (sprT (sT σ) i.toNat), σ)) hz
    have e0 : oFirstBroken σ i = (0, fbk (sT σ) (sprT (sT σ) i.toNat), σ) := e0
    rw [hz] at hM
    obtain ⟨p, hp, rfl⟩ : ∃ p : Nat, p < 12 ∧ i = (p : Int) := ⟨i.toNat, by omega, by omega⟩
    simp only [Int.toNat_natCast] at e0
    obtain ⟨M, hMM⟩ : ∃ M, M = lkL (shl (-1) (sprT (sT σ) p)) := ⟨_, rfl⟩
    have hMl : M.length ≤ 100 := by rw [hMM]; exact Nat.le_trans (lkL_le _) (shl_le hS hp _)
    have hMG := fun n => lkL_G hI9 hp n
    rw [← hMM] at hMG
    refine i_iconst C dX7_firstBroken_15 (kk := ?_)
    refine i_istore_n C dX7_firstBroken_16 (kk := ?_)
    have lp : ∀ (m n : Nat) (w1 : wW) (F1 : Nat → Nat → Int) (sh1 : Int), M.length + 1 ≤ m + n → n ≤ M.length → fbL (sT σ) M = fbL (sT σ) (M.drop n) → MdR D w0 w1 τ ad F1 dn op sh1 0 → (∀ z, z ≤ 13 → F1 z = F z) → G 0 0 w1 [some (.ref (ad 5000)), some (.int (Z32 (p : Int))), some (.int (Z32 (n : Int)))] 17 [] := by
      intro m
      induction m with
      | zero => intro n w1 F1 sh1 h1 h2; omega
      | succ m ih =>
      intro n w1 F1 sh1 h1 h2 hfb hM er
      refine i_aload_n C dX7_firstBroken_17 (kk := ?_)
      refine i_iload_n C dX7_firstBroken_18 (kk := ?_)
      refine i_iload_n C dX7_firstBroken_19 (kk := ?_)
      have hV1 := hV.congr (F' := F1) (fun z hz => er z (by omega))
      refine i_callV C lk_X7_157 (c_X7_linkAt l hl D (hM := hM) (p := p) (n := n) hS hV1 hI9 hp (by omega)) (hcl := rfl) (hst := rfl) dX7_firstBroken_20 (hw := hM.obj) (kk := fun v20 w20 g20 => ?_)
      obtain ⟨rfl, F2, sh2, hM, er2'⟩ := g20
      have er2 : ∀ z, z ≤ 13 → F2 z = F z := fun z hz => (er2' z hz).trans (er z hz)
      rw [← hMM]
      have hG := hMG n
      refine i_iconst C dX7_firstBroken_23 (kk := ?_)
      refine i_icmp_eq C dX7_firstBroken_24 (tgt := 46) (kt := fun hB24 => ?_) (kf := fun hB24 => ?_)
      · have hnl : n = M.length := by omega
        have hfin : fbL (sT σ) M = M.getD n (-1) := by rw [hfb, hG.1.mpr (by omega), List.drop_of_length_le (by omega)]; rfl
        refine i_aload_n C dX7_firstBroken_46 (kk := ?_)
        refine i_iload_n C dX7_firstBroken_47 (kk := ?_)
        refine i_iload_n C dX7_firstBroken_48 (kk := ?_)
        have hV1 := hV.congr (F' := F2) (fun z hz => er2 z (by omega))
        refine i_callV C lk_X7_157 (c_X7_linkAt l hl D (hM := hM) (p := p) (n := n) hS hV1 hI9 hp (by omega)) (hcl := rfl) (hst := rfl) dX7_firstBroken_49 (hw := hM.obj) (kk := fun v49 w49 g49 => ?_)
        obtain ⟨rfl, F2, sh2, hM, er2'⟩ := g49
        have er2 : ∀ z, z ≤ 13 → F2 z = F z := fun z hz => (er2' z hz).trans (er2 z hz)
        rw [← hMM]
        have hG := hMG n
        exact i_iret C (d := dX7_firstBroken_52) (h := by rw [e0, fbL_fbk, ← hMM, hfin]; exact ⟨rfl, _, _, _, _, hM, hV.congr (F' := F2) (fun z hz => er2 z (by omega))⟩)
      · have hnl : n < M.length := by omega
        refine i_aload_n C dX7_firstBroken_27 (kk := ?_)
        refine i_aload_n C dX7_firstBroken_28 (kk := ?_)
        refine i_iload_n C dX7_firstBroken_29 (kk := ?_)
        refine i_iload_n C dX7_firstBroken_30 (kk := ?_)
        have hV1 := hV.congr (F' := F2) (fun z hz => er2 z (by omega))
        refine i_callV C lk_X7_157 (c_X7_linkAt l hl D (hM := hM) (p := p) (n := n) hS hV1 hI9 hp (by omega)) (hcl := rfl) (hst := rfl) dX7_firstBroken_31 (hw := hM.obj) (kk := fun v31 w31 g31 => ?_)
        obtain ⟨rfl, F2, sh2, hM, er2'⟩ := g31
        have er2 : ∀ z, z ≤ 13 → F2 z = F z := fun z hz => (er2' z hz).trans (er2 z hz)
        rw [← hMM]
        have hG := hMG n
        have hV1 := hV.congr (F' := F2) (fun z hz => er2 z (by omega))
        refine i_callV C lk_X7_160 (c_X7_isGood l hl D (hM := hM) (k := M.getD n (-1)) hS hV1 hI9 (by omega)) (hcl := rfl) (hst := rfl) dX7_firstBroken_34 (hw := hM.obj) (kk := fun v34 w34 g34 => ?_)
        obtain ⟨rfl, F3, sh3, hM, er3'⟩ := g34
        have er3 : ∀ z, z ≤ 13 → F3 z = F z := fun z hz => (er3' z hz).trans (er2 z hz)
        refine i_if_eq C dX7_firstBroken_37 (tgt := 46) (ha := by rcases bz_R (goodb (sT σ) (M.getD n (-1)) = true) with h | h <;> omega) (kt := fun hB37 => ?_) (kf := fun hB37 => ?_)
        · have hz1 := bz_z.mp hB37
          have hfin : fbL (sT σ) M = M.getD n (-1) := by rw [hfb, fbL_drop hnl, if_neg hz1]
          have er2 := er3
          refine i_aload_n C dX7_firstBroken_46 (kk := ?_)
          refine i_iload_n C dX7_firstBroken_47 (kk := ?_)
          refine i_iload_n C dX7_firstBroken_48 (kk := ?_)
          have hV1 := hV.congr (F' := F3) (fun z hz => er2 z (by omega))
          refine i_callV C lk_X7_157 (c_X7_linkAt l hl D (hM := hM) (p := p) (n := n) hS hV1 hI9 hp (by omega)) (hcl := rfl) (hst := rfl) dX7_firstBroken_49 (hw := hM.obj) (kk := fun v49 w49 g49 => ?_)
          obtain ⟨rfl, F2, sh2, hM, er2'⟩ := g49
          have er2 : ∀ z, z ≤ 13 → F2 z = F z := fun z hz => (er2' z hz).trans (er2 z hz)
          rw [← hMM]
          have hG := hMG n
          exact i_iret C (d := dX7_firstBroken_52) (h := by rw [e0, fbL_fbk, ← hMM, hfin]; exact ⟨rfl, _, _, _, _, hM, hV.congr (F' := F2) (fun z hz => er2 z (by omega))⟩)
        · have hz1 := bz_ne.mp hB37
          refine i_iinc C dX7_firstBroken_40 (kk := ?_)
          refine i_goto C dX7_firstBroken_43 (tgt := 17) (kk := ?_)
          exact ih (n + 1) _ F3 sh3 (by omega) (by omega) (by rw [hfb, fbL_drop hnl, if_pos hz1]) hM er3
    exact lp (M.length + 1) 0 _ F sh (by omega) (by omega) rfl hM (fun _ _ => rfl)
  · have hz : gol (bz (isPg i)) (bz (True)) (bz (True)) ≠ 0 := bz_z.mp hB10
    have e0 : oFirstBroken σ i = (gol (bz (isPg i)) (bz (True)) (bz (True)), 0, σ) := op3_no hz
    refine i_iconst C dX7_firstBroken_13 (kk := ?_)
    exact i_iret C (d := dX7_firstBroken_14) (h := by rw [e0]; exact ⟨rfl, F, _, _, _, hM, hV⟩)
