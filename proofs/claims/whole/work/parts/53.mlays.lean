def frm (t : Nat) (F2 F1 : Nat → Nat → Int) : Prop := ∀ j, j < t → F2 18 j = F1 18 j ∧ F2 19 j = F1 19 j ∧ F2 20 j = F1 20 j
theorem frm.trans {t : Nat} {F1 F2 F3 : Nat → Nat → Int} (h : frm t F3 F2) (h2 : frm t F2 F1) : frm t F3 F1 := fun j hj => ⟨(h j hj).1.trans (h2 j hj).1, (h j hj).2.1.trans (h2 j hj).2.1, (h j hj).2.2.trans (h2 j hj).2.2⟩
theorem frm.mono {t t' : Nat} {F2 F1 : Nat → Nat → Int} (h : frm t F2 F1) (ht : t' ≤ t) : frm t' F2 F1 := fun j hj => h j (by omega)
theorem shR_step {rec : Nat → Int → List Sh3} {p : Nat} {arg : Int} {ps : List Pc3} {z d d' : Nat} (h : z < ps.length) (hd : 0 < d) (e : (d' : Int) = d + dow (pcs ps z).1) : shR rec p arg d (ps.drop z) = shR rec p arg d' (ps.drop (z + 1)) := by
  rw [pcs_drop h]
  show (if (pcs ps z).1 = 6 ∧ (0 < d ∨ (pcs ps z).2.2 ≠ arg) then shR rec p arg (d + 1) (ps.drop (z + 1)) else if (pcs ps z).1 = 7 ∧ 0 < d then shR rec p arg (d - 1) (ps.drop (z + 1)) else if d = 0 then _ else shR rec p arg d (ps.drop (z + 1))) = _
  unfold dow at e
  by_cases z6 : (pcs ps z).1 = 6
  · rw [if_pos ⟨z6, Or.inl hd⟩]
    rw [if_pos z6] at e
    rw [show d' = d + 1 by omega]
  · rw [if_neg (fun y => z6 y.1)]
    rw [if_neg z6] at e
    by_cases z7 : (pcs ps z).1 = 7
    · rw [if_pos ⟨z7, hd⟩]
      rw [if_pos z7] at e
      rw [show d' = d - 1 by omega]
    · rw [if_neg (fun y => z7 y.1), if_neg (by omega)]
      rw [if_neg z7] at e
      rw [show d' = d by omega]
theorem shl_le {σ : Sg} (hS : SgOK σ) {p : Nat} (hp : p < 12) (g : Int) : (shl g (sprT (sT σ) p)).length ≤ 100 := by
  obtain ⟨d1, d2, d3⟩ := hS.dx
  have h1 := sprT_len d1 hS.acy hp (d2 p hp)
  have h2 := d3 p hp
  rw [shl_len]
  have h3 := shc_le g (sprT (sT σ) p)
  omega
theorem shl_RS {σ : Sg} (hS : SgOK σ) {p : Nat} (hp : p < 12) {g : Int} (hg : -1 ≤ g) : shl g (sprT (sT σ) p) = RS (sT σ) p g 0 := by
  obtain ⟨d1, d2, d3⟩ := hS.dx
  rw [shl_fix d1 hS.acy d2 hp (d3 p hp) hg]
  rfl
set_option maxRecDepth 100000 in
set_option maxHeartbeats 4000000 in
theorem c_X7_shows (l : Launch) (hl : l.stackTraces = false) (D : gD) {w0 w : wW} {τ ad : Nat → Nat} {F : Nat → Nat → Int} {n : Nat} {dn op la a b c : Int} (hM : MdR D w0 w τ ad F dn op (n : Int) la := by assumption) (hn : n < 128) : CTm l D yX7_shows cX7_shows 4 none (rmL 1 0 0) [.ref (ad 5000), .int (Z32 a), .int (Z32 b), .int (Z32 c)] w (fun u w1 => u = none ∧ ∃ F1, MdR D w0 w1 τ ad F1 dn op ((n + 1 : Nat) : Int) la ∧ F1 14 = upz (F 14) n a ∧ F1 15 = upz (F 15) n b ∧ F1 16 = upz (F 16) n c ∧ ∀ k, k ≠ 14 → k ≠ 15 → k ≠ 16 → F1 k = F k) := by
  refine CTm_of hl false rfl (by rfl) (Nat.le_of_ble_eq_true rfl) (fun h => nomatch h) ?_
  intro G C
  show G 0 0 w [some (.ref (ad 5000)), some (.int (Z32 a)), some (.int (Z32 b)), some (.int (Z32 c))] 0 []
  refine i_aload_n C dX7_shows_0 (kk := ?_)
  refine i_getf C f_X7_46 dX7_shows_1 (hw := hM.obj) (kk := ?_)
  refine i_aload_n C dX7_shows_4 (kk := ?_)
  refine i_getf C f_X7_131 dX7_shows_5 (hw := hM.obj) (kk := ?_)
  refine i_iload_n C dX7_shows_8 (kk := ?_)
  refine m_iasF C hM 14 (n) (N := 128) dX7_shows_9 (kk := fun w9 F9 hM u9 n9 => ?_)
  refine i_aload_n C dX7_shows_10 (kk := ?_)
  refine i_getf C f_X7_49 dX7_shows_11 (hw := hM.obj) (kk := ?_)
  refine i_aload_n C dX7_shows_14 (kk := ?_)
  refine i_getf C f_X7_131 dX7_shows_15 (hw := hM.obj) (kk := ?_)
  refine i_iload_n C dX7_shows_18 (kk := ?_)
  refine m_iasF C hM 15 (n) (N := 128) dX7_shows_19 (kk := fun w19 F19 hM u19 n19 => ?_)
  refine i_aload_n C dX7_shows_20 (kk := ?_)
  refine i_getf C f_X7_52 dX7_shows_21 (hw := hM.obj) (kk := ?_)
  refine i_aload_n C dX7_shows_24 (kk := ?_)
  refine i_getf C f_X7_131 dX7_shows_25 (hw := hM.obj) (kk := ?_)
  refine i_iload_n C dX7_shows_28 (kk := ?_)
  refine m_iasF C hM 16 (n) (N := 128) dX7_shows_29 (kk := fun w29 F29 hM u29 n29 => ?_)
  refine i_aload_n C dX7_shows_30 (kk := ?_)
  refine i_dup C dX7_shows_31 (kk := ?_)
  refine i_getf C f_X7_131 dX7_shows_32 (hw := hM.obj) (kk := ?_)
  refine i_iconst C dX7_shows_35 (kk := ?_)
  refine i_iadd C dX7_shows_36 (kk := ?_)
  refine m_put17 C hM dX7_shows_37 (kk := fun w37 hM => ?_)
  exact i_vret C (d := dX7_shows_40) (h := ⟨rfl, F29, hM, by rw [n29 14 (by decide), n19 14 (by decide), u9], by rw [n29 15 (by decide), u19, n9 15 (by decide)], by rw [u29, n19 16 (by decide), n9 16 (by decide)], fun k h1 h2 h3 => by rw [n29 k h3, n19 k h2, n9 k h1]⟩)

set_option maxRecDepth 100000 in
set_option maxHeartbeats 4000000 in
theorem c_X7_behind (l : Launch) (hl : l.stackTraces = false) (D : gD) {w0 w : wW} {τ ad : Nat → Nat} {F : Nat → Nat → Int} {dn op sh la : Int} {v i : Nat} {ps : List Pc3} (hM : MdR D w0 w τ ad F dn op sh la := by assumption) (hv : v < 252) (hps : ∀ j, j < ps.length → F 3 (30 * v + j) = enc (pcs ps j)) (hPV : ∀ q ∈ ps, PV q) (h30 : ps.length ≤ 30) (hOW : OWp ps) (ho : owc ps = 0) (hi : i < ps.length) (h6 : (pcs ps i).1 = 6) : CTm l D yX7_behind cX7_behind 6 (some .int) (rmL 1 0 0) [.ref (ad 5000), .int (Z32 (v : Int)), .int (Z32 (i : Int))] w (fun u w1 => (∃ j : Nat, i < j ∧ j ≤ ps.length ∧ (∀ (rec : Nat → Int → List Sh3) (p : Nat) (arg : Int), shR rec p arg 1 (ps.drop (i + 1)) = shR rec p arg 0 (ps.drop j)) ∧ u = some (.int (Z32 (j : Int)))) ∧ w1 = w) := by
  refine CTm_of hl false rfl (by rfl) (Nat.le_of_ble_eq_true rfl) (fun h => nomatch h) ?_
  intro G C
  show G 0 0 w [some (.ref (ad 5000)), some (.int (Z32 (v : Int))), some (.int (Z32 (i : Int))), none, none, none] 0 []
  refine i_iconst C dX7_behind_0 (kk := ?_)
  refine i_istore_n C dX7_behind_1 (kk := ?_)
  refine i_iload_n C dX7_behind_2 (kk := ?_)
  refine i_iconst C dX7_behind_3 (kk := ?_)
  refine i_iadd C dX7_behind_4 (kk := ?_)
  refine i_istore C dX7_behind_5 (kk := ?_)
  have lp : ∀ (m z : Nat) (d : Nat) (o5 : Option Value), ps.length + 1 ≤ m + z → z ≤ ps.length → i < z → (∀ (rec : Nat → Int → List Sh3) (p : Nat) (arg : Int), shR rec p arg 1 (ps.drop (i + 1)) = shR rec p arg d (ps.drop z)) → (d : Int) = 1 + owc (ps.take z) - owc (ps.take (i + 1)) → G 0 0 w [some (.ref (ad 5000)), some (.int (Z32 (v : Int))), some (.int (Z32 (i : Int))), some (.int (Z32 (d : Int))), some (.int (Z32 (z : Int))), o5] 7 [] := by
    intro m
    induction m with
    | zero => intro z d o5 h1 h2; omega
    | succ m ih =>
    intro z d o5 h1 h2 hiz hR hd
    refine i_iload_n C dX7_behind_7 (kk := ?_)
    have hdz := owc_le (ps.take z)
    rw [List.length_take] at hdz
    have ho1 := hOW i
    have ho2 := owc_take (ps := ps) (i := i) (by omega)
    rw [h6, show dow 6 = 1 from rfl] at ho2
    refine i_if_le C dX7_behind_8 (tgt := 59) (kt := fun hB8 => ?_) (kf := fun hB8 => ?_)
    · have hd0 : d = 0 := by omega
      subst hd0
      refine i_iload C dX7_behind_59 (kk := ?_)
      exact i_iret C (d := dX7_behind_61) (h := ⟨⟨z, hiz, h2, hR, rfl⟩, rfl⟩)
    · have hz : z < ps.length := by
        apply Decidable.byContradiction
        intro q
        have hz2 : z = ps.length := by omega
        rw [hz2, List.take_length, ho] at hd
        omega
      have hE := enc_R (hPV _ (pcs_mem hz))
      have hvR := (hPV _ (pcs_mem hz)).R
      have hK := kd_iff (s := (pcs ps z).1) ⟨by omega, by omega⟩
      have hdw := dow_le (pcs ps z).1
      refine i_aload_n C dX7_behind_11 (kk := ?_)
      refine i_getf C f_X7_13 dX7_behind_12 (hw := hM.obj) (kk := ?_)
      refine i_bipush C dX7_behind_15 (kk := ?_)
      refine i_iload_n C dX7_behind_17 (kk := ?_)
      refine i_imul C dX7_behind_18 (kk := ?_)
      refine i_iload C dX7_behind_19 (kk := ?_)
      refine i_iadd C dX7_behind_21 (kk := ?_)
      refine m_ial C hM 3 (30 * v + z) (N := 7560) dX7_behind_22 (kk := ?_)
      rw [hps z hz]
      refine i_sipush C dX7_behind_23 (kk := ?_)
      refine i_idiv C dX7_behind_26 (kk := ?_)
      rw [hE.2.2.1]
      refine i_istore C dX7_behind_27 (kk := ?_)
      refine i_iload_n C dX7_behind_29 (kk := ?_)
      refine i_iload C dX7_behind_30 (kk := ?_)
      refine i_iconst C dX7_behind_32 (kk := ?_)
      have jd : ∀ x : Int, x = dow (pcs ps z).1 → G 0 0 w [some (.ref (ad 5000)), some (.int (Z32 (v : Int))), some (.int (Z32 (i : Int))), some (.int (Z32 (d : Int))), some (.int (Z32 (z : Int))), some (.int (Z32 (kd (pcs ps z).1)))] 51 [.int (Z32 x), .int (Z32 (d : Int))] := by
        intro x hx
        refine i_iadd C dX7_behind_51 (kk := ?_)
        obtain ⟨d', hd'⟩ : ∃ d' : Nat, (d : Int) + x = (d' : Int) := ⟨((d : Int) + x).toNat, by omega⟩
        rw [hd']
        refine i_istore_n C dX7_behind_52 (kk := ?_)
        refine i_iinc C dX7_behind_53 (kk := ?_)
        refine i_goto C dX7_behind_56 (tgt := 7) (kk := ?_)
        exact ih (z + 1) d' _ (by omega) (by omega) (by omega) (fun rec p arg => by rw [hR, shR_step hz (by omega) (by rw [← hd', hx])]) (by rw [owc_take hz]; omega)
      refine i_icmp_ne C dX7_behind_33 (tgt := 40) (kt := fun hB33 => ?_) (kf := fun hB33 => ?_)
      · refine i_iload C dX7_behind_40 (kk := ?_)
        refine i_iconst C dX7_behind_42 (kk := ?_)
        refine i_icmp_ne C dX7_behind_43 (tgt := 50) (kt := fun hB43 => ?_) (kf := fun hB43 => ?_)
        · refine i_iconst C dX7_behind_50 (kk := ?_)
          exact jd _ (by unfold dow; first | (rw [if_pos (by omega)]; done) | (rw [if_neg (by omega), if_pos (by omega)]; done) | (rw [if_neg (by omega), if_neg (by omega)]; done))
        · refine i_iconst C dX7_behind_46 (kk := ?_)
          refine i_goto C dX7_behind_47 (tgt := 51) (kk := ?_)
          exact jd _ (by unfold dow; first | (rw [if_pos (by omega)]; done) | (rw [if_neg (by omega), if_pos (by omega)]; done) | (rw [if_neg (by omega), if_neg (by omega)]; done))
      · refine i_iconst C dX7_behind_36 (kk := ?_)
        refine i_goto C dX7_behind_37 (tgt := 51) (kk := ?_)
        exact jd _ (by unfold dow; first | (rw [if_pos (by omega)]; done) | (rw [if_neg (by omega), if_pos (by omega)]; done) | (rw [if_neg (by omega), if_neg (by omega)]; done))
  exact lp (ps.length + 1) (i + 1) 1 _ (by omega) (by omega) (by omega) (fun _ _ _ => rfl) (by omega)

set_option maxRecDepth 100000 in
set_option maxHeartbeats 4000000 in
theorem c_X7_lays (l : Launch) (hl : l.stackTraces = false) (D : gD) {w0 w : wW} {τ ad : Nat → Nat} {F : Nat → Nat → Int} {dn op sh la : Int} {σ : Sg} {p0 : Nat} {g0 : Int} (hM : MdR D w0 w τ ad F dn op sh la := by assumption) (hS : SgOK σ) (hV : MdV σ F dn op) (hp0 : p0 < 12) (hg0 : -1 ≤ g0 ∧ g0 ≤ 25) : CTm l D yX7_lays cX7_lays 10 none (rmL 2 0 0) [.ref (ad 5000), .int (Z32 (p0 : Int)), .int (Z32 g0)] w (fun u w1 => u = none ∧ ∃ F1, MdR D w0 w1 τ ad F1 dn op ((shl g0 (sprT (sT σ) p0)).length : Int) la ∧ (∀ k, k ≤ 13 → F1 k = F k) ∧ shown (shl g0 (sprT (sT σ) p0)) F1) := by
  refine CTm_of hl false rfl (by rfl) (Nat.le_of_ble_eq_true rfl) (fun h => nomatch h) ?_
  intro G C
  show G 0 0 w [some (.ref (ad 5000)), some (.int (Z32 (p0 : Int))), some (.int (Z32 g0)), none, none, none, none, none, none, none] 0 []
  refine i_iconst C dX7_lays_0 (kk := ?_)
  refine i_istore_n C dX7_lays_1 (kk := ?_)
  refine i_aload_n C dX7_lays_2 (kk := ?_)
  refine i_iconst C dX7_lays_3 (kk := ?_)
  refine m_put17 C hM dX7_lays_4 (kk := fun w4 hM => ?_)
  skip
  refine i_aload_n C dX7_lays_7 (kk := ?_)
  refine i_getf C f_X7_55 dX7_lays_8 (hw := hM.obj) (kk := ?_)
  refine i_iconst C dX7_lays_11 (kk := ?_)
  refine i_iload_n C dX7_lays_12 (kk := ?_)
  refine m_iasF C hM 18 (0) (N := 16) dX7_lays_13 (kk := fun w13 F13 hM u13 n13 => ?_)
  refine i_aload_n C dX7_lays_14 (kk := ?_)
  refine i_getf C f_X7_58 dX7_lays_15 (hw := hM.obj) (kk := ?_)
  refine i_iconst C dX7_lays_18 (kk := ?_)
  refine i_iconst C dX7_lays_19 (kk := ?_)
  refine m_iasF C hM 19 (0) (N := 16) dX7_lays_20 (kk := fun w20 F20 hM u20 n20 => ?_)
  refine i_aload_n C dX7_lays_21 (kk := ?_)
  refine i_getf C f_X7_61 dX7_lays_22 (hw := hM.obj) (kk := ?_)
  refine i_iconst C dX7_lays_25 (kk := ?_)
  refine i_iload_n C dX7_lays_26 (kk := ?_)
  refine m_iasF C hM 20 (0) (N := 16) dX7_lays_27 (kk := fun w27 F27 hM u27 n27 => ?_)
  have main : ∀ (n m t p i : Nat) (g : Int) (w1 : wW) (F1 : Nat → Nat → Int) (S : List Sh3) (o4 o5 o6 o7 o8 o9 : Option Value), p < 12 → depT (sT σ) p < n → t + depT (sT σ) p ≤ 5 → -1 ≤ g ∧ g ≤ 25 → (sT σ p).length + 1 ≤ m + i → i ≤ (sT σ p).length → MdR D w0 w1 τ ad F1 dn op (S.length : Int) la → (∀ k, k ≤ 13 → F1 k = F k) → shown S F1 → F1 18 t = (p : Int) → F1 19 t = (i : Int) → F1 20 t = g → S.length + (RS (sT σ) p g i).length ≤ 100 → (∀ (w2 : wW) (F2 : Nat → Nat → Int) (o4 o5 o6 o7 o8 o9 : Option Value), MdR D w0 w2 τ ad F2 dn op ((S ++ RS (sT σ) p g i).length : Int) la → (∀ k, k ≤ 13 → F2 k = F k) → shown (S ++ RS (sT σ) p g i) F2 → frm t F2 F1 → G 0 0 w2 [some (.ref (ad 5000)), some (.int (Z32 (p0 : Int))), some (.int (Z32 g0)), some (.int (Z32 ((t : Int) + (-1)))), o4, o5, o6, o7, o8, o9] 28 []) → G 0 0 w1 [some (.ref (ad 5000)), some (.int (Z32 (p0 : Int))), some (.int (Z32 g0)), some (.int (Z32 (t : Int))), o4, o5, o6, o7, o8, o9] 28 [] := by
    intro n
    induction n with
    | zero => intro m t p i g w1 F1 S o4 o5 o6 o7 o8 o9 hp hd; omega
    | succ n ihn =>
    intro m
    induction m with
    | zero => intro t p i g w1 F1 S o4 o5 o6 o7 o8 o9 hp hd ht hg h1 h2; omega
    | succ m ihm =>
    intro t p i g w1 F1 S o4 o5 o6 o7 o8 o9 hp hd ht hg h1 h2 hM hk hsh e18 e19 e20 hb K
    have hV1 := hV.congr (F' := F1) (fun j hj => hk j (by omega))
    have h20 := (hS.2.1 p hp).1
    have htx : txOK (sT σ p) ∧ owc (sT σ p) = 0 ∧ 0 ≤ sRk σ p (sNv σ p) ∧ sRk σ p (sNv σ p) ≤ 3 := (hS.2.1 p hp).2.2.2.2.2 _ (Nat.le_refl _)
    have htl : (sT σ p).length ≤ 30 := htx.1.2.2
    have hlenp : F1 4 (21 * p + sNv σ p) = ((sT σ p).length : Int) := ((hV1.2.2.2.1 p hp).2.2 _ (Nat.le_refl _)).1
    have htxt : ∀ j, j < (sT σ p).length → F1 3 (30 * (21 * p + sNv σ p) + j) = enc (pcs (sT σ p) j) := ((hV1.2.2.2.1 p hp).2.2 _ (Nat.le_refl _)).2.2
    refine i_iload_n C dX7_lays_28 (kk := ?_)
    refine i_if_lt C dX7_lays_29 (tgt := 322) (kt := fun hB29 => ?_) (kf := fun hB29 => ?_)
    · exfalso; omega
    · refine i_aload_n C dX7_lays_32 (kk := ?_)
      refine i_getf C f_X7_55 dX7_lays_33 (hw := hM.obj) (kk := ?_)
      refine i_iload_n C dX7_lays_36 (kk := ?_)
      refine m_ial C hM 18 (t) (N := 16) dX7_lays_37 (kk := ?_)
      rw [e18]
      refine i_istore C dX7_lays_38 (kk := ?_)
      refine i_aload_n C dX7_lays_40 (kk := ?_)
      refine i_getf C f_X7_58 dX7_lays_41 (hw := hM.obj) (kk := ?_)
      refine i_iload_n C dX7_lays_44 (kk := ?_)
      refine m_ial C hM 19 (t) (N := 16) dX7_lays_45 (kk := ?_)
      rw [e19]
      refine i_istore C dX7_lays_46 (kk := ?_)
      refine i_iload C dX7_lays_48 (kk := ?_)
      refine i_aload_n C dX7_lays_50 (kk := ?_)
      refine i_getf C f_X7_16 dX7_lays_51 (hw := hM.obj) (kk := ?_)
      refine i_aload_n C dX7_lays_54 (kk := ?_)
      refine i_iload C dX7_lays_55 (kk := ?_)
      refine i_callV C lk_X7_97 (c_X7_now l hl D (hM := hM) (p := p) (v := sNv σ p) hp (hV1.2.2.2.1 p hp).1 h20) (hcl := rfl) (hst := rfl) dX7_lays_57 (hw := hM.obj) (kk := fun v57 w57 g57 => ?_)
      obtain ⟨rfl, q57⟩ := g57
      have q57 := q57.symm
      subst q57
      refine m_ial C hM 4 (21 * p + sNv σ p) (N := 252) dX7_lays_60 (kk := ?_)
      rw [hlenp]
      refine i_icmp_ne C dX7_lays_61 (tgt := 70) (kt := fun hB61 => ?_) (kf := fun hB61 => ?_)
      · have hi9 : i < (sT σ p).length := by omega
        have hpv := htx.1.1 _ (pcs_mem hi9)
        have hE := enc_R hpv
        have hvR := hpv.R
        have hK := kd_iff (s := (pcs (sT σ p) i).1) ⟨by omega, by omega⟩
        refine i_aload_n C dX7_lays_70 (kk := ?_)
        refine i_getf C f_X7_13 dX7_lays_71 (hw := hM.obj) (kk := ?_)
        refine i_bipush C dX7_lays_74 (kk := ?_)
        refine i_aload_n C dX7_lays_76 (kk := ?_)
        refine i_iload C dX7_lays_77 (kk := ?_)
        refine i_callV C lk_X7_97 (c_X7_now l hl D (hM := hM) (p := p) (v := sNv σ p) hp (hV1.2.2.2.1 p hp).1 h20) (hcl := rfl) (hst := rfl) dX7_lays_79 (hw := hM.obj) (kk := fun v79 w79 g79 => ?_)
        obtain ⟨rfl, q79⟩ := g79
        have q79 := q79.symm
        subst q79
        refine i_imul C dX7_lays_82 (kk := ?_)
        refine i_iload C dX7_lays_83 (kk := ?_)
        refine i_iadd C dX7_lays_85 (kk := ?_)
        refine m_ial C hM 3 (30 * (21 * p + sNv σ p) + i) (N := 7560) dX7_lays_86 (kk := ?_)
        rw [htxt i hi9]
        refine i_istore C dX7_lays_87 (kk := ?_)
        refine i_iload C dX7_lays_89 (kk := ?_)
        refine i_sipush C dX7_lays_91 (kk := ?_)
        refine i_idiv C dX7_lays_94 (kk := ?_)
        rw [hE.2.2.1]
        refine i_istore C dX7_lays_95 (kk := ?_)
        refine i_iload C dX7_lays_97 (kk := ?_)
        refine i_bipush C dX7_lays_99 (kk := ?_)
        refine i_idiv C dX7_lays_101 (kk := ?_)
        refine i_bipush C dX7_lays_102 (kk := ?_)
        refine i_irem C dX7_lays_104 (kk := ?_)
        refine i_istore C dX7_lays_105 (kk := ?_)
        refine i_iload C dX7_lays_107 (kk := ?_)
        refine i_bipush C dX7_lays_109 (kk := ?_)
        refine i_irem C dX7_lays_111 (kk := ?_)
        refine i_iconst C dX7_lays_112 (kk := ?_)
        refine i_isub C dX7_lays_113 (kk := ?_)
        refine i_istore C dX7_lays_114 (kk := ?_)
        rcases (show (pcs (sT σ p) i).1 = 0 ∨ (pcs (sT σ p) i).1 = 1 ∨ (pcs (sT σ p) i).1 = 2 ∨ (pcs (sT σ p) i).1 = 3 ∨ (pcs (sT σ p) i).1 = 4 ∨ (pcs (sT σ p) i).1 = 5 ∨ (pcs (sT σ p) i).1 = 6 ∨ (pcs (sT σ p) i).1 = 7 ∨ (pcs (sT σ p) i).1 = 8 by omega) with hs | hs | hs | hs | hs | hs | hs | hs | hs
        · have hk9 : kd (pcs (sT σ p) i).1 = 0 := by omega
          have hval : pItem (pcs (sT σ p) i) = enc (pcs (sT σ p) i) / 100 % 100 := by unfold pItem; rw [if_neg (by omega)]; have a1 := hE.2.2.2.2.2.2.2.2.1 (by omega); omega
          have hrs : RS (sT σ) p g i = (0, pItem (pcs (sT σ p) i), (p : Int)) :: RS (sT σ) p g (i + 1) := by rw [RS_one hi9 (by omega), hs]
          rw [hval] at hrs
          have hS128 : S.length < 128 := by rw [hrs, List.length_cons] at hb; omega
          refine i_aload_n C dX7_lays_116 (kk := ?_)
          refine i_getf C f_X7_58 dX7_lays_117 (hw := hM.obj) (kk := ?_)
          refine i_iload_n C dX7_lays_120 (kk := ?_)
          refine i_iload C dX7_lays_121 (kk := ?_)
          refine i_iconst C dX7_lays_123 (kk := ?_)
          refine i_icmp_ne C dX7_lays_124 (tgt := 153) (kt := fun hB124 => ?_) (kf := fun hB124 => ?_)
          · refine i_iload C dX7_lays_153 (kk := ?_)
            refine i_iconst C dX7_lays_155 (kk := ?_)
            refine i_iadd C dX7_lays_156 (kk := ?_)
            refine m_iasF C hM 19 (t) (N := 16) dX7_lays_157 (kk := fun w157 F157 hM u157 n157 => ?_)
            have hk157 : ∀ k, k ≤ 13 → F157 k = F k := fun k h => by rw [n157 k (by omega)]; exact hk k h
            have hsh157 : shown S F157 := hsh.congr (n157 14 (by decide)) (n157 15 (by decide)) (n157 16 (by decide))
            have hfr : frm t F157 F1 := fun j hj => ⟨by rw [n157 18 (by decide)], by rw [u157, upz_ne (by omega)], by rw [n157 20 (by decide)]⟩
            have e18' : F157 18 t = (p : Int) := by rw [n157 18 (by decide)]; exact e18
            have e20' : F157 20 t = g := by rw [n157 20 (by decide)]; exact e20
            have e19' := congrFun u157 t
            rw [upz_eq] at e19'
            refine i_iload C dX7_lays_158 (kk := ?_)
            refine i_if_eq C dX7_lays_160 (tgt := 179) (kt := fun hB160 => ?_) (kf := fun hB160 => ?_)
            · refine i_aload_n C dX7_lays_179 (kk := ?_)
              refine i_iconst C dX7_lays_180 (kk := ?_)
              refine i_iload C dX7_lays_181 (kk := ?_)
              refine i_if_ne C dX7_lays_183 (tgt := 191) (kt := fun hB183 => ?_) (kf := fun hB183 => ?_)
              · exfalso; omega
              · refine i_iload C dX7_lays_186 (kk := ?_)
                refine i_goto C dX7_lays_188 (tgt := 197) (kk := ?_)
                refine i_iload C dX7_lays_197 (kk := ?_)
                refine i_callV C lk_X7_138 (c_X7_shows l hl D (hM := hM) (n := S.length) hS128) (hcl := rfl) (hst := rfl) dX7_lays_199 (hw := hM.obj) (kk := fun v199 w199 g199 => ?_)
                obtain ⟨rfl, F2, hM, e14, e15, e16, er⟩ := g199
                refine i_goto C dX7_lays_202 (tgt := 319) (kk := ?_)
                refine i_goto C dX7_lays_319 (tgt := 28) (kk := ?_)
                rw [hrs, List.append_cons] at K
                rw [hrs] at hb
                rw [show ((S.length + 1 : Nat) : Int) = ((S ++ [(0, enc (pcs (sT σ p) i) / 100 % 100, (p : Int))]).length : Int) by rw [List.length_append]; rfl] at hM
                exact ihm t p (i + 1) g _ F2 (S ++ [(0, enc (pcs (sT σ p) i) / 100 % 100, (p : Int))]) _ _ _ _ _ _ hp hd ht hg (by omega) (by omega) hM (fun k h => by rw [er k (by omega) (by omega) (by omega)]; exact hk157 k h) (hsh157.push (by rw [e14]) (by rw [e15]) e16) (by rw [er 18 (by decide) (by decide) (by decide)]; exact e18') (by rw [er 19 (by decide) (by decide) (by decide)]; exact e19') (by rw [er 20 (by decide) (by decide) (by decide)]; exact e20') (by rw [List.length_append]; rw [List.length_cons] at hb; show S.length + 1 + _ ≤ 100; omega) (fun w2 F2' q4 q5 q6 q7 q8 q9 a b c d => K w2 F2' q4 q5 q6 q7 q8 q9 a b c (d.trans (fun j hj => ⟨by rw [er 18 (by decide) (by decide) (by decide)]; exact (hfr j hj).1, by rw [er 19 (by decide) (by decide) (by decide)]; exact (hfr j hj).2.1, by rw [er 20 (by decide) (by decide) (by decide)]; exact (hfr j hj).2.2⟩)))
            · exfalso; omega
          · exfalso; omega
        · have hk9 : kd (pcs (sT σ p) i).1 = 6 := by omega
          have hval : pItem (pcs (sT σ p) i) = enc (pcs (sT σ p) i) / 100 % 100 := by unfold pItem; rw [if_neg (by omega)]; have a1 := hE.2.2.2.2.2.2.2.2.1 (by omega); omega
          have hrs : RS (sT σ) p g i = (1, pItem (pcs (sT σ p) i), (p : Int)) :: RS (sT σ) p g (i + 1) := by rw [RS_one hi9 (by omega), hs]
          rw [hval] at hrs
          have hS128 : S.length < 128 := by rw [hrs, List.length_cons] at hb; omega
          refine i_aload_n C dX7_lays_116 (kk := ?_)
          refine i_getf C f_X7_58 dX7_lays_117 (hw := hM.obj) (kk := ?_)
          refine i_iload_n C dX7_lays_120 (kk := ?_)
          refine i_iload C dX7_lays_121 (kk := ?_)
          refine i_iconst C dX7_lays_123 (kk := ?_)
          refine i_icmp_ne C dX7_lays_124 (tgt := 153) (kt := fun hB124 => ?_) (kf := fun hB124 => ?_)
          · refine i_iload C dX7_lays_153 (kk := ?_)
            refine i_iconst C dX7_lays_155 (kk := ?_)
            refine i_iadd C dX7_lays_156 (kk := ?_)
            refine m_iasF C hM 19 (t) (N := 16) dX7_lays_157 (kk := fun w157 F157 hM u157 n157 => ?_)
            have hk157 : ∀ k, k ≤ 13 → F157 k = F k := fun k h => by rw [n157 k (by omega)]; exact hk k h
            have hsh157 : shown S F157 := hsh.congr (n157 14 (by decide)) (n157 15 (by decide)) (n157 16 (by decide))
            have hfr : frm t F157 F1 := fun j hj => ⟨by rw [n157 18 (by decide)], by rw [u157, upz_ne (by omega)], by rw [n157 20 (by decide)]⟩
            have e18' : F157 18 t = (p : Int) := by rw [n157 18 (by decide)]; exact e18
            have e20' : F157 20 t = g := by rw [n157 20 (by decide)]; exact e20
            have e19' := congrFun u157 t
            rw [upz_eq] at e19'
            refine i_iload C dX7_lays_158 (kk := ?_)
            refine i_if_eq C dX7_lays_160 (tgt := 179) (kt := fun hB160 => ?_) (kf := fun hB160 => ?_)
            · exfalso; omega
            · refine i_iload C dX7_lays_163 (kk := ?_)
              refine i_iconst C dX7_lays_165 (kk := ?_)
              refine i_icmp_ne C dX7_lays_166 (tgt := 205) (kt := fun hB166 => ?_) (kf := fun hB166 => ?_)
              · refine i_iload C dX7_lays_205 (kk := ?_)
                refine i_bipush C dX7_lays_207 (kk := ?_)
                refine i_icmp_eq C dX7_lays_209 (tgt := 219) (kt := fun hB209 => ?_) (kf := fun hB209 => ?_)
                · refine i_aload_n C dX7_lays_219 (kk := ?_)
                  refine i_iload C dX7_lays_220 (kk := ?_)
                  refine i_bipush C dX7_lays_222 (kk := ?_)
                  refine i_icmp_ne C dX7_lays_224 (tgt := 231) (kt := fun hB224 => ?_) (kf := fun hB224 => ?_)
                  · exfalso; omega
                  · refine i_iconst C dX7_lays_227 (kk := ?_)
                    refine i_goto C dX7_lays_228 (tgt := 232) (kk := ?_)
                    refine i_iload C dX7_lays_232 (kk := ?_)
                    refine i_bipush C dX7_lays_234 (kk := ?_)
                    refine i_icmp_ne C dX7_lays_236 (tgt := 244) (kt := fun hB236 => ?_) (kf := fun hB236 => ?_)
                    · exfalso; omega
                    · refine i_iload C dX7_lays_239 (kk := ?_)
                      refine i_goto C dX7_lays_241 (tgt := 252) (kk := ?_)
                      refine i_iload C dX7_lays_252 (kk := ?_)
                      refine i_callV C lk_X7_138 (c_X7_shows l hl D (hM := hM) (n := S.length) hS128) (hcl := rfl) (hst := rfl) dX7_lays_254 (hw := hM.obj) (kk := fun v254 w254 g254 => ?_)
                      obtain ⟨rfl, F2, hM, e14, e15, e16, er⟩ := g254
                      refine i_goto C dX7_lays_257 (tgt := 319) (kk := ?_)
                      refine i_goto C dX7_lays_319 (tgt := 28) (kk := ?_)
                      rw [hrs, List.append_cons] at K
                      rw [hrs] at hb
                      rw [show ((S.length + 1 : Nat) : Int) = ((S ++ [(1, enc (pcs (sT σ p) i) / 100 % 100, (p : Int))]).length : Int) by rw [List.length_append]; rfl] at hM
                      exact ihm t p (i + 1) g _ F2 (S ++ [(1, enc (pcs (sT σ p) i) / 100 % 100, (p : Int))]) _ _ _ _ _ _ hp hd ht hg (by omega) (by omega) hM (fun k h => by rw [er k (by omega) (by omega) (by omega)]; exact hk157 k h) (hsh157.push (by rw [e14]) (by rw [e15]) e16) (by rw [er 18 (by decide) (by decide) (by decide)]; exact e18') (by rw [er 19 (by decide) (by decide) (by decide)]; exact e19') (by rw [er 20 (by decide) (by decide) (by decide)]; exact e20') (by rw [List.length_append]; rw [List.length_cons] at hb; show S.length + 1 + _ ≤ 100; omega) (fun w2 F2' q4 q5 q6 q7 q8 q9 a b c d => K w2 F2' q4 q5 q6 q7 q8 q9 a b c (d.trans (fun j hj => ⟨by rw [er 18 (by decide) (by decide) (by decide)]; exact (hfr j hj).1, by rw [er 19 (by decide) (by decide) (by decide)]; exact (hfr j hj).2.1, by rw [er 20 (by decide) (by decide) (by decide)]; exact (hfr j hj).2.2⟩)))
                · exfalso; omega
              · exfalso; omega
          · exfalso; omega
        · have hk9 : kd (pcs (sT σ p) i).1 = 7 := by omega
          have hval : pItem (pcs (sT σ p) i) = 10 * (enc (pcs (sT σ p) i) / 100 % 100) + (enc (pcs (sT σ p) i) % 100 - 1) := by unfold pItem; rw [if_pos hs]; have a1 := hE.2.2.2.2.2.2.2.2.2.1 (by omega); have a2 := hE.2.2.2.2.2.2.2.2.2.2 (by omega); omega
          have hrs : RS (sT σ) p g i = (2, pItem (pcs (sT σ p) i), (p : Int)) :: RS (sT σ) p g (i + 1) := by rw [RS_one hi9 (by omega), hs]
          rw [hval] at hrs
          have hS128 : S.length < 128 := by rw [hrs, List.length_cons] at hb; omega
          refine i_aload_n C dX7_lays_116 (kk := ?_)
          refine i_getf C f_X7_58 dX7_lays_117 (hw := hM.obj) (kk := ?_)
          refine i_iload_n C dX7_lays_120 (kk := ?_)
          refine i_iload C dX7_lays_121 (kk := ?_)
          refine i_iconst C dX7_lays_123 (kk := ?_)
          refine i_icmp_ne C dX7_lays_124 (tgt := 153) (kt := fun hB124 => ?_) (kf := fun hB124 => ?_)
          · refine i_iload C dX7_lays_153 (kk := ?_)
            refine i_iconst C dX7_lays_155 (kk := ?_)
            refine i_iadd C dX7_lays_156 (kk := ?_)
            refine m_iasF C hM 19 (t) (N := 16) dX7_lays_157 (kk := fun w157 F157 hM u157 n157 => ?_)
            have hk157 : ∀ k, k ≤ 13 → F157 k = F k := fun k h => by rw [n157 k (by omega)]; exact hk k h
            have hsh157 : shown S F157 := hsh.congr (n157 14 (by decide)) (n157 15 (by decide)) (n157 16 (by decide))
            have hfr : frm t F157 F1 := fun j hj => ⟨by rw [n157 18 (by decide)], by rw [u157, upz_ne (by omega)], by rw [n157 20 (by decide)]⟩
            have e18' : F157 18 t = (p : Int) := by rw [n157 18 (by decide)]; exact e18
            have e20' : F157 20 t = g := by rw [n157 20 (by decide)]; exact e20
            have e19' := congrFun u157 t
            rw [upz_eq] at e19'
            refine i_iload C dX7_lays_158 (kk := ?_)
            refine i_if_eq C dX7_lays_160 (tgt := 179) (kt := fun hB160 => ?_) (kf := fun hB160 => ?_)
            · exfalso; omega
            · refine i_iload C dX7_lays_163 (kk := ?_)
              refine i_iconst C dX7_lays_165 (kk := ?_)
              refine i_icmp_ne C dX7_lays_166 (tgt := 205) (kt := fun hB166 => ?_) (kf := fun hB166 => ?_)
              · refine i_iload C dX7_lays_205 (kk := ?_)
                refine i_bipush C dX7_lays_207 (kk := ?_)
                refine i_icmp_eq C dX7_lays_209 (tgt := 219) (kt := fun hB209 => ?_) (kf := fun hB209 => ?_)
                · exfalso; omega
                · refine i_iload C dX7_lays_212 (kk := ?_)
                  refine i_bipush C dX7_lays_214 (kk := ?_)
                  refine i_icmp_ne C dX7_lays_216 (tgt := 260) (kt := fun hB216 => ?_) (kf := fun hB216 => ?_)
                  · exfalso; omega
                  · refine i_aload_n C dX7_lays_219 (kk := ?_)
                    refine i_iload C dX7_lays_220 (kk := ?_)
                    refine i_bipush C dX7_lays_222 (kk := ?_)
                    refine i_icmp_ne C dX7_lays_224 (tgt := 231) (kt := fun hB224 => ?_) (kf := fun hB224 => ?_)
                    · refine i_iconst C dX7_lays_231 (kk := ?_)
                      refine i_iload C dX7_lays_232 (kk := ?_)
                      refine i_bipush C dX7_lays_234 (kk := ?_)
                      refine i_icmp_ne C dX7_lays_236 (tgt := 244) (kt := fun hB236 => ?_) (kf := fun hB236 => ?_)
                      · refine i_bipush C dX7_lays_244 (kk := ?_)
                        refine i_iload C dX7_lays_246 (kk := ?_)
                        refine i_imul C dX7_lays_248 (kk := ?_)
                        refine i_iload C dX7_lays_249 (kk := ?_)
                        refine i_iadd C dX7_lays_251 (kk := ?_)
                        refine i_iload C dX7_lays_252 (kk := ?_)
                        refine i_callV C lk_X7_138 (c_X7_shows l hl D (hM := hM) (n := S.length) hS128) (hcl := rfl) (hst := rfl) dX7_lays_254 (hw := hM.obj) (kk := fun v254 w254 g254 => ?_)
                        obtain ⟨rfl, F2, hM, e14, e15, e16, er⟩ := g254
                        refine i_goto C dX7_lays_257 (tgt := 319) (kk := ?_)
                        refine i_goto C dX7_lays_319 (tgt := 28) (kk := ?_)
                        rw [hrs, List.append_cons] at K
                        rw [hrs] at hb
                        rw [show ((S.length + 1 : Nat) : Int) = ((S ++ [(2, 10 * (enc (pcs (sT σ p) i) / 100 % 100) + (enc (pcs (sT σ p) i) % 100 - 1), (p : Int))]).length : Int) by rw [List.length_append]; rfl] at hM
                        exact ihm t p (i + 1) g _ F2 (S ++ [(2, 10 * (enc (pcs (sT σ p) i) / 100 % 100) + (enc (pcs (sT σ p) i) % 100 - 1), (p : Int))]) _ _ _ _ _ _ hp hd ht hg (by omega) (by omega) hM (fun k h => by rw [er k (by omega) (by omega) (by omega)]; exact hk157 k h) (hsh157.push (by rw [e14]) (by rw [e15]) e16) (by rw [er 18 (by decide) (by decide) (by decide)]; exact e18') (by rw [er 19 (by decide) (by decide) (by decide)]; exact e19') (by rw [er 20 (by decide) (by decide) (by decide)]; exact e20') (by rw [List.length_append]; rw [List.length_cons] at hb; show S.length + 1 + _ ≤ 100; omega) (fun w2 F2' q4 q5 q6 q7 q8 q9 a b c d => K w2 F2' q4 q5 q6 q7 q8 q9 a b c (d.trans (fun j hj => ⟨by rw [er 18 (by decide) (by decide) (by decide)]; exact (hfr j hj).1, by rw [er 19 (by decide) (by decide) (by decide)]; exact (hfr j hj).2.1, by rw [er 20 (by decide) (by decide) (by decide)]; exact (hfr j hj).2.2⟩)))
                      · exfalso; omega
                    · exfalso; omega
              · exfalso; omega
          · exfalso; omega
        · have hk9 : kd (pcs (sT σ p) i).1 = 1 := by omega
          refine i_aload_n C dX7_lays_116 (kk := ?_)
          refine i_getf C f_X7_58 dX7_lays_117 (hw := hM.obj) (kk := ?_)
          refine i_iload_n C dX7_lays_120 (kk := ?_)
          refine i_iload C dX7_lays_121 (kk := ?_)
          refine i_iconst C dX7_lays_123 (kk := ?_)
          refine i_icmp_ne C dX7_lays_124 (tgt := 153) (kt := fun hB124 => ?_) (kf := fun hB124 => ?_)
          · refine i_iload C dX7_lays_153 (kk := ?_)
            refine i_iconst C dX7_lays_155 (kk := ?_)
            refine i_iadd C dX7_lays_156 (kk := ?_)
            refine m_iasF C hM 19 (t) (N := 16) dX7_lays_157 (kk := fun w157 F157 hM u157 n157 => ?_)
            have hk157 : ∀ k, k ≤ 13 → F157 k = F k := fun k h => by rw [n157 k (by omega)]; exact hk k h
            have hsh157 : shown S F157 := hsh.congr (n157 14 (by decide)) (n157 15 (by decide)) (n157 16 (by decide))
            have hfr : frm t F157 F1 := fun j hj => ⟨by rw [n157 18 (by decide)], by rw [u157, upz_ne (by omega)], by rw [n157 20 (by decide)]⟩
            have e18' : F157 18 t = (p : Int) := by rw [n157 18 (by decide)]; exact e18
            have e20' : F157 20 t = g := by rw [n157 20 (by decide)]; exact e20
            have e19' := congrFun u157 t
            rw [upz_eq] at e19'
            refine i_iload C dX7_lays_158 (kk := ?_)
            refine i_if_eq C dX7_lays_160 (tgt := 179) (kt := fun hB160 => ?_) (kf := fun hB160 => ?_)
            · exfalso; omega
            · refine i_iload C dX7_lays_163 (kk := ?_)
              refine i_iconst C dX7_lays_165 (kk := ?_)
              refine i_icmp_ne C dX7_lays_166 (tgt := 205) (kt := fun hB166 => ?_) (kf := fun hB166 => ?_)
              · exfalso; omega
              · refine i_aload_n C dX7_lays_169 (kk := ?_)
                refine i_getf C f_X7_61 dX7_lays_170 (hw := hM.obj) (kk := ?_)
                refine i_iload_n C dX7_lays_173 (kk := ?_)
                refine m_ial C hM 20 (t) (N := 16) dX7_lays_174 (kk := ?_)
                rw [e20']
                refine i_iconst C dX7_lays_175 (kk := ?_)
                refine i_icmp_eq C dX7_lays_176 (tgt := 205) (kt := fun hB176 => ?_) (kf := fun hB176 => ?_)
                · refine i_iload C dX7_lays_205 (kk := ?_)
                  refine i_bipush C dX7_lays_207 (kk := ?_)
                  refine i_icmp_eq C dX7_lays_209 (tgt := 219) (kt := fun hB209 => ?_) (kf := fun hB209 => ?_)
                  · exfalso; omega
                  · refine i_iload C dX7_lays_212 (kk := ?_)
                    refine i_bipush C dX7_lays_214 (kk := ?_)
                    refine i_icmp_ne C dX7_lays_216 (tgt := 260) (kt := fun hB216 => ?_) (kf := fun hB216 => ?_)
                    · refine i_iload C dX7_lays_260 (kk := ?_)
                      refine i_iconst C dX7_lays_262 (kk := ?_)
                      refine i_icmp_eq C dX7_lays_263 (tgt := 272) (kt := fun hB263 => ?_) (kf := fun hB263 => ?_)
                      · exfalso; omega
                      · refine i_iload C dX7_lays_266 (kk := ?_)
                        refine i_iconst C dX7_lays_268 (kk := ?_)
                        refine i_icmp_ne C dX7_lays_269 (tgt := 319) (kt := fun hB269 => ?_) (kf := fun hB269 => ?_)
                        · refine i_goto C dX7_lays_319 (tgt := 28) (kk := ?_)
                          rw [RS_no hi9 (Or.inl ⟨hs, hB176⟩)] at K hb
                          exact ihm t p (i + 1) g _ F157 S _ _ _ _ _ _ hp hd ht hg (by omega) (by omega) hM hk157 hsh157 e18' e19' e20' hb (fun w2 F2 q4 q5 q6 q7 q8 q9 a b c d => K w2 F2 q4 q5 q6 q7 q8 q9 a b c (d.trans hfr))
                        · exfalso; omega
                    · exfalso; omega
                · have hS128 : S.length < 128 := by (have hb2 := hb; rw [RS_arg hi9 hs hB176, List.length_cons] at hb2; omega)
                  refine i_aload_n C dX7_lays_179 (kk := ?_)
                  refine i_iconst C dX7_lays_180 (kk := ?_)
                  refine i_iload C dX7_lays_181 (kk := ?_)
                  refine i_if_ne C dX7_lays_183 (tgt := 191) (kt := fun hB183 => ?_) (kf := fun hB183 => ?_)
                  · refine i_aload_n C dX7_lays_191 (kk := ?_)
                    refine i_getf C f_X7_61 dX7_lays_192 (hw := hM.obj) (kk := ?_)
                    refine i_iload_n C dX7_lays_195 (kk := ?_)
                    refine m_ial C hM 20 (t) (N := 16) dX7_lays_196 (kk := ?_)
                    rw [e20']
                    refine i_iload C dX7_lays_197 (kk := ?_)
                    refine i_callV C lk_X7_138 (c_X7_shows l hl D (hM := hM) (n := S.length) hS128) (hcl := rfl) (hst := rfl) dX7_lays_199 (hw := hM.obj) (kk := fun v199 w199 g199 => ?_)
                    obtain ⟨rfl, F2, hM, e14, e15, e16, er⟩ := g199
                    refine i_goto C dX7_lays_202 (tgt := 319) (kk := ?_)
                    refine i_goto C dX7_lays_319 (tgt := 28) (kk := ?_)
                    rw [RS_arg hi9 hs hB176, List.append_cons] at K
                    rw [RS_arg hi9 hs hB176] at hb
                    rw [show ((S.length + 1 : Nat) : Int) = ((S ++ [(0, g, (p : Int))]).length : Int) by rw [List.length_append]; rfl] at hM
                    exact ihm t p (i + 1) g _ F2 (S ++ [(0, g, (p : Int))]) _ _ _ _ _ _ hp hd ht hg (by omega) (by omega) hM (fun k h => by rw [er k (by omega) (by omega) (by omega)]; exact hk157 k h) (hsh157.push (by rw [e14]) (by rw [e15]) e16) (by rw [er 18 (by decide) (by decide) (by decide)]; exact e18') (by rw [er 19 (by decide) (by decide) (by decide)]; exact e19') (by rw [er 20 (by decide) (by decide) (by decide)]; exact e20') (by rw [List.length_append]; rw [List.length_cons] at hb; show S.length + 1 + _ ≤ 100; omega) (fun w2 F2' q4 q5 q6 q7 q8 q9 a b c d => K w2 F2' q4 q5 q6 q7 q8 q9 a b c (d.trans (fun j hj => ⟨by rw [er 18 (by decide) (by decide) (by decide)]; exact (hfr j hj).1, by rw [er 19 (by decide) (by decide) (by decide)]; exact (hfr j hj).2.1, by rw [er 20 (by decide) (by decide) (by decide)]; exact (hfr j hj).2.2⟩)))
                  · exfalso; omega
          · exfalso; omega
        · have hk9 : kd (pcs (sT σ p) i).1 = 2 := by omega
          obtain ⟨q, hq12, hq, hqd, -⟩ := dep_call hS.dx.1 hS.acy hp (pcs_mem hi9) (by omega)
          have hone : enc (pcs (sT σ p) i) / 100 % 100 = (q : Int) := by rw [← hq]; exact hE.2.2.2.2.2.2.2.2.2.1 (by omega)
          have hoth : enc (pcs (sT σ p) i) % 100 - 1 = (pcs (sT σ p) i).2.2 := hE.2.2.2.2.2.2.2.2.2.2 (by omega)
          refine i_aload_n C dX7_lays_116 (kk := ?_)
          refine i_getf C f_X7_58 dX7_lays_117 (hw := hM.obj) (kk := ?_)
          refine i_iload_n C dX7_lays_120 (kk := ?_)
          refine i_iload C dX7_lays_121 (kk := ?_)
          refine i_iconst C dX7_lays_123 (kk := ?_)
          refine i_icmp_ne C dX7_lays_124 (tgt := 153) (kt := fun hB124 => ?_) (kf := fun hB124 => ?_)
          · refine i_iload C dX7_lays_153 (kk := ?_)
            refine i_iconst C dX7_lays_155 (kk := ?_)
            refine i_iadd C dX7_lays_156 (kk := ?_)
            refine m_iasF C hM 19 (t) (N := 16) dX7_lays_157 (kk := fun w157 F157 hM u157 n157 => ?_)
            have hk157 : ∀ k, k ≤ 13 → F157 k = F k := fun k h => by rw [n157 k (by omega)]; exact hk k h
            have hsh157 : shown S F157 := hsh.congr (n157 14 (by decide)) (n157 15 (by decide)) (n157 16 (by decide))
            have hfr : frm t F157 F1 := fun j hj => ⟨by rw [n157 18 (by decide)], by rw [u157, upz_ne (by omega)], by rw [n157 20 (by decide)]⟩
            have e18' : F157 18 t = (p : Int) := by rw [n157 18 (by decide)]; exact e18
            have e20' : F157 20 t = g := by rw [n157 20 (by decide)]; exact e20
            have e19' := congrFun u157 t
            rw [upz_eq] at e19'
            refine i_iload C dX7_lays_158 (kk := ?_)
            refine i_if_eq C dX7_lays_160 (tgt := 179) (kt := fun hB160 => ?_) (kf := fun hB160 => ?_)
            · exfalso; omega
            · refine i_iload C dX7_lays_163 (kk := ?_)
              refine i_iconst C dX7_lays_165 (kk := ?_)
              refine i_icmp_ne C dX7_lays_166 (tgt := 205) (kt := fun hB166 => ?_) (kf := fun hB166 => ?_)
              · refine i_iload C dX7_lays_205 (kk := ?_)
                refine i_bipush C dX7_lays_207 (kk := ?_)
                refine i_icmp_eq C dX7_lays_209 (tgt := 219) (kt := fun hB209 => ?_) (kf := fun hB209 => ?_)
                · exfalso; omega
                · refine i_iload C dX7_lays_212 (kk := ?_)
                  refine i_bipush C dX7_lays_214 (kk := ?_)
                  refine i_icmp_ne C dX7_lays_216 (tgt := 260) (kt := fun hB216 => ?_) (kf := fun hB216 => ?_)
                  · refine i_iload C dX7_lays_260 (kk := ?_)
                    refine i_iconst C dX7_lays_262 (kk := ?_)
                    refine i_icmp_eq C dX7_lays_263 (tgt := 272) (kt := fun hB263 => ?_) (kf := fun hB263 => ?_)
                    · refine i_aload_n C dX7_lays_272 (kk := ?_)
                      refine i_getf C f_X7_55 dX7_lays_273 (hw := hM.obj) (kk := ?_)
                      refine i_iload_n C dX7_lays_276 (kk := ?_)
                      refine i_iconst C dX7_lays_277 (kk := ?_)
                      refine i_iadd C dX7_lays_278 (kk := ?_)
                      refine i_iload C dX7_lays_279 (kk := ?_)
                      refine m_iasF C hM 18 (t + 1) (N := 16) dX7_lays_281 (kk := fun w281 F281 hM u281 n281 => ?_)
                      refine i_aload_n C dX7_lays_282 (kk := ?_)
                      refine i_getf C f_X7_58 dX7_lays_283 (hw := hM.obj) (kk := ?_)
                      refine i_iload_n C dX7_lays_286 (kk := ?_)
                      refine i_iconst C dX7_lays_287 (kk := ?_)
                      refine i_iadd C dX7_lays_288 (kk := ?_)
                      refine i_iconst C dX7_lays_289 (kk := ?_)
                      refine m_iasF C hM 19 (t + 1) (N := 16) dX7_lays_290 (kk := fun w290 F290 hM u290 n290 => ?_)
                      refine i_aload_n C dX7_lays_291 (kk := ?_)
                      refine i_getf C f_X7_61 dX7_lays_292 (hw := hM.obj) (kk := ?_)
                      refine i_iload_n C dX7_lays_295 (kk := ?_)
                      refine i_iconst C dX7_lays_296 (kk := ?_)
                      refine i_iadd C dX7_lays_297 (kk := ?_)
                      refine i_iload C dX7_lays_298 (kk := ?_)
                      refine i_iconst C dX7_lays_300 (kk := ?_)
                      refine i_icmp_ne C dX7_lays_301 (tgt := 309) (kt := fun hB301 => ?_) (kf := fun hB301 => ?_)
                      · exfalso; omega
                      · refine i_iload C dX7_lays_304 (kk := ?_)
                        refine i_goto C dX7_lays_306 (tgt := 315) (kk := ?_)
                        refine m_iasF C hM 20 (t + 1) (N := 16) dX7_lays_315 (kk := fun w315 F315 hM u315 n315 => ?_)
                        refine i_iinc C dX7_lays_316 (kk := ?_)
                        refine i_goto C dX7_lays_319 (tgt := 28) (kk := ?_)
                        have hcal := RS_call (g := g) hi9 hq (enc (pcs (sT σ p) i) % 100 - 1) (Or.inl ⟨hs, hoth.symm⟩)
                        rw [shl_RS hS hq12 (by omega)] at hcal
                        rw [hcal] at K hb
                        rw [List.length_append] at hb
                        rw [← List.append_assoc] at K
                        have hk315 : ∀ k, k ≤ 13 → F315 k = F k := fun k h => by rw [n315 k (by omega), n290 k (by omega), n281 k (by omega)]; exact hk157 k h
                        have x18 : F315 18 = upz (F157 18) (t + 1) (q : Int) := by rw [n315 18 (by decide), n290 18 (by decide), u281, hone]
                        have x19 : F315 19 = upz (F157 19) (t + 1) 0 := by rw [n315 19 (by decide), u290, n281 19 (by decide)]
                        have x20 : F315 20 = upz (F157 20) (t + 1) (enc (pcs (sT σ p) i) % 100 - 1) := by rw [u315, n290 20 (by decide), n281 20 (by decide)]
                        exact ihn ((sT σ q).length + 1) (t + 1) q 0 (enc (pcs (sT σ p) i) % 100 - 1) _ F315 S _ _ _ _ _ _ hq12 (by omega) (by omega) ⟨by omega, by omega⟩ (by omega) (Nat.zero_le _) hM hk315 (hsh157.congr (by rw [n315 14 (by decide), n290 14 (by decide), n281 14 (by decide)]) (by rw [n315 15 (by decide), n290 15 (by decide), n281 15 (by decide)]) (by rw [n315 16 (by decide), n290 16 (by decide), n281 16 (by decide)])) (by rw [x18, upz_eq]) (by rw [x19, upz_eq]; rfl) (by rw [x20, upz_eq]) (by omega) (fun w2 F2 q4 q5 q6 q7 q8 q9 a1 b1 c1 d1 => by
                          rw [show (((t + 1 : Nat) : Int) + (-1)) = (t : Int) by omega]
                          exact ihm t p (i + 1) g w2 F2 (S ++ RS (sT σ) q (enc (pcs (sT σ p) i) % 100 - 1) 0) q4 q5 q6 q7 q8 q9 hp hd ht hg (by omega) (by omega) a1 b1 c1 (by rw [(d1 t (by omega)).1, x18, upz_ne (by omega)]; exact e18') (by rw [(d1 t (by omega)).2.1, x19, upz_ne (by omega)]; exact e19') (by rw [(d1 t (by omega)).2.2, x20, upz_ne (by omega)]; exact e20') (by rw [List.length_append]; omega) (fun w3 F3 q4 q5 q6 q7 q8 q9 a b c d => K w3 F3 q4 q5 q6 q7 q8 q9 a b c (d.trans ((d1.mono (by omega)).trans (fun j hj => ⟨by rw [x18, upz_ne (by omega)]; exact (hfr j hj).1, by rw [x19, upz_ne (by omega)]; exact (hfr j hj).2.1, by rw [x20, upz_ne (by omega)]; exact (hfr j hj).2.2⟩)))))
                    · exfalso; omega
                  · exfalso; omega
              · exfalso; omega
          · exfalso; omega
        · have hk9 : kd (pcs (sT σ p) i).1 = 3 := by omega
          obtain ⟨q, hq12, hq, hqd, -⟩ := dep_call hS.dx.1 hS.acy hp (pcs_mem hi9) (by omega)
          have hone : enc (pcs (sT σ p) i) / 100 % 100 = (q : Int) := by rw [← hq]; exact hE.2.2.2.2.2.2.2.2.2.1 (by omega)
          refine i_aload_n C dX7_lays_116 (kk := ?_)
          refine i_getf C f_X7_58 dX7_lays_117 (hw := hM.obj) (kk := ?_)
          refine i_iload_n C dX7_lays_120 (kk := ?_)
          refine i_iload C dX7_lays_121 (kk := ?_)
          refine i_iconst C dX7_lays_123 (kk := ?_)
          refine i_icmp_ne C dX7_lays_124 (tgt := 153) (kt := fun hB124 => ?_) (kf := fun hB124 => ?_)
          · refine i_iload C dX7_lays_153 (kk := ?_)
            refine i_iconst C dX7_lays_155 (kk := ?_)
            refine i_iadd C dX7_lays_156 (kk := ?_)
            refine m_iasF C hM 19 (t) (N := 16) dX7_lays_157 (kk := fun w157 F157 hM u157 n157 => ?_)
            have hk157 : ∀ k, k ≤ 13 → F157 k = F k := fun k h => by rw [n157 k (by omega)]; exact hk k h
            have hsh157 : shown S F157 := hsh.congr (n157 14 (by decide)) (n157 15 (by decide)) (n157 16 (by decide))
            have hfr : frm t F157 F1 := fun j hj => ⟨by rw [n157 18 (by decide)], by rw [u157, upz_ne (by omega)], by rw [n157 20 (by decide)]⟩
            have e18' : F157 18 t = (p : Int) := by rw [n157 18 (by decide)]; exact e18
            have e20' : F157 20 t = g := by rw [n157 20 (by decide)]; exact e20
            have e19' := congrFun u157 t
            rw [upz_eq] at e19'
            refine i_iload C dX7_lays_158 (kk := ?_)
            refine i_if_eq C dX7_lays_160 (tgt := 179) (kt := fun hB160 => ?_) (kf := fun hB160 => ?_)
            · exfalso; omega
            · refine i_iload C dX7_lays_163 (kk := ?_)
              refine i_iconst C dX7_lays_165 (kk := ?_)
              refine i_icmp_ne C dX7_lays_166 (tgt := 205) (kt := fun hB166 => ?_) (kf := fun hB166 => ?_)
              · refine i_iload C dX7_lays_205 (kk := ?_)
                refine i_bipush C dX7_lays_207 (kk := ?_)
                refine i_icmp_eq C dX7_lays_209 (tgt := 219) (kt := fun hB209 => ?_) (kf := fun hB209 => ?_)
                · exfalso; omega
                · refine i_iload C dX7_lays_212 (kk := ?_)
                  refine i_bipush C dX7_lays_214 (kk := ?_)
                  refine i_icmp_ne C dX7_lays_216 (tgt := 260) (kt := fun hB216 => ?_) (kf := fun hB216 => ?_)
                  · refine i_iload C dX7_lays_260 (kk := ?_)
                    refine i_iconst C dX7_lays_262 (kk := ?_)
                    refine i_icmp_eq C dX7_lays_263 (tgt := 272) (kt := fun hB263 => ?_) (kf := fun hB263 => ?_)
                    · exfalso; omega
                    · refine i_iload C dX7_lays_266 (kk := ?_)
                      refine i_iconst C dX7_lays_268 (kk := ?_)
                      refine i_icmp_ne C dX7_lays_269 (tgt := 319) (kt := fun hB269 => ?_) (kf := fun hB269 => ?_)
                      · exfalso; omega
                      · refine i_aload_n C dX7_lays_272 (kk := ?_)
                        refine i_getf C f_X7_55 dX7_lays_273 (hw := hM.obj) (kk := ?_)
                        refine i_iload_n C dX7_lays_276 (kk := ?_)
                        refine i_iconst C dX7_lays_277 (kk := ?_)
                        refine i_iadd C dX7_lays_278 (kk := ?_)
                        refine i_iload C dX7_lays_279 (kk := ?_)
                        refine m_iasF C hM 18 (t + 1) (N := 16) dX7_lays_281 (kk := fun w281 F281 hM u281 n281 => ?_)
                        refine i_aload_n C dX7_lays_282 (kk := ?_)
                        refine i_getf C f_X7_58 dX7_lays_283 (hw := hM.obj) (kk := ?_)
                        refine i_iload_n C dX7_lays_286 (kk := ?_)
                        refine i_iconst C dX7_lays_287 (kk := ?_)
                        refine i_iadd C dX7_lays_288 (kk := ?_)
                        refine i_iconst C dX7_lays_289 (kk := ?_)
                        refine m_iasF C hM 19 (t + 1) (N := 16) dX7_lays_290 (kk := fun w290 F290 hM u290 n290 => ?_)
                        refine i_aload_n C dX7_lays_291 (kk := ?_)
                        refine i_getf C f_X7_61 dX7_lays_292 (hw := hM.obj) (kk := ?_)
                        refine i_iload_n C dX7_lays_295 (kk := ?_)
                        refine i_iconst C dX7_lays_296 (kk := ?_)
                        refine i_iadd C dX7_lays_297 (kk := ?_)
                        refine i_iload C dX7_lays_298 (kk := ?_)
                        refine i_iconst C dX7_lays_300 (kk := ?_)
                        refine i_icmp_ne C dX7_lays_301 (tgt := 309) (kt := fun hB301 => ?_) (kf := fun hB301 => ?_)
                        · refine i_aload_n C dX7_lays_309 (kk := ?_)
                          refine i_getf C f_X7_61 dX7_lays_310 (hw := hM.obj) (kk := ?_)
                          refine i_iload_n C dX7_lays_313 (kk := ?_)
                          refine m_ial C hM 20 (t) (N := 16) dX7_lays_314 (kk := ?_)
                          rw [n290 20 (by decide), n281 20 (by decide), e20']
                          refine m_iasF C hM 20 (t + 1) (N := 16) dX7_lays_315 (kk := fun w315 F315 hM u315 n315 => ?_)
                          refine i_iinc C dX7_lays_316 (kk := ?_)
                          refine i_goto C dX7_lays_319 (tgt := 28) (kk := ?_)
                          have hcal := RS_call (g := g) hi9 hq (g) (Or.inr ⟨hs, rfl⟩)
                          rw [shl_RS hS hq12 (by omega)] at hcal
                          rw [hcal] at K hb
                          rw [List.length_append] at hb
                          rw [← List.append_assoc] at K
                          have hk315 : ∀ k, k ≤ 13 → F315 k = F k := fun k h => by rw [n315 k (by omega), n290 k (by omega), n281 k (by omega)]; exact hk157 k h
                          have x18 : F315 18 = upz (F157 18) (t + 1) (q : Int) := by rw [n315 18 (by decide), n290 18 (by decide), u281, hone]
                          have x19 : F315 19 = upz (F157 19) (t + 1) 0 := by rw [n315 19 (by decide), u290, n281 19 (by decide)]
                          have x20 : F315 20 = upz (F157 20) (t + 1) (g) := by rw [u315, n290 20 (by decide), n281 20 (by decide)]
                          exact ihn ((sT σ q).length + 1) (t + 1) q 0 (g) _ F315 S _ _ _ _ _ _ hq12 (by omega) (by omega) ⟨by omega, by omega⟩ (by omega) (Nat.zero_le _) hM hk315 (hsh157.congr (by rw [n315 14 (by decide), n290 14 (by decide), n281 14 (by decide)]) (by rw [n315 15 (by decide), n290 15 (by decide), n281 15 (by decide)]) (by rw [n315 16 (by decide), n290 16 (by decide), n281 16 (by decide)])) (by rw [x18, upz_eq]) (by rw [x19, upz_eq]; rfl) (by rw [x20, upz_eq]) (by omega) (fun w2 F2 q4 q5 q6 q7 q8 q9 a1 b1 c1 d1 => by
                            rw [show (((t + 1 : Nat) : Int) + (-1)) = (t : Int) by omega]
                            exact ihm t p (i + 1) g w2 F2 (S ++ RS (sT σ) q (g) 0) q4 q5 q6 q7 q8 q9 hp hd ht hg (by omega) (by omega) a1 b1 c1 (by rw [(d1 t (by omega)).1, x18, upz_ne (by omega)]; exact e18') (by rw [(d1 t (by omega)).2.1, x19, upz_ne (by omega)]; exact e19') (by rw [(d1 t (by omega)).2.2, x20, upz_ne (by omega)]; exact e20') (by rw [List.length_append]; omega) (fun w3 F3 q4 q5 q6 q7 q8 q9 a b c d => K w3 F3 q4 q5 q6 q7 q8 q9 a b c (d.trans ((d1.mono (by omega)).trans (fun j hj => ⟨by rw [x18, upz_ne (by omega)]; exact (hfr j hj).1, by rw [x19, upz_ne (by omega)]; exact (hfr j hj).2.1, by rw [x20, upz_ne (by omega)]; exact (hfr j hj).2.2⟩)))))
                        · exfalso; omega
                  · exfalso; omega
              · exfalso; omega
          · exfalso; omega
        · have hk9 : kd (pcs (sT σ p) i).1 = 4 := by omega
          have hone : enc (pcs (sT σ p) i) / 100 % 100 = (pcs (sT σ p) i).2.2 := hE.2.2.2.2.2.2.2.2.1 (by omega)
          refine i_aload_n C dX7_lays_116 (kk := ?_)
          refine i_getf C f_X7_58 dX7_lays_117 (hw := hM.obj) (kk := ?_)
          refine i_iload_n C dX7_lays_120 (kk := ?_)
          refine i_iload C dX7_lays_121 (kk := ?_)
          refine i_iconst C dX7_lays_123 (kk := ?_)
          refine i_icmp_ne C dX7_lays_124 (tgt := 153) (kt := fun hB124 => ?_) (kf := fun hB124 => ?_)
          · exfalso; omega
          · refine i_aload_n C dX7_lays_127 (kk := ?_)
            refine i_getf C f_X7_61 dX7_lays_128 (hw := hM.obj) (kk := ?_)
            refine i_iload_n C dX7_lays_131 (kk := ?_)
            refine m_ial C hM 20 (t) (N := 16) dX7_lays_132 (kk := ?_)
            rw [e20]
            refine i_iload C dX7_lays_133 (kk := ?_)
            refine i_icmp_eq C dX7_lays_135 (tgt := 153) (kt := fun hB135 => ?_) (kf := fun hB135 => ?_)
            · refine i_iload C dX7_lays_153 (kk := ?_)
              refine i_iconst C dX7_lays_155 (kk := ?_)
              refine i_iadd C dX7_lays_156 (kk := ?_)
              refine m_iasF C hM 19 (t) (N := 16) dX7_lays_157 (kk := fun w157 F157 hM u157 n157 => ?_)
              have hk157 : ∀ k, k ≤ 13 → F157 k = F k := fun k h => by rw [n157 k (by omega)]; exact hk k h
              have hsh157 : shown S F157 := hsh.congr (n157 14 (by decide)) (n157 15 (by decide)) (n157 16 (by decide))
              have hfr : frm t F157 F1 := fun j hj => ⟨by rw [n157 18 (by decide)], by rw [u157, upz_ne (by omega)], by rw [n157 20 (by decide)]⟩
              have e18' : F157 18 t = (p : Int) := by rw [n157 18 (by decide)]; exact e18
              have e20' : F157 20 t = g := by rw [n157 20 (by decide)]; exact e20
              have e19' := congrFun u157 t
              rw [upz_eq] at e19'
              refine i_iload C dX7_lays_158 (kk := ?_)
              refine i_if_eq C dX7_lays_160 (tgt := 179) (kt := fun hB160 => ?_) (kf := fun hB160 => ?_)
              · exfalso; omega
              · refine i_iload C dX7_lays_163 (kk := ?_)
                refine i_iconst C dX7_lays_165 (kk := ?_)
                refine i_icmp_ne C dX7_lays_166 (tgt := 205) (kt := fun hB166 => ?_) (kf := fun hB166 => ?_)
                · refine i_iload C dX7_lays_205 (kk := ?_)
                  refine i_bipush C dX7_lays_207 (kk := ?_)
                  refine i_icmp_eq C dX7_lays_209 (tgt := 219) (kt := fun hB209 => ?_) (kf := fun hB209 => ?_)
                  · exfalso; omega
                  · refine i_iload C dX7_lays_212 (kk := ?_)
                    refine i_bipush C dX7_lays_214 (kk := ?_)
                    refine i_icmp_ne C dX7_lays_216 (tgt := 260) (kt := fun hB216 => ?_) (kf := fun hB216 => ?_)
                    · refine i_iload C dX7_lays_260 (kk := ?_)
                      refine i_iconst C dX7_lays_262 (kk := ?_)
                      refine i_icmp_eq C dX7_lays_263 (tgt := 272) (kt := fun hB263 => ?_) (kf := fun hB263 => ?_)
                      · exfalso; omega
                      · refine i_iload C dX7_lays_266 (kk := ?_)
                        refine i_iconst C dX7_lays_268 (kk := ?_)
                        refine i_icmp_ne C dX7_lays_269 (tgt := 319) (kt := fun hB269 => ?_) (kf := fun hB269 => ?_)
                        · refine i_goto C dX7_lays_319 (tgt := 28) (kk := ?_)
                          rw [RS_no hi9 (Or.inr (Or.inr (Or.inr ⟨hs, by omega⟩)))] at K hb
                          exact ihm t p (i + 1) g _ F157 S _ _ _ _ _ _ hp hd ht hg (by omega) (by omega) hM hk157 hsh157 e18' e19' e20' hb (fun w2 F2 q4 q5 q6 q7 q8 q9 a b c d => K w2 F2 q4 q5 q6 q7 q8 q9 a b c (d.trans hfr))
                        · exfalso; omega
                    · exfalso; omega
                · exfalso; omega
            · refine i_aload_n C dX7_lays_138 (kk := ?_)
              refine i_aload_n C dX7_lays_139 (kk := ?_)
              refine i_iload C dX7_lays_140 (kk := ?_)
              refine i_callV C lk_X7_97 (c_X7_now l hl D (hM := hM) (p := p) (v := sNv σ p) hp (hV1.2.2.2.1 p hp).1 h20) (hcl := rfl) (hst := rfl) dX7_lays_142 (hw := hM.obj) (kk := fun v142 w142 g142 => ?_)
              obtain ⟨rfl, q142⟩ := g142
              have q142 := q142.symm
              subst q142
              refine i_iload C dX7_lays_145 (kk := ?_)
              refine i_callV C lk_X7_134 (c_X7_behind l hl D (hM := hM) (v := 21 * p + sNv σ p) (i := i) (ps := sT σ p) (by omega) htxt htx.1.1 htl htx.1.2.1 htx.2.1 hi9 hs) (hcl := rfl) (hst := rfl) dX7_lays_147 (hw := hM.obj) (kk := fun v147 w147 g147 => ?_)
              obtain ⟨⟨j, hij, hjl, hjR, rfl⟩, q147⟩ := g147
              have q147 := q147.symm
              subst q147
              have hrs : RS (sT σ) p g i = RS (sT σ) p g j := by rw [RS_at hi9, if_pos ⟨hs, by omega⟩]; exact hjR _ _ _
              refine i_goto C dX7_lays_150 (tgt := 157) (kk := ?_)
              refine m_iasF C hM 19 (t) (N := 16) dX7_lays_157 (kk := fun w157 F157 hM u157 n157 => ?_)
              have hk157 : ∀ k, k ≤ 13 → F157 k = F k := fun k h => by rw [n157 k (by omega)]; exact hk k h
              have hsh157 : shown S F157 := hsh.congr (n157 14 (by decide)) (n157 15 (by decide)) (n157 16 (by decide))
              have hfr : frm t F157 F1 := fun j hj => ⟨by rw [n157 18 (by decide)], by rw [u157, upz_ne (by omega)], by rw [n157 20 (by decide)]⟩
              have e18' : F157 18 t = (p : Int) := by rw [n157 18 (by decide)]; exact e18
              have e20' : F157 20 t = g := by rw [n157 20 (by decide)]; exact e20
              have e19' := congrFun u157 t
              rw [upz_eq] at e19'
              refine i_iload C dX7_lays_158 (kk := ?_)
              refine i_if_eq C dX7_lays_160 (tgt := 179) (kt := fun hB160 => ?_) (kf := fun hB160 => ?_)
              · exfalso; omega
              · refine i_iload C dX7_lays_163 (kk := ?_)
                refine i_iconst C dX7_lays_165 (kk := ?_)
                refine i_icmp_ne C dX7_lays_166 (tgt := 205) (kt := fun hB166 => ?_) (kf := fun hB166 => ?_)
                · refine i_iload C dX7_lays_205 (kk := ?_)
                  refine i_bipush C dX7_lays_207 (kk := ?_)
                  refine i_icmp_eq C dX7_lays_209 (tgt := 219) (kt := fun hB209 => ?_) (kf := fun hB209 => ?_)
                  · exfalso; omega
                  · refine i_iload C dX7_lays_212 (kk := ?_)
                    refine i_bipush C dX7_lays_214 (kk := ?_)
                    refine i_icmp_ne C dX7_lays_216 (tgt := 260) (kt := fun hB216 => ?_) (kf := fun hB216 => ?_)
                    · refine i_iload C dX7_lays_260 (kk := ?_)
                      refine i_iconst C dX7_lays_262 (kk := ?_)
                      refine i_icmp_eq C dX7_lays_263 (tgt := 272) (kt := fun hB263 => ?_) (kf := fun hB263 => ?_)
                      · exfalso; omega
                      · refine i_iload C dX7_lays_266 (kk := ?_)
                        refine i_iconst C dX7_lays_268 (kk := ?_)
                        refine i_icmp_ne C dX7_lays_269 (tgt := 319) (kt := fun hB269 => ?_) (kf := fun hB269 => ?_)
                        · refine i_goto C dX7_lays_319 (tgt := 28) (kk := ?_)
                          rw [hrs] at K hb
                          exact ihm t p j g _ F157 S _ _ _ _ _ _ hp hd ht hg (by omega) (by omega) hM hk157 hsh157 e18' e19' e20' hb (fun w2 F2 q4 q5 q6 q7 q8 q9 a b c d => K w2 F2 q4 q5 q6 q7 q8 q9 a b c (d.trans hfr))
                        · exfalso; omega
                    · exfalso; omega
                · exfalso; omega
        · have hk9 : kd (pcs (sT σ p) i).1 = 5 := by omega
          refine i_aload_n C dX7_lays_116 (kk := ?_)
          refine i_getf C f_X7_58 dX7_lays_117 (hw := hM.obj) (kk := ?_)
          refine i_iload_n C dX7_lays_120 (kk := ?_)
          refine i_iload C dX7_lays_121 (kk := ?_)
          refine i_iconst C dX7_lays_123 (kk := ?_)
          refine i_icmp_ne C dX7_lays_124 (tgt := 153) (kt := fun hB124 => ?_) (kf := fun hB124 => ?_)
          · refine i_iload C dX7_lays_153 (kk := ?_)
            refine i_iconst C dX7_lays_155 (kk := ?_)
            refine i_iadd C dX7_lays_156 (kk := ?_)
            refine m_iasF C hM 19 (t) (N := 16) dX7_lays_157 (kk := fun w157 F157 hM u157 n157 => ?_)
            have hk157 : ∀ k, k ≤ 13 → F157 k = F k := fun k h => by rw [n157 k (by omega)]; exact hk k h
            have hsh157 : shown S F157 := hsh.congr (n157 14 (by decide)) (n157 15 (by decide)) (n157 16 (by decide))
            have hfr : frm t F157 F1 := fun j hj => ⟨by rw [n157 18 (by decide)], by rw [u157, upz_ne (by omega)], by rw [n157 20 (by decide)]⟩
            have e18' : F157 18 t = (p : Int) := by rw [n157 18 (by decide)]; exact e18
            have e20' : F157 20 t = g := by rw [n157 20 (by decide)]; exact e20
            have e19' := congrFun u157 t
            rw [upz_eq] at e19'
            refine i_iload C dX7_lays_158 (kk := ?_)
            refine i_if_eq C dX7_lays_160 (tgt := 179) (kt := fun hB160 => ?_) (kf := fun hB160 => ?_)
            · exfalso; omega
            · refine i_iload C dX7_lays_163 (kk := ?_)
              refine i_iconst C dX7_lays_165 (kk := ?_)
              refine i_icmp_ne C dX7_lays_166 (tgt := 205) (kt := fun hB166 => ?_) (kf := fun hB166 => ?_)
              · refine i_iload C dX7_lays_205 (kk := ?_)
                refine i_bipush C dX7_lays_207 (kk := ?_)
                refine i_icmp_eq C dX7_lays_209 (tgt := 219) (kt := fun hB209 => ?_) (kf := fun hB209 => ?_)
                · exfalso; omega
                · refine i_iload C dX7_lays_212 (kk := ?_)
                  refine i_bipush C dX7_lays_214 (kk := ?_)
                  refine i_icmp_ne C dX7_lays_216 (tgt := 260) (kt := fun hB216 => ?_) (kf := fun hB216 => ?_)
                  · refine i_iload C dX7_lays_260 (kk := ?_)
                    refine i_iconst C dX7_lays_262 (kk := ?_)
                    refine i_icmp_eq C dX7_lays_263 (tgt := 272) (kt := fun hB263 => ?_) (kf := fun hB263 => ?_)
                    · exfalso; omega
                    · refine i_iload C dX7_lays_266 (kk := ?_)
                      refine i_iconst C dX7_lays_268 (kk := ?_)
                      refine i_icmp_ne C dX7_lays_269 (tgt := 319) (kt := fun hB269 => ?_) (kf := fun hB269 => ?_)
                      · refine i_goto C dX7_lays_319 (tgt := 28) (kk := ?_)
                        rw [RS_no hi9 (Or.inr (Or.inl hs))] at K hb
                        exact ihm t p (i + 1) g _ F157 S _ _ _ _ _ _ hp hd ht hg (by omega) (by omega) hM hk157 hsh157 e18' e19' e20' hb (fun w2 F2 q4 q5 q6 q7 q8 q9 a b c d => K w2 F2 q4 q5 q6 q7 q8 q9 a b c (d.trans hfr))
                      · exfalso; omega
                  · exfalso; omega
              · exfalso; omega
          · exfalso; omega
        · have hk9 : kd (pcs (sT σ p) i).1 = 8 := by omega
          refine i_aload_n C dX7_lays_116 (kk := ?_)
          refine i_getf C f_X7_58 dX7_lays_117 (hw := hM.obj) (kk := ?_)
          refine i_iload_n C dX7_lays_120 (kk := ?_)
          refine i_iload C dX7_lays_121 (kk := ?_)
          refine i_iconst C dX7_lays_123 (kk := ?_)
          refine i_icmp_ne C dX7_lays_124 (tgt := 153) (kt := fun hB124 => ?_) (kf := fun hB124 => ?_)
          · refine i_iload C dX7_lays_153 (kk := ?_)
            refine i_iconst C dX7_lays_155 (kk := ?_)
            refine i_iadd C dX7_lays_156 (kk := ?_)
            refine m_iasF C hM 19 (t) (N := 16) dX7_lays_157 (kk := fun w157 F157 hM u157 n157 => ?_)
            have hk157 : ∀ k, k ≤ 13 → F157 k = F k := fun k h => by rw [n157 k (by omega)]; exact hk k h
            have hsh157 : shown S F157 := hsh.congr (n157 14 (by decide)) (n157 15 (by decide)) (n157 16 (by decide))
            have hfr : frm t F157 F1 := fun j hj => ⟨by rw [n157 18 (by decide)], by rw [u157, upz_ne (by omega)], by rw [n157 20 (by decide)]⟩
            have e18' : F157 18 t = (p : Int) := by rw [n157 18 (by decide)]; exact e18
            have e20' : F157 20 t = g := by rw [n157 20 (by decide)]; exact e20
            have e19' := congrFun u157 t
            rw [upz_eq] at e19'
            refine i_iload C dX7_lays_158 (kk := ?_)
            refine i_if_eq C dX7_lays_160 (tgt := 179) (kt := fun hB160 => ?_) (kf := fun hB160 => ?_)
            · exfalso; omega
            · refine i_iload C dX7_lays_163 (kk := ?_)
              refine i_iconst C dX7_lays_165 (kk := ?_)
              refine i_icmp_ne C dX7_lays_166 (tgt := 205) (kt := fun hB166 => ?_) (kf := fun hB166 => ?_)
              · refine i_iload C dX7_lays_205 (kk := ?_)
                refine i_bipush C dX7_lays_207 (kk := ?_)
                refine i_icmp_eq C dX7_lays_209 (tgt := 219) (kt := fun hB209 => ?_) (kf := fun hB209 => ?_)
                · exfalso; omega
                · refine i_iload C dX7_lays_212 (kk := ?_)
                  refine i_bipush C dX7_lays_214 (kk := ?_)
                  refine i_icmp_ne C dX7_lays_216 (tgt := 260) (kt := fun hB216 => ?_) (kf := fun hB216 => ?_)
                  · refine i_iload C dX7_lays_260 (kk := ?_)
                    refine i_iconst C dX7_lays_262 (kk := ?_)
                    refine i_icmp_eq C dX7_lays_263 (tgt := 272) (kt := fun hB263 => ?_) (kf := fun hB263 => ?_)
                    · exfalso; omega
                    · refine i_iload C dX7_lays_266 (kk := ?_)
                      refine i_iconst C dX7_lays_268 (kk := ?_)
                      refine i_icmp_ne C dX7_lays_269 (tgt := 319) (kt := fun hB269 => ?_) (kf := fun hB269 => ?_)
                      · refine i_goto C dX7_lays_319 (tgt := 28) (kk := ?_)
                        rw [RS_no hi9 (Or.inr (Or.inr (Or.inl hs)))] at K hb
                        exact ihm t p (i + 1) g _ F157 S _ _ _ _ _ _ hp hd ht hg (by omega) (by omega) hM hk157 hsh157 e18' e19' e20' hb (fun w2 F2 q4 q5 q6 q7 q8 q9 a b c d => K w2 F2 q4 q5 q6 q7 q8 q9 a b c (d.trans hfr))
                      · exfalso; omega
                  · exfalso; omega
              · exfalso; omega
          · exfalso; omega
      · have hnil : RS (sT σ) p g i = [] := RS_end (by omega)
        refine i_iinc C dX7_lays_64 (kk := ?_)
        refine i_goto C dX7_lays_67 (tgt := 319) (kk := ?_)
        refine i_goto C dX7_lays_319 (tgt := 28) (kk := ?_)
        rw [hnil, List.append_nil] at K
        exact K w1 F1 _ _ _ _ _ _ hM hk hsh (fun j hj => ⟨rfl, rfl, rfl⟩)
  have hfx := shl_RS hS hp0 hg0.1
  have h100 := shl_le hS hp0 g0
  rw [hfx] at h100
  obtain ⟨-, d2, -⟩ := hS.dx
  exact main 6 ((sT σ p0).length + 1) 0 p0 0 g0 _ F27 [] _ _ _ _ _ _ hp0 (by have := d2 p0 hp0; omega) (by have := d2 p0 hp0; omega) hg0 (by omega) (Nat.zero_le _) hM (fun k h => by rw [n27 k (by omega), n20 k (by omega), n13 k (by omega)]) shown.nil (by rw [n27 18 (by decide), n20 18 (by decide), u13, upz_eq]) (by rw [n27 19 (by decide), u20, upz_eq]; rfl) (by rw [u27, upz_eq]) (by show 0 + _ ≤ 100; omega) (fun w2 F2 q4 q5 q6 q7 q8 q9 a b c d => by
    refine i_iload_n C dX7_lays_28 (kk := ?_)
    refine i_if_lt C dX7_lays_29 (tgt := 322) (kt := fun hB => ?_) (kf := fun hB => ?_)
    · exact i_vret C (d := dX7_lays_322) (h := ⟨rfl, F2, by rw [hfx]; exact a, b, by rw [hfx]; exact c⟩)
    · exfalso; omega)
