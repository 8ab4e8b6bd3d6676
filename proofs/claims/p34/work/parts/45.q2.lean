def an7 (x : Int32) : Int := ((x.toBitVec.toNat % 2 ^ 31 : Nat) : Int)
theorem an7_R (x : Int32) : 0 ≤ an7 x ∧ an7 x < 2147483648 := by
  unfold an7
  have := Nat.mod_lt x.toBitVec.toNat (show 0 < 2 ^ 31 by decide)
  omega
theorem an7_eq (x : Int32) : x &&& Z32 2147483647 = Z32 (an7 x) := by
  apply Int32.toBitVec_inj.1
  show x.toBitVec &&& BitVec.ofNat 32 2147483647 = BitVec.ofNat 32 (x.toBitVec.toNat % 2 ^ 31)
  apply BitVec.eq_of_toNat_eq
  rw [BitVec.toNat_and, BitVec.toNat_ofNat, BitVec.toNat_ofNat, show 2147483647 % 2 ^ 32 = 2 ^ 31 - 1 by decide, Nat.and_two_pow_sub_one_eq_mod, Nat.mod_eq_of_lt (Nat.lt_of_lt_of_le (Nat.mod_lt _ (by decide)) (by decide))]
theorem pow6 (i : Nat) : 2 ^ (6 * i) = 64 ^ i := by rw [Nat.pow_mul]
theorem tx6_63 {cs : List Nat} (h : ∀ c ∈ cs, c < 50) (h9 : cs.length ≤ 9) : tx6 cs < 2 ^ 54 := by
  have h1 := tx6_lt (cs := cs) (fun c hc => Nat.lt_trans (h c hc) (by decide))
  have h2 : 64 ^ cs.length ≤ 64 ^ 9 := Nat.pow_le_pow_right (by decide) h9
  have h3 : 64 ^ 9 = 2 ^ 54 := by decide
  omega
set_option maxRecDepth 100000 in
set_option maxHeartbeats 4000000 in
theorem c_L_from (l : Launch) (hl : l.stackTraces = false) (D : gD) {w : wW} {k bl : Int} (hL : D.2.2.2.2.2.1 ≤ 260) (hk : 0 ≤ k ∧ k < 100000) (hb : 0 < bl) (hb2 : bl < 2147483648) : CTm l D yL_from cL_from 4 (some .int) (rmL 1 0 0) [.ref D.2.2.2.2.1, .int (Z32 k), .int (Z32 bl)] w (fun u w1 => (∃ v : Nat, u = some (.int (Z32 (v : Int))) ∧ (v : Int) < bl) ∧ w1 = w) := by
  refine CTm_of hl false rfl (by rfl) (Nat.le_of_ble_eq_true rfl) (fun h => nomatch h) ?_
  intro G C
  show G 0 0 w [some (.ref D.2.2.2.2.1), some (.int (Z32 k)), some (.int (Z32 bl)), none] 0 []
  refine i_aload_n C dL_from_0 (kk := ?_)
  refine i_slen C dL_from_1 (kk := ?_)
  refine i_if_ne C dL_from_2 (tgt := 17) (kt := fun hB2 => ?_) (kf := fun hB2 => ?_)
  · have e1 := Int.emod_nonneg k (b := (D.2.2.2.2.2.1 : Int)) hB2
    have e2 := Int.emod_lt_of_pos k (b := (D.2.2.2.2.2.1 : Int)) (by omega)
    refine i_aload_n C dL_from_17 (kk := ?_)
    refine i_iload_n C dL_from_18 (kk := ?_)
    refine i_aload_n C dL_from_19 (kk := ?_)
    refine i_slen C dL_from_20 (kk := ?_)
    refine i_irem C dL_from_21 (kk := ?_)
    refine i_sld C dL_from_22 e1 e2 (by omega) (kk := fun z hz => ?_)
    refine i_ldc C k_L_7 dL_from_23 (kk := ?_)
    refine i_iload_n C dL_from_25 (kk := ?_)
    refine i_imul C dL_from_26 (kk := ?_)
    refine i_ixor C dL_from_27 (hz := rfl) (kk := ?_)
    obtain ⟨x9, hx9⟩ : ∃ x9, x9 = Z32 (283 * k + 263) := ⟨_, rfl⟩
    first | rw [← hx9] | (clear hx9; obtain ⟨x9, hx9⟩ : ∃ x9, x9 = Z32 z ^^^ Z32 (224737 * k) := ⟨_, rfl⟩; rw [← hx9])
    have h7 := an7_R x9
    refine i_istore_n C dL_from_28 (kk := ?_)
    refine i_iload_n C dL_from_29 (kk := ?_)
    refine i_ldc C k_L_8 dL_from_30 (kk := ?_)
    refine i_iand C dL_from_32 (hz := an7_eq _) (kk := ?_)
    refine i_iload_n C dL_from_33 (kk := ?_)
    refine i_irem C dL_from_34 (kk := ?_)
    exact i_iret C (d := dL_from_35) (h := ⟨⟨(an7 x9 % bl).toNat, by rw [Int.toNat_of_nonneg (Int.emod_nonneg _ (by omega))], by rw [Int.toNat_of_nonneg (Int.emod_nonneg _ (by omega))]; exact Int.emod_lt_of_pos _ hb⟩, rfl⟩)
  · refine i_sipush C dL_from_5 (kk := ?_)
    refine i_iload_n C dL_from_8 (kk := ?_)
    refine i_imul C dL_from_9 (kk := ?_)
    refine i_sipush C dL_from_10 (kk := ?_)
    refine i_iadd C dL_from_13 (kk := ?_)
    refine i_goto C dL_from_14 (tgt := 28) (kk := ?_)
    obtain ⟨x9, hx9⟩ : ∃ x9, x9 = Z32 (283 * k + 263) := ⟨_, rfl⟩
    first | rw [← hx9] | (clear hx9; obtain ⟨x9, hx9⟩ : ∃ x9, x9 = Z32 z ^^^ Z32 (224737 * k) := ⟨_, rfl⟩; rw [← hx9])
    have h7 := an7_R x9
    refine i_istore_n C dL_from_28 (kk := ?_)
    refine i_iload_n C dL_from_29 (kk := ?_)
    refine i_ldc C k_L_8 dL_from_30 (kk := ?_)
    refine i_iand C dL_from_32 (hz := an7_eq _) (kk := ?_)
    refine i_iload_n C dL_from_33 (kk := ?_)
    refine i_irem C dL_from_34 (kk := ?_)
    exact i_iret C (d := dL_from_35) (h := ⟨⟨(an7 x9 % bl).toNat, by rw [Int.toNat_of_nonneg (Int.emod_nonneg _ (by omega))], by rw [Int.toNat_of_nonneg (Int.emod_nonneg _ (by omega))]; exact Int.emod_lt_of_pos _ hb⟩, rfl⟩)

set_option maxRecDepth 100000 in
set_option maxHeartbeats 4000000 in
theorem c_L_piece (l : Launch) (hl : l.stackTraces = false) (D : gD) {w : wW} {cs : List Nat} {i : Nat} (hc : ∀ c ∈ cs, c < 50) (h9 : cs.length ≤ 9) (hi : i ≤ 9) : CTm l D yL_piece cL_piece 3 (some .int) (rmL 1 0 0) [.long (X64 (tx6 cs)), .int (Z32 (i : Int))] w (fun u w1 => u = some (.int (Z32 ((cs.getD i 0 : Nat) : Int))) ∧ w1 = w) := by
  refine CTm_ofL hl false rfl [some (.long (X64 (tx6 cs))), none, some (.int (Z32 (i : Int)))] (by rfl) (Nat.le_of_ble_eq_true rfl) (fun h => nomatch h) ?_
  intro G C
  refine i_lload_n C dL_piece_0 (kk := ?_)
  refine i_bipush C dL_piece_1 (kk := ?_)
  refine i_iload_n C dL_piece_3 (kk := ?_)
  refine i_imul C dL_piece_4 (kk := ?_)
  have h63 := tx6_63 hc h9
  rw [show (6 : Int) * (i : Int) = ((6 * i : Nat) : Int) by omega]
  refine i_lushr C dL_piece_5 (hz := X64_ushr (by omega) (by omega)) (kk := ?_)
  refine i_ldc2 C k_L_9 dL_piece_6 (kk := ?_)
  refine i_land C dL_piece_9 (hz := X64_and63 _) (kk := ?_)
  refine i_l2i C dL_piece_10 (hz := X64_i _ (Nat.mod_lt _ (by decide))) (kk := ?_)
  exact i_iret C (d := dL_piece_11) (h := ⟨by rw [pow6, tx6_at i (fun c h => Nat.lt_trans (hc c h) (by decide))], rfl⟩)

set_option maxRecDepth 100000 in
set_option maxHeartbeats 4000000 in
theorem cG_L_now (l : Launch) (hl : l.stackTraces = false) (D : gD) {w : wW} {a4 p n : Nat} {fv : Nat → Int} (h4 : w a4 = some (iar D 16 fv) := by assumption) (hv : fv p = (n : Int)) (hp : p < 5 := by omega) : CTm l D yL_now cL_now 2 (some .int) (rmL 1 0 0) [.ref a4, .int (Z32 (p : Int))] w (fun u w1 => u = some (.int (Z32 ((12 * p + n : Nat) : Int))) ∧ w1 = w) := by
  refine CTm_of hl false rfl (by rfl) (Nat.le_of_ble_eq_true rfl) (fun h => nomatch h) ?_
  intro G C
  show G 0 0 w [some (.ref a4), some (.int (Z32 (p : Int)))] 0 []
  refine i_bipush C dL_now_0 (kk := ?_)
  refine i_iload_n C dL_now_2 (kk := ?_)
  refine i_imul C dL_now_3 (kk := ?_)
  refine i_aload_n C dL_now_4 (kk := ?_)
  refine i_iload_n C dL_now_5 (kk := ?_)
  refine i_iaload C dL_now_6 (kk := ?_)
  rw [Int.toNat_natCast, hv]
  refine i_iadd C dL_now_7 (kk := ?_)
  exact i_iret C (d := dL_now_8) (h := ⟨by rw [show (12 : Int) * (p : Int) + (n : Int) = ((12 * p + n : Nat) : Int) by omega], rfl⟩)

theorem c_L_now (l : Launch) (hl : l.stackTraces = false) (D : gD) {w : wW} {a4 p : Nat} {σ : Sg} {ft : Nat → Int64} {fz fr fv : Nat → Int} (h4 : w a4 = some (iar D 16 fv) := by assumption) (hR : LwR σ ft fz fr fv := by assumption) (hp : p < 5 := by omega) : CTm l D yL_now cL_now 2 (some .int) (rmL 1 0 0) [.ref a4, .int (Z32 (p : Int))] w (fun u w1 => u = some (.int (Z32 ((12 * p + sNv σ p : Nat) : Int))) ∧ w1 = w) := cG_L_now l hl D (h4 := h4) (hR.nv hp).1 hp
theorem no_call {c : Nat} (h : c < 4 ∨ 28 < c) : clD (dc6 c) = -1 := by
  by_cases z0 : c < 3
  · rw [dc6_0 z0]; rfl
  by_cases z3 : c = 3
  · subst z3; rfl
  by_cases z6 : c < 32
  · rw [dc6_6 (by omega) z6]; rfl
  by_cases z7 : c = 32
  · subst z7; rfl
  by_cases z1 : c < 35
  · rw [dc6_1 (by omega) z1]; rfl
  by_cases z2 : c < 45
  · rw [dc6_2 (by omega) z2]; rfl
  · rw [dc6_8 (by omega)]; rfl
set_option maxRecDepth 100000 in
set_option maxHeartbeats 4000000 in
theorem c_L_called (l : Launch) (hl : l.stackTraces = false) (D : gD) {w : wW} {c : Nat} (hc : c < 50) : CTm l D yL_called cL_called 1 (some .int) (rmL 1 0 0) [.int (Z32 (c : Int))] w (fun u w1 => u = some (.int (Z32 (clD (dc6 c)))) ∧ w1 = w) := by
  refine CTm_of hl false rfl (by rfl) (Nat.le_of_ble_eq_true rfl) (fun h => nomatch h) ?_
  intro G C
  show G 0 0 w [some (.int (Z32 (c : Int)))] 0 []
  refine i_iload_n C dL_called_0 (kk := ?_)
  refine i_iconst C dL_called_1 (kk := ?_)
  refine i_icmp_lt C dL_called_2 (tgt := 19) (kt := fun hB2 => ?_) (kf := fun hB2 => ?_)
  · refine i_iload_n C dL_called_19 (kk := ?_)
    refine i_bipush C dL_called_20 (kk := ?_)
    refine i_icmp_lt C dL_called_22 (tgt := 38) (kt := fun hB22 => ?_) (kf := fun hB22 => ?_)
    · refine i_iconst C dL_called_38 (kk := ?_)
      exact i_iret C (d := dL_called_39) (h := ⟨by
          first
            | (rw [show ((c : Int) - 4) / 4 = (((c - 4) / 4 : Nat) : Int) by omega, dc6_4 (by omega) (by omega)]; rfl)
            | (rw [show (c : Int) - 24 = ((c - 24 : Nat) : Int) by omega, dc6_5 (by omega) (by omega)]; rfl)
            | (rw [no_call (by omega)]; done), rfl⟩)
    · refine i_iload_n C dL_called_25 (kk := ?_)
      refine i_bipush C dL_called_26 (kk := ?_)
      refine i_icmp_gt C dL_called_28 (tgt := 38) (kt := fun hB28 => ?_) (kf := fun hB28 => ?_)
      · refine i_iconst C dL_called_38 (kk := ?_)
        exact i_iret C (d := dL_called_39) (h := ⟨by
            first
              | (rw [show ((c : Int) - 4) / 4 = (((c - 4) / 4 : Nat) : Int) by omega, dc6_4 (by omega) (by omega)]; rfl)
              | (rw [show (c : Int) - 24 = ((c - 24 : Nat) : Int) by omega, dc6_5 (by omega) (by omega)]; rfl)
              | (rw [no_call (by omega)]; done), rfl⟩)
      · refine i_iload_n C dL_called_31 (kk := ?_)
        refine i_bipush C dL_called_32 (kk := ?_)
        refine i_isub C dL_called_34 (kk := ?_)
        refine i_goto C dL_called_35 (tgt := 39) (kk := ?_)
        exact i_iret C (d := dL_called_39) (h := ⟨by
            first
              | (rw [show ((c : Int) - 4) / 4 = (((c - 4) / 4 : Nat) : Int) by omega, dc6_4 (by omega) (by omega)]; rfl)
              | (rw [show (c : Int) - 24 = ((c - 24 : Nat) : Int) by omega, dc6_5 (by omega) (by omega)]; rfl)
              | (rw [no_call (by omega)]; done), rfl⟩)
  · refine i_iload_n C dL_called_5 (kk := ?_)
    refine i_bipush C dL_called_6 (kk := ?_)
    refine i_icmp_gt C dL_called_8 (tgt := 19) (kt := fun hB8 => ?_) (kf := fun hB8 => ?_)
    · refine i_iload_n C dL_called_19 (kk := ?_)
      refine i_bipush C dL_called_20 (kk := ?_)
      refine i_icmp_lt C dL_called_22 (tgt := 38) (kt := fun hB22 => ?_) (kf := fun hB22 => ?_)
      · refine i_iconst C dL_called_38 (kk := ?_)
        exact i_iret C (d := dL_called_39) (h := ⟨by
            first
              | (rw [show ((c : Int) - 4) / 4 = (((c - 4) / 4 : Nat) : Int) by omega, dc6_4 (by omega) (by omega)]; rfl)
              | (rw [show (c : Int) - 24 = ((c - 24 : Nat) : Int) by omega, dc6_5 (by omega) (by omega)]; rfl)
              | (rw [no_call (by omega)]; done), rfl⟩)
      · refine i_iload_n C dL_called_25 (kk := ?_)
        refine i_bipush C dL_called_26 (kk := ?_)
        refine i_icmp_gt C dL_called_28 (tgt := 38) (kt := fun hB28 => ?_) (kf := fun hB28 => ?_)
        · refine i_iconst C dL_called_38 (kk := ?_)
          exact i_iret C (d := dL_called_39) (h := ⟨by
              first
                | (rw [show ((c : Int) - 4) / 4 = (((c - 4) / 4 : Nat) : Int) by omega, dc6_4 (by omega) (by omega)]; rfl)
                | (rw [show (c : Int) - 24 = ((c - 24 : Nat) : Int) by omega, dc6_5 (by omega) (by omega)]; rfl)
                | (rw [no_call (by omega)]; done), rfl⟩)
        · refine i_iload_n C dL_called_31 (kk := ?_)
          refine i_bipush C dL_called_32 (kk := ?_)
          refine i_isub C dL_called_34 (kk := ?_)
          refine i_goto C dL_called_35 (tgt := 39) (kk := ?_)
          exact i_iret C (d := dL_called_39) (h := ⟨by
              first
                | (rw [show ((c : Int) - 4) / 4 = (((c - 4) / 4 : Nat) : Int) by omega, dc6_4 (by omega) (by omega)]; rfl)
                | (rw [show (c : Int) - 24 = ((c - 24 : Nat) : Int) by omega, dc6_5 (by omega) (by omega)]; rfl)
                | (rw [no_call (by omega)]; done), rfl⟩)
    · refine i_iload_n C dL_called_11 (kk := ?_)
      refine i_iconst C dL_called_12 (kk := ?_)
      refine i_isub C dL_called_13 (kk := ?_)
      refine i_iconst C dL_called_14 (kk := ?_)
      refine i_idiv C dL_called_15 (kk := ?_)
      refine i_goto C dL_called_16 (tgt := 39) (kk := ?_)
      exact i_iret C (d := dL_called_39) (h := ⟨by
          first
            | (rw [show ((c : Int) - 4) / 4 = (((c - 4) / 4 : Nat) : Int) by omega, dc6_4 (by omega) (by omega)]; rfl)
            | (rw [show (c : Int) - 24 = ((c - 24 : Nat) : Int) by omega, dc6_5 (by omega) (by omega)]; rfl)
            | (rw [no_call (by omega)]; done), rfl⟩)

set_option maxRecDepth 100000 in
set_option maxHeartbeats 4000000 in
theorem c_L_calls (l : Launch) (hl : l.stackTraces = false) (D : gD) {w : wW} {x : Int64} {ps : List Pc3} (hx : Tx64 ps x) : CTm l D yL_calls cL_calls 5 (some .int) (rmL 2 0 0) [.long x, .int (Z32 (ps.length : Int))] w (fun u w1 => u = some (.int (Z32 ((clS ps : Nat) : Int))) ∧ w1 = w) := by
  refine CTm_ofL hl false rfl [some (.long x), none, some (.int (Z32 (ps.length : Int))), none, none] (by rfl) (Nat.le_of_ble_eq_true rfl) (fun h => nomatch h) ?_
  intro G C
  have hsm := hx.sm
  obtain ⟨cs, hps, hc, h9, rfl⟩ := hx
  have hlen : ps.length = cs.length := by rw [hps, List.length_map]
  refine i_iconst C dL_calls_0 (kk := ?_)
  refine i_istore_n C dL_calls_1 (kk := ?_)
  refine i_iconst C dL_calls_2 (kk := ?_)
  refine i_istore C dL_calls_3 (kk := ?_)
  have lp : ∀ (m i : Nat), ps.length + 1 ≤ m + i → i ≤ ps.length → G 0 0 w [some (.long (X64 (tx6 cs))), none, some (.int (Z32 (ps.length : Int))), some (.int (Z32 ((clS (ps.take i) : Nat) : Int))), some (.int (Z32 (i : Int)))] 5 [] := by
    intro m
    induction m with
    | zero => intro i h1 h2; omega
    | succ m ih =>
    intro i h1 h2
    refine i_iload C dL_calls_5 (kk := ?_)
    refine i_iload_n C dL_calls_7 (kk := ?_)
    refine i_icmp_ge C dL_calls_8 (tgt := 47) (kt := fun hB8 => ?_) (kf := fun hB8 => ?_)
    · have ei : i = ps.length := by omega
      subst ei
      refine i_iload_n C dL_calls_47 (kk := ?_)
      exact i_iret C (d := dL_calls_48) (h := ⟨by rw [List.take_of_length_le (Nat.le_refl _)], rfl⟩)
    · have hgd := getD_lt hc i
      have epc : pcs ps i = dc6 (cs.getD i 0) := by rw [hps]; exact pcs_map (by omega)
      have hS6 := dc6_Sm hgd
      have hcb := clb_clD hS6
      have hcR := hS6.2
      have etk := clS_take (ps := ps) (i := i) (by omega)
      rw [epc, hcb] at etk
      refine i_iload_n C dL_calls_11 (kk := ?_)
      refine i_lload_n C dL_calls_12 (kk := ?_)
      refine i_iload C dL_calls_13 (kk := ?_)
      refine i_callS C lk_L_11 (c_L_piece l hl D (cs := cs) (i := i) hc h9 (by omega)) (hst := rfl) dL_calls_15 (kk := fun v15 w15 g15 => ?_)
      obtain ⟨rfl, q15⟩ := g15
      have q15 := q15.symm
      subst q15
      refine i_callS C lk_L_17 (c_L_called l hl D hgd) (hst := rfl) dL_calls_18 (kk := fun v18 w18 g18 => ?_)
      obtain ⟨rfl, q18⟩ := g18
      have q18 := q18.symm
      subst q18
      refine i_if_ge C dL_calls_21 (tgt := 28) (kt := fun hB21 => ?_) (kf := fun hB21 => ?_)
      · rw [if_neg (by omega)] at etk
        refine i_iconst C dL_calls_28 (kk := ?_)
        refine i_lload_n C dL_calls_29 (kk := ?_)
        refine i_iload C dL_calls_30 (kk := ?_)
        refine i_callS C lk_L_11 (c_L_piece l hl D (cs := cs) (i := i) hc h9 (by omega)) (hst := rfl) dL_calls_32 (kk := fun v32 w32 g32 => ?_)
        obtain ⟨rfl, q32⟩ := g32
        have q32 := q32.symm
        subst q32
        refine i_callS C lk_L_17 (c_L_called l hl D hgd) (hst := rfl) dL_calls_35 (kk := fun v35 w35 g35 => ?_)
        obtain ⟨rfl, q35⟩ := g35
        have q35 := q35.symm
        subst q35
        obtain ⟨k9, hk9⟩ : ∃ k9 : Nat, clD (dc6 (cs.getD i 0)) = (k9 : Int) := ⟨(clD (dc6 (cs.getD i 0))).toNat, by omega⟩
        rw [hk9] at etk ⊢
        rw [Int.toNat_natCast] at etk
        refine i_ishl C dL_calls_38 (hz := Z32_shl (by omega)) (kk := ?_)
        refine i_ior C dL_calls_39 (hz := by first | exact (Z32_or _ (2 ^ k9)).trans (by rw [← etk]) | exact (Z32_or _ 0).trans (by rw [Nat.or_zero, ← etk])) (kk := ?_)
        refine i_istore_n C dL_calls_40 (kk := ?_)
        refine i_iinc C dL_calls_41 (kk := ?_)
        refine i_goto C dL_calls_44 (tgt := 5) (kk := ?_)
        exact ih (i + 1) (by omega) (by omega)
      · rw [if_pos (by omega), Nat.or_zero] at etk
        refine i_iconst C dL_calls_24 (kk := ?_)
        refine i_goto C dL_calls_25 (tgt := 39) (kk := ?_)
        refine i_ior C dL_calls_39 (hz := by first | exact (Z32_or _ (2 ^ k9)).trans (by rw [← etk]) | exact (Z32_or _ 0).trans (by rw [Nat.or_zero, ← etk])) (kk := ?_)
        refine i_istore_n C dL_calls_40 (kk := ?_)
        refine i_iinc C dL_calls_41 (kk := ?_)
        refine i_goto C dL_calls_44 (tgt := 5) (kk := ?_)
        exact ih (i + 1) (by omega) (by omega)
  exact lp (ps.length + 1) 0 (by omega) (by omega)

set_option maxRecDepth 100000 in
set_option maxHeartbeats 4000000 in
theorem c_L_reach (l : Launch) (hl : l.stackTraces = false) (D : gD) {w : wW} {p : Nat} {a1 a2 a4 : Nat} {σ : Sg} {ft : Nat → Int64} {fz fr fv : Nat → Int} {o : Int} {x : Int64} {ps : List Pc3} {T : Nat → List Pc3} (h1 : w a1 = some (lar D 60 ft) := by assumption) (h2 : w a2 = some (iar D 60 fz) := by assumption) (h4 : w a4 = some (iar D 16 fv) := by assumption) (hR : LwR σ ft fz fr fv := by assumption) (hp : p < 5) (hx : Tx64 ps x) (hT : TO σ o ps T) (ho : inR o := by omega) : CTm l D yL_reach cL_reach 11 (some .int) (rmL 3 0 0) [.ref a1, .ref a2, .ref a4, .int (Z32 (p : Int)), .int (Z32 o), .long x, .int (Z32 (ps.length : Int))] w (fun u w1 => u = some (.int (Z32 ((rsT T p : Nat) : Int))) ∧ w1 = w) := by
  refine CTm_ofL hl false rfl [some (.ref a1), some (.ref a2), some (.ref a4), some (.int (Z32 (p : Int))), some (.int (Z32 o)), some (.long x), none, some (.int (Z32 (ps.length : Int))), none, none, none] (by rfl) (Nat.le_of_ble_eq_true rfl) (fun h => nomatch h) ?_
  intro G C
  have hs := fun q (hq : q < 12) => hT.sm hR hx hq
  refine i_iconst C dL_reach_0 (kk := ?_)
  refine i_istore C dL_reach_1 (kk := ?_)
  refine i_iload_n C dL_reach_3 (kk := ?_)
  refine i_iload C dL_reach_4 (kk := ?_)
  have jn : G 0 0 w [some (.ref a1), some (.ref a2), some (.ref a4), some (.int (Z32 (p : Int))), some (.int (Z32 o)), some (.long x), none, some (.int (Z32 (ps.length : Int))), some (.int (Z32 ((0 : Nat) : Int))), none, none] 36 [.int (Z32 ((clS (T p) : Nat) : Int))] := by
    refine i_istore C dL_reach_36 (kk := ?_)
    have lp : ∀ (m S M : Nat) (o8 : Option Value), 32 + 1 ≤ m + S → rIn T p S 5 M → G 0 0 w [some (.ref a1), some (.ref a2), some (.ref a4), some (.int (Z32 (p : Int))), some (.int (Z32 o)), some (.long x), none, some (.int (Z32 (ps.length : Int))), some (.int (Z32 (S : Int))), some (.int (Z32 (M : Int))), o8] 38 [] := by
      intro m
      induction m with
      | zero => intro S M o8 hm hI; have h1 := hI.1.le; have h2 := hI.2.2.2.2; omega
      | succ m ih =>
      intro S M o8 hm hI
      have hle := hI.1.le
      have hM5 := hI.2.2.2.2
      refine i_iload C dL_reach_38 (kk := ?_)
      refine i_iload C dL_reach_40 (kk := ?_)
      refine i_icmp_eq C dL_reach_42 (tgt := 119) (kt := fun hB42 => ?_) (kf := fun hB42 => ?_)
      · have e9 : S = M := by omega
        subst e9
        refine i_iload C dL_reach_119 (kk := ?_)
        exact i_iret C (d := dL_reach_121) (h := ⟨by rw [← hI.done hs hT.2 hp], rfl⟩)
      · refine i_iload C dL_reach_45 (kk := ?_)
        refine i_istore C dL_reach_47 (kk := ?_)
        refine i_iconst C dL_reach_49 (kk := ?_)
        refine i_istore C dL_reach_50 (kk := ?_)
        have lp2 : ∀ (m i : Nat) (N : Nat), 5 + 1 ≤ m + i → i ≤ 5 → rIn T p M i N → G 0 0 w [some (.ref a1), some (.ref a2), some (.ref a4), some (.int (Z32 (p : Int))), some (.int (Z32 o)), some (.long x), none, some (.int (Z32 (ps.length : Int))), some (.int (Z32 (M : Int))), some (.int (Z32 (N : Int))), some (.int (Z32 (i : Int)))] 52 [] := by
          intro m
          induction m with
          | zero => intro i N h1 h2; omega
          | succ m ih2 =>
          intro i N h1 h2 hJ
          have hN5 := hJ.2.2.2.2
          refine i_iload C dL_reach_52 (kk := ?_)
          refine i_iconst C dL_reach_54 (kk := ?_)
          refine i_icmp_ge C dL_reach_55 (tgt := 116) (kt := fun hB55 => ?_) (kf := fun hB55 => ?_)
          · have e5 : i = 5 := by omega
            subst e5
            refine i_goto C dL_reach_116 (tgt := 38) (kk := ?_)
            exact ih M N _ (by have : S ≠ M := fun z => hB42 (by rw [z]); omega) hJ
          · have hst := hJ.step hs (by omega)
            refine i_iload C dL_reach_58 (kk := ?_)
            refine i_iload C dL_reach_60 (kk := ?_)
            refine i_ishr C dL_reach_62 (hz := Z32_shr (by omega) (by omega)) (kk := ?_)
            refine i_iconst C dL_reach_63 (kk := ?_)
            refine i_iand C dL_reach_64 (hz := Z32_and1 _) (kk := ?_)
            refine i_iconst C dL_reach_65 (kk := ?_)
            have hb := bit_mod M i
            rw [hb]
            refine i_icmp_ne C dL_reach_66 (tgt := 110) (ha := by split <;> decide) (kt := fun hB66 => ?_) (kf := fun hB66 => ?_)
            · rw [if_neg (fun z => hB66 (by rw [if_pos z]; rfl))] at hst
              refine i_iinc C dL_reach_110 (kk := ?_)
              refine i_goto C dL_reach_113 (tgt := 52) (kk := ?_)
              first | exact ih2 (i + 1) N (by omega) (by omega) hst | exact ih2 (i + 1) _ (by omega) (by omega) hst
            · have hz9 : M.testBit i = true := by apply Decidable.byContradiction; intro z; rw [if_neg z] at hB66; exact absurd hB66 (by decide)
              rw [if_pos hz9] at hst
              refine i_iload C dL_reach_69 (kk := ?_)
              refine i_iload C dL_reach_71 (kk := ?_)
              refine i_iload C dL_reach_73 (kk := ?_)
              have jo : M.testBit i = true → G 0 0 w [some (.ref a1), some (.ref a2), some (.ref a4), some (.int (Z32 (p : Int))), some (.int (Z32 o)), some (.long x), none, some (.int (Z32 (ps.length : Int))), some (.int (Z32 (M : Int))), some (.int (Z32 (N : Int))), some (.int (Z32 (i : Int)))] 107 [.int (Z32 ((clS (T i) : Nat) : Int)), .int (Z32 (N : Int))] := by
                intro _
                refine i_ior C dL_reach_107 (hz := Z32_or _ _) (kk := ?_)
                refine i_istore C dL_reach_108 (kk := ?_)
                refine i_iinc C dL_reach_110 (kk := ?_)
                refine i_goto C dL_reach_113 (tgt := 52) (kk := ?_)
                first | exact ih2 (i + 1) N (by omega) (by omega) hst | exact ih2 (i + 1) _ (by omega) (by omega) hst
              refine i_icmp_ne C dL_reach_75 (tgt := 88) (kt := fun hB75 => ?_) (kf := fun hB75 => ?_)
              · refine i_aload_n C dL_reach_88 (kk := ?_)
                refine i_aload_n C dL_reach_89 (kk := ?_)
                refine i_iload C dL_reach_90 (kk := ?_)
                refine i_callS C lk_L_24 (c_L_now l hl D (p := i)) (hst := rfl) dL_reach_92 (kk := fun v92 w92 g92 => ?_)
                obtain ⟨rfl, q92⟩ := g92
                have q92 := q92.symm
                subst q92
                have hn11 := (hR.nv (p := i) (by omega)).2
                refine i_laload C dL_reach_95 (kk := ?_)
                rw [Int.toNat_natCast]
                refine i_aload_n C dL_reach_96 (kk := ?_)
                refine i_aload_n C dL_reach_97 (kk := ?_)
                refine i_iload C dL_reach_98 (kk := ?_)
                refine i_callS C lk_L_24 (c_L_now l hl D (p := i)) (hst := rfl) dL_reach_100 (kk := fun v100 w100 g100 => ?_)
                obtain ⟨rfl, q100⟩ := g100
                have q100 := q100.symm
                subst q100
                refine i_iaload C dL_reach_103 (kk := ?_)
                rw [Int.toNat_natCast, hR.sz (p := i) (by omega)]
                refine i_callS C lk_L_21 (c_L_calls l hl D (hR.tx (p := i) (by omega))) (hst := rfl) dL_reach_104 (kk := fun v104 w104 g104 => ?_)
                obtain ⟨rfl, q104⟩ := g104
                have q104 := q104.symm
                subst q104
                have ecl : clS (sT σ i) = clS (T i) := by rw [(hT.1 i (by omega)).2 (by omega)]
                rw [ecl]
                exact jo hz9
              · refine i_lload C dL_reach_78 (kk := ?_)
                refine i_iload C dL_reach_80 (kk := ?_)
                refine i_callS C lk_L_21 (c_L_calls l hl D hx) (hst := rfl) dL_reach_82 (kk := fun v82 w82 g82 => ?_)
                obtain ⟨rfl, q82⟩ := g82
                have q82 := q82.symm
                subst q82
                have ecl : clS ps = clS (T i) := by rw [(hT.1 i (by omega)).1 (by omega)]
                rw [ecl]
                refine i_goto C dL_reach_85 (tgt := 107) (kk := ?_)
                exact jo hz9
        exact lp2 6 0 M (by omega) (by omega) hI.next
    exact lp 33 0 _ _ (by omega) (rIn.start hs hp)
  refine i_icmp_ne C dL_reach_6 (tgt := 19) (kt := fun hB6 => ?_) (kf := fun hB6 => ?_)
  · refine i_aload_n C dL_reach_19 (kk := ?_)
    refine i_aload_n C dL_reach_20 (kk := ?_)
    refine i_iload_n C dL_reach_21 (kk := ?_)
    refine i_callS C lk_L_24 (c_L_now l hl D (p := p)) (hst := rfl) dL_reach_22 (kk := fun v22 w22 g22 => ?_)
    obtain ⟨rfl, q22⟩ := g22
    have q22 := q22.symm
    subst q22
    have hn11 := (hR.nv (p := p) (by omega)).2
    refine i_laload C dL_reach_25 (kk := ?_)
    rw [Int.toNat_natCast]
    refine i_aload_n C dL_reach_26 (kk := ?_)
    refine i_aload_n C dL_reach_27 (kk := ?_)
    refine i_iload_n C dL_reach_28 (kk := ?_)
    refine i_callS C lk_L_24 (c_L_now l hl D (p := p)) (hst := rfl) dL_reach_29 (kk := fun v29 w29 g29 => ?_)
    obtain ⟨rfl, q29⟩ := g29
    have q29 := q29.symm
    subst q29
    refine i_iaload C dL_reach_32 (kk := ?_)
    rw [Int.toNat_natCast, hR.sz (p := p) (by omega)]
    refine i_callS C lk_L_21 (c_L_calls l hl D (hR.tx (p := p) (by omega))) (hst := rfl) dL_reach_33 (kk := fun v33 w33 g33 => ?_)
    obtain ⟨rfl, q33⟩ := g33
    have q33 := q33.symm
    subst q33
    have ecl : clS (sT σ p) = clS (T p) := by rw [(hT.1 p (by omega)).2 (by omega)]
    rw [ecl]
    exact jn
  · refine i_lload C dL_reach_9 (kk := ?_)
    refine i_iload C dL_reach_11 (kk := ?_)
    refine i_callS C lk_L_21 (c_L_calls l hl D hx) (hst := rfl) dL_reach_13 (kk := fun v13 w13 g13 => ?_)
    obtain ⟨rfl, q13⟩ := g13
    have q13 := q13.symm
    subst q13
    have ecl : clS ps = clS (T p) := by rw [(hT.1 p (by omega)).1 (by omega)]
    rw [ecl]
    refine i_goto C dL_reach_16 (tgt := 36) (kk := ?_)
    exact jn

theorem frc5 {σ : Sg} {ft : Nat → Int64} {fz fr fv : Nat → Int} (hR : LwR σ ft fz fr fv) {p : Nat} (hp : p < 5) : frcN (sLk σ) (rsT (sT σ)) p 5 = frcS σ p := by
  have key : ∀ k, k ≤ 7 → frcN (sLk σ) (rsT (sT σ)) p (5 + k) = frcN (sLk σ) (rsT (sT σ)) p 5 := by
    intro k
    induction k with
    | zero => intro _; rfl
    | succ k ih =>
      intro hk
      have ih := ih (by omega)
      have hz : ¬ (rsT (sT σ) (5 + k)).testBit p = true := fun z => by
        obtain ⟨L, f, hL, f0, fL, fs⟩ := (rsT_bit (T := sT σ) (by omega) (by omega)).mp z
        have hg := fs 0 hL
        rw [f0] at hg
        have g4 : 0 < fcT (sT σ) (12 * (5 + k) + f (0 + 1)) := hg.2.2
        rw [fcT_at (sT σ) hg.2.1, hR.none (by omega) (by omega)] at g4
        exact absurd g4 (Nat.lt_irrefl 0)
      show (if (rsT (sT σ) (5 + k)).testBit p = true then _ else frcN (sLk σ) (rsT (sT σ)) p (5 + k)) = _
      rw [if_neg hz, ih]
  exact (key 7 (by omega)).symm
set_option maxRecDepth 100000 in
set_option maxHeartbeats 4000000 in
theorem c_L_force (l : Launch) (hl : l.stackTraces = false) (D : gD) {w : wW} {p : Nat} {a1 a2 a4 : Nat} {σ : Sg} {ft : Nat → Int64} {fz fr fv : Nat → Int} (h1 : w a1 = some (lar D 60 ft) := by assumption) (h2 : w a2 = some (iar D 60 fz) := by assumption) (h4 : w a4 = some (iar D 16 fv) := by assumption) (hR : LwR σ ft fz fr fv := by assumption) (hp : p < 5) (hS : SgOK σ) : CTm l D yL_force cL_force 7 (some .int) (rmL 4 0 0) [.ref a1, .ref a2, .ref a4, .int (Z32 (p : Int))] w (fun u w1 => u = some (.int (Z32 (frcS σ p))) ∧ w1 = w) := by
  refine CTm_of hl false rfl (by rfl) (Nat.le_of_ble_eq_true rfl) (fun h => nomatch h) ?_
  intro G C
  show G 0 0 w [some (.ref a1), some (.ref a2), some (.ref a4), some (.int (Z32 (p : Int))), none, none, none] 0 []
  refine i_aload_n C dL_force_0 (kk := ?_)
  refine i_iconst C dL_force_1 (kk := ?_)
  refine i_iload_n C dL_force_2 (kk := ?_)
  refine i_iadd C dL_force_3 (kk := ?_)
  rw [show (5 : Int) + (p : Int) = ((5 + p : Nat) : Int) by omega]
  refine i_iaload C dL_force_4 (kk := ?_)
  rw [Int.toNat_natCast, (hR.1 p hp).2.2.1]
  refine i_istore C dL_force_5 (kk := ?_)
  refine i_iconst C dL_force_7 (kk := ?_)
  refine i_istore C dL_force_8 (kk := ?_)
  have lp : ∀ (m i : Nat) (o6 : Option Value), 5 + 1 ≤ m + i → i ≤ 5 → G 0 0 w [some (.ref a1), some (.ref a2), some (.ref a4), some (.int (Z32 (p : Int))), some (.int (Z32 (frcN (sLk σ) (rsT (sT σ)) p i))), some (.int (Z32 (i : Int))), o6] 10 [] := by
    intro m
    induction m with
    | zero => intro i o6 h1 h2; omega
    | succ m ih =>
    intro i o6 h1 h2
    refine i_iload C dL_force_10 (kk := ?_)
    refine i_iconst C dL_force_12 (kk := ?_)
    refine i_icmp_ge C dL_force_13 (tgt := 69) (kt := fun hB13 => ?_) (kf := fun hB13 => ?_)
    · have e5 : i = 5 := by omega
      subst e5
      refine i_iload C dL_force_69 (kk := ?_)
      exact i_iret C (d := dL_force_71) (h := ⟨by rw [frc5 hR hp], rfl⟩)
    · have hlki := (hS.2.1 i (by omega)).2.1
      have hfo := frcN_R (fr := rsT (sT σ)) (fun i hi => (hS.2.1 i hi).2.1) (p := p) (by omega) i (by omega)
      have hrl := rsT_lt (T := sT σ) (p := i)
      refine i_aload_n C dL_force_16 (kk := ?_)
      refine i_aload_n C dL_force_17 (kk := ?_)
      refine i_aload_n C dL_force_18 (kk := ?_)
      refine i_iload C dL_force_19 (kk := ?_)
      refine i_iconst C dL_force_21 (kk := ?_)
      refine i_lconst C dL_force_22 (kk := ?_)
      refine i_iconst C dL_force_23 (kk := ?_)
      refine i_callS C lk_L_28 (c_L_reach l hl D (p := i) (hp := by omega) (hx := Tx64.nil) (hT := TO.now hR)) (hst := rfl) dL_force_24 (kk := fun v24 w24 g24 => ?_)
      obtain ⟨rfl, q24⟩ := g24
      have q24 := q24.symm
      subst q24
      refine i_istore C dL_force_27 (kk := ?_)
      refine i_iload C dL_force_29 (kk := ?_)
      refine i_iload_n C dL_force_31 (kk := ?_)
      refine i_ishr C dL_force_32 (hz := Z32_shr (by omega) (by omega)) (kk := ?_)
      refine i_iconst C dL_force_33 (kk := ?_)
      refine i_iand C dL_force_34 (hz := Z32_and1 _) (kk := ?_)
      refine i_iconst C dL_force_35 (kk := ?_)
      have hb := bit_mod (rsT (sT σ) i) p
      rw [hb]
      have jd : ∀ z : Int, z = frcN (sLk σ) (rsT (sT σ)) p (i + 1) → G 0 0 w [some (.ref a1), some (.ref a2), some (.ref a4), some (.int (Z32 (p : Int))), some (.int (Z32 (frcN (sLk σ) (rsT (sT σ)) p i))), some (.int (Z32 (i : Int))), some (.int (Z32 ((rsT (sT σ) i : Nat) : Int)))] 61 [.int (Z32 z)] := by
        intro z hz
        subst hz
        refine i_istore C dL_force_61 (kk := ?_)
        refine i_iinc C dL_force_63 (kk := ?_)
        refine i_goto C dL_force_66 (tgt := 10) (kk := ?_)
        exact ih (i + 1) _ (by omega) (by omega)
      refine i_icmp_ne C dL_force_36 (tgt := 59) (ha := by split <;> decide) (kt := fun hB36 => ?_) (kf := fun hB36 => ?_)
      · have eD : frcN (sLk σ) (rsT (sT σ)) p i = frcN (sLk σ) (rsT (sT σ)) p (i + 1) := (if_neg (fun z => hB36 (by rw [if_pos z]; rfl))).symm
        refine i_iload C dL_force_59 (kk := ?_)
        exact jd _ eD
      · have hz9 : (rsT (sT σ) i).testBit p = true := by apply Decidable.byContradiction; intro z; rw [if_neg z] at hB36; exact absurd hB36 (by decide)
        have e1 : frcN (sLk σ) (rsT (sT σ)) p (i + 1) = max (frcN (sLk σ) (rsT (sT σ)) p i) (sLk σ i) := if_pos hz9
        refine i_aload_n C dL_force_39 (kk := ?_)
        refine i_iconst C dL_force_40 (kk := ?_)
        refine i_iload C dL_force_41 (kk := ?_)
        refine i_iadd C dL_force_43 (kk := ?_)
        rw [show (5 : Int) + (i : Int) = ((5 + i : Nat) : Int) by omega]
        refine i_iaload C dL_force_44 (kk := ?_)
        rw [Int.toNat_natCast, (hR.1 i (by omega)).2.2.1]
        refine i_iload C dL_force_45 (kk := ?_)
        refine i_icmp_le C dL_force_47 (tgt := 59) (kt := fun hB47 => ?_) (kf := fun hB47 => ?_)
        · have eD : frcN (sLk σ) (rsT (sT σ)) p i = frcN (sLk σ) (rsT (sT σ)) p (i + 1) := by rw [e1]; omega
          refine i_iload C dL_force_59 (kk := ?_)
          exact jd _ eD
        · have eD : sLk σ i = frcN (sLk σ) (rsT (sT σ)) p (i + 1) := by rw [e1]; omega
          refine i_aload_n C dL_force_50 (kk := ?_)
          refine i_iconst C dL_force_51 (kk := ?_)
          refine i_iload C dL_force_52 (kk := ?_)
          refine i_iadd C dL_force_54 (kk := ?_)
          rw [show (5 : Int) + (i : Int) = ((5 + i : Nat) : Int) by omega]
          refine i_iaload C dL_force_55 (kk := ?_)
          rw [Int.toNat_natCast, (hR.1 i (by omega)).2.2.1]
          refine i_goto C dL_force_56 (tgt := 61) (kk := ?_)
          exact jd _ eD
  exact lp 6 0 _ (by omega) (by omega)
