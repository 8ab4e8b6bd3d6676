theorem Z32_shlN {m p : Nat} (hp : p < 32) (hm : m * 2 ^ p < 2 ^ 32) : Z32 (m : Int) <<< (Z32 (p : Int) &&& 31) = Z32 ((m * 2 ^ p : Nat) : Int) := by
  rw [Z32_n, Z32_n, Z32_n]
  exact pk_shlN (n := m) (nI p &&& 31) p (sh_l p hp) hm
theorem Z32_and15 (a : Nat) : Z32 (a : Int) &&& Z32 15 = Z32 ((a % 16 : Nat) : Int) := by
  have h := Z32_and a 15
  rw [show (15 : Nat) = 2 ^ 4 - 1 from rfl, Nat.and_two_pow_sub_one_eq_mod] at h
  exact h
/-- fours of bits -/
def pk4 (f : Nat → Nat) : Nat → Nat
  | 0 => 0
  | n + 1 => pk4 f n + 2 ^ (4 * n) * f n
theorem pk4_lt {f : Nat → Nat} (h : ∀ j, f j < 16) : ∀ n, pk4 f n < 2 ^ (4 * n)
  | 0 => Nat.one_pos
  | n + 1 => by
    have ih := pk4_lt h n
    have h1 := h n
    show pk4 f n + 2 ^ (4 * n) * f n < 2 ^ (4 * (n + 1))
    rw [Nat.mul_add, Nat.pow_add]
    have h2 : 2 ^ (4 * n) * f n ≤ 2 ^ (4 * n) * 15 := Nat.mul_le_mul_left _ (by omega)
    omega
theorem pk4_lt5 {f : Nat → Nat} (h : ∀ j, f j < 16) {n : Nat} (hn : n ≤ 5) : pk4 f n < 2 ^ 20 := Nat.lt_of_lt_of_le (pk4_lt h n) (Nat.pow_le_pow_right (by decide) (by omega))
theorem or_add {a i b : Nat} (h : a < 2 ^ i) : a ||| b * 2 ^ i = a + 2 ^ i * b := by
  rw [Nat.mul_comm b, Nat.or_comm, ← Nat.two_pow_add_eq_or_of_lt h b, Nat.add_comm]
theorem pk4_at {f : Nat → Nat} (h : ∀ j, f j < 16) {j : Nat} : ∀ n, j < n → pk4 f n / 2 ^ (4 * j) % 16 = f j
  | 0, hj => absurd hj (Nat.not_lt_zero _)
  | n + 1, hj => by
    show (pk4 f n + 2 ^ (4 * n) * f n) / 2 ^ (4 * j) % 16 = f j
    by_cases z : j = n
    · subst z
      rw [Nat.add_mul_div_left _ _ (Nat.two_pow_pos _), Nat.div_eq_of_lt (pk4_lt h j), Nat.zero_add]
      exact Nat.mod_eq_of_lt (h j)
    · have ih := pk4_at h n (show j < n by omega)
      have e : 2 ^ (4 * n) * f n = 2 ^ (4 * j) * (16 * (2 ^ (4 * (n - j - 1)) * f n)) := by
        rw [show (16 : Nat) = 2 ^ 4 from rfl, ← Nat.mul_assoc, ← Nat.mul_assoc, ← Nat.pow_add, ← Nat.pow_add, show 4 * j + 4 + 4 * (n - j - 1) = 4 * n by omega]
      rw [e, Nat.add_mul_div_left _ _ (Nat.two_pow_pos _), Nat.add_mul_mod_self_left]
      exact ih
theorem dpN_le {fc : Nat → Nat} : ∀ (n p : Nat), p < 12 → dpN fc n p ≤ n
  | 0, _, _ => Nat.le_refl 0
  | n + 1, p, hp => by
    apply Decidable.byContradiction
    intro z
    obtain ⟨q, a, b, c⟩ := dOC_get (show n + 1 + 1 ≤ dOC fc (dpN fc n) p 12 from (by
      have : dpN fc (n + 1) p = dOC fc (dpN fc n) p 12 := rfl
      omega))
    have := dpN_le (fc := fc) n q a
    omega
/-- more than five deep, by six rounds or by eleven -/
theorem dp6 {fc : Nat → Nat} {p : Nat} (hp : p < 12) : 5 < dpN fc 6 p ↔ 5 < dpN fc 11 p := by
  constructor <;> intro h
  · obtain ⟨f, f0, f1⟩ := dpN_path (fc := fc) 6 6 p hp (by omega)
    have := dpN_ge 6 11 p f (by omega) f0 f1
    omega
  · obtain ⟨f, f0, f1⟩ := dpN_path (fc := fc) 11 6 p hp (by omega)
    have := dpN_ge 6 6 p f (by omega) f0 f1
    omega
theorem fc_hi {T : Nat → List Pc3} (hs : ∀ q, q < 12 → ∀ pc ∈ T q, Sm6 pc) {a b : Nat} (ha : a < 12) (hb : b < 12) (h5 : 5 ≤ b) : fcT T (12 * a + b) = 0 := by
  rw [fcT_at T hb]
  apply Decidable.byContradiction
  intro z
  have h1 := (clS_bit (q := b) (hs a ha)).mpr (by omega)
  have e : 2 ^ 5 ≤ 2 ^ b := Nat.pow_le_pow_right (by decide) h5
  rw [Nat.testBit_lt_two_pow (Nat.lt_of_lt_of_le (clS_lt (hs a ha)) e)] at h1
  cases h1
theorem dOC_5 {T : Nat → List Pc3} (hs : ∀ q, q < 12 → ∀ pc ∈ T q, Sm6 pc) {f : Nat → Nat} {a : Nat} (ha : a < 12) : ∀ k, k ≤ 7 → dOC (fcT T) f a (5 + k) = dOC (fcT T) f a 5
  | 0, _ => rfl
  | k + 1, hk => by
    have ih := dOC_5 hs (f := f) ha k (by omega)
    show (if 0 < fcT T (12 * a + (5 + k)) then _ else dOC (fcT T) f a (5 + k)) = _
    rw [fc_hi hs ha (by omega) (by omega), if_neg (Nat.lt_irrefl 0), ih]
theorem dOC_b {fc f : Nat → Nat} {a M : Nat} (h : ∀ j, j < 12 → f j ≤ M) : ∀ n, n ≤ 12 → dOC fc f a n ≤ M + 1
  | 0, _ => Nat.zero_le _
  | n + 1, hn => by
    have ih := dOC_b (fc := fc) (a := a) h n (by omega)
    have h1 := h n (by omega)
    unfold dOC
    split <;> omega
theorem pk4_cong {f g : Nat → Nat} : ∀ {n : Nat}, (∀ j, j < n → f j = g j) → pk4 f n = pk4 g n
  | 0, _ => rfl
  | n + 1, h => by
    have ih := pk4_cong (f := f) (g := g) (n := n) (fun j hj => h j (by omega))
    show pk4 f n + _ = pk4 g n + _
    rw [ih, h n (by omega)]
theorem pk4_0 : ∀ n, pk4 (fun _ => 0) n = 0
  | 0 => rfl
  | n + 1 => by
    show pk4 _ n + 2 ^ (4 * n) * 0 = 0
    rw [pk4_0 n, Nat.mul_zero]
set_option maxRecDepth 100000 in
set_option maxHeartbeats 4000000 in
theorem c_L_depths (l : Launch) (hl : l.stackTraces = false) (D : gD) {w : wW} {a1 a2 a4 : Nat} {σ : Sg} {ft : Nat → Int64} {fz fr fv : Nat → Int} {o : Int} {x : Int64} {ps : List Pc3} {T : Nat → List Pc3} (h1 : w a1 = some (lar D 60 ft) := by assumption) (h2 : w a2 = some (iar D 60 fz) := by assumption) (h4 : w a4 = some (iar D 16 fv) := by assumption) (hR : LwR σ ft fz fr fv := by assumption) (hx : Tx64 ps x) (hT : TO σ o ps T) (ho : inR o := by omega) : CTm l D yL_depths cL_depths 15 (some .int) (rmL 3 0 0) [.ref a1, .ref a2, .ref a4, .int (Z32 o), .long x, .int (Z32 (ps.length : Int))] w (fun u w1 => u = some (.int (Z32 ((pk4 (dpN (fcT T) 6) 5 : Nat) : Int))) ∧ w1 = w) := by
  refine CTm_ofL hl false rfl [some (.ref a1), some (.ref a2), some (.ref a4), some (.int (Z32 o)), some (.long x), none, some (.int (Z32 (ps.length : Int))), none, none, none, none, none, none, none, none] (by rfl) (Nat.le_of_ble_eq_true rfl) (fun h => nomatch h) ?_
  intro G C
  have hs := fun q (hq : q < 12) => hT.sm hR hx hq
  refine i_iconst C dL_depths_0 (kk := ?_)
  refine i_istore C dL_depths_1 (kk := ?_)
  refine i_iconst C dL_depths_3 (kk := ?_)
  refine i_istore C dL_depths_4 (kk := ?_)
  have lp : ∀ (m k : Nat) (o9 o10 o11 o12 o13 o14 : Option Value), 6 + 1 ≤ m + k → k ≤ 6 → G 0 0 w [some (.ref a1), some (.ref a2), some (.ref a4), some (.int (Z32 o)), some (.long x), none, some (.int (Z32 (ps.length : Int))), some (.int (Z32 ((pk4 (dpN (fcT T) k) 5 : Nat) : Int))), some (.int (Z32 (k : Int))), o9, o10, o11, o12, o13, o14] 6 [] := by
    intro m
    induction m with
    | zero => intro k o9 o10 o11 o12 o13 o14 h1 h2; omega
    | succ m ih =>
    intro k o9 o10 o11 o12 o13 o14 h1 h2 
    refine i_iload C dL_depths_6 (kk := ?_)
    refine i_bipush C dL_depths_8 (kk := ?_)
    refine i_icmp_ge C dL_depths_10 (tgt := 153) (kt := fun hB10 => ?_) (kf := fun hB10 => ?_)
    · have e6 : k = 6 := by omega
      subst e6
      refine i_iload C dL_depths_153 (kk := ?_)
      exact i_iret C (d := dL_depths_155) (h := ⟨rfl, rfl⟩)
    · have hf16 : ∀ j, (fun j => if j < 12 then dpN (fcT T) k j else 0) j < 16 := fun j => by (dsimp only; split; (have := dpN_le (fc := fcT T) k j (by omega); omega); omega)
      obtain ⟨f, hf⟩ : ∃ f : Nat → Nat, f = fun j => if j < 12 then dpN (fcT T) k j else 0 := ⟨_, rfl⟩
      rw [← hf] at hf16
      have hfd : ∀ j, j < 12 → f j = dpN (fcT T) k j := fun j hj => by rw [hf]; exact if_pos hj
      have hf6 : ∀ j, j < 12 → f j ≤ 5 := fun j hj => by (rw [hfd j hj]; have := dpN_le (fc := fcT T) k j hj; omega)
      have epk : pk4 (dpN (fcT T) k) 5 = pk4 f 5 := pk4_cong (fun j hj => (hfd j (by omega)).symm)
      rw [epk]
      have hpl := pk4_lt5 hf16 (n := 5) (Nat.le_refl _)
      refine i_iconst C dL_depths_13 (kk := ?_)
      refine i_istore C dL_depths_14 (kk := ?_)
      refine i_iconst C dL_depths_16 (kk := ?_)
      refine i_istore C dL_depths_17 (kk := ?_)
      have lp2 : ∀ (m i : Nat) (g9 : Nat → Nat) (o11 o12 o13 o14 : Option Value), 5 + 1 ≤ m + i → i ≤ 5 → (∀ j, g9 j < 16) → (∀ j, j < i → g9 j = dpN (fcT T) (k + 1) j) → G 0 0 w [some (.ref a1), some (.ref a2), some (.ref a4), some (.int (Z32 o)), some (.long x), none, some (.int (Z32 (ps.length : Int))), some (.int (Z32 ((pk4 f 5 : Nat) : Int))), some (.int (Z32 (k : Int))), some (.int (Z32 ((pk4 g9 i : Nat) : Int))), some (.int (Z32 (i : Int))), o11, o12, o13, o14] 19 [] := by
        intro m
        induction m with
        | zero => intro i g9 o11 o12 o13 o14 h1 h2; omega
        | succ m ih2 =>
        intro i g9 o11 o12 o13 o14 h1 h2 hg hge
        refine i_iload C dL_depths_19 (kk := ?_)
        refine i_iconst C dL_depths_21 (kk := ?_)
        refine i_icmp_ge C dL_depths_22 (tgt := 143) (kt := fun hB22 => ?_) (kf := fun hB22 => ?_)
        · have e5 : i = 5 := by omega
          subst e5
          refine i_iload C dL_depths_143 (kk := ?_)
          refine i_istore C dL_depths_145 (kk := ?_)
          refine i_iinc C dL_depths_147 (kk := ?_)
          refine i_goto C dL_depths_150 (tgt := 6) (kk := ?_)
          rw [pk4_cong (g := dpN (fcT T) (k + 1)) hge]
          exact ih (k + 1) _ _ _ _ _ _ (by omega) (by omega)
        · have hg16 : ∀ j, g9 j < 16 := hg
          have hgl := pk4_lt5 hg (n := i) (by omega)
          have hgl2 := pk4_lt hg i
          refine i_iload C dL_depths_25 (kk := ?_)
          refine i_iload_n C dL_depths_27 (kk := ?_)
          have hcl5 := clS_lt (hs i (by omega))
          have jt : G 0 0 w [some (.ref a1), some (.ref a2), some (.ref a4), some (.int (Z32 o)), some (.long x), none, some (.int (Z32 (ps.length : Int))), some (.int (Z32 ((pk4 f 5 : Nat) : Int))), some (.int (Z32 (k : Int))), some (.int (Z32 ((pk4 g9 i : Nat) : Int))), some (.int (Z32 (i : Int))), o11, o12, o13, o14] 60 [.int (Z32 ((clS (T i) : Nat) : Int))] := by
            refine i_istore C dL_depths_60 (kk := ?_)
            refine i_iconst C dL_depths_62 (kk := ?_)
            refine i_istore C dL_depths_63 (kk := ?_)
            refine i_iconst C dL_depths_65 (kk := ?_)
            refine i_istore C dL_depths_66 (kk := ?_)
            have lp3 : ∀ (m j : Nat) (o14 : Option Value), 5 + 1 ≤ m + j → j ≤ 5 → G 0 0 w [some (.ref a1), some (.ref a2), some (.ref a4), some (.int (Z32 o)), some (.long x), none, some (.int (Z32 (ps.length : Int))), some (.int (Z32 ((pk4 f 5 : Nat) : Int))), some (.int (Z32 (k : Int))), some (.int (Z32 ((pk4 g9 i : Nat) : Int))), some (.int (Z32 (i : Int))), some (.int (Z32 ((clS (T i) : Nat) : Int))), some (.int (Z32 ((dOC (fcT T) f i j : Nat) : Int))), some (.int (Z32 (j : Int))), o14] 68 [] := by
              intro m
              induction m with
              | zero => intro j o14 h1 h2; omega
              | succ m ih3 =>
              intro j o14 h1 h2 
              refine i_iload C dL_depths_68 (kk := ?_)
              refine i_iconst C dL_depths_70 (kk := ?_)
              refine i_icmp_ge C dL_depths_71 (tgt := 125) (kt := fun hB71 => ?_) (kf := fun hB71 => ?_)
              · have e5 : j = 5 := by omega
                subst e5
                have hm6 := dOC_b (fc := fcT T) (a := i) hf6 5 (by omega)
                have e12 : dOC (fcT T) f i 5 = dOC (fcT T) (dpN (fcT T) k) i 12 := by rw [← dOC_5 hs (f := f) (by omega) 7 (by omega)]; exact dOC_congF (by omega) (fun _ _ => rfl) hfd 12 (Nat.le_refl _)
                refine i_iload C dL_depths_125 (kk := ?_)
                refine i_iload C dL_depths_127 (kk := ?_)
                refine i_iconst C dL_depths_129 (kk := ?_)
                refine i_iload C dL_depths_130 (kk := ?_)
                refine i_imul C dL_depths_132 (kk := ?_)
                rw [show (4 : Int) * (i : Int) = ((4 * i : Nat) : Int) by omega]
                have hmul : dOC (fcT T) f i 5 * 2 ^ (4 * i) < 2 ^ 20 := by
                  have q1 : 2 ^ (4 * i) ≤ 2 ^ 16 := Nat.pow_le_pow_right (by decide) (by omega)
                  have q2 : dOC (fcT T) f i 5 * 2 ^ (4 * i) ≤ 15 * 2 ^ 16 := Nat.mul_le_mul (by omega) q1
                  omega
                refine i_ishl C dL_depths_133 (hz := Z32_shlN (by omega) (by omega)) (kk := ?_)
                refine i_ior C dL_depths_134 (hz := (Z32_or _ _).trans (congrArg (fun n : Nat => Z32 (n : Int)) (or_add hgl2))) (kk := ?_)
                refine i_istore C dL_depths_135 (kk := ?_)
                refine i_iinc C dL_depths_137 (kk := ?_)
                refine i_goto C dL_depths_140 (tgt := 19) (kk := ?_)
                have e9 : pk4 g9 i + 2 ^ (4 * i) * dOC (fcT T) f i 5 = pk4 (upz g9 i (dOC (fcT T) f i 5)) (i + 1) := by
                  show _ = pk4 (upz g9 i (dOC (fcT T) f i 5)) i + 2 ^ (4 * i) * upz g9 i (dOC (fcT T) f i 5) i
                  rw [upz_eq, pk4_cong (f := upz g9 i (dOC (fcT T) f i 5)) (g := g9) (fun j hj => upz_ne (by omega))]
                rw [e9]
                exact ih2 (i + 1) _ _ _ _ _ (by omega) (by omega) (fun j => by by_cases z : j = i; (subst z; rw [upz_eq]; omega); (rw [upz_ne z]; exact hg j)) (fun j hj => by by_cases z : j = i; (subst z; rw [upz_eq, e12]; rfl); (rw [upz_ne z]; exact hge j (by omega)))
              · have hm6 := dOC_b (fc := fcT T) (a := i) hf6 j (by omega)
                have hfj := hf6 j (by omega)
                refine i_iload C dL_depths_74 (kk := ?_)
                refine i_iload C dL_depths_76 (kk := ?_)
                refine i_ishr C dL_depths_78 (hz := Z32_shr (by omega) (by omega)) (kk := ?_)
                refine i_iconst C dL_depths_79 (kk := ?_)
                refine i_iand C dL_depths_80 (hz := Z32_and1 _) (kk := ?_)
                refine i_iconst C dL_depths_81 (kk := ?_)
                have hb := bit_mod (clS (T i)) j
                rw [hb]
                have jd : ∀ z : Int, ((0 < fcT T (12 * i + j) ∧ z = (f j : Int) + 1) ∨ (¬ 0 < fcT T (12 * i + j) ∧ z = 0)) → G 0 0 w [some (.ref a1), some (.ref a2), some (.ref a4), some (.int (Z32 o)), some (.long x), none, some (.int (Z32 (ps.length : Int))), some (.int (Z32 ((pk4 f 5 : Nat) : Int))), some (.int (Z32 (k : Int))), some (.int (Z32 ((pk4 g9 i : Nat) : Int))), some (.int (Z32 (i : Int))), some (.int (Z32 ((clS (T i) : Nat) : Int))), some (.int (Z32 ((dOC (fcT T) f i j : Nat) : Int))), some (.int (Z32 (j : Int))), o14] 101 [.int (Z32 z)] := by
                  intro z hz
                  refine i_istore C dL_depths_101 (kk := ?_)
                  refine i_iload C dL_depths_103 (kk := ?_)
                  refine i_iload C dL_depths_105 (kk := ?_)
                  have hd1 : dOC (fcT T) f i (j + 1) = if 0 < fcT T (12 * i + j) then max (dOC (fcT T) f i j) (f j + 1) else dOC (fcT T) f i j := rfl
                  have hd2 : ((dOC (fcT T) f i (j + 1) : Nat) : Int) = max ((dOC (fcT T) f i j : Nat) : Int) z := by (rcases hz with ⟨q1, q2⟩ | ⟨q1, q2⟩; (rw [hd1, if_pos q1, q2]; omega); (rw [hd1, if_neg q1, q2]; omega))
                  have je : ∀ y : Int, y = ((dOC (fcT T) f i (j + 1) : Nat) : Int) → G 0 0 w [some (.ref a1), some (.ref a2), some (.ref a4), some (.int (Z32 o)), some (.long x), none, some (.int (Z32 (ps.length : Int))), some (.int (Z32 ((pk4 f 5 : Nat) : Int))), some (.int (Z32 (k : Int))), some (.int (Z32 ((pk4 g9 i : Nat) : Int))), some (.int (Z32 (i : Int))), some (.int (Z32 ((clS (T i) : Nat) : Int))), some (.int (Z32 ((dOC (fcT T) f i j : Nat) : Int))), some (.int (Z32 (j : Int))), some (.int (Z32 z))] 117 [.int (Z32 y)] := by
                    intro y hy
                    subst hy
                    refine i_istore C dL_depths_117 (kk := ?_)
                    refine i_iinc C dL_depths_119 (kk := ?_)
                    refine i_goto C dL_depths_122 (tgt := 68) (kk := ?_)
                    exact ih3 (j + 1) _ (by omega) (by omega)
                  refine i_icmp_le C dL_depths_107 (tgt := 115) (kt := fun hB107 => ?_) (kf := fun hB107 => ?_)
                  · refine i_iload C dL_depths_115 (kk := ?_)
                    exact je _ (by rw [hd2]; omega)
                  · refine i_iload C dL_depths_110 (kk := ?_)
                    refine i_goto C dL_depths_112 (tgt := 117) (kk := ?_)
                    exact je _ (by rw [hd2]; omega)
                refine i_icmp_ne C dL_depths_82 (tgt := 100) (ha := by split <;> decide) (kt := fun hB82 => ?_) (kf := fun hB82 => ?_)
                · have eD : ((0 < fcT T (12 * i + j) ∧ (0 : Int) = (f j : Int) + 1) ∨ (¬ 0 < fcT T (12 * i + j) ∧ (0 : Int) = 0)) := Or.inr ⟨fun z => hB82 (by rw [fcT_at T (by omega)] at z; rw [if_pos ((clS_bit (hs i (by omega))).mpr z)]; rfl), rfl⟩
                  refine i_iconst C dL_depths_100 (kk := ?_)
                  exact jd _ eD
                · have hz9 : (clS (T i)).testBit j = true := by apply Decidable.byContradiction; intro z; rw [if_neg z] at hB82; exact absurd hB82 (by decide)
                  have hfc : 0 < fcT T (12 * i + j) := by rw [fcT_at T (by omega)]; exact (clS_bit (hs i (by omega))).mp hz9
                  refine i_iload C dL_depths_85 (kk := ?_)
                  refine i_iconst C dL_depths_87 (kk := ?_)
                  refine i_iload C dL_depths_88 (kk := ?_)
                  refine i_imul C dL_depths_90 (kk := ?_)
                  rw [show (4 : Int) * (j : Int) = ((4 * j : Nat) : Int) by omega]
                  refine i_ishr C dL_depths_91 (hz := Z32_shr (by omega) (by omega)) (kk := ?_)
                  refine i_bipush C dL_depths_92 (kk := ?_)
                  refine i_iand C dL_depths_94 (hz := Z32_and15 _) (kk := ?_)
                  rw [pk4_at hf16 5 (by omega)]
                  refine i_iconst C dL_depths_95 (kk := ?_)
                  refine i_iadd C dL_depths_96 (kk := ?_)
                  have eD : ((0 < fcT T (12 * i + j) ∧ (f j : Int) + 1 = (f j : Int) + 1) ∨ (¬ 0 < fcT T (12 * i + j) ∧ (f j : Int) + 1 = 0)) := Or.inl ⟨hfc, rfl⟩
                  refine i_goto C dL_depths_97 (tgt := 101) (kk := ?_)
                  exact jd _ eD
            exact lp3 6 0 _ (by omega) (by omega)
          refine i_icmp_ne C dL_depths_28 (tgt := 41) (kt := fun hB28 => ?_) (kf := fun hB28 => ?_)
          · refine i_aload_n C dL_depths_41 (kk := ?_)
            refine i_aload_n C dL_depths_42 (kk := ?_)
            refine i_iload C dL_depths_43 (kk := ?_)
            refine i_callS C lk_L_24 (c_L_now l hl D (p := i)) (hst := rfl) dL_depths_45 (kk := fun v45 w45 g45 => ?_)
            obtain ⟨rfl, q45⟩ := g45
            have q45 := q45.symm
            subst q45
            have hn11 := (hR.nv (p := i) (by omega)).2
            refine i_laload C dL_depths_48 (kk := ?_)
            rw [Int.toNat_natCast]
            refine i_aload_n C dL_depths_49 (kk := ?_)
            refine i_aload_n C dL_depths_50 (kk := ?_)
            refine i_iload C dL_depths_51 (kk := ?_)
            refine i_callS C lk_L_24 (c_L_now l hl D (p := i)) (hst := rfl) dL_depths_53 (kk := fun v53 w53 g53 => ?_)
            obtain ⟨rfl, q53⟩ := g53
            have q53 := q53.symm
            subst q53
            refine i_iaload C dL_depths_56 (kk := ?_)
            rw [Int.toNat_natCast, hR.sz (p := i) (by omega)]
            refine i_callS C lk_L_21 (c_L_calls l hl D (hR.tx (p := i) (by omega))) (hst := rfl) dL_depths_57 (kk := fun v57 w57 g57 => ?_)
            obtain ⟨rfl, q57⟩ := g57
            have q57 := q57.symm
            subst q57
            have ecl : clS (sT σ i) = clS (T i) := by rw [(hT.1 i (by omega)).2 (by omega)]
            rw [ecl]
            exact jt
          · refine i_lload C dL_depths_31 (kk := ?_)
            refine i_iload C dL_depths_33 (kk := ?_)
            refine i_callS C lk_L_21 (c_L_calls l hl D hx) (hst := rfl) dL_depths_35 (kk := fun v35 w35 g35 => ?_)
            obtain ⟨rfl, q35⟩ := g35
            have q35 := q35.symm
            subst q35
            have ecl : clS ps = clS (T i) := by rw [(hT.1 i (by omega)).1 (by omega)]
            rw [ecl]
            refine i_goto C dL_depths_38 (tgt := 60) (kk := ?_)
            exact jt
      exact lp2 6 0 (fun _ => 0) _ _ _ _ (by omega) (by omega) (fun _ => by omega) (fun j hj => absurd hj (Nat.not_lt_zero j))
  have e0 : pk4 (dpN (fcT T) 0) 5 = 0 := pk4_0 5
  have l1 := lp 7 0 none none none none none none (by omega) (by omega)
  rw [e0] at l1
  exact l1
