-- ===== longs: rows, and numbers of up to 63 bits =====
section LR
variable {l : Launch} {D : gD} {own : String} {cc : ByteArray} {nL : Nat} {R : Room} {rt : Option FieldType} {ini : Bool} {hh : Option (List (Nat × Nat × Nat × Nat))} {Rp : Option Value → wW → Prop} {Xp : String → wW → Prop} {G : gG} {n k : Nat} {w : wW} {L : List (Option Value)} {pc : Nat} {st : List Value}
theorem i_lload_n (C : Cx l D own cc nL R rt ini hh Rp Xp G) {i : Fin 4} {x : Int64} (d : decode cc pc = .ok (.lload_n i, 1)) (hi : L[(i : Nat)]? = some (some (.long x)) := by rfl) (hn : L[(i : Nat) + 1]? = some none := by rfl) (kk : G n k w L (pc + 1) (.long x :: st)) : G n k w L pc st := by
  obtain ⟨p, e, s, m, args, below, meth, c, A, Q, rfl, hx, hb, F⟩ := C
  intro H locs ls hH hA hS hl
  exact lv_lload_n hx hb d rfl (lw_at2 hl hi hn) (kk H locs ls hH hA hS hl)
theorem i_lload (C : Cx l D own cc nL R rt ini hh Rp Xp G) {i : Nat} {x : Int64} (d : decode cc pc = .ok (.lload i, 2)) (hi : L[i]? = some (some (.long x)) := by rfl) (hn : L[i + 1]? = some none := by rfl) (kk : G n k w L (pc + 2) (.long x :: st)) : G n k w L pc st := by
  obtain ⟨p, e, s, m, args, below, meth, c, A, Q, rfl, hx, hb, F⟩ := C
  intro H locs ls hH hA hS hl
  exact lv_lload hx hb d (lw_at2 hl hi hn) (kk H locs ls hH hA hS hl)
theorem i_lstore (C : Cx l D own cc nL R rt ini hh Rp Xp G) {i : Nat} {x : Int64} {L' : List (Option Value)} (d : decode cc pc = .ok (.lstore i, 2)) (hL : (L.set i (some (.long x))).set (i + 1) none = L' := by rfl) (hi : i + 1 < L.length := by exact Nat.lt_of_sub_eq_succ rfl) (kk : G n k w L' (pc + 2) st) : G n k w L pc (.long x :: st) := by
  obtain ⟨p, e, s, m, args, below, meth, c, A, Q, rfl, hx, hb, F⟩ := C
  intro H locs ls hH hA hS hl
  exact lv_lstore hx hb d (lw_to hl) hi rfl (fun ls' hl' => kk H locs ls' hH hA hS (hL ▸ lw_of2 (ls := ls) hi hl'))
theorem i_land (C : Cx l D own cc nL R rt ini hh Rp Xp G) {x y z : Int64} (d : decode cc pc = .ok (.land, 1)) (hz : x &&& y = z) (kk : G n k w L (pc + 1) (.long z :: st)) : G n k w L pc (.long y :: .long x :: st) := by
  obtain ⟨p, e, s, m, args, below, meth, c, A, Q, rfl, hx, hb, F⟩ := C
  intro H locs ls hH hA hS hl
  refine lv_land hx hb d ?_
  rw [hz]
  exact kk H locs ls hH hA hS hl
theorem i_lor (C : Cx l D own cc nL R rt ini hh Rp Xp G) {x y z : Int64} (d : decode cc pc = .ok (.lor, 1)) (hz : x ||| y = z) (kk : G n k w L (pc + 1) (.long z :: st)) : G n k w L pc (.long y :: .long x :: st) := by
  obtain ⟨p, e, s, m, args, below, meth, c, A, Q, rfl, hx, hb, F⟩ := C
  intro H locs ls hH hA hS hl
  refine lv_lor hx hb d ?_
  rw [hz]
  exact kk H locs ls hH hA hS hl
theorem i_l2i (C : Cx l D own cc nL R rt ini hh Rp Xp G) {x : Int64} {z : Int32} (d : decode cc pc = .ok (.l2i, 1)) (hz : x.toInt32 = z) (kk : G n k w L (pc + 1) (.int z :: st)) : G n k w L pc (.long x :: st) := by
  obtain ⟨p, e, s, m, args, below, meth, c, A, Q, rfl, hx, hb, F⟩ := C
  intro H locs ls hH hA hS hl
  exact lv_l2i hx hb d hz (kk H locs ls hH hA hS hl)
theorem i_lushr (C : Cx l D own cc nL R rt ini hh Rp Xp G) {x z : Int64} {y : Int32} (d : decode cc pc = .ok (.lushr, 1)) (hz : (x.toUInt64 >>> (y.toInt64.toUInt64 &&& Int64.toUInt64 63)).toInt64 = z) (kk : G n k w L (pc + 1) (.long z :: st)) : G n k w L pc (.int y :: .long x :: st) := by
  obtain ⟨p, e, s, m, args, below, meth, c, A, Q, rfl, hx, hb, F⟩ := C
  intro H locs ls hH hA hS hl
  exact lv_lushr hx hb d hz (kk H locs ls hH hA hS hl)
theorem i_lshl (C : Cx l D own cc nL R rt ini hh Rp Xp G) {x z : Int64} {y : Int32} (d : decode cc pc = .ok (.lshl, 1)) (hz : x <<< (y.toInt64 &&& 63) = z) (kk : G n k w L (pc + 1) (.long z :: st)) : G n k w L pc (.int y :: .long x :: st) := by
  obtain ⟨p, e, s, m, args, below, meth, c, A, Q, rfl, hx, hb, F⟩ := C
  intro H locs ls hH hA hS hl
  exact lv_lshl hx hb d hz (kk H locs ls hH hA hS hl)
theorem i_ldc (C : Cx l D own cc nL R rt ini hh Rp Xp G) {ix : Nat} {v : Int} (hk : Cond.constant own ix (Z32 v) ∈ gT) (d : decode cc pc = .ok (.ldc ix, 2)) (kk : G n k w L (pc + 2) (.int (Z32 v) :: st)) : G n k w L pc st := by
  obtain ⟨p, e, s, m, args, below, meth, c, A, Q, rfl, hx, hb, hml, hown, hts, F⟩ := C
  intro H locs ls hH hA hS hl
  exact lv_ldc hx hb hown (hts _ hk) d (kk H locs ls hH hA hS hl)
theorem i_ldc2 (C : Cx l D own cc nL R rt ini hh Rp Xp G) {ix : Nat} {v : Int64} (hk : Cond.constantLong own ix v ∈ gT) (d : decode cc pc = .ok (.ldc2_w ix, 3)) (kk : G n k w L (pc + 3) (.long v :: st)) : G n k w L pc st := by
  obtain ⟨p, e, s, m, args, below, meth, c, A, Q, rfl, hx, hb, hml, hown, hts, F⟩ := C
  intro H locs ls hH hA hS hl
  exact lv_ldc2 hx hb hown (hts _ hk) d (kk H locs ls hH hA hS hl)
/-- the script: how long it is, and an int of it -/
theorem i_slen (C : Cx l D own cc nL R rt ini hh Rp Xp G) (d : decode cc pc = .ok (.arraylength, 1)) (kk : G n k w L (pc + 1) (.int (Z32 (D.2.2.2.2.2.1 : Int)) :: st)) : G n k w L pc (.ref D.2.2.2.2.1 :: st) := by
  obtain ⟨p, e, s, m, args, below, meth, c, A, Q, rfl, hx, hb, hml, hown, hts, hKX, hST, F⟩ := C
  intro H locs ls hH hA hS hl
  exact va_slen hx hb hST.2.2.1 hST.2.2.2.1 hST.2.2.2.2 hS d (kk H locs ls hH hA hS hl)
theorem i_sld (C : Cx l D own cc nL R rt ini hh Rp Xp G) {i : Int} (d : decode cc pc = .ok (.iaload, 1)) (h0 : 0 ≤ i) (h1 : i < D.2.2.2.2.2.1) (h2 : i < 2147483648) (kk : ∀ z : Int, inR z → G n k w L (pc + 1) (.int (Z32 z) :: st)) : G n k w L pc (.int (Z32 i) :: .ref D.2.2.2.2.1 :: st) := by
  obtain ⟨p, e, s, m, args, below, meth, c, A, Q, rfl, hx, hb, hml, hown, hts, hKX, hST, F⟩ := C
  intro H locs ls hH hA hS hl
  refine va_sld hx hb hST.2.2.1 hST.2.2.2.1 hST.2.2.2.2 hS (Z32_in h0 h1 h2) d ?_
  rw [← Z32_as (D.2.2.2.2.2.2 _)]
  exact kk _ (Z32_rng _) H locs ls hH hA hS hl
/-- calls of methods that may throw, where they don't -/
theorem i_callVF {y : MethodName} {b : ByteArray} {mL ix : Nat} {rt' : Option FieldType} {rm : Room} {Rp' : Option Value → wW → Prop} {Xp' : String → wW → Prop} {rest As : List Value} (C : Cx l D own cc nL R rt ini hh Rp Xp G) {na a ci : Nat} {fs : List Value} {T9 : u_T} {N9 : Nat} (lk : LkV own ix y b mL rt' na) (hc : CTx l D y b mL rt' rm (.ref a :: As) w Rp' Xp') (hcl : vwCl[ci]? = some (y.cls, T9, N9)) (hst : st = As.reverse ++ .ref a :: rest) (d : decode cc pc = .ok (.invokevirtual ix, 3)) (hw : w a = some (.inr (ci, fs)) := by assumption) (hxx : ∀ E w1, Xp' E w1 → False) (hna : As.length = na := by rfl) (hLn : L.length = nL := by rfl) (hR : rm.frames + 1 ≤ R.frames ∧ 8 + (mL + 11) + rm.locals ≤ R.locals := by exact ⟨Nat.le_of_ble_eq_true rfl, Nat.le_of_ble_eq_true rfl⟩) (hsum : (rest.map fun v => v.category).sum ≤ 8 := by exact Nat.le_of_ble_eq_true rfl) (hf : n + rm.cells ≤ R.cells ∧ k + rm.slots ≤ R.slots := by exact ⟨Nat.le_of_ble_eq_true rfl, Nat.le_of_ble_eq_true rfl⟩)
    (kk : ∀ (v : Option Value) (w1 : wW), Rp' v w1 → G (n + rm.cells) (k + rm.slots) w1 L (pc + 3) (v.toList ++ rest)) : G n k w L pc st := by
  subst hst
  obtain ⟨p, e, s, m, args, below, meth, c, A, Q, rfl, hx, hb, hml, hown, hts, hKX, hST, hAA, hlo, hr, hin, hst9, htab, habs, hthr⟩ := C
  obtain ⟨l1, l2, l3, l4, l5, l6⟩ := lk
  exact i_runX (av := .ref a :: As) (Xp' := Xp') hAA (fun H locs ls hH hA hS hl => vx_runV ⟨hx, hb, hml, hown, hts⟩ (hc H.size) (cwV na hts (gG_V l1 l2 l3 l4 l5) rfl rfl rfl ⟨rfl, l6⟩ hR) ⟨cP_blind, va_recv (q0 := 0) hKX.2.1 (hH.P1 hw) hcl rfl, fun U hU hW => ⟨rfl, cP_at hH hA hAA hS hKX hST hU hW⟩⟩ rfl hna (hl.1.trans hLn) rfl (lv_room hsum) d hf) (fun E w1 H1 locs1 ls ce q9 hX9 => (hxx E w1 hX9).elim) kk
end LR
def X64 (n : Nat) : Int64 := Int64.ofNat n
theorem sh64u : ∀ s, s < 64 → ((nI s).toInt64.toUInt64 &&& Int64.toUInt64 63).toNat % 64 = s := by decide +kernel
theorem sh64l : ∀ s, s < 64 → (((nI s).toInt64 &&& 63).toBitVec.smod 64).toNat = s := by decide +kernel
theorem X64_i : ∀ m : Nat, m < 64 → (X64 m).toInt32 = Z32 (m : Int) := by decide +kernel
theorem i_X64 : ∀ m : Nat, m < 64 → (Z32 (m : Int)).toInt64 = X64 m := by decide +kernel
theorem X64_ushr {n s : Nat} (hn : n < 2 ^ 64) (hs : s < 64) : ((X64 n).toUInt64 >>> ((Z32 (s : Int)).toInt64.toUInt64 &&& Int64.toUInt64 63)).toInt64 = X64 (n / 2 ^ s) := by
  have h : (X64 n).toUInt64 >>> ((Z32 (s : Int)).toInt64.toUInt64 &&& Int64.toUInt64 63) = UInt64.ofNat (n / 2 ^ s) := by
    apply UInt64.toNat_inj.1
    rw [UInt64.toNat_shiftRight, Z32_n, sh64u s hs, UInt64.toNat_ofNat']
    have e : (X64 n).toUInt64.toNat = n % 2 ^ 64 := UInt64.toNat_ofNat'
    rw [e, Nat.mod_eq_of_lt hn, Nat.shiftRight_eq_div_pow, Nat.mod_eq_of_lt (Nat.lt_of_le_of_lt (Nat.div_le_self _ _) hn)]
  rw [h]
  rfl
theorem X64_and63 (n : Nat) : X64 n &&& 63 = X64 (n % 64) := by
  apply Int64.toBitVec_inj.1
  show BitVec.ofNat 64 n &&& BitVec.ofNat 64 63 = BitVec.ofNat 64 (n % 64)
  rw [← BitVec.ofNat_and, show (63 : Nat) = 2 ^ 6 - 1 from rfl, Nat.and_two_pow_sub_one_eq_mod]
theorem X64_or (a b : Nat) : X64 a ||| X64 b = X64 (a ||| b) := by
  apply Int64.toBitVec_inj.1
  show BitVec.ofNat 64 a ||| BitVec.ofNat 64 b = BitVec.ofNat 64 (a ||| b)
  exact BitVec.ofNat_or.symm
theorem X64_shl {n s : Nat} (hs : s < 64) : X64 n <<< ((Z32 (s : Int)).toInt64 &&& 63) = X64 (n * 2 ^ s) := by
  apply Int64.toBitVec_inj.1
  show BitVec.ofNat 64 n <<< (((Z32 (s : Int)).toInt64 &&& 63).toBitVec.smod 64) = BitVec.ofNat 64 (n * 2 ^ s)
  rw [BitVec.shiftLeft_eq', Z32_n, sh64l s hs]
  apply BitVec.eq_of_toNat_eq
  rw [BitVec.toNat_shiftLeft, BitVec.toNat_ofNat, BitVec.toNat_ofNat, Nat.shiftLeft_eq, Nat.mod_mul_mod]
/-- a text as a number: sixes of bits -/
def tx6 : List Nat → Nat
  | [] => 0
  | c :: cs => c + 64 * tx6 cs
theorem tx6_lt : ∀ {cs : List Nat}, (∀ c ∈ cs, c < 64) → tx6 cs < 64 ^ cs.length
  | [], _ => Nat.one_pos
  | c :: cs, h => by
    have ih := tx6_lt (cs := cs) (fun x hx => h x (List.mem_cons_of_mem _ hx))
    have h0 := h c List.mem_cons_self
    show c + 64 * tx6 cs < 64 ^ (cs.length + 1)
    rw [Nat.pow_succ]
    omega
theorem tx6_app : ∀ (cs : List Nat) (c : Nat), tx6 (cs ++ [c]) = tx6 cs + 64 ^ cs.length * c
  | [], c => by show c + 64 * 0 = 0 + 1 * c; omega
  | x :: cs, c => by
    show x + 64 * tx6 (cs ++ [c]) = x + 64 * tx6 cs + 64 ^ (cs.length + 1) * c
    rw [tx6_app cs c, Nat.mul_add, Nat.pow_succ, Nat.mul_comm (64 ^ cs.length) 64, Nat.mul_assoc, Nat.add_assoc]
theorem tx6_at : ∀ {cs : List Nat} (k : Nat), (∀ c ∈ cs, c < 64) → tx6 cs / 64 ^ k % 64 = cs.getD k 0
  | [], k, _ => by show 0 / 64 ^ k % 64 = 0; rw [Nat.zero_div]
  | c :: cs, 0, h => by
    have h0 := h c List.mem_cons_self
    show (c + 64 * tx6 cs) / 1 % 64 = c
    omega
  | c :: cs, k + 1, h => by
    have h0 := h c List.mem_cons_self
    have ih := tx6_at (cs := cs) k (fun x hx => h x (List.mem_cons_of_mem _ hx))
    show (c + 64 * tx6 cs) / 64 ^ (k + 1) % 64 = cs.getD k 0
    rw [Nat.pow_succ, Nat.mul_comm (64 ^ k) 64, ← Nat.div_div_eq_div_mul, show (c + 64 * tx6 cs) / 64 = tx6 cs by omega]
    exact ih
