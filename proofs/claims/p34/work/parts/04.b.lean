-- ===== the rows of the walk =====
section IR
variable {l : Launch} {D : gD} {own : String} {cc : ByteArray} {nL : Nat} {R : Room} {rt : Option FieldType} {ini : Bool} {hh : Option (List (Nat × Nat × Nat × Nat))} {Rp : Option Value → wW → Prop} {Xp : String → wW → Prop} {G : gG} {n k : Nat} {w : wW} {L : List (Option Value)} {pc : Nat} {st : List Value}
theorem i_iconst (C : Cx l D own cc nL R rt ini hh Rp Xp G) {a : Int} (d : decode cc pc = .ok (.iconst a, 1)) (kk : G n k w L (pc + 1) (.int (Z32 a) :: st)) : G n k w L pc st := by
  obtain ⟨p, e, s, m, args, below, meth, c, A, Q, rfl, hx, hb, F⟩ := C
  intro H locs ls hH hA hS hl
  exact lv_iconst hx hb d rfl (kk H locs ls hH hA hS hl)
theorem i_bipush (C : Cx l D own cc nL R rt ini hh Rp Xp G) {a : Int} (d : decode cc pc = .ok (.bipush a, 2)) (hv : (Int8.ofInt a).toInt32 = Z32 a := by decide +kernel) (kk : G n k w L (pc + 2) (.int (Z32 a) :: st)) : G n k w L pc st := by
  obtain ⟨p, e, s, m, args, below, meth, c, A, Q, rfl, hx, hb, F⟩ := C
  intro H locs ls hH hA hS hl
  exact lv_bipush hx hb d hv (kk H locs ls hH hA hS hl)
theorem i_sipush (C : Cx l D own cc nL R rt ini hh Rp Xp G) {a : Int} (d : decode cc pc = .ok (.sipush a, 3)) (hv : (Int16.ofInt a).toInt32 = Z32 a := by decide +kernel) (kk : G n k w L (pc + 3) (.int (Z32 a) :: st)) : G n k w L pc st := by
  obtain ⟨p, e, s, m, args, below, meth, c, A, Q, rfl, hx, hb, F⟩ := C
  intro H locs ls hH hA hS hl
  exact lv_sipush hx hb d hv (kk H locs ls hH hA hS hl)
theorem i_null (C : Cx l D own cc nL R rt ini hh Rp Xp G) (d : decode cc pc = .ok (.aconst_null, 1)) (kk : G n k w L (pc + 1) (.null :: st)) : G n k w L pc st := by
  obtain ⟨p, e, s, m, args, below, meth, c, A, Q, rfl, hx, hb, F⟩ := C
  intro H locs ls hH hA hS hl
  exact lv_null hx hb d (kk H locs ls hH hA hS hl)
theorem i_iload_n (C : Cx l D own cc nL R rt ini hh Rp Xp G) {i : Fin 4} {x : Int32} (d : decode cc pc = .ok (.iload_n i, 1)) (hi : L[(i : Nat)]? = some (some (.int x)) := by rfl) (kk : G n k w L (pc + 1) (.int x :: st)) : G n k w L pc st := by
  obtain ⟨p, e, s, m, args, below, meth, c, A, Q, rfl, hx, hb, F⟩ := C
  intro H locs ls hH hA hS hl
  exact lv_iload_n hx hb d rfl (lw_at hl hi) (kk H locs ls hH hA hS hl)
theorem i_iload (C : Cx l D own cc nL R rt ini hh Rp Xp G) {i : Nat} {x : Int32} (d : decode cc pc = .ok (.iload i, 2)) (hi : L[i]? = some (some (.int x)) := by rfl) (kk : G n k w L (pc + 2) (.int x :: st)) : G n k w L pc st := by
  obtain ⟨p, e, s, m, args, below, meth, c, A, Q, rfl, hx, hb, F⟩ := C
  intro H locs ls hH hA hS hl
  exact lv_iload hx hb d (lw_at hl hi) (kk H locs ls hH hA hS hl)
theorem i_aload_n (C : Cx l D own cc nL R rt ini hh Rp Xp G) {i : Fin 4} {x : Nat} (d : decode cc pc = .ok (.aload_n i, 1)) (hi : L[(i : Nat)]? = some (some (.ref x)) := by rfl) (kk : G n k w L (pc + 1) (.ref x :: st)) : G n k w L pc st := by
  obtain ⟨p, e, s, m, args, below, meth, c, A, Q, rfl, hx, hb, F⟩ := C
  intro H locs ls hH hA hS hl
  exact lv_aload_n hx hb d rfl (lw_at hl hi) (kk H locs ls hH hA hS hl)
theorem i_aload (C : Cx l D own cc nL R rt ini hh Rp Xp G) {i : Nat} {x : Nat} (d : decode cc pc = .ok (.aload i, 2)) (hi : L[i]? = some (some (.ref x)) := by rfl) (kk : G n k w L (pc + 2) (.ref x :: st)) : G n k w L pc st := by
  obtain ⟨p, e, s, m, args, below, meth, c, A, Q, rfl, hx, hb, F⟩ := C
  intro H locs ls hH hA hS hl
  exact lv_aload hx hb d (lw_at hl hi) (kk H locs ls hH hA hS hl)
theorem i_istore_n (C : Cx l D own cc nL R rt ini hh Rp Xp G) {i : Fin 4} {x : Int32} {L' : List (Option Value)} (d : decode cc pc = .ok (.istore_n i, 1)) (hL : L.set (i : Nat) (some (.int x)) = L' := by rfl) (hi : (i : Nat) < L.length := by exact Nat.lt_of_sub_eq_succ rfl) (kk : G n k w L' (pc + 1) st) : G n k w L pc (.int x :: st) := by
  obtain ⟨p, e, s, m, args, below, meth, c, A, Q, rfl, hx, hb, F⟩ := C
  intro H locs ls hH hA hS hl
  exact lv_istore_n hx hb d rfl (lw_to hl) hi rfl (fun ls' hl' => kk H locs ls' hH hA hS (hL ▸ lw_of hl hi rfl hl'))
theorem i_istore (C : Cx l D own cc nL R rt ini hh Rp Xp G) {i : Nat} {x : Int32} {L' : List (Option Value)} (d : decode cc pc = .ok (.istore i, 2)) (hL : L.set i (some (.int x)) = L' := by rfl) (hi : i < L.length := by exact Nat.lt_of_sub_eq_succ rfl) (kk : G n k w L' (pc + 2) st) : G n k w L pc (.int x :: st) := by
  obtain ⟨p, e, s, m, args, below, meth, c, A, Q, rfl, hx, hb, F⟩ := C
  intro H locs ls hH hA hS hl
  exact lv_istore hx hb d (lw_to hl) hi rfl (fun ls' hl' => kk H locs ls' hH hA hS (hL ▸ lw_of hl hi rfl hl'))
theorem i_astore_n (C : Cx l D own cc nL R rt ini hh Rp Xp G) {i : Fin 4} {x : Nat} {L' : List (Option Value)} (d : decode cc pc = .ok (.astore_n i, 1)) (hL : L.set (i : Nat) (some (.ref x)) = L' := by rfl) (hi : (i : Nat) < L.length := by exact Nat.lt_of_sub_eq_succ rfl) (kk : G n k w L' (pc + 1) st) : G n k w L pc (.ref x :: st) := by
  obtain ⟨p, e, s, m, args, below, meth, c, A, Q, rfl, hx, hb, F⟩ := C
  intro H locs ls hH hA hS hl
  exact lv_astore_n hx hb d rfl (lw_to hl) hi rfl (fun ls' hl' => kk H locs ls' hH hA hS (hL ▸ lw_of hl hi rfl hl'))
theorem i_astore (C : Cx l D own cc nL R rt ini hh Rp Xp G) {i : Nat} {x : Nat} {L' : List (Option Value)} (d : decode cc pc = .ok (.astore i, 2)) (hL : L.set i (some (.ref x)) = L' := by rfl) (hi : i < L.length := by exact Nat.lt_of_sub_eq_succ rfl) (kk : G n k w L' (pc + 2) st) : G n k w L pc (.ref x :: st) := by
  obtain ⟨p, e, s, m, args, below, meth, c, A, Q, rfl, hx, hb, F⟩ := C
  intro H locs ls hH hA hS hl
  exact lv_astore hx hb d (lw_to hl) hi rfl (fun ls' hl' => kk H locs ls' hH hA hS (hL ▸ lw_of hl hi rfl hl'))
theorem i_iinc (C : Cx l D own cc nL R rt ini hh Rp Xp G) {i : Nat} {x z : Int} {L' : List (Option Value)} (d : decode cc pc = .ok (.iinc i z, 3)) (hi : L[i]? = some (some (.int (Z32 x))) := by rfl) (hL : L.set i (some (.int (Z32 (x + z)))) = L' := by rfl) (kk : G n k w L' (pc + 3) st) : G n k w L pc st := by
  obtain ⟨p, e, s, m, args, below, meth, c, A, Q, rfl, hx, hb, F⟩ := C
  intro H locs ls hH hA hS hl
  have hlen : i < L.length := (List.getElem?_eq_some_iff.mp hi).1
  obtain ⟨j, hj⟩ := List.getElem?_of_mem (lw_as_in.mpr ⟨hi, rfl⟩)
  exact lv_iinc hx hb d (lw_to hl) hj (show Z32 x + Int32.ofInt z = Z32 (x + z) from Z32_add x z) hlen rfl (fun ls' hl' => kk H locs ls' hH hA hS (hL ▸ lw_of hl hlen rfl hl'))
theorem i_iadd (C : Cx l D own cc nL R rt ini hh Rp Xp G) {a b : Int} (d : decode cc pc = .ok (.iadd, 1)) (kk : G n k w L (pc + 1) (.int (Z32 (a + b)) :: st)) : G n k w L pc (.int (Z32 b) :: .int (Z32 a) :: st) := by
  obtain ⟨p, e, s, m, args, below, meth, c, A, Q, rfl, hx, hb, F⟩ := C
  intro H locs ls hH hA hS hl
  refine lv_iadd hx hb d ?_
  rw [Z32_add]
  exact kk H locs ls hH hA hS hl
theorem i_isub (C : Cx l D own cc nL R rt ini hh Rp Xp G) {a b : Int} (d : decode cc pc = .ok (.isub, 1)) (kk : G n k w L (pc + 1) (.int (Z32 (a - b)) :: st)) : G n k w L pc (.int (Z32 b) :: .int (Z32 a) :: st) := by
  obtain ⟨p, e, s, m, args, below, meth, c, A, Q, rfl, hx, hb, F⟩ := C
  intro H locs ls hH hA hS hl
  refine lv_isub hx hb d ?_
  rw [Z32_sub]
  exact kk H locs ls hH hA hS hl
theorem i_imul (C : Cx l D own cc nL R rt ini hh Rp Xp G) {a b : Int} (d : decode cc pc = .ok (.imul, 1)) (kk : G n k w L (pc + 1) (.int (Z32 (a * b)) :: st)) : G n k w L pc (.int (Z32 b) :: .int (Z32 a) :: st) := by
  obtain ⟨p, e, s, m, args, below, meth, c, A, Q, rfl, hx, hb, F⟩ := C
  intro H locs ls hH hA hS hl
  refine lv_imul hx hb d ?_
  rw [Z32_mul]
  exact kk H locs ls hH hA hS hl
theorem i_idiv (C : Cx l D own cc nL R rt ini hh Rp Xp G) {a b : Int} (d : decode cc pc = .ok (.idiv, 1)) (ha : 0 ≤ a := by omega) (ha2 : a < 2147483648 := by omega) (hb0 : 0 < b := by omega) (hb2 : b < 2147483648 := by omega) (kk : G n k w L (pc + 1) (.int (Z32 (a / b)) :: st)) : G n k w L pc (.int (Z32 b) :: .int (Z32 a) :: st) := by
  obtain ⟨p, e, s, m, args, below, meth, c, A, Q, rfl, hx, hb, F⟩ := C
  intro H locs ls hH hA hS hl
  have hne : ¬ Z32 b = 0 := by rw [← Z32_0, Z32_eq ⟨by omega, hb2⟩ ⟨by omega, by omega⟩]; omega
  refine lv_idiv hx hb d hne ?_
  rw [Z32_div ha ha2 hb0 hb2]
  exact kk H locs ls hH hA hS hl
theorem i_irem (C : Cx l D own cc nL R rt ini hh Rp Xp G) {a b : Int} (d : decode cc pc = .ok (.irem, 1)) (ha : 0 ≤ a := by omega) (ha2 : a < 2147483648 := by omega) (hb0 : 0 < b := by omega) (hb2 : b < 2147483648 := by omega) (kk : G n k w L (pc + 1) (.int (Z32 (a % b)) :: st)) : G n k w L pc (.int (Z32 b) :: .int (Z32 a) :: st) := by
  obtain ⟨p, e, s, m, args, below, meth, c, A, Q, rfl, hx, hb, F⟩ := C
  intro H locs ls hH hA hS hl
  have hne : ¬ Z32 b = 0 := by rw [← Z32_0, Z32_eq ⟨by omega, hb2⟩ ⟨by omega, by omega⟩]; omega
  refine lv_irem hx hb d hne ?_
  rw [Z32_rem ha ha2 hb0 hb2]
  exact kk H locs ls hH hA hS hl
theorem i_iand (C : Cx l D own cc nL R rt ini hh Rp Xp G) {x y z : Int32} (d : decode cc pc = .ok (.iand, 1)) (hz : x &&& y = z) (kk : G n k w L (pc + 1) (.int z :: st)) : G n k w L pc (.int y :: .int x :: st) := by
  obtain ⟨p, e, s, m, args, below, meth, c, A, Q, rfl, hx, hb, F⟩ := C
  intro H locs ls hH hA hS hl
  refine lv_iand hx hb d ?_
  rw [hz]
  exact kk H locs ls hH hA hS hl
theorem i_ior (C : Cx l D own cc nL R rt ini hh Rp Xp G) {x y z : Int32} (d : decode cc pc = .ok (.ior, 1)) (hz : x ||| y = z) (kk : G n k w L (pc + 1) (.int z :: st)) : G n k w L pc (.int y :: .int x :: st) := by
  obtain ⟨p, e, s, m, args, below, meth, c, A, Q, rfl, hx, hb, F⟩ := C
  intro H locs ls hH hA hS hl
  refine lv_ior hx hb d ?_
  rw [hz]
  exact kk H locs ls hH hA hS hl
theorem i_ixor (C : Cx l D own cc nL R rt ini hh Rp Xp G) {x y z : Int32} (d : decode cc pc = .ok (.ixor, 1)) (hz : x ^^^ y = z) (kk : G n k w L (pc + 1) (.int z :: st)) : G n k w L pc (.int y :: .int x :: st) := by
  obtain ⟨p, e, s, m, args, below, meth, c, A, Q, rfl, hx, hb, F⟩ := C
  intro H locs ls hH hA hS hl
  refine lv_ixor hx hb d ?_
  rw [hz]
  exact kk H locs ls hH hA hS hl
theorem i_ishl (C : Cx l D own cc nL R rt ini hh Rp Xp G) {x y z : Int32} (d : decode cc pc = .ok (.ishl, 1)) (hz : x <<< (y &&& 31) = z) (kk : G n k w L (pc + 1) (.int z :: st)) : G n k w L pc (.int y :: .int x :: st) := by
  obtain ⟨p, e, s, m, args, below, meth, c, A, Q, rfl, hx, hb, F⟩ := C
  intro H locs ls hH hA hS hl
  refine lv_ishl hx hb d ?_
  rw [hz]
  exact kk H locs ls hH hA hS hl
theorem i_ishr (C : Cx l D own cc nL R rt ini hh Rp Xp G) {x y z : Int32} (d : decode cc pc = .ok (.ishr, 1)) (hz : x >>> (y &&& 31) = z) (kk : G n k w L (pc + 1) (.int z :: st)) : G n k w L pc (.int y :: .int x :: st) := by
  obtain ⟨p, e, s, m, args, below, meth, c, A, Q, rfl, hx, hb, F⟩ := C
  intro H locs ls hH hA hS hl
  refine lv_ishr hx hb d ?_
  rw [hz]
  exact kk H locs ls hH hA hS hl
theorem i_dup (C : Cx l D own cc nL R rt ini hh Rp Xp G) {v : Value} (d : decode cc pc = .ok (.dup, 1)) (hv : v.category = 1 := by rfl) (kk : G n k w L (pc + 1) (v :: v :: st)) : G n k w L pc (v :: st) := by
  obtain ⟨p, e, s, m, args, below, meth, c, A, Q, rfl, hx, hb, F⟩ := C
  intro H locs ls hH hA hS hl
  exact lv_dup hx hb d hv (kk H locs ls hH hA hS hl)
theorem i_dup2 (C : Cx l D own cc nL R rt ini hh Rp Xp G) {v u : Value} (d : decode cc pc = .ok (.dup2, 1)) (hv : v.category = 1 := by rfl) (hu : u.category = 1 := by rfl) (kk : G n k w L (pc + 1) (v :: u :: v :: u :: st)) : G n k w L pc (v :: u :: st) := by
  obtain ⟨p, e, s, m, args, below, meth, c, A, Q, rfl, hx, hb, F⟩ := C
  intro H locs ls hH hA hS hl
  exact lv_dup2_11 hx hb d hv hu (kk H locs ls hH hA hS hl)
theorem i_pop (C : Cx l D own cc nL R rt ini hh Rp Xp G) {v : Value} (d : decode cc pc = .ok (.pop, 1)) (hv : v.category = 1 := by rfl) (kk : G n k w L (pc + 1) st) : G n k w L pc (v :: st) := by
  obtain ⟨p, e, s, m, args, below, meth, c, A, Q, rfl, hx, hb, F⟩ := C
  intro H locs ls hH hA hS hl
  exact lv_pop hx hb d hv (kk H locs ls hH hA hS hl)
theorem i_i2l (C : Cx l D own cc nL R rt ini hh Rp Xp G) {x : Int32} (d : decode cc pc = .ok (.i2l, 1)) (kk : G n k w L (pc + 1) (.long x.toInt64 :: st)) : G n k w L pc (.int x :: st) := by
  obtain ⟨p, e, s, m, args, below, meth, c, A, Q, rfl, hx, hb, F⟩ := C
  intro H locs ls hH hA hS hl
  exact lv_i2l hx hb d rfl (kk H locs ls hH hA hS hl)
theorem i_lconst (C : Cx l D own cc nL R rt ini hh Rp Xp G) {i : Fin 2} (d : decode cc pc = .ok (.lconst i, 1)) (kk : G n k w L (pc + 1) (.long (Int64.ofNat (i : Nat)) :: st)) : G n k w L pc st := by
  obtain ⟨p, e, s, m, args, below, meth, c, A, Q, rfl, hx, hb, F⟩ := C
  intro H locs ls hH hA hS hl
  exact lv_lconst hx hb d rfl (kk H locs ls hH hA hS hl)
theorem i_lcmp (C : Cx l D own cc nL R rt ini hh Rp Xp G) {x y : Int64} (d : decode cc pc = .ok (.lcmp, 1)) (kk : G n k w L (pc + 1) (.int (lg_cmp x y) :: st)) : G n k w L pc (.long y :: .long x :: st) := by
  obtain ⟨p, e, s, m, args, below, meth, c, A, Q, rfl, hx, hb, F⟩ := C
  intro H locs ls hH hA hS hl
  exact W.lcmp hx hb d (kk H locs ls hH hA hS hl)
theorem i_if_eq (C : Cx l D own cc nL R rt ini hh Rp Xp G) {a : Int} {off : Int} {tgt : Nat} (d : decode cc pc = .ok (.ifCond .eq off, 3)) (ht : (pc : Int) + off = (tgt : Int) := by decide) (ha : inR a := by omega) (kt : a = 0 → G n k w L tgt st) (kf : ¬ a = 0 → G n k w L (pc + 3) st) : G n k w L pc (.int (Z32 a) :: st) := by
  obtain ⟨p, e, s, m, args, below, meth, c, A, Q, rfl, hx, hb, F⟩ := C
  intro H locs ls hH hA hS hl
  exact lv_if_eq hx hb d ht (fun h => kt ((Z32_eq ha ⟨by decide, by decide⟩).mp h) H locs ls hH hA hS hl) (fun h => kf (fun q => h ((Z32_eq ha ⟨by decide, by decide⟩).mpr q)) H locs ls hH hA hS hl)
theorem i_icmp_eq (C : Cx l D own cc nL R rt ini hh Rp Xp G) {a b : Int} {off : Int} {tgt : Nat} (d : decode cc pc = .ok (.if_icmp .eq off, 3)) (ht : (pc : Int) + off = (tgt : Int) := by decide) (ha : inR a := by omega) (hb2 : inR b := by omega) (kt : a = b → G n k w L tgt st) (kf : ¬ a = b → G n k w L (pc + 3) st) : G n k w L pc (.int (Z32 b) :: .int (Z32 a) :: st) := by
  obtain ⟨p, e, s, m, args, below, meth, c, A, Q, rfl, hx, hb, F⟩ := C
  intro H locs ls hH hA hS hl
  exact lv_icmp_eq hx hb d ht (fun h => kt ((Z32_eq ha hb2).mp h) H locs ls hH hA hS hl) (fun h => kf (fun q => h ((Z32_eq ha hb2).mpr q)) H locs ls hH hA hS hl)
theorem i_if_ne (C : Cx l D own cc nL R rt ini hh Rp Xp G) {a : Int} {off : Int} {tgt : Nat} (d : decode cc pc = .ok (.ifCond .ne off, 3)) (ht : (pc : Int) + off = (tgt : Int) := by decide) (ha : inR a := by omega) (kt : ¬ a = 0 → G n k w L tgt st) (kf : a = 0 → G n k w L (pc + 3) st) : G n k w L pc (.int (Z32 a) :: st) := by
  obtain ⟨p, e, s, m, args, below, meth, c, A, Q, rfl, hx, hb, F⟩ := C
  intro H locs ls hH hA hS hl
  exact lv_if_ne hx hb d ht (fun h => kt (fun q => h ((Z32_eq ha ⟨by decide, by decide⟩).mpr q)) H locs ls hH hA hS hl) (fun h => kf ((Z32_eq ha ⟨by decide, by decide⟩).mp h) H locs ls hH hA hS hl)
theorem i_icmp_ne (C : Cx l D own cc nL R rt ini hh Rp Xp G) {a b : Int} {off : Int} {tgt : Nat} (d : decode cc pc = .ok (.if_icmp .ne off, 3)) (ht : (pc : Int) + off = (tgt : Int) := by decide) (ha : inR a := by omega) (hb2 : inR b := by omega) (kt : ¬ a = b → G n k w L tgt st) (kf : a = b → G n k w L (pc + 3) st) : G n k w L pc (.int (Z32 b) :: .int (Z32 a) :: st) := by
  obtain ⟨p, e, s, m, args, below, meth, c, A, Q, rfl, hx, hb, F⟩ := C
  intro H locs ls hH hA hS hl
  exact lv_icmp_ne hx hb d ht (fun h => kt (fun q => h ((Z32_eq ha hb2).mpr q)) H locs ls hH hA hS hl) (fun h => kf ((Z32_eq ha hb2).mp h) H locs ls hH hA hS hl)
theorem i_if_lt (C : Cx l D own cc nL R rt ini hh Rp Xp G) {a : Int} {off : Int} {tgt : Nat} (d : decode cc pc = .ok (.ifCond .lt off, 3)) (ht : (pc : Int) + off = (tgt : Int) := by decide) (ha : inR a := by omega) (kt : a < 0 → G n k w L tgt st) (kf : 0 ≤ a → G n k w L (pc + 3) st) : G n k w L pc (.int (Z32 a) :: st) := by
  obtain ⟨p, e, s, m, args, below, meth, c, A, Q, rfl, hx, hb, F⟩ := C
  intro H locs ls hH hA hS hl
  exact lv_if_lt hx hb d ht (fun h => kt ((Z32_lt ha ⟨by decide, by decide⟩).mp h) H locs ls hH hA hS hl) (fun h => kf (Int.not_lt.mp fun q => h ((Z32_lt ha ⟨by decide, by decide⟩).mpr q)) H locs ls hH hA hS hl)
theorem i_icmp_lt (C : Cx l D own cc nL R rt ini hh Rp Xp G) {a b : Int} {off : Int} {tgt : Nat} (d : decode cc pc = .ok (.if_icmp .lt off, 3)) (ht : (pc : Int) + off = (tgt : Int) := by decide) (ha : inR a := by omega) (hb2 : inR b := by omega) (kt : a < b → G n k w L tgt st) (kf : b ≤ a → G n k w L (pc + 3) st) : G n k w L pc (.int (Z32 b) :: .int (Z32 a) :: st) := by
  obtain ⟨p, e, s, m, args, below, meth, c, A, Q, rfl, hx, hb, F⟩ := C
  intro H locs ls hH hA hS hl
  exact lv_icmp_lt hx hb d ht (fun h => kt ((Z32_lt ha hb2).mp h) H locs ls hH hA hS hl) (fun h => kf (Int.not_lt.mp fun q => h ((Z32_lt ha hb2).mpr q)) H locs ls hH hA hS hl)
theorem i_if_ge (C : Cx l D own cc nL R rt ini hh Rp Xp G) {a : Int} {off : Int} {tgt : Nat} (d : decode cc pc = .ok (.ifCond .ge off, 3)) (ht : (pc : Int) + off = (tgt : Int) := by decide) (ha : inR a := by omega) (kt : 0 ≤ a → G n k w L tgt st) (kf : a < 0 → G n k w L (pc + 3) st) : G n k w L pc (.int (Z32 a) :: st) := by
  obtain ⟨p, e, s, m, args, below, meth, c, A, Q, rfl, hx, hb, F⟩ := C
  intro H locs ls hH hA hS hl
  exact lv_if_ge hx hb d ht (fun h => kt ((Z32_le ⟨by decide, by decide⟩ ha).mp h) H locs ls hH hA hS hl) (fun h => kf (Int.not_le.mp fun q => h ((Z32_le ⟨by decide, by decide⟩ ha).mpr q)) H locs ls hH hA hS hl)
theorem i_icmp_ge (C : Cx l D own cc nL R rt ini hh Rp Xp G) {a b : Int} {off : Int} {tgt : Nat} (d : decode cc pc = .ok (.if_icmp .ge off, 3)) (ht : (pc : Int) + off = (tgt : Int) := by decide) (ha : inR a := by omega) (hb2 : inR b := by omega) (kt : b ≤ a → G n k w L tgt st) (kf : a < b → G n k w L (pc + 3) st) : G n k w L pc (.int (Z32 b) :: .int (Z32 a) :: st) := by
  obtain ⟨p, e, s, m, args, below, meth, c, A, Q, rfl, hx, hb, F⟩ := C
  intro H locs ls hH hA hS hl
  exact lv_icmp_ge hx hb d ht (fun h => kt ((Z32_le hb2 ha).mp h) H locs ls hH hA hS hl) (fun h => kf (Int.not_le.mp fun q => h ((Z32_le hb2 ha).mpr q)) H locs ls hH hA hS hl)
theorem i_if_gt (C : Cx l D own cc nL R rt ini hh Rp Xp G) {a : Int} {off : Int} {tgt : Nat} (d : decode cc pc = .ok (.ifCond .gt off, 3)) (ht : (pc : Int) + off = (tgt : Int) := by decide) (ha : inR a := by omega) (kt : 0 < a → G n k w L tgt st) (kf : a ≤ 0 → G n k w L (pc + 3) st) : G n k w L pc (.int (Z32 a) :: st) := by
  obtain ⟨p, e, s, m, args, below, meth, c, A, Q, rfl, hx, hb, F⟩ := C
  intro H locs ls hH hA hS hl
  exact lv_if_gt hx hb d ht (fun h => kt ((Z32_lt ⟨by decide, by decide⟩ ha).mp h) H locs ls hH hA hS hl) (fun h => kf (Int.not_lt.mp fun q => h ((Z32_lt ⟨by decide, by decide⟩ ha).mpr q)) H locs ls hH hA hS hl)
theorem i_icmp_gt (C : Cx l D own cc nL R rt ini hh Rp Xp G) {a b : Int} {off : Int} {tgt : Nat} (d : decode cc pc = .ok (.if_icmp .gt off, 3)) (ht : (pc : Int) + off = (tgt : Int) := by decide) (ha : inR a := by omega) (hb2 : inR b := by omega) (kt : b < a → G n k w L tgt st) (kf : a ≤ b → G n k w L (pc + 3) st) : G n k w L pc (.int (Z32 b) :: .int (Z32 a) :: st) := by
  obtain ⟨p, e, s, m, args, below, meth, c, A, Q, rfl, hx, hb, F⟩ := C
  intro H locs ls hH hA hS hl
  exact lv_icmp_gt hx hb d ht (fun h => kt ((Z32_lt hb2 ha).mp h) H locs ls hH hA hS hl) (fun h => kf (Int.not_lt.mp fun q => h ((Z32_lt hb2 ha).mpr q)) H locs ls hH hA hS hl)
theorem i_if_le (C : Cx l D own cc nL R rt ini hh Rp Xp G) {a : Int} {off : Int} {tgt : Nat} (d : decode cc pc = .ok (.ifCond .le off, 3)) (ht : (pc : Int) + off = (tgt : Int) := by decide) (ha : inR a := by omega) (kt : a ≤ 0 → G n k w L tgt st) (kf : 0 < a → G n k w L (pc + 3) st) : G n k w L pc (.int (Z32 a) :: st) := by
  obtain ⟨p, e, s, m, args, below, meth, c, A, Q, rfl, hx, hb, F⟩ := C
  intro H locs ls hH hA hS hl
  exact lv_if_le hx hb d ht (fun h => kt ((Z32_le ha ⟨by decide, by decide⟩).mp h) H locs ls hH hA hS hl) (fun h => kf (Int.not_le.mp fun q => h ((Z32_le ha ⟨by decide, by decide⟩).mpr q)) H locs ls hH hA hS hl)
theorem i_icmp_le (C : Cx l D own cc nL R rt ini hh Rp Xp G) {a b : Int} {off : Int} {tgt : Nat} (d : decode cc pc = .ok (.if_icmp .le off, 3)) (ht : (pc : Int) + off = (tgt : Int) := by decide) (ha : inR a := by omega) (hb2 : inR b := by omega) (kt : a ≤ b → G n k w L tgt st) (kf : b < a → G n k w L (pc + 3) st) : G n k w L pc (.int (Z32 b) :: .int (Z32 a) :: st) := by
  obtain ⟨p, e, s, m, args, below, meth, c, A, Q, rfl, hx, hb, F⟩ := C
  intro H locs ls hH hA hS hl
  exact lv_icmp_le hx hb d ht (fun h => kt ((Z32_le ha hb2).mp h) H locs ls hH hA hS hl) (fun h => kf (Int.not_le.mp fun q => h ((Z32_le ha hb2).mpr q)) H locs ls hH hA hS hl)
theorem i_goto (C : Cx l D own cc nL R rt ini hh Rp Xp G) {off : Int} {tgt : Nat} (d : decode cc pc = .ok (.goto off, 3)) (ht : (pc : Int) + off = (tgt : Int) := by decide) (kk : G n k w L tgt st) : G n k w L pc st := by
  obtain ⟨p, e, s, m, args, below, meth, c, A, Q, rfl, hx, hb, F⟩ := C
  intro H locs ls hH hA hS hl
  exact lv_goto hx hb d ht (kk H locs ls hH hA hS hl)
theorem i_ifnonnull (C : Cx l D own cc nL R rt ini hh Rp Xp G) {x : Nat} {off : Int} {tgt : Nat} (d : decode cc pc = .ok (.ifnonnull off, 3)) (ht : (pc : Int) + off = (tgt : Int) := by decide) (kk : G n k w L tgt st) : G n k w L pc (.ref x :: st) := by
  obtain ⟨p, e, s, m, args, below, meth, c, A, Q, rfl, hx, hb, F⟩ := C
  intro H locs ls hH hA hS hl
  exact lv_ifnonnull hx hb d ht (kk H locs ls hH hA hS hl)
theorem i_ifnonnullN (C : Cx l D own cc nL R rt ini hh Rp Xp G) {off : Int} (d : decode cc pc = .ok (.ifnonnull off, 3)) (kk : G n k w L (pc + 3) st) : G n k w L pc (.null :: st) := by
  obtain ⟨p, e, s, m, args, below, meth, c, A, Q, rfl, hx, hb, F⟩ := C
  intro H locs ls hH hA hS hl
  exact lv_ifnonnullN hx hb d (kk H locs ls hH hA hS hl)
theorem i_aload_nN (C : Cx l D own cc nL R rt ini hh Rp Xp G) {i : Fin 4} (d : decode cc pc = .ok (.aload_n i, 1)) (hi : L[(i : Nat)]? = some (some .null) := by rfl) (kk : G n k w L (pc + 1) (.null :: st)) : G n k w L pc st := by
  obtain ⟨p, e, s, m, args, below, meth, c, A, Q, rfl, hx, hb, F⟩ := C
  intro H locs ls hH hA hS hl
  exact lv_aload_nN hx hb d rfl (lw_at hl hi) (kk H locs ls hH hA hS hl)
theorem i_astore_nN (C : Cx l D own cc nL R rt ini hh Rp Xp G) {i : Fin 4} {L' : List (Option Value)} (d : decode cc pc = .ok (.astore_n i, 1)) (hL : L.set (i : Nat) (some .null) = L' := by rfl) (hi : (i : Nat) < L.length := by exact Nat.lt_of_sub_eq_succ rfl) (kk : G n k w L' (pc + 1) st) : G n k w L pc (.null :: st) := by
  obtain ⟨p, e, s, m, args, below, meth, c, A, Q, rfl, hx, hb, F⟩ := C
  intro H locs ls hH hA hS hl
  exact lv_astore_nN hx hb d rfl (lw_to hl) hi rfl (fun ls' hl' => kk H locs ls' hH hA hS (hL ▸ lw_of hl hi rfl hl'))
theorem i_tableIn (C : Cx l D own cc nL R rt ini hh Rp Xp G) {a dflt lo hi off : Int} {offs : Array Int} {len tgt : Nat} (d : decode cc pc = .ok (.tableswitch dflt lo hi offs, len)) (ha : inR a := by omega) (h1 : lo ≤ a) (h2 : a ≤ hi) (ho : offs[(a - lo).toNat]? = some off) (ht : (pc : Int) + off = (tgt : Int)) (kk : G n k w L tgt st) : G n k w L pc (.int (Z32 a) :: st) := by
  obtain ⟨p, e, s, m, args, below, meth, c, A, Q, rfl, hx, hb, F⟩ := C
  intro H locs ls hH hA hS hl
  exact lv_tableIn hx hb d (by rw [Z32_toInt ha]; omega) (by rw [Z32_toInt ha]; omega) (by rw [Z32_toInt ha]; exact ho) ht (kk H locs ls hH hA hS hl)
theorem i_tableOut (C : Cx l D own cc nL R rt ini hh Rp Xp G) {a dflt lo hi : Int} {offs : Array Int} {len tgt : Nat} (d : decode cc pc = .ok (.tableswitch dflt lo hi offs, len)) (ha : inR a := by omega) (h1 : a < lo ∨ hi < a) (ht : (pc : Int) + dflt = (tgt : Int)) (kk : G n k w L tgt st) : G n k w L pc (.int (Z32 a) :: st) := by
  obtain ⟨p, e, s, m, args, below, meth, c, A, Q, rfl, hx, hb, F⟩ := C
  intro H locs ls hH hA hS hl
  exact lv_tableOut hx hb d (by rw [Z32_toInt ha]; exact h1) ht (kk H locs ls hH hA hS hl)
theorem i_widen (C : Cx l D own cc nL R rt ini hh Rp Xp G) {n' k' : Nat} (hn : n ≤ n') (hk : k ≤ k') (kk : G n' k' w L pc st) : G n k w L pc st := by
  obtain ⟨p, e, s, m, args, below, meth, c, A, Q, rfl, hx, hb, F⟩ := C
  intro H locs ls hH hA hS hl
  exact W.widen hn hk (kk H locs ls hH hA hS hl)
theorem i_iret (C : Cx l D own cc nL R rt ini hh Rp Xp G) {x : Int32} (hrt : rt = some .int := by rfl) (d : decode cc pc = .ok (.ireturn, 1)) (hn : n ≤ R.cells := by exact Nat.le_of_ble_eq_true rfl) (hk : k ≤ R.slots := by exact Nat.le_of_ble_eq_true rfl) (h : Rp (some (.int x)) w) : G n k w L pc [.int x] := by
  subst hrt
  obtain ⟨p, e, s, m, args, below, meth, c, A, Q, rfl, hx, hb, hml, hown, hts, hKX, hST, hAA, hlo, hr, hin, hst, htab, habs, hthr⟩ := C
  intro H locs ls hH hA hS hl
  exact habs H locs n k _ (W.widen hn hk (W.iret hx hb hr (fun t ht hW => ⟨⟨some (.int x), w, rfl, h, by rw [ht]; exact hH, hA⟩, hS.F ht⟩) hS.2.2 d hlo))
theorem i_zret (C : Cx l D own cc nL R rt ini hh Rp Xp G) {a : Int} (hrt : rt = some .boolean := by rfl) (d : decode cc pc = .ok (.ireturn, 1)) (hn : n ≤ R.cells := by exact Nat.le_of_ble_eq_true rfl) (hk : k ≤ R.slots := by exact Nat.le_of_ble_eq_true rfl) (ha : a = 0 ∨ a = 1) (h : Rp (some (.int (Z32 a))) w) : G n k w L pc [.int (Z32 a)] := by
  subst hrt
  obtain ⟨p, e, s, m, args, below, meth, c, A, Q, rfl, hx, hb, hml, hown, hts, hKX, hST, hAA, hlo, hr, hin, hst, htab, habs, hthr⟩ := C
  intro H locs ls hH hA hS hl
  exact habs H locs n k _ (W.widen hn hk (W.zret hx hb hr (by rcases ha with rfl | rfl <;> rfl) (fun t ht hW => ⟨⟨some (.int (Z32 a)), w, rfl, h, by rw [ht]; exact hH, hA⟩, hS.F ht⟩) hS.2.2 d hlo))
theorem i_vret (C : Cx l D own cc nL R rt ini hh Rp Xp G) (hrt : rt = none := by rfl) (d : decode cc pc = .ok (.return_, 1)) (hn : n ≤ R.cells := by exact Nat.le_of_ble_eq_true rfl) (hk : k ≤ R.slots := by exact Nat.le_of_ble_eq_true rfl) (h : Rp none w) : G n k w L pc [] := by
  subst hrt
  obtain ⟨p, e, s, m, args, below, meth, c, A, Q, rfl, hx, hb, hml, hown, hts, hKX, hST, hAA, hlo, hr, hin, hst, htab, habs, hthr⟩ := C
  intro H locs ls hH hA hS hl
  exact habs H locs n k _ (W.widen hn hk (W.vret hx hb hr (fun t ht hW => ⟨⟨none, w, rfl, h, by rw [ht]; exact hH, hA⟩, hS.F ht⟩) hS.2.2 d hlo))
theorem i_aret (C : Cx l D own cc nL R rt ini hh Rp Xp G) {a : Nat} {N : String} (hrt : rt = some (.object N) := by rfl) (d : decode cc pc = .ok (.areturn, 1)) (hn : n ≤ R.cells := by exact Nat.le_of_ble_eq_true rfl) (hk : k ≤ R.slots := by exact Nat.le_of_ble_eq_true rfl) (h : Rp (some (.ref a)) w) : G n k w L pc [.ref a] := by
  subst hrt
  obtain ⟨p, e, s, m, args, below, meth, c, A, Q, rfl, hx, hb, hml, hown, hts, hKX, hST, hAA, hlo, hr, hin, hst, htab, habs, hthr⟩ := C
  intro H locs ls hH hA hS hl
  exact habs H locs n k _ (W.widen hn hk (W.aret hx hb hr (Or.inl ⟨_, rfl⟩) (Or.inr ⟨a, rfl⟩) (fun t ht hW => ⟨⟨some (.ref a), w, rfl, h, by rw [ht]; exact hH, hA⟩, hS.F ht⟩) hS.2.2 d hlo))
end IR
