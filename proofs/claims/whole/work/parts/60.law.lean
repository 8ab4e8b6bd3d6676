theorem op3_R {a b c : Prop} [Decidable a] [Decidable b] [Decidable c] {σ : Sg} {X : Rs} (h : X.1 = 0) : 0 ≤ (op3 a b c σ X).1 ∧ (op3 a b c σ X).1 ≤ 3 := by
  unfold op3
  split
  · exact ⟨by show (0 : Int) ≤ 1; decide, by show (1 : Int) ≤ 3; decide⟩
  · split
    · exact ⟨by show (0 : Int) ≤ 2; decide, by show (2 : Int) ≤ 3; decide⟩
    · split
      · exact ⟨by show (0 : Int) ≤ 3; decide, Int.le_refl 3⟩
      · rw [h]; decide
theorem lg_same (x : Int64) : lg_cmp x x = Z32 0 := by
  unfold lg_cmp
  rw [if_neg (by simp), if_pos rfl]
  rfl
theorem and31 (x : Int32) : ∃ v : Nat, v < 32 ∧ x &&& Z32 31 = Z32 (v : Int) := by
  refine ⟨(x.toBitVec &&& 31#32).toNat, ?_, ?_⟩
  · have h := Nat.and_lt_two_pow (n := 5) x.toBitVec.toNat (y := 31) (by decide)
    rw [BitVec.toNat_and]
    exact h
  · apply Int32.toBitVec_inj.1
    show x.toBitVec &&& BitVec.ofInt 32 31 = BitVec.ofInt 32 (((x.toBitVec &&& 31#32).toNat : Nat) : Int)
    rw [BitVec.ofInt_natCast, BitVec.ofNat_toNat]
    simp
/-- what the law's body stands in: its walk, and its script -/
def CxL (l : Launch) (D : gD) (b L : Nat) (xs : Nat → Int32) (G : gG) : Prop := Cx l D RL cL_law 7 room_1 (some .boolean) false none (fun v _ => v = some (.int 1)) (fun _ _ => False) G ∧ (∀ (n k : Nat) (w : wW) (Ls : List (Option Value)) (pc : Nat) (st : List Value), decode cL_law pc = .ok (.arraylength, 1) → G n k w Ls (pc + 1) (.int (Z32 (L : Int)) :: st) → G n k w Ls pc (.ref b :: st)) ∧ ∀ (n k : Nat) (w : wW) (Ls : List (Option Value)) (pc : Nat) (st : List Value) (i : Nat), decode cL_law pc = .ok (.iaload, 1) → i < L → L ≤ 2048 → G n k w Ls (pc + 1) (.int (Z32 (xs i).toInt) :: st) → G n k w Ls pc (.int (Z32 (i : Int)) :: .ref b :: st)
def LInv (D : gD) (w : wW) (σ : Sg) (la : Int) (x0 m0 o0 : Nat) : Prop := ∃ (τ ad : Nat → Nat) (nb tb : Nat) (g : Nat → Int64), WkI D w τ ad nb tb σ ∧ MdJ D w w τ ad σ la ∧ τ (ad 6000) = 6000 ∧ w (ad 6000) = some (lar D 1 g) ∧ ad 0 = x0 ∧ ad 5000 = m0 ∧ ad 6000 = o0
def JN (G : gG) (D : gD) (b i x0 m0 o0 N K : Nat) : Prop := ∀ (n k : Nat) (w : wW) (σ : Sg) (la : Int) (o5 o6 : Option Value), n ≤ N → k ≤ K → LInv D w σ la x0 m0 o0 → G n k w [some (.ref b), some (.ref x0), some (.ref m0), some (.ref o0), some (.int (Z32 (i : Int))), o5, o6] 2056 []
theorem MdJ.objx {D : gD} {w0 w : wW} {τ ad : Nat → Nat} {σ : Sg} {la : Int} (h : MdJ D w0 w τ ad σ la) : ∃ fs, w (ad 5000) = some (.inr (7, fs)) := by
  obtain ⟨F, dn, op, sh, hM, -⟩ := h
  exact ⟨_, hM.obj⟩
theorem oApprove_b {σ : Sg} {i0 i : Int} (h : (oApprove σ i0 i).1 = 0) : (oApprove σ i0 i).2.1 = 0 ∨ (oApprove σ i0 i).2.1 = 1 := by
  unfold oApprove op3
  split
  · exact Or.inl rfl
  · rw [if_neg (fun q => q trivial), if_neg (fun q => q trivial)]
    split
    · exact Or.inr rfl
    · exact Or.inl rfl
set_option maxRecDepth 100000 in
set_option maxHeartbeats 4000000 in
theorem k_letter {l : Launch} (hl : l.stackTraces = false) {D : gD} {b L : Nat} {xs : Nat → Int32} {G : gG} (C : CxL l D b L xs G) {i n k x0 m0 o0 : Nat} {w : wW} {σ : Sg} {la : Int} {o5 o6 : Option Value} (hi : i + 4 ≤ L) (hL : L ≤ 2048) (hn : n + 10 ≤ 601024) (hk : k + 200 ≤ 7293034) (hI : LInv D w σ la x0 m0 o0) (jn : JN G D b i x0 m0 o0 (n + 10) (k + 200)) : G n k w [some (.ref b), some (.ref x0), some (.ref m0), some (.ref o0), some (.int (Z32 (i : Int))), o5, o6] 176 [] := by
  obtain ⟨C, hsl, hsd⟩ := C
  obtain ⟨τ, ad, nb, tb, g9, hW, hJ, ht, hO, rfl, rfl, rfl⟩ := hI
  have hr0 := Z32_rng (xs (i + 1))
  obtain ⟨R, hR⟩ : ∃ R : Rs, R = oLetter σ (xs (i + 1)).toInt := ⟨_, rfl⟩
  have hR3 : 0 ≤ R.1 ∧ R.1 ≤ 3 := by rw [hR]; exact op3_R (by first | rfl | (split <;> rfl))
  refine i_aload_n C dL_law_176 (kk := ?_)
  refine i_aload_n C dL_law_177 (kk := ?_)
  refine i_iload C dL_law_178 (kk := ?_)
  refine i_iconst C dL_law_180 (kk := ?_)
  refine i_iadd C dL_law_181 (kk := ?_)
  refine hsd _ _ _ _ _ _ (i + 1) dL_law_182 (by omega) hL ?_
  refine i_aload_n C dL_law_183 (kk := ?_)
  refine i_callSH C lk_L_116 (w_letter l hl D hW ht hO hr0) (hst := rfl) dL_law_184 (hf := ⟨by show n + 10 ≤ 601024; omega, by show k + 200 ≤ 7293034; omega⟩) (kk := fun v1 w1 g1 => ?_)
  rw [← hR] at g1
  obtain ⟨rfl, τ2, ad2, nb2, tb2, hW2, e0, e5, hk2, g2, hO2, hg2⟩ := g1
  have ht2 : τ2 (ad2 6000) = 6000 := by rw [e5 6000 (by omega), (hk2 _ (by rw [hO]; exact nofun) (by omega)).1]; exact ht
  have hJ2 := hJ.carry e5 ht hk2
  have hI2 := MdI.of hW.1 hJ2
  obtain ⟨fs7, hobj⟩ := hJ2.objx
  rw [← e5 6000 (by omega)] at hO2
  rw [← e0, ← e5 5000 (by omega), ← e5 6000 (by omega)]
  rw [← e0, ← e5 5000 (by omega), ← e5 6000 (by omega)] at jn
  refine i_istore C dL_law_187 (kk := ?_)
  refine i_aload_n C dL_law_189 (kk := ?_)
  refine i_aload_n C dL_law_190 (kk := ?_)
  refine i_iload C dL_law_191 (kk := ?_)
  refine i_iconst C dL_law_193 (kk := ?_)
  refine i_iadd C dL_law_194 (kk := ?_)
  refine hsd _ _ _ _ _ _ (i + 1) dL_law_195 (by omega) hL ?_
  refine i_callV C lk_L_121 (c_X7_letter l hl D (hI := hI2) (j := (xs (i + 1)).toInt)) (hcl := rfl) (hst := rfl) dL_law_196 (hw := hobj) (hf := ⟨by show n + 10 + 0 ≤ 601024; omega, by show k + 200 + 0 ≤ 7293034; omega⟩) (kk := fun v3 w3 g3 => ?_)
  rw [← hR] at g3
  obtain ⟨rfl, hJ3⟩ := g3
  have hJ3 : MdJ D w1 w3 τ2 ad2 R.2.2 R.1 := hJ3.2
  have hW3 := hW2.far hJ3.off (by omega)
  have hO3 : w3 (ad2 6000) = some (lar D 1 g2) := by rw [hJ3.off _ (Or.inr (by omega))]; exact hO2
  have hfin : LInv D w3 R.2.2 R.1 (ad2 0) (ad2 5000) (ad2 6000) := ⟨τ2, ad2, nb2, tb2, g2, hW3, hJ3.reset, ht2, hO3, rfl, rfl, rfl⟩
  obtain ⟨F3, dn3, op3', sh3, hM3, hV3⟩ := id hJ3
  refine i_istore C dL_law_199 (kk := ?_)
  refine i_aload_n C dL_law_201 (kk := ?_)
  refine i_callV C lk_L_122 (c_X7_thrown l hl D (hM := hM3)) (hcl := rfl) (hst := rfl) dL_law_202 (hw := hM3.obj) (hf := ⟨by show n + 10 + 0 + 0 ≤ 601024; omega, by show k + 200 + 0 + 0 ≤ 7293034; omega⟩) (kk := fun v4 w4 g4 => ?_)
  obtain ⟨rfl, q4⟩ := g4
  have q4 := q4.symm
  subst q4
  refine i_iload C dL_law_205 (kk := ?_)
  refine i_icmp_eq C dL_law_207 (tgt := 212) (kt := fun _ => ?_) (kf := fun hB => absurd rfl hB)
  refine i_iload C dL_law_212 (kk := ?_)
  refine i_if_ne C dL_law_214 (tgt := 229) (kt := fun _ => ?_) (kf := fun hB => ?_)
  · refine i_goto C dL_law_229 (tgt := 2056) (kk := ?_)
    exact jn _ _ _ _ _ _ _ (Nat.le_refl _) (Nat.le_refl _) hfin
  · have hg3 : g2 0 = (Z32 R.2.1).toInt64 := hg2 hB
    refine i_aload_n C dL_law_217 (kk := ?_)
    refine i_iconst C dL_law_218 (kk := ?_)
    refine i_laload C dL_law_219 (hw := hO3) (kk := ?_)
    show G _ _ _ _ _ (.long (g2 0) :: _)
    rw [hg3]
    refine i_iload C dL_law_220 (kk := ?_)
    refine i_i2l C dL_law_222 (kk := ?_)
    refine i_lcmp C dL_law_223 (kk := ?_)
    rw [lg_same]
    refine i_if_eq C dL_law_224 (tgt := 229) (ha := by decide) (kt := fun _ => ?_) (kf := fun hB => absurd rfl hB)
    refine i_goto C dL_law_229 (tgt := 2056) (kk := ?_)
    exact jn _ _ _ _ _ _ _ (Nat.le_refl _) (Nat.le_refl _) hfin

set_option maxRecDepth 100000 in
set_option maxHeartbeats 4000000 in
theorem k_argument {l : Launch} (hl : l.stackTraces = false) {D : gD} {b L : Nat} {xs : Nat → Int32} {G : gG} (C : CxL l D b L xs G) {i n k x0 m0 o0 : Nat} {w : wW} {σ : Sg} {la : Int} {o5 o6 : Option Value} (hi : i + 4 ≤ L) (hL : L ≤ 2048) (hn : n + 10 ≤ 601024) (hk : k + 200 ≤ 7293034) (hI : LInv D w σ la x0 m0 o0) (jn : JN G D b i x0 m0 o0 (n + 10) (k + 200)) : G n k w [some (.ref b), some (.ref x0), some (.ref m0), some (.ref o0), some (.int (Z32 (i : Int))), o5, o6] 232 [] := by
  obtain ⟨C, hsl, hsd⟩ := C
  obtain ⟨τ, ad, nb, tb, g9, hW, hJ, ht, hO, rfl, rfl, rfl⟩ := hI
  obtain ⟨R, hR⟩ : ∃ R : Rs, R = oArgument σ := ⟨_, rfl⟩
  have hR3 : 0 ≤ R.1 ∧ R.1 ≤ 3 := by rw [hR]; exact op3_R (by first | rfl | (split <;> rfl))
  refine i_aload_n C dL_law_232 (kk := ?_)
  refine i_aload_n C dL_law_233 (kk := ?_)
  refine i_callSH C lk_L_125 (w_argument l hl D hW ht hO) (hst := rfl) dL_law_234 (hf := ⟨by show n + 10 ≤ 601024; omega, by show k + 200 ≤ 7293034; omega⟩) (kk := fun v1 w1 g1 => ?_)
  rw [← hR] at g1
  obtain ⟨rfl, τ2, ad2, nb2, tb2, hW2, e0, e5, hk2, g2, hO2, hg2⟩ := g1
  have ht2 : τ2 (ad2 6000) = 6000 := by rw [e5 6000 (by omega), (hk2 _ (by rw [hO]; exact nofun) (by omega)).1]; exact ht
  have hJ2 := hJ.carry e5 ht hk2
  have hI2 := MdI.of hW.1 hJ2
  obtain ⟨fs7, hobj⟩ := hJ2.objx
  rw [← e5 6000 (by omega)] at hO2
  rw [← e0, ← e5 5000 (by omega), ← e5 6000 (by omega)]
  rw [← e0, ← e5 5000 (by omega), ← e5 6000 (by omega)] at jn
  refine i_istore C dL_law_237 (kk := ?_)
  refine i_aload_n C dL_law_239 (kk := ?_)
  refine i_callV C lk_L_128 (c_X7_argument l hl D (hI := hI2)) (hcl := rfl) (hst := rfl) dL_law_240 (hw := hobj) (hf := ⟨by show n + 10 + 0 ≤ 601024; omega, by show k + 200 + 0 ≤ 7293034; omega⟩) (kk := fun v3 w3 g3 => ?_)
  rw [← hR] at g3
  obtain ⟨rfl, hJ3⟩ := g3
  have hJ3 : MdJ D w1 w3 τ2 ad2 R.2.2 R.1 := hJ3.2
  have hW3 := hW2.far hJ3.off (by omega)
  have hO3 : w3 (ad2 6000) = some (lar D 1 g2) := by rw [hJ3.off _ (Or.inr (by omega))]; exact hO2
  have hfin : LInv D w3 R.2.2 R.1 (ad2 0) (ad2 5000) (ad2 6000) := ⟨τ2, ad2, nb2, tb2, g2, hW3, hJ3.reset, ht2, hO3, rfl, rfl, rfl⟩
  obtain ⟨F3, dn3, op3', sh3, hM3, hV3⟩ := id hJ3
  refine i_istore C dL_law_243 (kk := ?_)
  refine i_aload_n C dL_law_245 (kk := ?_)
  refine i_callV C lk_L_122 (c_X7_thrown l hl D (hM := hM3)) (hcl := rfl) (hst := rfl) dL_law_246 (hw := hM3.obj) (hf := ⟨by show n + 10 + 0 + 0 ≤ 601024; omega, by show k + 200 + 0 + 0 ≤ 7293034; omega⟩) (kk := fun v4 w4 g4 => ?_)
  obtain ⟨rfl, q4⟩ := g4
  have q4 := q4.symm
  subst q4
  refine i_iload C dL_law_249 (kk := ?_)
  refine i_icmp_eq C dL_law_251 (tgt := 256) (kt := fun _ => ?_) (kf := fun hB => absurd rfl hB)
  refine i_iload C dL_law_256 (kk := ?_)
  refine i_if_ne C dL_law_258 (tgt := 273) (kt := fun _ => ?_) (kf := fun hB => ?_)
  · refine i_goto C dL_law_273 (tgt := 2056) (kk := ?_)
    exact jn _ _ _ _ _ _ _ (Nat.le_refl _) (Nat.le_refl _) hfin
  · have hg3 : g2 0 = (Z32 R.2.1).toInt64 := hg2 hB
    refine i_aload_n C dL_law_261 (kk := ?_)
    refine i_iconst C dL_law_262 (kk := ?_)
    refine i_laload C dL_law_263 (hw := hO3) (kk := ?_)
    show G _ _ _ _ _ (.long (g2 0) :: _)
    rw [hg3]
    refine i_iload C dL_law_264 (kk := ?_)
    refine i_i2l C dL_law_266 (kk := ?_)
    refine i_lcmp C dL_law_267 (kk := ?_)
    rw [lg_same]
    refine i_if_eq C dL_law_268 (tgt := 273) (ha := by decide) (kt := fun _ => ?_) (kf := fun hB => absurd rfl hB)
    refine i_goto C dL_law_273 (tgt := 2056) (kk := ?_)
    exact jn _ _ _ _ _ _ _ (Nat.le_refl _) (Nat.le_refl _) hfin

set_option maxRecDepth 100000 in
set_option maxHeartbeats 4000000 in
theorem k_call {l : Launch} (hl : l.stackTraces = false) {D : gD} {b L : Nat} {xs : Nat → Int32} {G : gG} (C : CxL l D b L xs G) {i n k x0 m0 o0 : Nat} {w : wW} {σ : Sg} {la : Int} {o5 o6 : Option Value} (hi : i + 4 ≤ L) (hL : L ≤ 2048) (hn : n + 10 ≤ 601024) (hk : k + 200 ≤ 7293034) (hI : LInv D w σ la x0 m0 o0) (jn : JN G D b i x0 m0 o0 (n + 10) (k + 200)) : G n k w [some (.ref b), some (.ref x0), some (.ref m0), some (.ref o0), some (.int (Z32 (i : Int))), o5, o6] 276 [] := by
  obtain ⟨C, hsl, hsd⟩ := C
  obtain ⟨τ, ad, nb, tb, g9, hW, hJ, ht, hO, rfl, rfl, rfl⟩ := hI
  have hr0 := Z32_rng (xs (i + 1))
  have hr1 := Z32_rng (xs (i + 2))
  obtain ⟨R, hR⟩ : ∃ R : Rs, R = oCall σ (xs (i + 1)).toInt (xs (i + 2)).toInt := ⟨_, rfl⟩
  have hR3 : 0 ≤ R.1 ∧ R.1 ≤ 3 := by rw [hR]; exact op3_R (by first | rfl | (split <;> rfl))
  refine i_aload_n C dL_law_276 (kk := ?_)
  refine i_aload_n C dL_law_277 (kk := ?_)
  refine i_iload C dL_law_278 (kk := ?_)
  refine i_iconst C dL_law_280 (kk := ?_)
  refine i_iadd C dL_law_281 (kk := ?_)
  refine hsd _ _ _ _ _ _ (i + 1) dL_law_282 (by omega) hL ?_
  refine i_aload_n C dL_law_283 (kk := ?_)
  refine i_iload C dL_law_284 (kk := ?_)
  refine i_iconst C dL_law_286 (kk := ?_)
  refine i_iadd C dL_law_287 (kk := ?_)
  refine hsd _ _ _ _ _ _ (i + 2) dL_law_288 (by omega) hL ?_
  refine i_aload_n C dL_law_289 (kk := ?_)
  refine i_callSH C lk_L_129 (w_call l hl D hW ht hO hr0 hr1) (hst := rfl) dL_law_290 (hf := ⟨by show n + 10 ≤ 601024; omega, by show k + 200 ≤ 7293034; omega⟩) (kk := fun v1 w1 g1 => ?_)
  rw [← hR] at g1
  obtain ⟨rfl, τ2, ad2, nb2, tb2, hW2, e0, e5, hk2, g2, hO2, hg2⟩ := g1
  have ht2 : τ2 (ad2 6000) = 6000 := by rw [e5 6000 (by omega), (hk2 _ (by rw [hO]; exact nofun) (by omega)).1]; exact ht
  have hJ2 := hJ.carry e5 ht hk2
  have hI2 := MdI.of hW.1 hJ2
  obtain ⟨fs7, hobj⟩ := hJ2.objx
  rw [← e5 6000 (by omega)] at hO2
  rw [← e0, ← e5 5000 (by omega), ← e5 6000 (by omega)]
  rw [← e0, ← e5 5000 (by omega), ← e5 6000 (by omega)] at jn
  refine i_istore C dL_law_293 (kk := ?_)
  refine i_aload_n C dL_law_295 (kk := ?_)
  refine i_aload_n C dL_law_296 (kk := ?_)
  refine i_iload C dL_law_297 (kk := ?_)
  refine i_iconst C dL_law_299 (kk := ?_)
  refine i_iadd C dL_law_300 (kk := ?_)
  refine hsd _ _ _ _ _ _ (i + 1) dL_law_301 (by omega) hL ?_
  refine i_aload_n C dL_law_302 (kk := ?_)
  refine i_iload C dL_law_303 (kk := ?_)
  refine i_iconst C dL_law_305 (kk := ?_)
  refine i_iadd C dL_law_306 (kk := ?_)
  refine hsd _ _ _ _ _ _ (i + 2) dL_law_307 (by omega) hL ?_
  refine i_callV C lk_L_132 (c_X7_call l hl D (hI := hI2) (i := (xs (i + 1)).toInt) (j := (xs (i + 2)).toInt)) (hcl := rfl) (hst := rfl) dL_law_308 (hw := hobj) (hf := ⟨by show n + 10 + 0 ≤ 601024; omega, by show k + 200 + 0 ≤ 7293034; omega⟩) (kk := fun v3 w3 g3 => ?_)
  rw [← hR] at g3
  obtain ⟨rfl, hJ3⟩ := g3
  have hJ3 : MdJ D w1 w3 τ2 ad2 R.2.2 R.1 := hJ3.2
  have hW3 := hW2.far hJ3.off (by omega)
  have hO3 : w3 (ad2 6000) = some (lar D 1 g2) := by rw [hJ3.off _ (Or.inr (by omega))]; exact hO2
  have hfin : LInv D w3 R.2.2 R.1 (ad2 0) (ad2 5000) (ad2 6000) := ⟨τ2, ad2, nb2, tb2, g2, hW3, hJ3.reset, ht2, hO3, rfl, rfl, rfl⟩
  obtain ⟨F3, dn3, op3', sh3, hM3, hV3⟩ := id hJ3
  refine i_istore C dL_law_311 (kk := ?_)
  refine i_aload_n C dL_law_313 (kk := ?_)
  refine i_callV C lk_L_122 (c_X7_thrown l hl D (hM := hM3)) (hcl := rfl) (hst := rfl) dL_law_314 (hw := hM3.obj) (hf := ⟨by show n + 10 + 0 + 0 ≤ 601024; omega, by show k + 200 + 0 + 0 ≤ 7293034; omega⟩) (kk := fun v4 w4 g4 => ?_)
  obtain ⟨rfl, q4⟩ := g4
  have q4 := q4.symm
  subst q4
  refine i_iload C dL_law_317 (kk := ?_)
  refine i_icmp_eq C dL_law_319 (tgt := 324) (kt := fun _ => ?_) (kf := fun hB => absurd rfl hB)
  refine i_iload C dL_law_324 (kk := ?_)
  refine i_if_ne C dL_law_326 (tgt := 341) (kt := fun _ => ?_) (kf := fun hB => ?_)
  · refine i_goto C dL_law_341 (tgt := 2056) (kk := ?_)
    exact jn _ _ _ _ _ _ _ (Nat.le_refl _) (Nat.le_refl _) hfin
  · have hg3 : g2 0 = (Z32 R.2.1).toInt64 := hg2 hB
    refine i_aload_n C dL_law_329 (kk := ?_)
    refine i_iconst C dL_law_330 (kk := ?_)
    refine i_laload C dL_law_331 (hw := hO3) (kk := ?_)
    show G _ _ _ _ _ (.long (g2 0) :: _)
    rw [hg3]
    refine i_iload C dL_law_332 (kk := ?_)
    refine i_i2l C dL_law_334 (kk := ?_)
    refine i_lcmp C dL_law_335 (kk := ?_)
    rw [lg_same]
    refine i_if_eq C dL_law_336 (tgt := 341) (ha := by decide) (kt := fun _ => ?_) (kf := fun hB => absurd rfl hB)
    refine i_goto C dL_law_341 (tgt := 2056) (kk := ?_)
    exact jn _ _ _ _ _ _ _ (Nat.le_refl _) (Nat.le_refl _) hfin

set_option maxRecDepth 100000 in
set_option maxHeartbeats 4000000 in
theorem k_callOn {l : Launch} (hl : l.stackTraces = false) {D : gD} {b L : Nat} {xs : Nat → Int32} {G : gG} (C : CxL l D b L xs G) {i n k x0 m0 o0 : Nat} {w : wW} {σ : Sg} {la : Int} {o5 o6 : Option Value} (hi : i + 4 ≤ L) (hL : L ≤ 2048) (hn : n + 10 ≤ 601024) (hk : k + 200 ≤ 7293034) (hI : LInv D w σ la x0 m0 o0) (jn : JN G D b i x0 m0 o0 (n + 10) (k + 200)) : G n k w [some (.ref b), some (.ref x0), some (.ref m0), some (.ref o0), some (.int (Z32 (i : Int))), o5, o6] 344 [] := by
  obtain ⟨C, hsl, hsd⟩ := C
  obtain ⟨τ, ad, nb, tb, g9, hW, hJ, ht, hO, rfl, rfl, rfl⟩ := hI
  have hr0 := Z32_rng (xs (i + 1))
  obtain ⟨R, hR⟩ : ∃ R : Rs, R = oCallOn σ (xs (i + 1)).toInt := ⟨_, rfl⟩
  have hR3 : 0 ≤ R.1 ∧ R.1 ≤ 3 := by rw [hR]; exact op3_R (by first | rfl | (split <;> rfl))
  refine i_aload_n C dL_law_344 (kk := ?_)
  refine i_aload_n C dL_law_345 (kk := ?_)
  refine i_iload C dL_law_346 (kk := ?_)
  refine i_iconst C dL_law_348 (kk := ?_)
  refine i_iadd C dL_law_349 (kk := ?_)
  refine hsd _ _ _ _ _ _ (i + 1) dL_law_350 (by omega) hL ?_
  refine i_aload_n C dL_law_351 (kk := ?_)
  refine i_callSH C lk_L_133 (w_callOn l hl D hW ht hO hr0) (hst := rfl) dL_law_352 (hf := ⟨by show n + 10 ≤ 601024; omega, by show k + 200 ≤ 7293034; omega⟩) (kk := fun v1 w1 g1 => ?_)
  rw [← hR] at g1
  obtain ⟨rfl, τ2, ad2, nb2, tb2, hW2, e0, e5, hk2, g2, hO2, hg2⟩ := g1
  have ht2 : τ2 (ad2 6000) = 6000 := by rw [e5 6000 (by omega), (hk2 _ (by rw [hO]; exact nofun) (by omega)).1]; exact ht
  have hJ2 := hJ.carry e5 ht hk2
  have hI2 := MdI.of hW.1 hJ2
  obtain ⟨fs7, hobj⟩ := hJ2.objx
  rw [← e5 6000 (by omega)] at hO2
  rw [← e0, ← e5 5000 (by omega), ← e5 6000 (by omega)]
  rw [← e0, ← e5 5000 (by omega), ← e5 6000 (by omega)] at jn
  refine i_istore C dL_law_355 (kk := ?_)
  refine i_aload_n C dL_law_357 (kk := ?_)
  refine i_aload_n C dL_law_358 (kk := ?_)
  refine i_iload C dL_law_359 (kk := ?_)
  refine i_iconst C dL_law_361 (kk := ?_)
  refine i_iadd C dL_law_362 (kk := ?_)
  refine hsd _ _ _ _ _ _ (i + 1) dL_law_363 (by omega) hL ?_
  refine i_callV C lk_L_135 (c_X7_callOn l hl D (hI := hI2) (i := (xs (i + 1)).toInt)) (hcl := rfl) (hst := rfl) dL_law_364 (hw := hobj) (hf := ⟨by show n + 10 + 0 ≤ 601024; omega, by show k + 200 + 0 ≤ 7293034; omega⟩) (kk := fun v3 w3 g3 => ?_)
  rw [← hR] at g3
  obtain ⟨rfl, hJ3⟩ := g3
  have hJ3 : MdJ D w1 w3 τ2 ad2 R.2.2 R.1 := hJ3.2
  have hW3 := hW2.far hJ3.off (by omega)
  have hO3 : w3 (ad2 6000) = some (lar D 1 g2) := by rw [hJ3.off _ (Or.inr (by omega))]; exact hO2
  have hfin : LInv D w3 R.2.2 R.1 (ad2 0) (ad2 5000) (ad2 6000) := ⟨τ2, ad2, nb2, tb2, g2, hW3, hJ3.reset, ht2, hO3, rfl, rfl, rfl⟩
  obtain ⟨F3, dn3, op3', sh3, hM3, hV3⟩ := id hJ3
  refine i_istore C dL_law_367 (kk := ?_)
  refine i_aload_n C dL_law_369 (kk := ?_)
  refine i_callV C lk_L_122 (c_X7_thrown l hl D (hM := hM3)) (hcl := rfl) (hst := rfl) dL_law_370 (hw := hM3.obj) (hf := ⟨by show n + 10 + 0 + 0 ≤ 601024; omega, by show k + 200 + 0 + 0 ≤ 7293034; omega⟩) (kk := fun v4 w4 g4 => ?_)
  obtain ⟨rfl, q4⟩ := g4
  have q4 := q4.symm
  subst q4
  refine i_iload C dL_law_373 (kk := ?_)
  refine i_icmp_eq C dL_law_375 (tgt := 380) (kt := fun _ => ?_) (kf := fun hB => absurd rfl hB)
  refine i_iload C dL_law_380 (kk := ?_)
  refine i_if_ne C dL_law_382 (tgt := 397) (kt := fun _ => ?_) (kf := fun hB => ?_)
  · refine i_goto C dL_law_397 (tgt := 2056) (kk := ?_)
    exact jn _ _ _ _ _ _ _ (Nat.le_refl _) (Nat.le_refl _) hfin
  · have hg3 : g2 0 = (Z32 R.2.1).toInt64 := hg2 hB
    refine i_aload_n C dL_law_385 (kk := ?_)
    refine i_iconst C dL_law_386 (kk := ?_)
    refine i_laload C dL_law_387 (hw := hO3) (kk := ?_)
    show G _ _ _ _ _ (.long (g2 0) :: _)
    rw [hg3]
    refine i_iload C dL_law_388 (kk := ?_)
    refine i_i2l C dL_law_390 (kk := ?_)
    refine i_lcmp C dL_law_391 (kk := ?_)
    rw [lg_same]
    refine i_if_eq C dL_law_392 (tgt := 397) (ha := by decide) (kt := fun _ => ?_) (kf := fun hB => absurd rfl hB)
    refine i_goto C dL_law_397 (tgt := 2056) (kk := ?_)
    exact jn _ _ _ _ _ _ _ (Nat.le_refl _) (Nat.le_refl _) hfin

set_option maxRecDepth 100000 in
set_option maxHeartbeats 4000000 in
theorem k_when {l : Launch} (hl : l.stackTraces = false) {D : gD} {b L : Nat} {xs : Nat → Int32} {G : gG} (C : CxL l D b L xs G) {i n k x0 m0 o0 : Nat} {w : wW} {σ : Sg} {la : Int} {o5 o6 : Option Value} (hi : i + 4 ≤ L) (hL : L ≤ 2048) (hn : n + 10 ≤ 601024) (hk : k + 200 ≤ 7293034) (hI : LInv D w σ la x0 m0 o0) (jn : JN G D b i x0 m0 o0 (n + 10) (k + 200)) : G n k w [some (.ref b), some (.ref x0), some (.ref m0), some (.ref o0), some (.int (Z32 (i : Int))), o5, o6] 400 [] := by
  obtain ⟨C, hsl, hsd⟩ := C
  obtain ⟨τ, ad, nb, tb, g9, hW, hJ, ht, hO, rfl, rfl, rfl⟩ := hI
  have hr0 := Z32_rng (xs (i + 1))
  obtain ⟨R, hR⟩ : ∃ R : Rs, R = oWhen σ (xs (i + 1)).toInt := ⟨_, rfl⟩
  have hR3 : 0 ≤ R.1 ∧ R.1 ≤ 3 := by rw [hR]; exact op3_R (by first | rfl | (split <;> rfl))
  refine i_aload_n C dL_law_400 (kk := ?_)
  refine i_aload_n C dL_law_401 (kk := ?_)
  refine i_iload C dL_law_402 (kk := ?_)
  refine i_iconst C dL_law_404 (kk := ?_)
  refine i_iadd C dL_law_405 (kk := ?_)
  refine hsd _ _ _ _ _ _ (i + 1) dL_law_406 (by omega) hL ?_
  refine i_aload_n C dL_law_407 (kk := ?_)
  refine i_callSH C lk_L_136 (w_when l hl D hW ht hO hr0) (hst := rfl) dL_law_408 (hf := ⟨by show n + 10 ≤ 601024; omega, by show k + 200 ≤ 7293034; omega⟩) (kk := fun v1 w1 g1 => ?_)
  rw [← hR] at g1
  obtain ⟨rfl, τ2, ad2, nb2, tb2, hW2, e0, e5, hk2, g2, hO2, hg2⟩ := g1
  have ht2 : τ2 (ad2 6000) = 6000 := by rw [e5 6000 (by omega), (hk2 _ (by rw [hO]; exact nofun) (by omega)).1]; exact ht
  have hJ2 := hJ.carry e5 ht hk2
  have hI2 := MdI.of hW.1 hJ2
  obtain ⟨fs7, hobj⟩ := hJ2.objx
  rw [← e5 6000 (by omega)] at hO2
  rw [← e0, ← e5 5000 (by omega), ← e5 6000 (by omega)]
  rw [← e0, ← e5 5000 (by omega), ← e5 6000 (by omega)] at jn
  refine i_istore C dL_law_411 (kk := ?_)
  refine i_aload_n C dL_law_413 (kk := ?_)
  refine i_aload_n C dL_law_414 (kk := ?_)
  refine i_iload C dL_law_415 (kk := ?_)
  refine i_iconst C dL_law_417 (kk := ?_)
  refine i_iadd C dL_law_418 (kk := ?_)
  refine hsd _ _ _ _ _ _ (i + 1) dL_law_419 (by omega) hL ?_
  refine i_callV C lk_L_138 (c_X7_when l hl D (hI := hI2) (j := (xs (i + 1)).toInt)) (hcl := rfl) (hst := rfl) dL_law_420 (hw := hobj) (hf := ⟨by show n + 10 + 0 ≤ 601024; omega, by show k + 200 + 0 ≤ 7293034; omega⟩) (kk := fun v3 w3 g3 => ?_)
  rw [← hR] at g3
  obtain ⟨rfl, hJ3⟩ := g3
  have hJ3 : MdJ D w1 w3 τ2 ad2 R.2.2 R.1 := hJ3.2
  have hW3 := hW2.far hJ3.off (by omega)
  have hO3 : w3 (ad2 6000) = some (lar D 1 g2) := by rw [hJ3.off _ (Or.inr (by omega))]; exact hO2
  have hfin : LInv D w3 R.2.2 R.1 (ad2 0) (ad2 5000) (ad2 6000) := ⟨τ2, ad2, nb2, tb2, g2, hW3, hJ3.reset, ht2, hO3, rfl, rfl, rfl⟩
  obtain ⟨F3, dn3, op3', sh3, hM3, hV3⟩ := id hJ3
  refine i_istore C dL_law_423 (kk := ?_)
  refine i_aload_n C dL_law_425 (kk := ?_)
  refine i_callV C lk_L_122 (c_X7_thrown l hl D (hM := hM3)) (hcl := rfl) (hst := rfl) dL_law_426 (hw := hM3.obj) (hf := ⟨by show n + 10 + 0 + 0 ≤ 601024; omega, by show k + 200 + 0 + 0 ≤ 7293034; omega⟩) (kk := fun v4 w4 g4 => ?_)
  obtain ⟨rfl, q4⟩ := g4
  have q4 := q4.symm
  subst q4
  refine i_iload C dL_law_429 (kk := ?_)
  refine i_icmp_eq C dL_law_431 (tgt := 436) (kt := fun _ => ?_) (kf := fun hB => absurd rfl hB)
  refine i_iload C dL_law_436 (kk := ?_)
  refine i_if_ne C dL_law_438 (tgt := 453) (kt := fun _ => ?_) (kf := fun hB => ?_)
  · refine i_goto C dL_law_453 (tgt := 2056) (kk := ?_)
    exact jn _ _ _ _ _ _ _ (Nat.le_refl _) (Nat.le_refl _) hfin
  · have hg3 : g2 0 = (Z32 R.2.1).toInt64 := hg2 hB
    refine i_aload_n C dL_law_441 (kk := ?_)
    refine i_iconst C dL_law_442 (kk := ?_)
    refine i_laload C dL_law_443 (hw := hO3) (kk := ?_)
    show G _ _ _ _ _ (.long (g2 0) :: _)
    rw [hg3]
    refine i_iload C dL_law_444 (kk := ?_)
    refine i_i2l C dL_law_446 (kk := ?_)
    refine i_lcmp C dL_law_447 (kk := ?_)
    rw [lg_same]
    refine i_if_eq C dL_law_448 (tgt := 453) (ha := by decide) (kt := fun _ => ?_) (kf := fun hB => absurd rfl hB)
    refine i_goto C dL_law_453 (tgt := 2056) (kk := ?_)
    exact jn _ _ _ _ _ _ _ (Nat.le_refl _) (Nat.le_refl _) hfin

set_option maxRecDepth 100000 in
set_option maxHeartbeats 4000000 in
theorem k_end {l : Launch} (hl : l.stackTraces = false) {D : gD} {b L : Nat} {xs : Nat → Int32} {G : gG} (C : CxL l D b L xs G) {i n k x0 m0 o0 : Nat} {w : wW} {σ : Sg} {la : Int} {o5 o6 : Option Value} (hi : i + 4 ≤ L) (hL : L ≤ 2048) (hn : n + 10 ≤ 601024) (hk : k + 200 ≤ 7293034) (hI : LInv D w σ la x0 m0 o0) (jn : JN G D b i x0 m0 o0 (n + 10) (k + 200)) : G n k w [some (.ref b), some (.ref x0), some (.ref m0), some (.ref o0), some (.int (Z32 (i : Int))), o5, o6] 456 [] := by
  obtain ⟨C, hsl, hsd⟩ := C
  obtain ⟨τ, ad, nb, tb, g9, hW, hJ, ht, hO, rfl, rfl, rfl⟩ := hI
  obtain ⟨R, hR⟩ : ∃ R : Rs, R = oEnd σ := ⟨_, rfl⟩
  have hR3 : 0 ≤ R.1 ∧ R.1 ≤ 3 := by rw [hR]; exact op3_R (by first | rfl | (split <;> rfl))
  refine i_aload_n C dL_law_456 (kk := ?_)
  refine i_aload_n C dL_law_457 (kk := ?_)
  refine i_callSH C lk_L_139 (w_end l hl D hW ht hO) (hst := rfl) dL_law_458 (hf := ⟨by show n + 10 ≤ 601024; omega, by show k + 200 ≤ 7293034; omega⟩) (kk := fun v1 w1 g1 => ?_)
  rw [← hR] at g1
  obtain ⟨rfl, τ2, ad2, nb2, tb2, hW2, e0, e5, hk2, g2, hO2, hg2⟩ := g1
  have ht2 : τ2 (ad2 6000) = 6000 := by rw [e5 6000 (by omega), (hk2 _ (by rw [hO]; exact nofun) (by omega)).1]; exact ht
  have hJ2 := hJ.carry e5 ht hk2
  have hI2 := MdI.of hW.1 hJ2
  obtain ⟨fs7, hobj⟩ := hJ2.objx
  rw [← e5 6000 (by omega)] at hO2
  rw [← e0, ← e5 5000 (by omega), ← e5 6000 (by omega)]
  rw [← e0, ← e5 5000 (by omega), ← e5 6000 (by omega)] at jn
  refine i_istore C dL_law_461 (kk := ?_)
  refine i_aload_n C dL_law_463 (kk := ?_)
  refine i_callV C lk_L_141 (c_X7_end l hl D (hI := hI2)) (hcl := rfl) (hst := rfl) dL_law_464 (hw := hobj) (hf := ⟨by show n + 10 + 0 ≤ 601024; omega, by show k + 200 + 0 ≤ 7293034; omega⟩) (kk := fun v3 w3 g3 => ?_)
  rw [← hR] at g3
  obtain ⟨rfl, hJ3⟩ := g3
  have hJ3 : MdJ D w1 w3 τ2 ad2 R.2.2 R.1 := hJ3.2
  have hW3 := hW2.far hJ3.off (by omega)
  have hO3 : w3 (ad2 6000) = some (lar D 1 g2) := by rw [hJ3.off _ (Or.inr (by omega))]; exact hO2
  have hfin : LInv D w3 R.2.2 R.1 (ad2 0) (ad2 5000) (ad2 6000) := ⟨τ2, ad2, nb2, tb2, g2, hW3, hJ3.reset, ht2, hO3, rfl, rfl, rfl⟩
  obtain ⟨F3, dn3, op3', sh3, hM3, hV3⟩ := id hJ3
  refine i_istore C dL_law_467 (kk := ?_)
  refine i_aload_n C dL_law_469 (kk := ?_)
  refine i_callV C lk_L_122 (c_X7_thrown l hl D (hM := hM3)) (hcl := rfl) (hst := rfl) dL_law_470 (hw := hM3.obj) (hf := ⟨by show n + 10 + 0 + 0 ≤ 601024; omega, by show k + 200 + 0 + 0 ≤ 7293034; omega⟩) (kk := fun v4 w4 g4 => ?_)
  obtain ⟨rfl, q4⟩ := g4
  have q4 := q4.symm
  subst q4
  refine i_iload C dL_law_473 (kk := ?_)
  refine i_icmp_eq C dL_law_475 (tgt := 480) (kt := fun _ => ?_) (kf := fun hB => absurd rfl hB)
  refine i_iload C dL_law_480 (kk := ?_)
  refine i_if_ne C dL_law_482 (tgt := 497) (kt := fun _ => ?_) (kf := fun hB => ?_)
  · refine i_goto C dL_law_497 (tgt := 2056) (kk := ?_)
    exact jn _ _ _ _ _ _ _ (Nat.le_refl _) (Nat.le_refl _) hfin
  · have hg3 : g2 0 = (Z32 R.2.1).toInt64 := hg2 hB
    refine i_aload_n C dL_law_485 (kk := ?_)
    refine i_iconst C dL_law_486 (kk := ?_)
    refine i_laload C dL_law_487 (hw := hO3) (kk := ?_)
    show G _ _ _ _ _ (.long (g2 0) :: _)
    rw [hg3]
    refine i_iload C dL_law_488 (kk := ?_)
    refine i_i2l C dL_law_490 (kk := ?_)
    refine i_lcmp C dL_law_491 (kk := ?_)
    rw [lg_same]
    refine i_if_eq C dL_law_492 (tgt := 497) (ha := by decide) (kt := fun _ => ?_) (kf := fun hB => absurd rfl hB)
    refine i_goto C dL_law_497 (tgt := 2056) (kk := ?_)
    exact jn _ _ _ _ _ _ _ (Nat.le_refl _) (Nat.le_refl _) hfin

set_option maxRecDepth 100000 in
set_option maxHeartbeats 4000000 in
theorem k_anchor {l : Launch} (hl : l.stackTraces = false) {D : gD} {b L : Nat} {xs : Nat → Int32} {G : gG} (C : CxL l D b L xs G) {i n k x0 m0 o0 : Nat} {w : wW} {σ : Sg} {la : Int} {o5 o6 : Option Value} (hi : i + 4 ≤ L) (hL : L ≤ 2048) (hn : n + 10 ≤ 601024) (hk : k + 200 ≤ 7293034) (hI : LInv D w σ la x0 m0 o0) (jn : JN G D b i x0 m0 o0 (n + 10) (k + 200)) : G n k w [some (.ref b), some (.ref x0), some (.ref m0), some (.ref o0), some (.int (Z32 (i : Int))), o5, o6] 500 [] := by
  obtain ⟨C, hsl, hsd⟩ := C
  obtain ⟨τ, ad, nb, tb, g9, hW, hJ, ht, hO, rfl, rfl, rfl⟩ := hI
  have hr0 := Z32_rng (xs (i + 1))
  obtain ⟨R, hR⟩ : ∃ R : Rs, R = oAnchor σ (xs (i + 1)).toInt := ⟨_, rfl⟩
  have hR3 : 0 ≤ R.1 ∧ R.1 ≤ 3 := by rw [hR]; exact op3_R (by first | rfl | (split <;> rfl))
  refine i_aload_n C dL_law_500 (kk := ?_)
  refine i_aload_n C dL_law_501 (kk := ?_)
  refine i_iload C dL_law_502 (kk := ?_)
  refine i_iconst C dL_law_504 (kk := ?_)
  refine i_iadd C dL_law_505 (kk := ?_)
  refine hsd _ _ _ _ _ _ (i + 1) dL_law_506 (by omega) hL ?_
  refine i_aload_n C dL_law_507 (kk := ?_)
  refine i_callSH C lk_L_142 (w_anchor l hl D hW ht hO hr0) (hst := rfl) dL_law_508 (hf := ⟨by show n + 10 ≤ 601024; omega, by show k + 200 ≤ 7293034; omega⟩) (kk := fun v1 w1 g1 => ?_)
  rw [← hR] at g1
  obtain ⟨rfl, τ2, ad2, nb2, tb2, hW2, e0, e5, hk2, g2, hO2, hg2⟩ := g1
  have ht2 : τ2 (ad2 6000) = 6000 := by rw [e5 6000 (by omega), (hk2 _ (by rw [hO]; exact nofun) (by omega)).1]; exact ht
  have hJ2 := hJ.carry e5 ht hk2
  have hI2 := MdI.of hW.1 hJ2
  obtain ⟨fs7, hobj⟩ := hJ2.objx
  rw [← e5 6000 (by omega)] at hO2
  rw [← e0, ← e5 5000 (by omega), ← e5 6000 (by omega)]
  rw [← e0, ← e5 5000 (by omega), ← e5 6000 (by omega)] at jn
  refine i_istore C dL_law_511 (kk := ?_)
  refine i_aload_n C dL_law_513 (kk := ?_)
  refine i_aload_n C dL_law_514 (kk := ?_)
  refine i_iload C dL_law_515 (kk := ?_)
  refine i_iconst C dL_law_517 (kk := ?_)
  refine i_iadd C dL_law_518 (kk := ?_)
  refine hsd _ _ _ _ _ _ (i + 1) dL_law_519 (by omega) hL ?_
  refine i_callV C lk_L_144 (c_X7_anchor l hl D (hI := hI2) (j := (xs (i + 1)).toInt)) (hcl := rfl) (hst := rfl) dL_law_520 (hw := hobj) (hf := ⟨by show n + 10 + 0 ≤ 601024; omega, by show k + 200 + 0 ≤ 7293034; omega⟩) (kk := fun v3 w3 g3 => ?_)
  rw [← hR] at g3
  obtain ⟨rfl, hJ3⟩ := g3
  have hJ3 : MdJ D w1 w3 τ2 ad2 R.2.2 R.1 := hJ3.2
  have hW3 := hW2.far hJ3.off (by omega)
  have hO3 : w3 (ad2 6000) = some (lar D 1 g2) := by rw [hJ3.off _ (Or.inr (by omega))]; exact hO2
  have hfin : LInv D w3 R.2.2 R.1 (ad2 0) (ad2 5000) (ad2 6000) := ⟨τ2, ad2, nb2, tb2, g2, hW3, hJ3.reset, ht2, hO3, rfl, rfl, rfl⟩
  obtain ⟨F3, dn3, op3', sh3, hM3, hV3⟩ := id hJ3
  refine i_istore C dL_law_523 (kk := ?_)
  refine i_aload_n C dL_law_525 (kk := ?_)
  refine i_callV C lk_L_122 (c_X7_thrown l hl D (hM := hM3)) (hcl := rfl) (hst := rfl) dL_law_526 (hw := hM3.obj) (hf := ⟨by show n + 10 + 0 + 0 ≤ 601024; omega, by show k + 200 + 0 + 0 ≤ 7293034; omega⟩) (kk := fun v4 w4 g4 => ?_)
  obtain ⟨rfl, q4⟩ := g4
  have q4 := q4.symm
  subst q4
  refine i_iload C dL_law_529 (kk := ?_)
  refine i_icmp_eq C dL_law_531 (tgt := 536) (kt := fun _ => ?_) (kf := fun hB => absurd rfl hB)
  refine i_iload C dL_law_536 (kk := ?_)
  refine i_if_ne C dL_law_538 (tgt := 553) (kt := fun _ => ?_) (kf := fun hB => ?_)
  · refine i_goto C dL_law_553 (tgt := 2056) (kk := ?_)
    exact jn _ _ _ _ _ _ _ (Nat.le_refl _) (Nat.le_refl _) hfin
  · have hg3 : g2 0 = (Z32 R.2.1).toInt64 := hg2 hB
    refine i_aload_n C dL_law_541 (kk := ?_)
    refine i_iconst C dL_law_542 (kk := ?_)
    refine i_laload C dL_law_543 (hw := hO3) (kk := ?_)
    show G _ _ _ _ _ (.long (g2 0) :: _)
    rw [hg3]
    refine i_iload C dL_law_544 (kk := ?_)
    refine i_i2l C dL_law_546 (kk := ?_)
    refine i_lcmp C dL_law_547 (kk := ?_)
    rw [lg_same]
    refine i_if_eq C dL_law_548 (tgt := 553) (ha := by decide) (kt := fun _ => ?_) (kf := fun hB => absurd rfl hB)
    refine i_goto C dL_law_553 (tgt := 2056) (kk := ?_)
    exact jn _ _ _ _ _ _ _ (Nat.le_refl _) (Nat.le_refl _) hfin

set_option maxRecDepth 100000 in
set_option maxHeartbeats 4000000 in
theorem k_link {l : Launch} (hl : l.stackTraces = false) {D : gD} {b L : Nat} {xs : Nat → Int32} {G : gG} (C : CxL l D b L xs G) {i n k x0 m0 o0 : Nat} {w : wW} {σ : Sg} {la : Int} {o5 o6 : Option Value} (hi : i + 4 ≤ L) (hL : L ≤ 2048) (hn : n + 10 ≤ 601024) (hk : k + 200 ≤ 7293034) (hI : LInv D w σ la x0 m0 o0) (jn : JN G D b i x0 m0 o0 (n + 10) (k + 200)) : G n k w [some (.ref b), some (.ref x0), some (.ref m0), some (.ref o0), some (.int (Z32 (i : Int))), o5, o6] 556 [] := by
  obtain ⟨C, hsl, hsd⟩ := C
  obtain ⟨τ, ad, nb, tb, g9, hW, hJ, ht, hO, rfl, rfl, rfl⟩ := hI
  have hr0 := Z32_rng (xs (i + 1))
  have hr1 := Z32_rng (xs (i + 2))
  obtain ⟨R, hR⟩ : ∃ R : Rs, R = oLink σ (xs (i + 1)).toInt (xs (i + 2)).toInt := ⟨_, rfl⟩
  have hR3 : 0 ≤ R.1 ∧ R.1 ≤ 3 := by rw [hR]; exact op3_R (by first | rfl | (split <;> rfl))
  refine i_aload_n C dL_law_556 (kk := ?_)
  refine i_aload_n C dL_law_557 (kk := ?_)
  refine i_iload C dL_law_558 (kk := ?_)
  refine i_iconst C dL_law_560 (kk := ?_)
  refine i_iadd C dL_law_561 (kk := ?_)
  refine hsd _ _ _ _ _ _ (i + 1) dL_law_562 (by omega) hL ?_
  refine i_aload_n C dL_law_563 (kk := ?_)
  refine i_iload C dL_law_564 (kk := ?_)
  refine i_iconst C dL_law_566 (kk := ?_)
  refine i_iadd C dL_law_567 (kk := ?_)
  refine hsd _ _ _ _ _ _ (i + 2) dL_law_568 (by omega) hL ?_
  refine i_aload_n C dL_law_569 (kk := ?_)
  refine i_callSH C lk_L_145 (w_link l hl D hW ht hO hr0 hr1) (hst := rfl) dL_law_570 (hf := ⟨by show n + 10 ≤ 601024; omega, by show k + 200 ≤ 7293034; omega⟩) (kk := fun v1 w1 g1 => ?_)
  rw [← hR] at g1
  obtain ⟨rfl, τ2, ad2, nb2, tb2, hW2, e0, e5, hk2, g2, hO2, hg2⟩ := g1
  have ht2 : τ2 (ad2 6000) = 6000 := by rw [e5 6000 (by omega), (hk2 _ (by rw [hO]; exact nofun) (by omega)).1]; exact ht
  have hJ2 := hJ.carry e5 ht hk2
  have hI2 := MdI.of hW.1 hJ2
  obtain ⟨fs7, hobj⟩ := hJ2.objx
  rw [← e5 6000 (by omega)] at hO2
  rw [← e0, ← e5 5000 (by omega), ← e5 6000 (by omega)]
  rw [← e0, ← e5 5000 (by omega), ← e5 6000 (by omega)] at jn
  refine i_istore C dL_law_573 (kk := ?_)
  refine i_aload_n C dL_law_575 (kk := ?_)
  refine i_aload_n C dL_law_576 (kk := ?_)
  refine i_iload C dL_law_577 (kk := ?_)
  refine i_iconst C dL_law_579 (kk := ?_)
  refine i_iadd C dL_law_580 (kk := ?_)
  refine hsd _ _ _ _ _ _ (i + 1) dL_law_581 (by omega) hL ?_
  refine i_aload_n C dL_law_582 (kk := ?_)
  refine i_iload C dL_law_583 (kk := ?_)
  refine i_iconst C dL_law_585 (kk := ?_)
  refine i_iadd C dL_law_586 (kk := ?_)
  refine hsd _ _ _ _ _ _ (i + 2) dL_law_587 (by omega) hL ?_
  refine i_callV C lk_L_147 (c_X7_link l hl D (hI := hI2) (i := (xs (i + 1)).toInt) (j := (xs (i + 2)).toInt)) (hcl := rfl) (hst := rfl) dL_law_588 (hw := hobj) (hf := ⟨by show n + 10 + 0 ≤ 601024; omega, by show k + 200 + 0 ≤ 7293034; omega⟩) (kk := fun v3 w3 g3 => ?_)
  rw [← hR] at g3
  obtain ⟨rfl, hJ3⟩ := g3
  have hJ3 : MdJ D w1 w3 τ2 ad2 R.2.2 R.1 := hJ3.2
  have hW3 := hW2.far hJ3.off (by omega)
  have hO3 : w3 (ad2 6000) = some (lar D 1 g2) := by rw [hJ3.off _ (Or.inr (by omega))]; exact hO2
  have hfin : LInv D w3 R.2.2 R.1 (ad2 0) (ad2 5000) (ad2 6000) := ⟨τ2, ad2, nb2, tb2, g2, hW3, hJ3.reset, ht2, hO3, rfl, rfl, rfl⟩
  obtain ⟨F3, dn3, op3', sh3, hM3, hV3⟩ := id hJ3
  refine i_istore C dL_law_591 (kk := ?_)
  refine i_aload_n C dL_law_593 (kk := ?_)
  refine i_callV C lk_L_122 (c_X7_thrown l hl D (hM := hM3)) (hcl := rfl) (hst := rfl) dL_law_594 (hw := hM3.obj) (hf := ⟨by show n + 10 + 0 + 0 ≤ 601024; omega, by show k + 200 + 0 + 0 ≤ 7293034; omega⟩) (kk := fun v4 w4 g4 => ?_)
  obtain ⟨rfl, q4⟩ := g4
  have q4 := q4.symm
  subst q4
  refine i_iload C dL_law_597 (kk := ?_)
  refine i_icmp_eq C dL_law_599 (tgt := 604) (kt := fun _ => ?_) (kf := fun hB => absurd rfl hB)
  refine i_iload C dL_law_604 (kk := ?_)
  refine i_if_ne C dL_law_606 (tgt := 621) (kt := fun _ => ?_) (kf := fun hB => ?_)
  · refine i_goto C dL_law_621 (tgt := 2056) (kk := ?_)
    exact jn _ _ _ _ _ _ _ (Nat.le_refl _) (Nat.le_refl _) hfin
  · have hg3 : g2 0 = (Z32 R.2.1).toInt64 := hg2 hB
    refine i_aload_n C dL_law_609 (kk := ?_)
    refine i_iconst C dL_law_610 (kk := ?_)
    refine i_laload C dL_law_611 (hw := hO3) (kk := ?_)
    show G _ _ _ _ _ (.long (g2 0) :: _)
    rw [hg3]
    refine i_iload C dL_law_612 (kk := ?_)
    refine i_i2l C dL_law_614 (kk := ?_)
    refine i_lcmp C dL_law_615 (kk := ?_)
    rw [lg_same]
    refine i_if_eq C dL_law_616 (tgt := 621) (ha := by decide) (kt := fun _ => ?_) (kf := fun hB => absurd rfl hB)
    refine i_goto C dL_law_621 (tgt := 2056) (kk := ?_)
    exact jn _ _ _ _ _ _ _ (Nat.le_refl _) (Nat.le_refl _) hfin

set_option maxRecDepth 100000 in
set_option maxHeartbeats 4000000 in
theorem k_redirect {l : Launch} (hl : l.stackTraces = false) {D : gD} {b L : Nat} {xs : Nat → Int32} {G : gG} (C : CxL l D b L xs G) {i n k x0 m0 o0 : Nat} {w : wW} {σ : Sg} {la : Int} {o5 o6 : Option Value} (hi : i + 4 ≤ L) (hL : L ≤ 2048) (hn : n + 10 ≤ 601024) (hk : k + 200 ≤ 7293034) (hI : LInv D w σ la x0 m0 o0) (jn : JN G D b i x0 m0 o0 (n + 10) (k + 200)) : G n k w [some (.ref b), some (.ref x0), some (.ref m0), some (.ref o0), some (.int (Z32 (i : Int))), o5, o6] 624 [] := by
  obtain ⟨C, hsl, hsd⟩ := C
  obtain ⟨τ, ad, nb, tb, g9, hW, hJ, ht, hO, rfl, rfl, rfl⟩ := hI
  have hr0 := Z32_rng (xs (i + 1))
  obtain ⟨R, hR⟩ : ∃ R : Rs, R = oRedirect σ (xs (i + 1)).toInt := ⟨_, rfl⟩
  have hR3 : 0 ≤ R.1 ∧ R.1 ≤ 3 := by rw [hR]; exact op3_R (by first | rfl | (split <;> rfl))
  refine i_aload_n C dL_law_624 (kk := ?_)
  refine i_aload_n C dL_law_625 (kk := ?_)
  refine i_iload C dL_law_626 (kk := ?_)
  refine i_iconst C dL_law_628 (kk := ?_)
  refine i_iadd C dL_law_629 (kk := ?_)
  refine hsd _ _ _ _ _ _ (i + 1) dL_law_630 (by omega) hL ?_
  refine i_aload_n C dL_law_631 (kk := ?_)
  refine i_callSH C lk_L_148 (w_redirect l hl D hW ht hO hr0) (hst := rfl) dL_law_632 (hf := ⟨by show n + 10 ≤ 601024; omega, by show k + 200 ≤ 7293034; omega⟩) (kk := fun v1 w1 g1 => ?_)
  rw [← hR] at g1
  obtain ⟨rfl, τ2, ad2, nb2, tb2, hW2, e0, e5, hk2, g2, hO2, hg2⟩ := g1
  have ht2 : τ2 (ad2 6000) = 6000 := by rw [e5 6000 (by omega), (hk2 _ (by rw [hO]; exact nofun) (by omega)).1]; exact ht
  have hJ2 := hJ.carry e5 ht hk2
  have hI2 := MdI.of hW.1 hJ2
  obtain ⟨fs7, hobj⟩ := hJ2.objx
  rw [← e5 6000 (by omega)] at hO2
  rw [← e0, ← e5 5000 (by omega), ← e5 6000 (by omega)]
  rw [← e0, ← e5 5000 (by omega), ← e5 6000 (by omega)] at jn
  refine i_istore C dL_law_635 (kk := ?_)
  refine i_aload_n C dL_law_637 (kk := ?_)
  refine i_aload_n C dL_law_638 (kk := ?_)
  refine i_iload C dL_law_639 (kk := ?_)
  refine i_iconst C dL_law_641 (kk := ?_)
  refine i_iadd C dL_law_642 (kk := ?_)
  refine hsd _ _ _ _ _ _ (i + 1) dL_law_643 (by omega) hL ?_
  refine i_callV C lk_L_150 (c_X7_redirect l hl D (hI := hI2) (i := (xs (i + 1)).toInt)) (hcl := rfl) (hst := rfl) dL_law_644 (hw := hobj) (hf := ⟨by show n + 10 + 0 ≤ 601024; omega, by show k + 200 + 0 ≤ 7293034; omega⟩) (kk := fun v3 w3 g3 => ?_)
  rw [← hR] at g3
  obtain ⟨rfl, hJ3⟩ := g3
  have hJ3 : MdJ D w1 w3 τ2 ad2 R.2.2 R.1 := hJ3.2
  have hW3 := hW2.far hJ3.off (by omega)
  have hO3 : w3 (ad2 6000) = some (lar D 1 g2) := by rw [hJ3.off _ (Or.inr (by omega))]; exact hO2
  have hfin : LInv D w3 R.2.2 R.1 (ad2 0) (ad2 5000) (ad2 6000) := ⟨τ2, ad2, nb2, tb2, g2, hW3, hJ3.reset, ht2, hO3, rfl, rfl, rfl⟩
  obtain ⟨F3, dn3, op3', sh3, hM3, hV3⟩ := id hJ3
  refine i_istore C dL_law_647 (kk := ?_)
  refine i_aload_n C dL_law_649 (kk := ?_)
  refine i_callV C lk_L_122 (c_X7_thrown l hl D (hM := hM3)) (hcl := rfl) (hst := rfl) dL_law_650 (hw := hM3.obj) (hf := ⟨by show n + 10 + 0 + 0 ≤ 601024; omega, by show k + 200 + 0 + 0 ≤ 7293034; omega⟩) (kk := fun v4 w4 g4 => ?_)
  obtain ⟨rfl, q4⟩ := g4
  have q4 := q4.symm
  subst q4
  refine i_iload C dL_law_653 (kk := ?_)
  refine i_icmp_eq C dL_law_655 (tgt := 660) (kt := fun _ => ?_) (kf := fun hB => absurd rfl hB)
  refine i_iload C dL_law_660 (kk := ?_)
  refine i_if_ne C dL_law_662 (tgt := 677) (kt := fun _ => ?_) (kf := fun hB => ?_)
  · refine i_goto C dL_law_677 (tgt := 2056) (kk := ?_)
    exact jn _ _ _ _ _ _ _ (Nat.le_refl _) (Nat.le_refl _) hfin
  · have hg3 : g2 0 = (Z32 R.2.1).toInt64 := hg2 hB
    refine i_aload_n C dL_law_665 (kk := ?_)
    refine i_iconst C dL_law_666 (kk := ?_)
    refine i_laload C dL_law_667 (hw := hO3) (kk := ?_)
    show G _ _ _ _ _ (.long (g2 0) :: _)
    rw [hg3]
    refine i_iload C dL_law_668 (kk := ?_)
    refine i_i2l C dL_law_670 (kk := ?_)
    refine i_lcmp C dL_law_671 (kk := ?_)
    rw [lg_same]
    refine i_if_eq C dL_law_672 (tgt := 677) (ha := by decide) (kt := fun _ => ?_) (kf := fun hB => absurd rfl hB)
    refine i_goto C dL_law_677 (tgt := 2056) (kk := ?_)
    exact jn _ _ _ _ _ _ _ (Nat.le_refl _) (Nat.le_refl _) hfin

set_option maxRecDepth 100000 in
set_option maxHeartbeats 4000000 in
theorem k_edit {l : Launch} (hl : l.stackTraces = false) {D : gD} {b L : Nat} {xs : Nat → Int32} {G : gG} (C : CxL l D b L xs G) {i n k x0 m0 o0 : Nat} {w : wW} {σ : Sg} {la : Int} {o5 o6 : Option Value} (hi : i + 4 ≤ L) (hL : L ≤ 2048) (hn : n + 10 ≤ 601024) (hk : k + 200 ≤ 7293034) (hI : LInv D w σ la x0 m0 o0) (jn : JN G D b i x0 m0 o0 (n + 10) (k + 200)) : G n k w [some (.ref b), some (.ref x0), some (.ref m0), some (.ref o0), some (.int (Z32 (i : Int))), o5, o6] 680 [] := by
  obtain ⟨C, hsl, hsd⟩ := C
  obtain ⟨τ, ad, nb, tb, g9, hW, hJ, ht, hO, rfl, rfl, rfl⟩ := hI
  have hr0 := Z32_rng (xs (i + 1))
  have hr1 := Z32_rng (xs (i + 2))
  obtain ⟨R, hR⟩ : ∃ R : Rs, R = oEdit σ (xs (i + 1)).toInt (xs (i + 2)).toInt := ⟨_, rfl⟩
  have hR3 : 0 ≤ R.1 ∧ R.1 ≤ 3 := by rw [hR]; exact op3_R (by first | rfl | (split <;> rfl))
  refine i_aload_n C dL_law_680 (kk := ?_)
  refine i_aload_n C dL_law_681 (kk := ?_)
  refine i_iload C dL_law_682 (kk := ?_)
  refine i_iconst C dL_law_684 (kk := ?_)
  refine i_iadd C dL_law_685 (kk := ?_)
  refine hsd _ _ _ _ _ _ (i + 1) dL_law_686 (by omega) hL ?_
  refine i_aload_n C dL_law_687 (kk := ?_)
  refine i_iload C dL_law_688 (kk := ?_)
  refine i_iconst C dL_law_690 (kk := ?_)
  refine i_iadd C dL_law_691 (kk := ?_)
  refine hsd _ _ _ _ _ _ (i + 2) dL_law_692 (by omega) hL ?_
  refine i_aload_n C dL_law_693 (kk := ?_)
  refine i_callSH C lk_L_151 (w_edit l hl D hW ht hO hr0 hr1) (hst := rfl) dL_law_694 (hf := ⟨by show n + 10 ≤ 601024; omega, by show k + 200 ≤ 7293034; omega⟩) (kk := fun v1 w1 g1 => ?_)
  rw [← hR] at g1
  obtain ⟨rfl, τ2, ad2, nb2, tb2, hW2, e0, e5, hk2, g2, hO2, hg2⟩ := g1
  have ht2 : τ2 (ad2 6000) = 6000 := by rw [e5 6000 (by omega), (hk2 _ (by rw [hO]; exact nofun) (by omega)).1]; exact ht
  have hJ2 := hJ.carry e5 ht hk2
  have hI2 := MdI.of hW.1 hJ2
  obtain ⟨fs7, hobj⟩ := hJ2.objx
  rw [← e5 6000 (by omega)] at hO2
  rw [← e0, ← e5 5000 (by omega), ← e5 6000 (by omega)]
  rw [← e0, ← e5 5000 (by omega), ← e5 6000 (by omega)] at jn
  refine i_istore C dL_law_697 (kk := ?_)
  refine i_aload_n C dL_law_699 (kk := ?_)
  refine i_aload_n C dL_law_700 (kk := ?_)
  refine i_iload C dL_law_701 (kk := ?_)
  refine i_iconst C dL_law_703 (kk := ?_)
  refine i_iadd C dL_law_704 (kk := ?_)
  refine hsd _ _ _ _ _ _ (i + 1) dL_law_705 (by omega) hL ?_
  refine i_aload_n C dL_law_706 (kk := ?_)
  refine i_iload C dL_law_707 (kk := ?_)
  refine i_iconst C dL_law_709 (kk := ?_)
  refine i_iadd C dL_law_710 (kk := ?_)
  refine hsd _ _ _ _ _ _ (i + 2) dL_law_711 (by omega) hL ?_
  refine i_callV C lk_L_153 (c_X7_edit l hl D (hI := hI2) (i0 := (xs (i + 1)).toInt) (i := (xs (i + 2)).toInt)) (hcl := rfl) (hst := rfl) dL_law_712 (hw := hobj) (hf := ⟨by show n + 10 + 0 ≤ 601024; omega, by show k + 200 + 0 ≤ 7293034; omega⟩) (kk := fun v3 w3 g3 => ?_)
  rw [← hR] at g3
  obtain ⟨rfl, hJ3⟩ := g3
  have hJ3 : MdJ D w1 w3 τ2 ad2 R.2.2 R.1 := hJ3
  have hW3 := hW2.far hJ3.off (by omega)
  have hO3 : w3 (ad2 6000) = some (lar D 1 g2) := by rw [hJ3.off _ (Or.inr (by omega))]; exact hO2
  have hfin : LInv D w3 R.2.2 R.1 (ad2 0) (ad2 5000) (ad2 6000) := ⟨τ2, ad2, nb2, tb2, g2, hW3, hJ3.reset, ht2, hO3, rfl, rfl, rfl⟩
  obtain ⟨F3, dn3, op3', sh3, hM3, hV3⟩ := id hJ3
  refine i_istore C dL_law_715 (kk := ?_)
  refine i_aload_n C dL_law_717 (kk := ?_)
  refine i_callV C lk_L_122 (c_X7_thrown l hl D (hM := hM3)) (hcl := rfl) (hst := rfl) dL_law_718 (hw := hM3.obj) (hf := ⟨by show n + 10 + 0 + 0 ≤ 601024; omega, by show k + 200 + 0 + 0 ≤ 7293034; omega⟩) (kk := fun v4 w4 g4 => ?_)
  obtain ⟨rfl, q4⟩ := g4
  have q4 := q4.symm
  subst q4
  refine i_iload C dL_law_721 (kk := ?_)
  refine i_icmp_eq C dL_law_723 (tgt := 728) (kt := fun _ => ?_) (kf := fun hB => absurd rfl hB)
  refine i_iload C dL_law_728 (kk := ?_)
  refine i_if_ne C dL_law_730 (tgt := 745) (kt := fun _ => ?_) (kf := fun hB => ?_)
  · refine i_goto C dL_law_745 (tgt := 2056) (kk := ?_)
    exact jn _ _ _ _ _ _ _ (Nat.le_refl _) (Nat.le_refl _) hfin
  · have hg3 : g2 0 = (Z32 R.2.1).toInt64 := hg2 hB
    refine i_aload_n C dL_law_733 (kk := ?_)
    refine i_iconst C dL_law_734 (kk := ?_)
    refine i_laload C dL_law_735 (hw := hO3) (kk := ?_)
    show G _ _ _ _ _ (.long (g2 0) :: _)
    rw [hg3]
    refine i_iload C dL_law_736 (kk := ?_)
    refine i_i2l C dL_law_738 (kk := ?_)
    refine i_lcmp C dL_law_739 (kk := ?_)
    rw [lg_same]
    refine i_if_eq C dL_law_740 (tgt := 745) (ha := by decide) (kt := fun _ => ?_) (kf := fun hB => absurd rfl hB)
    refine i_goto C dL_law_745 (tgt := 2056) (kk := ?_)
    exact jn _ _ _ _ _ _ _ (Nat.le_refl _) (Nat.le_refl _) hfin

set_option maxRecDepth 100000 in
set_option maxHeartbeats 4000000 in
theorem k_undo {l : Launch} (hl : l.stackTraces = false) {D : gD} {b L : Nat} {xs : Nat → Int32} {G : gG} (C : CxL l D b L xs G) {i n k x0 m0 o0 : Nat} {w : wW} {σ : Sg} {la : Int} {o5 o6 : Option Value} (hi : i + 4 ≤ L) (hL : L ≤ 2048) (hn : n + 10 ≤ 601024) (hk : k + 200 ≤ 7293034) (hI : LInv D w σ la x0 m0 o0) (jn : JN G D b i x0 m0 o0 (n + 10) (k + 200)) : G n k w [some (.ref b), some (.ref x0), some (.ref m0), some (.ref o0), some (.int (Z32 (i : Int))), o5, o6] 748 [] := by
  obtain ⟨C, hsl, hsd⟩ := C
  obtain ⟨τ, ad, nb, tb, g9, hW, hJ, ht, hO, rfl, rfl, rfl⟩ := hI
  have hr0 := Z32_rng (xs (i + 1))
  have hr1 := Z32_rng (xs (i + 2))
  obtain ⟨R, hR⟩ : ∃ R : Rs, R = oUndo σ (xs (i + 1)).toInt (xs (i + 2)).toInt := ⟨_, rfl⟩
  have hR3 : 0 ≤ R.1 ∧ R.1 ≤ 3 := by rw [hR]; exact op3_R (by first | rfl | (split <;> rfl))
  refine i_aload_n C dL_law_748 (kk := ?_)
  refine i_aload_n C dL_law_749 (kk := ?_)
  refine i_iload C dL_law_750 (kk := ?_)
  refine i_iconst C dL_law_752 (kk := ?_)
  refine i_iadd C dL_law_753 (kk := ?_)
  refine hsd _ _ _ _ _ _ (i + 1) dL_law_754 (by omega) hL ?_
  refine i_aload_n C dL_law_755 (kk := ?_)
  refine i_iload C dL_law_756 (kk := ?_)
  refine i_iconst C dL_law_758 (kk := ?_)
  refine i_iadd C dL_law_759 (kk := ?_)
  refine hsd _ _ _ _ _ _ (i + 2) dL_law_760 (by omega) hL ?_
  refine i_aload_n C dL_law_761 (kk := ?_)
  refine i_callSH C lk_L_154 (w_undo l hl D hW ht hO hr0 hr1) (hst := rfl) dL_law_762 (hf := ⟨by show n + 10 ≤ 601024; omega, by show k + 200 ≤ 7293034; omega⟩) (kk := fun v1 w1 g1 => ?_)
  rw [← hR] at g1
  obtain ⟨rfl, τ2, ad2, nb2, tb2, hW2, e0, e5, hk2, g2, hO2, hg2⟩ := g1
  have ht2 : τ2 (ad2 6000) = 6000 := by rw [e5 6000 (by omega), (hk2 _ (by rw [hO]; exact nofun) (by omega)).1]; exact ht
  have hJ2 := hJ.carry e5 ht hk2
  have hI2 := MdI.of hW.1 hJ2
  obtain ⟨fs7, hobj⟩ := hJ2.objx
  rw [← e5 6000 (by omega)] at hO2
  rw [← e0, ← e5 5000 (by omega), ← e5 6000 (by omega)]
  rw [← e0, ← e5 5000 (by omega), ← e5 6000 (by omega)] at jn
  refine i_istore C dL_law_765 (kk := ?_)
  refine i_aload_n C dL_law_767 (kk := ?_)
  refine i_aload_n C dL_law_768 (kk := ?_)
  refine i_iload C dL_law_769 (kk := ?_)
  refine i_iconst C dL_law_771 (kk := ?_)
  refine i_iadd C dL_law_772 (kk := ?_)
  refine hsd _ _ _ _ _ _ (i + 1) dL_law_773 (by omega) hL ?_
  refine i_aload_n C dL_law_774 (kk := ?_)
  refine i_iload C dL_law_775 (kk := ?_)
  refine i_iconst C dL_law_777 (kk := ?_)
  refine i_iadd C dL_law_778 (kk := ?_)
  refine hsd _ _ _ _ _ _ (i + 2) dL_law_779 (by omega) hL ?_
  refine i_callV C lk_L_156 (c_X7_undo l hl D (hI := hI2) (i0 := (xs (i + 1)).toInt) (i := (xs (i + 2)).toInt)) (hcl := rfl) (hst := rfl) dL_law_780 (hw := hobj) (hf := ⟨by show n + 10 + 0 ≤ 601024; omega, by show k + 200 + 0 ≤ 7293034; omega⟩) (kk := fun v3 w3 g3 => ?_)
  rw [← hR] at g3
  obtain ⟨rfl, hJ3⟩ := g3
  have hJ3 : MdJ D w1 w3 τ2 ad2 R.2.2 R.1 := hJ3
  have hW3 := hW2.far hJ3.off (by omega)
  have hO3 : w3 (ad2 6000) = some (lar D 1 g2) := by rw [hJ3.off _ (Or.inr (by omega))]; exact hO2
  have hfin : LInv D w3 R.2.2 R.1 (ad2 0) (ad2 5000) (ad2 6000) := ⟨τ2, ad2, nb2, tb2, g2, hW3, hJ3.reset, ht2, hO3, rfl, rfl, rfl⟩
  obtain ⟨F3, dn3, op3', sh3, hM3, hV3⟩ := id hJ3
  refine i_istore C dL_law_783 (kk := ?_)
  refine i_aload_n C dL_law_785 (kk := ?_)
  refine i_callV C lk_L_122 (c_X7_thrown l hl D (hM := hM3)) (hcl := rfl) (hst := rfl) dL_law_786 (hw := hM3.obj) (hf := ⟨by show n + 10 + 0 + 0 ≤ 601024; omega, by show k + 200 + 0 + 0 ≤ 7293034; omega⟩) (kk := fun v4 w4 g4 => ?_)
  obtain ⟨rfl, q4⟩ := g4
  have q4 := q4.symm
  subst q4
  refine i_iload C dL_law_789 (kk := ?_)
  refine i_icmp_eq C dL_law_791 (tgt := 796) (kt := fun _ => ?_) (kf := fun hB => absurd rfl hB)
  refine i_iload C dL_law_796 (kk := ?_)
  refine i_if_ne C dL_law_798 (tgt := 813) (kt := fun _ => ?_) (kf := fun hB => ?_)
  · refine i_goto C dL_law_813 (tgt := 2056) (kk := ?_)
    exact jn _ _ _ _ _ _ _ (Nat.le_refl _) (Nat.le_refl _) hfin
  · have hg3 : g2 0 = (Z32 R.2.1).toInt64 := hg2 hB
    refine i_aload_n C dL_law_801 (kk := ?_)
    refine i_iconst C dL_law_802 (kk := ?_)
    refine i_laload C dL_law_803 (hw := hO3) (kk := ?_)
    show G _ _ _ _ _ (.long (g2 0) :: _)
    rw [hg3]
    refine i_iload C dL_law_804 (kk := ?_)
    refine i_i2l C dL_law_806 (kk := ?_)
    refine i_lcmp C dL_law_807 (kk := ?_)
    rw [lg_same]
    refine i_if_eq C dL_law_808 (tgt := 813) (ha := by decide) (kt := fun _ => ?_) (kf := fun hB => absurd rfl hB)
    refine i_goto C dL_law_813 (tgt := 2056) (kk := ?_)
    exact jn _ _ _ _ _ _ _ (Nat.le_refl _) (Nat.le_refl _) hfin

set_option maxRecDepth 100000 in
set_option maxHeartbeats 4000000 in
theorem k_approve {l : Launch} (hl : l.stackTraces = false) {D : gD} {b L : Nat} {xs : Nat → Int32} {G : gG} (C : CxL l D b L xs G) {i n k x0 m0 o0 : Nat} {w : wW} {σ : Sg} {la : Int} {o5 o6 : Option Value} (hi : i + 4 ≤ L) (hL : L ≤ 2048) (hn : n + 10 ≤ 601024) (hk : k + 200 ≤ 7293034) (hI : LInv D w σ la x0 m0 o0) (jn : JN G D b i x0 m0 o0 (n + 10) (k + 200)) : G n k w [some (.ref b), some (.ref x0), some (.ref m0), some (.ref o0), some (.int (Z32 (i : Int))), o5, o6] 816 [] := by
  obtain ⟨C, hsl, hsd⟩ := C
  obtain ⟨τ, ad, nb, tb, g9, hW, hJ, ht, hO, rfl, rfl, rfl⟩ := hI
  have hr0 := Z32_rng (xs (i + 1))
  have hr1 := Z32_rng (xs (i + 2))
  obtain ⟨R, hR⟩ : ∃ R : Rs, R = oApprove σ (xs (i + 1)).toInt (xs (i + 2)).toInt := ⟨_, rfl⟩
  have hR3 : 0 ≤ R.1 ∧ R.1 ≤ 3 := by rw [hR]; exact op3_R (by first | rfl | (split <;> rfl))
  refine i_aload_n C dL_law_816 (kk := ?_)
  refine i_aload_n C dL_law_817 (kk := ?_)
  refine i_iload C dL_law_818 (kk := ?_)
  refine i_iconst C dL_law_820 (kk := ?_)
  refine i_iadd C dL_law_821 (kk := ?_)
  refine hsd _ _ _ _ _ _ (i + 1) dL_law_822 (by omega) hL ?_
  refine i_aload_n C dL_law_823 (kk := ?_)
  refine i_iload C dL_law_824 (kk := ?_)
  refine i_iconst C dL_law_826 (kk := ?_)
  refine i_iadd C dL_law_827 (kk := ?_)
  refine hsd _ _ _ _ _ _ (i + 2) dL_law_828 (by omega) hL ?_
  refine i_aload_n C dL_law_829 (kk := ?_)
  refine i_callSH C lk_L_157 (w_approve l hl D hW ht hO hr0 hr1) (hst := rfl) dL_law_830 (hf := ⟨by show n + 10 ≤ 601024; omega, by show k + 200 ≤ 7293034; omega⟩) (kk := fun v1 w1 g1 => ?_)
  rw [← hR] at g1
  obtain ⟨rfl, τ2, ad2, nb2, tb2, hW2, e0, e5, hk2, g2, hO2, hg2⟩ := g1
  have ht2 : τ2 (ad2 6000) = 6000 := by rw [e5 6000 (by omega), (hk2 _ (by rw [hO]; exact nofun) (by omega)).1]; exact ht
  have hJ2 := hJ.carry e5 ht hk2
  have hI2 := MdI.of hW.1 hJ2
  obtain ⟨fs7, hobj⟩ := hJ2.objx
  rw [← e5 6000 (by omega)] at hO2
  rw [← e0, ← e5 5000 (by omega), ← e5 6000 (by omega)]
  rw [← e0, ← e5 5000 (by omega), ← e5 6000 (by omega)] at jn
  refine i_istore C dL_law_833 (kk := ?_)
  refine i_aload_n C dL_law_835 (kk := ?_)
  refine i_aload_n C dL_law_836 (kk := ?_)
  refine i_iload C dL_law_837 (kk := ?_)
  refine i_iconst C dL_law_839 (kk := ?_)
  refine i_iadd C dL_law_840 (kk := ?_)
  refine hsd _ _ _ _ _ _ (i + 1) dL_law_841 (by omega) hL ?_
  refine i_aload_n C dL_law_842 (kk := ?_)
  refine i_iload C dL_law_843 (kk := ?_)
  refine i_iconst C dL_law_845 (kk := ?_)
  refine i_iadd C dL_law_846 (kk := ?_)
  refine hsd _ _ _ _ _ _ (i + 2) dL_law_847 (by omega) hL ?_
  refine i_callV C lk_L_159 (c_X7_approve l hl D (hI := hI2) (i0 := (xs (i + 1)).toInt) (i := (xs (i + 2)).toInt)) (hcl := rfl) (hst := rfl) dL_law_848 (hw := hobj) (hf := ⟨by show n + 10 + 0 ≤ 601024; omega, by show k + 200 + 0 ≤ 7293034; omega⟩) (kk := fun v3 w3 g3 => ?_)
  rw [← hR] at g3
  obtain ⟨rfl, hJ3⟩ := g3
  have hJ3 : MdJ D w1 w3 τ2 ad2 R.2.2 R.1 := hJ3
  have hW3 := hW2.far hJ3.off (by omega)
  have hO3 : w3 (ad2 6000) = some (lar D 1 g2) := by rw [hJ3.off _ (Or.inr (by omega))]; exact hO2
  have hfin : LInv D w3 R.2.2 R.1 (ad2 0) (ad2 5000) (ad2 6000) := ⟨τ2, ad2, nb2, tb2, g2, hW3, hJ3.reset, ht2, hO3, rfl, rfl, rfl⟩
  obtain ⟨F3, dn3, op3', sh3, hM3, hV3⟩ := id hJ3
  refine i_istore C dL_law_851 (kk := ?_)
  refine i_aload_n C dL_law_853 (kk := ?_)
  refine i_callV C lk_L_122 (c_X7_thrown l hl D (hM := hM3)) (hcl := rfl) (hst := rfl) dL_law_854 (hw := hM3.obj) (hf := ⟨by show n + 10 + 0 + 0 ≤ 601024; omega, by show k + 200 + 0 + 0 ≤ 7293034; omega⟩) (kk := fun v4 w4 g4 => ?_)
  obtain ⟨rfl, q4⟩ := g4
  have q4 := q4.symm
  subst q4
  refine i_iload C dL_law_857 (kk := ?_)
  refine i_icmp_eq C dL_law_859 (tgt := 864) (kt := fun _ => ?_) (kf := fun hB => absurd rfl hB)
  refine i_iload C dL_law_864 (kk := ?_)
  refine i_if_ne C dL_law_866 (tgt := 888) (kt := fun _ => ?_) (kf := fun hB => ?_)
  · refine i_goto C dL_law_888 (tgt := 2056) (kk := ?_)
    exact jn _ _ _ _ _ _ _ (Nat.le_refl _) (Nat.le_refl _) hfin
  · have hg3 : g2 0 = (Z32 R.2.1).toInt64 := hg2 hB
    refine i_aload_n C dL_law_869 (kk := ?_)
    refine i_iconst C dL_law_870 (kk := ?_)
    refine i_laload C dL_law_871 (hw := hO3) (kk := ?_)
    show G _ _ _ _ _ (.long (g2 0) :: _)
    rw [hg3]
    have hb : R.2.1 = 0 ∨ R.2.1 = 1 := by
      rw [hR] at hB ⊢
      exact oApprove_b hB
    refine i_iload C dL_law_872 (kk := ?_)
    rcases hb with hb | hb
    · rw [hb]
      refine i_if_eq C dL_law_874 (tgt := 881) (ha := by decide) (kt := fun hC => ?_) (kf := fun hC => ?_)
      · refine i_lconst C dL_law_881 (kk := ?_)
        show G _ _ _ _ _ (.long ((Z32 0).toInt64) :: _)
        refine i_lcmp C dL_law_882 (kk := ?_)
        rw [lg_same]
        refine i_if_eq C dL_law_883 (tgt := 888) (ha := by decide) (kt := fun _ => ?_) (kf := fun hB => absurd rfl hB)
        refine i_goto C dL_law_888 (tgt := 2056) (kk := ?_)
        exact jn _ _ _ _ _ _ _ (Nat.le_refl _) (Nat.le_refl _) hfin
      · exact absurd rfl hC
    · rw [hb]
      refine i_if_eq C dL_law_874 (tgt := 881) (ha := by decide) (kt := fun hC => ?_) (kf := fun hC => ?_)
      · exact absurd hC (by decide)
      · refine i_lconst C dL_law_877 (kk := ?_)
        show G _ _ _ _ _ (.long ((Z32 1).toInt64) :: _)
        refine i_goto C dL_law_878 (tgt := 882) (kk := ?_)
        refine i_lcmp C dL_law_882 (kk := ?_)
        rw [lg_same]
        refine i_if_eq C dL_law_883 (tgt := 888) (ha := by decide) (kt := fun _ => ?_) (kf := fun hB => absurd rfl hB)
        refine i_goto C dL_law_888 (tgt := 2056) (kk := ?_)
        exact jn _ _ _ _ _ _ _ (Nat.le_refl _) (Nat.le_refl _) hfin

set_option maxRecDepth 100000 in
set_option maxHeartbeats 4000000 in
theorem k_lock {l : Launch} (hl : l.stackTraces = false) {D : gD} {b L : Nat} {xs : Nat → Int32} {G : gG} (C : CxL l D b L xs G) {i n k x0 m0 o0 : Nat} {w : wW} {σ : Sg} {la : Int} {o5 o6 : Option Value} (hi : i + 4 ≤ L) (hL : L ≤ 2048) (hn : n + 10 ≤ 601024) (hk : k + 200 ≤ 7293034) (hI : LInv D w σ la x0 m0 o0) (jn : JN G D b i x0 m0 o0 (n + 10) (k + 200)) : G n k w [some (.ref b), some (.ref x0), some (.ref m0), some (.ref o0), some (.int (Z32 (i : Int))), o5, o6] 891 [] := by
  obtain ⟨C, hsl, hsd⟩ := C
  obtain ⟨τ, ad, nb, tb, g9, hW, hJ, ht, hO, rfl, rfl, rfl⟩ := hI
  have hr0 := Z32_rng (xs (i + 1))
  have hr1 := Z32_rng (xs (i + 2))
  have hr2 := Z32_rng (xs (i + 3))
  obtain ⟨R, hR⟩ : ∃ R : Rs, R = oLock σ (xs (i + 1)).toInt (xs (i + 2)).toInt (xs (i + 3)).toInt := ⟨_, rfl⟩
  have hR3 : 0 ≤ R.1 ∧ R.1 ≤ 3 := by rw [hR]; exact op3_R (by first | rfl | (split <;> rfl))
  refine i_aload_n C dL_law_891 (kk := ?_)
  refine i_aload_n C dL_law_892 (kk := ?_)
  refine i_iload C dL_law_893 (kk := ?_)
  refine i_iconst C dL_law_895 (kk := ?_)
  refine i_iadd C dL_law_896 (kk := ?_)
  refine hsd _ _ _ _ _ _ (i + 1) dL_law_897 (by omega) hL ?_
  refine i_aload_n C dL_law_898 (kk := ?_)
  refine i_iload C dL_law_899 (kk := ?_)
  refine i_iconst C dL_law_901 (kk := ?_)
  refine i_iadd C dL_law_902 (kk := ?_)
  refine hsd _ _ _ _ _ _ (i + 2) dL_law_903 (by omega) hL ?_
  refine i_aload_n C dL_law_904 (kk := ?_)
  refine i_iload C dL_law_905 (kk := ?_)
  refine i_iconst C dL_law_907 (kk := ?_)
  refine i_iadd C dL_law_908 (kk := ?_)
  refine hsd _ _ _ _ _ _ (i + 3) dL_law_909 (by omega) hL ?_
  refine i_aload_n C dL_law_910 (kk := ?_)
  refine i_callSH C lk_L_160 (w_lock l hl D hW ht hO hr0 hr1 hr2) (hst := rfl) dL_law_911 (hf := ⟨by show n + 10 ≤ 601024; omega, by show k + 200 ≤ 7293034; omega⟩) (kk := fun v1 w1 g1 => ?_)
  rw [← hR] at g1
  obtain ⟨rfl, τ2, ad2, nb2, tb2, hW2, e0, e5, hk2, g2, hO2, hg2⟩ := g1
  have ht2 : τ2 (ad2 6000) = 6000 := by rw [e5 6000 (by omega), (hk2 _ (by rw [hO]; exact nofun) (by omega)).1]; exact ht
  have hJ2 := hJ.carry e5 ht hk2
  have hI2 := MdI.of hW.1 hJ2
  obtain ⟨fs7, hobj⟩ := hJ2.objx
  rw [← e5 6000 (by omega)] at hO2
  rw [← e0, ← e5 5000 (by omega), ← e5 6000 (by omega)]
  rw [← e0, ← e5 5000 (by omega), ← e5 6000 (by omega)] at jn
  refine i_istore C dL_law_914 (kk := ?_)
  refine i_aload_n C dL_law_916 (kk := ?_)
  refine i_aload_n C dL_law_917 (kk := ?_)
  refine i_iload C dL_law_918 (kk := ?_)
  refine i_iconst C dL_law_920 (kk := ?_)
  refine i_iadd C dL_law_921 (kk := ?_)
  refine hsd _ _ _ _ _ _ (i + 1) dL_law_922 (by omega) hL ?_
  refine i_aload_n C dL_law_923 (kk := ?_)
  refine i_iload C dL_law_924 (kk := ?_)
  refine i_iconst C dL_law_926 (kk := ?_)
  refine i_iadd C dL_law_927 (kk := ?_)
  refine hsd _ _ _ _ _ _ (i + 2) dL_law_928 (by omega) hL ?_
  refine i_aload_n C dL_law_929 (kk := ?_)
  refine i_iload C dL_law_930 (kk := ?_)
  refine i_iconst C dL_law_932 (kk := ?_)
  refine i_iadd C dL_law_933 (kk := ?_)
  refine hsd _ _ _ _ _ _ (i + 3) dL_law_934 (by omega) hL ?_
  refine i_callV C lk_L_163 (c_X7_lock l hl D (hI := hI2) (i0 := (xs (i + 1)).toInt) (i := (xs (i + 2)).toInt) (j := (xs (i + 3)).toInt)) (hcl := rfl) (hst := rfl) dL_law_935 (hw := hobj) (hf := ⟨by show n + 10 + 0 ≤ 601024; omega, by show k + 200 + 0 ≤ 7293034; omega⟩) (kk := fun v3 w3 g3 => ?_)
  rw [← hR] at g3
  obtain ⟨rfl, hJ3⟩ := g3
  have hJ3 : MdJ D w1 w3 τ2 ad2 R.2.2 R.1 := hJ3
  have hW3 := hW2.far hJ3.off (by omega)
  have hO3 : w3 (ad2 6000) = some (lar D 1 g2) := by rw [hJ3.off _ (Or.inr (by omega))]; exact hO2
  have hfin : LInv D w3 R.2.2 R.1 (ad2 0) (ad2 5000) (ad2 6000) := ⟨τ2, ad2, nb2, tb2, g2, hW3, hJ3.reset, ht2, hO3, rfl, rfl, rfl⟩
  obtain ⟨F3, dn3, op3', sh3, hM3, hV3⟩ := id hJ3
  refine i_istore C dL_law_938 (kk := ?_)
  refine i_aload_n C dL_law_940 (kk := ?_)
  refine i_callV C lk_L_122 (c_X7_thrown l hl D (hM := hM3)) (hcl := rfl) (hst := rfl) dL_law_941 (hw := hM3.obj) (hf := ⟨by show n + 10 + 0 + 0 ≤ 601024; omega, by show k + 200 + 0 + 0 ≤ 7293034; omega⟩) (kk := fun v4 w4 g4 => ?_)
  obtain ⟨rfl, q4⟩ := g4
  have q4 := q4.symm
  subst q4
  refine i_iload C dL_law_944 (kk := ?_)
  refine i_icmp_eq C dL_law_946 (tgt := 951) (kt := fun _ => ?_) (kf := fun hB => absurd rfl hB)
  refine i_iload C dL_law_951 (kk := ?_)
  refine i_if_ne C dL_law_953 (tgt := 968) (kt := fun _ => ?_) (kf := fun hB => ?_)
  · refine i_goto C dL_law_968 (tgt := 2056) (kk := ?_)
    exact jn _ _ _ _ _ _ _ (Nat.le_refl _) (Nat.le_refl _) hfin
  · have hg3 : g2 0 = (Z32 R.2.1).toInt64 := hg2 hB
    refine i_aload_n C dL_law_956 (kk := ?_)
    refine i_iconst C dL_law_957 (kk := ?_)
    refine i_laload C dL_law_958 (hw := hO3) (kk := ?_)
    show G _ _ _ _ _ (.long (g2 0) :: _)
    rw [hg3]
    refine i_iload C dL_law_959 (kk := ?_)
    refine i_i2l C dL_law_961 (kk := ?_)
    refine i_lcmp C dL_law_962 (kk := ?_)
    rw [lg_same]
    refine i_if_eq C dL_law_963 (tgt := 968) (ha := by decide) (kt := fun _ => ?_) (kf := fun hB => absurd rfl hB)
    refine i_goto C dL_law_968 (tgt := 2056) (kk := ?_)
    exact jn _ _ _ _ _ _ _ (Nat.le_refl _) (Nat.le_refl _) hfin

set_option maxRecDepth 100000 in
set_option maxHeartbeats 4000000 in
theorem k_setRank {l : Launch} (hl : l.stackTraces = false) {D : gD} {b L : Nat} {xs : Nat → Int32} {G : gG} (C : CxL l D b L xs G) {i n k x0 m0 o0 : Nat} {w : wW} {σ : Sg} {la : Int} {o5 o6 : Option Value} (hi : i + 4 ≤ L) (hL : L ≤ 2048) (hn : n + 10 ≤ 601024) (hk : k + 200 ≤ 7293034) (hI : LInv D w σ la x0 m0 o0) (jn : JN G D b i x0 m0 o0 (n + 10) (k + 200)) : G n k w [some (.ref b), some (.ref x0), some (.ref m0), some (.ref o0), some (.int (Z32 (i : Int))), o5, o6] 971 [] := by
  obtain ⟨C, hsl, hsd⟩ := C
  obtain ⟨τ, ad, nb, tb, g9, hW, hJ, ht, hO, rfl, rfl, rfl⟩ := hI
  have hr0 := Z32_rng (xs (i + 1))
  have hr1 := Z32_rng (xs (i + 2))
  obtain ⟨R, hR⟩ : ∃ R : Rs, R = oSetRank σ (xs (i + 1)).toInt (xs (i + 2)).toInt := ⟨_, rfl⟩
  have hR3 : 0 ≤ R.1 ∧ R.1 ≤ 3 := by rw [hR]; exact op3_R (by first | rfl | (split <;> rfl))
  refine i_aload_n C dL_law_971 (kk := ?_)
  refine i_aload_n C dL_law_972 (kk := ?_)
  refine i_iload C dL_law_973 (kk := ?_)
  refine i_iconst C dL_law_975 (kk := ?_)
  refine i_iadd C dL_law_976 (kk := ?_)
  refine hsd _ _ _ _ _ _ (i + 1) dL_law_977 (by omega) hL ?_
  refine i_aload_n C dL_law_978 (kk := ?_)
  refine i_iload C dL_law_979 (kk := ?_)
  refine i_iconst C dL_law_981 (kk := ?_)
  refine i_iadd C dL_law_982 (kk := ?_)
  refine hsd _ _ _ _ _ _ (i + 2) dL_law_983 (by omega) hL ?_
  refine i_aload_n C dL_law_984 (kk := ?_)
  refine i_callSH C lk_L_164 (w_setRank l hl D hW ht hO hr0 hr1) (hst := rfl) dL_law_985 (hf := ⟨by show n + 10 ≤ 601024; omega, by show k + 200 ≤ 7293034; omega⟩) (kk := fun v1 w1 g1 => ?_)
  rw [← hR] at g1
  obtain ⟨rfl, τ2, ad2, nb2, tb2, hW2, e0, e5, hk2, g2, hO2, hg2⟩ := g1
  have ht2 : τ2 (ad2 6000) = 6000 := by rw [e5 6000 (by omega), (hk2 _ (by rw [hO]; exact nofun) (by omega)).1]; exact ht
  have hJ2 := hJ.carry e5 ht hk2
  have hI2 := MdI.of hW.1 hJ2
  obtain ⟨fs7, hobj⟩ := hJ2.objx
  rw [← e5 6000 (by omega)] at hO2
  rw [← e0, ← e5 5000 (by omega), ← e5 6000 (by omega)]
  rw [← e0, ← e5 5000 (by omega), ← e5 6000 (by omega)] at jn
  refine i_istore C dL_law_988 (kk := ?_)
  refine i_aload_n C dL_law_990 (kk := ?_)
  refine i_aload_n C dL_law_991 (kk := ?_)
  refine i_iload C dL_law_992 (kk := ?_)
  refine i_iconst C dL_law_994 (kk := ?_)
  refine i_iadd C dL_law_995 (kk := ?_)
  refine hsd _ _ _ _ _ _ (i + 1) dL_law_996 (by omega) hL ?_
  refine i_aload_n C dL_law_997 (kk := ?_)
  refine i_iload C dL_law_998 (kk := ?_)
  refine i_iconst C dL_law_1000 (kk := ?_)
  refine i_iadd C dL_law_1001 (kk := ?_)
  refine hsd _ _ _ _ _ _ (i + 2) dL_law_1002 (by omega) hL ?_
  refine i_callV C lk_L_166 (c_X7_setRank l hl D (hI := hI2) (i := (xs (i + 1)).toInt) (j := (xs (i + 2)).toInt)) (hcl := rfl) (hst := rfl) dL_law_1003 (hw := hobj) (hf := ⟨by show n + 10 + 0 ≤ 601024; omega, by show k + 200 + 0 ≤ 7293034; omega⟩) (kk := fun v3 w3 g3 => ?_)
  rw [← hR] at g3
  obtain ⟨rfl, hJ3⟩ := g3
  have hJ3 : MdJ D w1 w3 τ2 ad2 R.2.2 R.1 := hJ3
  have hW3 := hW2.far hJ3.off (by omega)
  have hO3 : w3 (ad2 6000) = some (lar D 1 g2) := by rw [hJ3.off _ (Or.inr (by omega))]; exact hO2
  have hfin : LInv D w3 R.2.2 R.1 (ad2 0) (ad2 5000) (ad2 6000) := ⟨τ2, ad2, nb2, tb2, g2, hW3, hJ3.reset, ht2, hO3, rfl, rfl, rfl⟩
  obtain ⟨F3, dn3, op3', sh3, hM3, hV3⟩ := id hJ3
  refine i_istore C dL_law_1006 (kk := ?_)
  refine i_aload_n C dL_law_1008 (kk := ?_)
  refine i_callV C lk_L_122 (c_X7_thrown l hl D (hM := hM3)) (hcl := rfl) (hst := rfl) dL_law_1009 (hw := hM3.obj) (hf := ⟨by show n + 10 + 0 + 0 ≤ 601024; omega, by show k + 200 + 0 + 0 ≤ 7293034; omega⟩) (kk := fun v4 w4 g4 => ?_)
  obtain ⟨rfl, q4⟩ := g4
  have q4 := q4.symm
  subst q4
  refine i_iload C dL_law_1012 (kk := ?_)
  refine i_icmp_eq C dL_law_1014 (tgt := 1019) (kt := fun _ => ?_) (kf := fun hB => absurd rfl hB)
  refine i_iload C dL_law_1019 (kk := ?_)
  refine i_if_ne C dL_law_1021 (tgt := 1036) (kt := fun _ => ?_) (kf := fun hB => ?_)
  · refine i_goto C dL_law_1036 (tgt := 2056) (kk := ?_)
    exact jn _ _ _ _ _ _ _ (Nat.le_refl _) (Nat.le_refl _) hfin
  · have hg3 : g2 0 = (Z32 R.2.1).toInt64 := hg2 hB
    refine i_aload_n C dL_law_1024 (kk := ?_)
    refine i_iconst C dL_law_1025 (kk := ?_)
    refine i_laload C dL_law_1026 (hw := hO3) (kk := ?_)
    show G _ _ _ _ _ (.long (g2 0) :: _)
    rw [hg3]
    refine i_iload C dL_law_1027 (kk := ?_)
    refine i_i2l C dL_law_1029 (kk := ?_)
    refine i_lcmp C dL_law_1030 (kk := ?_)
    rw [lg_same]
    refine i_if_eq C dL_law_1031 (tgt := 1036) (ha := by decide) (kt := fun _ => ?_) (kf := fun hB => absurd rfl hB)
    refine i_goto C dL_law_1036 (tgt := 2056) (kk := ?_)
    exact jn _ _ _ _ _ _ _ (Nat.le_refl _) (Nat.le_refl _) hfin

set_option maxRecDepth 100000 in
set_option maxHeartbeats 4000000 in
theorem k_version {l : Launch} (hl : l.stackTraces = false) {D : gD} {b L : Nat} {xs : Nat → Int32} {G : gG} (C : CxL l D b L xs G) {i n k x0 m0 o0 : Nat} {w : wW} {σ : Sg} {la : Int} {o5 o6 : Option Value} (hi : i + 4 ≤ L) (hL : L ≤ 2048) (hn : n + 10 ≤ 601024) (hk : k + 200 ≤ 7293034) (hI : LInv D w σ la x0 m0 o0) (jn : JN G D b i x0 m0 o0 (n + 10) (k + 200)) : G n k w [some (.ref b), some (.ref x0), some (.ref m0), some (.ref o0), some (.int (Z32 (i : Int))), o5, o6] 1039 [] := by
  obtain ⟨C, hsl, hsd⟩ := C
  obtain ⟨τ, ad, nb, tb, g9, hW, hJ, ht, hO, rfl, rfl, rfl⟩ := hI
  have hr0 := Z32_rng (xs (i + 1))
  obtain ⟨R, hR⟩ : ∃ R : Rs, R = oVersion σ (xs (i + 1)).toInt := ⟨_, rfl⟩
  have hR3 : 0 ≤ R.1 ∧ R.1 ≤ 3 := by rw [hR]; exact op3_R (by first | rfl | (split <;> rfl))
  refine i_aload_n C dL_law_1039 (kk := ?_)
  refine i_aload_n C dL_law_1040 (kk := ?_)
  refine i_iload C dL_law_1041 (kk := ?_)
  refine i_iconst C dL_law_1043 (kk := ?_)
  refine i_iadd C dL_law_1044 (kk := ?_)
  refine hsd _ _ _ _ _ _ (i + 1) dL_law_1045 (by omega) hL ?_
  refine i_aload_n C dL_law_1046 (kk := ?_)
  refine i_callSH C lk_L_167 (w_version l hl D hW ht hO hr0) (hst := rfl) dL_law_1047 (hf := ⟨by show n + 10 ≤ 601024; omega, by show k + 200 ≤ 7293034; omega⟩) (kk := fun v1 w1 g1 => ?_)
  rw [← hR] at g1
  obtain ⟨rfl, τ2, ad2, nb2, tb2, hW2, e0, e5, hk2, g2, hO2, hg2⟩ := g1
  have ht2 : τ2 (ad2 6000) = 6000 := by rw [e5 6000 (by omega), (hk2 _ (by rw [hO]; exact nofun) (by omega)).1]; exact ht
  have hJ2 := hJ.carry e5 ht hk2
  have hI2 := MdI.of hW.1 hJ2
  obtain ⟨fs7, hobj⟩ := hJ2.objx
  rw [← e5 6000 (by omega)] at hO2
  rw [← e0, ← e5 5000 (by omega), ← e5 6000 (by omega)]
  rw [← e0, ← e5 5000 (by omega), ← e5 6000 (by omega)] at jn
  refine i_istore C dL_law_1050 (kk := ?_)
  refine i_aload_n C dL_law_1052 (kk := ?_)
  refine i_aload_n C dL_law_1053 (kk := ?_)
  refine i_iload C dL_law_1054 (kk := ?_)
  refine i_iconst C dL_law_1056 (kk := ?_)
  refine i_iadd C dL_law_1057 (kk := ?_)
  refine hsd _ _ _ _ _ _ (i + 1) dL_law_1058 (by omega) hL ?_
  refine i_callV C lk_L_169 (c_X7_version l hl D (hI := hI2) (i := (xs (i + 1)).toInt)) (hcl := rfl) (hst := rfl) dL_law_1059 (hw := hobj) (hf := ⟨by show n + 10 + 0 ≤ 601024; omega, by show k + 200 + 0 ≤ 7293034; omega⟩) (kk := fun v3 w3 g3 => ?_)
  rw [← hR] at g3
  obtain ⟨rfl, hJ3⟩ := g3
  have hJ3 : MdJ D w1 w3 τ2 ad2 R.2.2 R.1 := hJ3
  have hW3 := hW2.far hJ3.off (by omega)
  have hO3 : w3 (ad2 6000) = some (lar D 1 g2) := by rw [hJ3.off _ (Or.inr (by omega))]; exact hO2
  have hfin : LInv D w3 R.2.2 R.1 (ad2 0) (ad2 5000) (ad2 6000) := ⟨τ2, ad2, nb2, tb2, g2, hW3, hJ3.reset, ht2, hO3, rfl, rfl, rfl⟩
  obtain ⟨F3, dn3, op3', sh3, hM3, hV3⟩ := id hJ3
  refine i_istore C dL_law_1062 (kk := ?_)
  refine i_aload_n C dL_law_1064 (kk := ?_)
  refine i_callV C lk_L_122 (c_X7_thrown l hl D (hM := hM3)) (hcl := rfl) (hst := rfl) dL_law_1065 (hw := hM3.obj) (hf := ⟨by show n + 10 + 0 + 0 ≤ 601024; omega, by show k + 200 + 0 + 0 ≤ 7293034; omega⟩) (kk := fun v4 w4 g4 => ?_)
  obtain ⟨rfl, q4⟩ := g4
  have q4 := q4.symm
  subst q4
  refine i_iload C dL_law_1068 (kk := ?_)
  refine i_icmp_eq C dL_law_1070 (tgt := 1075) (kt := fun _ => ?_) (kf := fun hB => absurd rfl hB)
  refine i_iload C dL_law_1075 (kk := ?_)
  refine i_if_ne C dL_law_1077 (tgt := 1092) (kt := fun _ => ?_) (kf := fun hB => ?_)
  · refine i_goto C dL_law_1092 (tgt := 2056) (kk := ?_)
    exact jn _ _ _ _ _ _ _ (Nat.le_refl _) (Nat.le_refl _) hfin
  · have hg3 : g2 0 = (Z32 R.2.1).toInt64 := hg2 hB
    refine i_aload_n C dL_law_1080 (kk := ?_)
    refine i_iconst C dL_law_1081 (kk := ?_)
    refine i_laload C dL_law_1082 (hw := hO3) (kk := ?_)
    show G _ _ _ _ _ (.long (g2 0) :: _)
    rw [hg3]
    refine i_iload C dL_law_1083 (kk := ?_)
    refine i_i2l C dL_law_1085 (kk := ?_)
    refine i_lcmp C dL_law_1086 (kk := ?_)
    rw [lg_same]
    refine i_if_eq C dL_law_1087 (tgt := 1092) (ha := by decide) (kt := fun _ => ?_) (kf := fun hB => absurd rfl hB)
    refine i_goto C dL_law_1092 (tgt := 2056) (kk := ?_)
    exact jn _ _ _ _ _ _ _ (Nat.le_refl _) (Nat.le_refl _) hfin

set_option maxRecDepth 100000 in
set_option maxHeartbeats 4000000 in
theorem k_rankOf {l : Launch} (hl : l.stackTraces = false) {D : gD} {b L : Nat} {xs : Nat → Int32} {G : gG} (C : CxL l D b L xs G) {i n k x0 m0 o0 : Nat} {w : wW} {σ : Sg} {la : Int} {o5 o6 : Option Value} (hi : i + 4 ≤ L) (hL : L ≤ 2048) (hn : n + 10 ≤ 601024) (hk : k + 200 ≤ 7293034) (hI : LInv D w σ la x0 m0 o0) (jn : JN G D b i x0 m0 o0 (n + 10) (k + 200)) : G n k w [some (.ref b), some (.ref x0), some (.ref m0), some (.ref o0), some (.int (Z32 (i : Int))), o5, o6] 1095 [] := by
  obtain ⟨C, hsl, hsd⟩ := C
  obtain ⟨τ, ad, nb, tb, g9, hW, hJ, ht, hO, rfl, rfl, rfl⟩ := hI
  have hr0 := Z32_rng (xs (i + 1))
  obtain ⟨R, hR⟩ : ∃ R : Rs, R = oRankOf σ (xs (i + 1)).toInt := ⟨_, rfl⟩
  have hR3 : 0 ≤ R.1 ∧ R.1 ≤ 3 := by rw [hR]; exact op3_R (by first | rfl | (split <;> rfl))
  refine i_aload_n C dL_law_1095 (kk := ?_)
  refine i_aload_n C dL_law_1096 (kk := ?_)
  refine i_iload C dL_law_1097 (kk := ?_)
  refine i_iconst C dL_law_1099 (kk := ?_)
  refine i_iadd C dL_law_1100 (kk := ?_)
  refine hsd _ _ _ _ _ _ (i + 1) dL_law_1101 (by omega) hL ?_
  refine i_aload_n C dL_law_1102 (kk := ?_)
  refine i_callSH C lk_L_170 (w_rankOf l hl D hW ht hO hr0) (hst := rfl) dL_law_1103 (hf := ⟨by show n + 10 ≤ 601024; omega, by show k + 200 ≤ 7293034; omega⟩) (kk := fun v1 w1 g1 => ?_)
  rw [← hR] at g1
  obtain ⟨rfl, τ2, ad2, nb2, tb2, hW2, e0, e5, hk2, g2, hO2, hg2⟩ := g1
  have ht2 : τ2 (ad2 6000) = 6000 := by rw [e5 6000 (by omega), (hk2 _ (by rw [hO]; exact nofun) (by omega)).1]; exact ht
  have hJ2 := hJ.carry e5 ht hk2
  have hI2 := MdI.of hW.1 hJ2
  obtain ⟨fs7, hobj⟩ := hJ2.objx
  rw [← e5 6000 (by omega)] at hO2
  rw [← e0, ← e5 5000 (by omega), ← e5 6000 (by omega)]
  rw [← e0, ← e5 5000 (by omega), ← e5 6000 (by omega)] at jn
  refine i_istore C dL_law_1106 (kk := ?_)
  refine i_aload_n C dL_law_1108 (kk := ?_)
  refine i_aload_n C dL_law_1109 (kk := ?_)
  refine i_iload C dL_law_1110 (kk := ?_)
  refine i_iconst C dL_law_1112 (kk := ?_)
  refine i_iadd C dL_law_1113 (kk := ?_)
  refine hsd _ _ _ _ _ _ (i + 1) dL_law_1114 (by omega) hL ?_
  refine i_callV C lk_L_172 (c_X7_rankOf l hl D (hI := hI2) (i := (xs (i + 1)).toInt)) (hcl := rfl) (hst := rfl) dL_law_1115 (hw := hobj) (hf := ⟨by show n + 10 + 0 ≤ 601024; omega, by show k + 200 + 0 ≤ 7293034; omega⟩) (kk := fun v3 w3 g3 => ?_)
  rw [← hR] at g3
  obtain ⟨rfl, hJ3⟩ := g3
  have hJ3 : MdJ D w1 w3 τ2 ad2 R.2.2 R.1 := hJ3
  have hW3 := hW2.far hJ3.off (by omega)
  have hO3 : w3 (ad2 6000) = some (lar D 1 g2) := by rw [hJ3.off _ (Or.inr (by omega))]; exact hO2
  have hfin : LInv D w3 R.2.2 R.1 (ad2 0) (ad2 5000) (ad2 6000) := ⟨τ2, ad2, nb2, tb2, g2, hW3, hJ3.reset, ht2, hO3, rfl, rfl, rfl⟩
  obtain ⟨F3, dn3, op3', sh3, hM3, hV3⟩ := id hJ3
  refine i_istore C dL_law_1118 (kk := ?_)
  refine i_aload_n C dL_law_1120 (kk := ?_)
  refine i_callV C lk_L_122 (c_X7_thrown l hl D (hM := hM3)) (hcl := rfl) (hst := rfl) dL_law_1121 (hw := hM3.obj) (hf := ⟨by show n + 10 + 0 + 0 ≤ 601024; omega, by show k + 200 + 0 + 0 ≤ 7293034; omega⟩) (kk := fun v4 w4 g4 => ?_)
  obtain ⟨rfl, q4⟩ := g4
  have q4 := q4.symm
  subst q4
  refine i_iload C dL_law_1124 (kk := ?_)
  refine i_icmp_eq C dL_law_1126 (tgt := 1131) (kt := fun _ => ?_) (kf := fun hB => absurd rfl hB)
  refine i_iload C dL_law_1131 (kk := ?_)
  refine i_if_ne C dL_law_1133 (tgt := 1148) (kt := fun _ => ?_) (kf := fun hB => ?_)
  · refine i_goto C dL_law_1148 (tgt := 2056) (kk := ?_)
    exact jn _ _ _ _ _ _ _ (Nat.le_refl _) (Nat.le_refl _) hfin
  · have hg3 : g2 0 = (Z32 R.2.1).toInt64 := hg2 hB
    refine i_aload_n C dL_law_1136 (kk := ?_)
    refine i_iconst C dL_law_1137 (kk := ?_)
    refine i_laload C dL_law_1138 (hw := hO3) (kk := ?_)
    show G _ _ _ _ _ (.long (g2 0) :: _)
    rw [hg3]
    refine i_iload C dL_law_1139 (kk := ?_)
    refine i_i2l C dL_law_1141 (kk := ?_)
    refine i_lcmp C dL_law_1142 (kk := ?_)
    rw [lg_same]
    refine i_if_eq C dL_law_1143 (tgt := 1148) (ha := by decide) (kt := fun _ => ?_) (kf := fun hB => absurd rfl hB)
    refine i_goto C dL_law_1148 (tgt := 2056) (kk := ?_)
    exact jn _ _ _ _ _ _ _ (Nat.le_refl _) (Nat.le_refl _) hfin

set_option maxRecDepth 100000 in
set_option maxHeartbeats 4000000 in
theorem k_force {l : Launch} (hl : l.stackTraces = false) {D : gD} {b L : Nat} {xs : Nat → Int32} {G : gG} (C : CxL l D b L xs G) {i n k x0 m0 o0 : Nat} {w : wW} {σ : Sg} {la : Int} {o5 o6 : Option Value} (hi : i + 4 ≤ L) (hL : L ≤ 2048) (hn : n + 10 ≤ 601024) (hk : k + 200 ≤ 7293034) (hI : LInv D w σ la x0 m0 o0) (jn : JN G D b i x0 m0 o0 (n + 10) (k + 200)) : G n k w [some (.ref b), some (.ref x0), some (.ref m0), some (.ref o0), some (.int (Z32 (i : Int))), o5, o6] 1151 [] := by
  obtain ⟨C, hsl, hsd⟩ := C
  obtain ⟨τ, ad, nb, tb, g9, hW, hJ, ht, hO, rfl, rfl, rfl⟩ := hI
  have hr0 := Z32_rng (xs (i + 1))
  obtain ⟨R, hR⟩ : ∃ R : Rs, R = oForce σ (xs (i + 1)).toInt := ⟨_, rfl⟩
  have hR3 : 0 ≤ R.1 ∧ R.1 ≤ 3 := by rw [hR]; exact op3_R (by first | rfl | (split <;> rfl))
  refine i_aload_n C dL_law_1151 (kk := ?_)
  refine i_aload_n C dL_law_1152 (kk := ?_)
  refine i_iload C dL_law_1153 (kk := ?_)
  refine i_iconst C dL_law_1155 (kk := ?_)
  refine i_iadd C dL_law_1156 (kk := ?_)
  refine hsd _ _ _ _ _ _ (i + 1) dL_law_1157 (by omega) hL ?_
  refine i_aload_n C dL_law_1158 (kk := ?_)
  refine i_callSH C lk_L_173 (w_force l hl D hW ht hO hr0) (hst := rfl) dL_law_1159 (hf := ⟨by show n + 10 ≤ 601024; omega, by show k + 200 ≤ 7293034; omega⟩) (kk := fun v1 w1 g1 => ?_)
  rw [← hR] at g1
  obtain ⟨rfl, τ2, ad2, nb2, tb2, hW2, e0, e5, hk2, g2, hO2, hg2⟩ := g1
  have ht2 : τ2 (ad2 6000) = 6000 := by rw [e5 6000 (by omega), (hk2 _ (by rw [hO]; exact nofun) (by omega)).1]; exact ht
  have hJ2 := hJ.carry e5 ht hk2
  have hI2 := MdI.of hW.1 hJ2
  obtain ⟨fs7, hobj⟩ := hJ2.objx
  rw [← e5 6000 (by omega)] at hO2
  rw [← e0, ← e5 5000 (by omega), ← e5 6000 (by omega)]
  rw [← e0, ← e5 5000 (by omega), ← e5 6000 (by omega)] at jn
  refine i_istore C dL_law_1162 (kk := ?_)
  refine i_aload_n C dL_law_1164 (kk := ?_)
  refine i_aload_n C dL_law_1165 (kk := ?_)
  refine i_iload C dL_law_1166 (kk := ?_)
  refine i_iconst C dL_law_1168 (kk := ?_)
  refine i_iadd C dL_law_1169 (kk := ?_)
  refine hsd _ _ _ _ _ _ (i + 1) dL_law_1170 (by omega) hL ?_
  refine i_callV C lk_L_175 (c_X7_force l hl D (hI := hI2) (i := (xs (i + 1)).toInt)) (hcl := rfl) (hst := rfl) dL_law_1171 (hw := hobj) (hf := ⟨by show n + 10 + 0 ≤ 601024; omega, by show k + 200 + 0 ≤ 7293034; omega⟩) (kk := fun v3 w3 g3 => ?_)
  rw [← hR] at g3
  obtain ⟨rfl, hJ3⟩ := g3
  have hJ3 : MdJ D w1 w3 τ2 ad2 R.2.2 R.1 := hJ3
  have hW3 := hW2.far hJ3.off (by omega)
  have hO3 : w3 (ad2 6000) = some (lar D 1 g2) := by rw [hJ3.off _ (Or.inr (by omega))]; exact hO2
  have hfin : LInv D w3 R.2.2 R.1 (ad2 0) (ad2 5000) (ad2 6000) := ⟨τ2, ad2, nb2, tb2, g2, hW3, hJ3.reset, ht2, hO3, rfl, rfl, rfl⟩
  obtain ⟨F3, dn3, op3', sh3, hM3, hV3⟩ := id hJ3
  refine i_istore C dL_law_1174 (kk := ?_)
  refine i_aload_n C dL_law_1176 (kk := ?_)
  refine i_callV C lk_L_122 (c_X7_thrown l hl D (hM := hM3)) (hcl := rfl) (hst := rfl) dL_law_1177 (hw := hM3.obj) (hf := ⟨by show n + 10 + 0 + 0 ≤ 601024; omega, by show k + 200 + 0 + 0 ≤ 7293034; omega⟩) (kk := fun v4 w4 g4 => ?_)
  obtain ⟨rfl, q4⟩ := g4
  have q4 := q4.symm
  subst q4
  refine i_iload C dL_law_1180 (kk := ?_)
  refine i_icmp_eq C dL_law_1182 (tgt := 1187) (kt := fun _ => ?_) (kf := fun hB => absurd rfl hB)
  refine i_iload C dL_law_1187 (kk := ?_)
  refine i_if_ne C dL_law_1189 (tgt := 1204) (kt := fun _ => ?_) (kf := fun hB => ?_)
  · refine i_goto C dL_law_1204 (tgt := 2056) (kk := ?_)
    exact jn _ _ _ _ _ _ _ (Nat.le_refl _) (Nat.le_refl _) hfin
  · have hg3 : g2 0 = (Z32 R.2.1).toInt64 := hg2 hB
    refine i_aload_n C dL_law_1192 (kk := ?_)
    refine i_iconst C dL_law_1193 (kk := ?_)
    refine i_laload C dL_law_1194 (hw := hO3) (kk := ?_)
    show G _ _ _ _ _ (.long (g2 0) :: _)
    rw [hg3]
    refine i_iload C dL_law_1195 (kk := ?_)
    refine i_i2l C dL_law_1197 (kk := ?_)
    refine i_lcmp C dL_law_1198 (kk := ?_)
    rw [lg_same]
    refine i_if_eq C dL_law_1199 (tgt := 1204) (ha := by decide) (kt := fun _ => ?_) (kf := fun hB => absurd rfl hB)
    refine i_goto C dL_law_1204 (tgt := 2056) (kk := ?_)
    exact jn _ _ _ _ _ _ _ (Nat.le_refl _) (Nat.le_refl _) hfin

set_option maxRecDepth 100000 in
set_option maxHeartbeats 4000000 in
theorem k_reaches {l : Launch} (hl : l.stackTraces = false) {D : gD} {b L : Nat} {xs : Nat → Int32} {G : gG} (C : CxL l D b L xs G) {i n k x0 m0 o0 : Nat} {w : wW} {σ : Sg} {la : Int} {o5 o6 : Option Value} (hi : i + 4 ≤ L) (hL : L ≤ 2048) (hn : n + 10 ≤ 601024) (hk : k + 200 ≤ 7293034) (hI : LInv D w σ la x0 m0 o0) (jn : JN G D b i x0 m0 o0 (n + 10) (k + 200)) : G n k w [some (.ref b), some (.ref x0), some (.ref m0), some (.ref o0), some (.int (Z32 (i : Int))), o5, o6] 1207 [] := by
  obtain ⟨C, hsl, hsd⟩ := C
  obtain ⟨τ, ad, nb, tb, g9, hW, hJ, ht, hO, rfl, rfl, rfl⟩ := hI
  have hr0 := Z32_rng (xs (i + 1))
  obtain ⟨R, hR⟩ : ∃ R : Rs, R = oReaches σ (xs (i + 1)).toInt := ⟨_, rfl⟩
  have hR3 : 0 ≤ R.1 ∧ R.1 ≤ 3 := by rw [hR]; exact op3_R (by first | rfl | (split <;> rfl))
  refine i_aload_n C dL_law_1207 (kk := ?_)
  refine i_aload_n C dL_law_1208 (kk := ?_)
  refine i_iload C dL_law_1209 (kk := ?_)
  refine i_iconst C dL_law_1211 (kk := ?_)
  refine i_iadd C dL_law_1212 (kk := ?_)
  refine hsd _ _ _ _ _ _ (i + 1) dL_law_1213 (by omega) hL ?_
  refine i_aload_n C dL_law_1214 (kk := ?_)
  refine i_callSH C lk_L_176 (w_reaches l hl D hW ht hO hr0) (hst := rfl) dL_law_1215 (hf := ⟨by show n + 10 ≤ 601024; omega, by show k + 200 ≤ 7293034; omega⟩) (kk := fun v1 w1 g1 => ?_)
  rw [← hR] at g1
  obtain ⟨rfl, τ2, ad2, nb2, tb2, hW2, e0, e5, hk2, g2, hO2, hg2⟩ := g1
  have ht2 : τ2 (ad2 6000) = 6000 := by rw [e5 6000 (by omega), (hk2 _ (by rw [hO]; exact nofun) (by omega)).1]; exact ht
  have hJ2 := hJ.carry e5 ht hk2
  have hI2 := MdI.of hW.1 hJ2
  obtain ⟨fs7, hobj⟩ := hJ2.objx
  rw [← e5 6000 (by omega)] at hO2
  rw [← e0, ← e5 5000 (by omega), ← e5 6000 (by omega)]
  rw [← e0, ← e5 5000 (by omega), ← e5 6000 (by omega)] at jn
  refine i_istore C dL_law_1218 (kk := ?_)
  refine i_aload_n C dL_law_1220 (kk := ?_)
  refine i_aload_n C dL_law_1221 (kk := ?_)
  refine i_iload C dL_law_1222 (kk := ?_)
  refine i_iconst C dL_law_1224 (kk := ?_)
  refine i_iadd C dL_law_1225 (kk := ?_)
  refine hsd _ _ _ _ _ _ (i + 1) dL_law_1226 (by omega) hL ?_
  refine i_callV C lk_L_178 (c_X7_reaches l hl D (hI := hI2) (i := (xs (i + 1)).toInt)) (hcl := rfl) (hst := rfl) dL_law_1227 (hw := hobj) (hf := ⟨by show n + 10 + 0 ≤ 601024; omega, by show k + 200 + 0 ≤ 7293034; omega⟩) (kk := fun v3 w3 g3 => ?_)
  rw [← hR] at g3
  obtain ⟨rfl, hJ3⟩ := g3
  have hJ3 : MdJ D w1 w3 τ2 ad2 R.2.2 R.1 := hJ3
  have hW3 := hW2.far hJ3.off (by omega)
  have hO3 : w3 (ad2 6000) = some (lar D 1 g2) := by rw [hJ3.off _ (Or.inr (by omega))]; exact hO2
  have hfin : LInv D w3 R.2.2 R.1 (ad2 0) (ad2 5000) (ad2 6000) := ⟨τ2, ad2, nb2, tb2, g2, hW3, hJ3.reset, ht2, hO3, rfl, rfl, rfl⟩
  obtain ⟨F3, dn3, op3', sh3, hM3, hV3⟩ := id hJ3
  refine i_istore C dL_law_1230 (kk := ?_)
  refine i_aload_n C dL_law_1232 (kk := ?_)
  refine i_callV C lk_L_122 (c_X7_thrown l hl D (hM := hM3)) (hcl := rfl) (hst := rfl) dL_law_1233 (hw := hM3.obj) (hf := ⟨by show n + 10 + 0 + 0 ≤ 601024; omega, by show k + 200 + 0 + 0 ≤ 7293034; omega⟩) (kk := fun v4 w4 g4 => ?_)
  obtain ⟨rfl, q4⟩ := g4
  have q4 := q4.symm
  subst q4
  refine i_iload C dL_law_1236 (kk := ?_)
  refine i_icmp_eq C dL_law_1238 (tgt := 1243) (kt := fun _ => ?_) (kf := fun hB => absurd rfl hB)
  refine i_iload C dL_law_1243 (kk := ?_)
  refine i_if_ne C dL_law_1245 (tgt := 1260) (kt := fun _ => ?_) (kf := fun hB => ?_)
  · refine i_goto C dL_law_1260 (tgt := 2056) (kk := ?_)
    exact jn _ _ _ _ _ _ _ (Nat.le_refl _) (Nat.le_refl _) hfin
  · have hg3 : g2 0 = (Z32 R.2.1).toInt64 := hg2 hB
    refine i_aload_n C dL_law_1248 (kk := ?_)
    refine i_iconst C dL_law_1249 (kk := ?_)
    refine i_laload C dL_law_1250 (hw := hO3) (kk := ?_)
    show G _ _ _ _ _ (.long (g2 0) :: _)
    rw [hg3]
    refine i_iload C dL_law_1251 (kk := ?_)
    refine i_i2l C dL_law_1253 (kk := ?_)
    refine i_lcmp C dL_law_1254 (kk := ?_)
    rw [lg_same]
    refine i_if_eq C dL_law_1255 (tgt := 1260) (ha := by decide) (kt := fun _ => ?_) (kf := fun hB => absurd rfl hB)
    refine i_goto C dL_law_1260 (tgt := 2056) (kk := ?_)
    exact jn _ _ _ _ _ _ _ (Nat.le_refl _) (Nat.le_refl _) hfin

set_option maxRecDepth 100000 in
set_option maxHeartbeats 4000000 in
theorem k_extent {l : Launch} (hl : l.stackTraces = false) {D : gD} {b L : Nat} {xs : Nat → Int32} {G : gG} (C : CxL l D b L xs G) {i n k x0 m0 o0 : Nat} {w : wW} {σ : Sg} {la : Int} {o5 o6 : Option Value} (hi : i + 4 ≤ L) (hL : L ≤ 2048) (hn : n + 10 ≤ 601024) (hk : k + 200 ≤ 7293034) (hI : LInv D w σ la x0 m0 o0) (jn : JN G D b i x0 m0 o0 (n + 10) (k + 200)) : G n k w [some (.ref b), some (.ref x0), some (.ref m0), some (.ref o0), some (.int (Z32 (i : Int))), o5, o6] 1263 [] := by
  obtain ⟨C, hsl, hsd⟩ := C
  obtain ⟨τ, ad, nb, tb, g9, hW, hJ, ht, hO, rfl, rfl, rfl⟩ := hI
  have hr0 := Z32_rng (xs (i + 1))
  obtain ⟨R, hR⟩ : ∃ R : Rs, R = oExtent σ (xs (i + 1)).toInt := ⟨_, rfl⟩
  have hR3 : 0 ≤ R.1 ∧ R.1 ≤ 3 := by rw [hR]; exact op3_R (by first | rfl | (split <;> rfl))
  refine i_aload_n C dL_law_1263 (kk := ?_)
  refine i_aload_n C dL_law_1264 (kk := ?_)
  refine i_iload C dL_law_1265 (kk := ?_)
  refine i_iconst C dL_law_1267 (kk := ?_)
  refine i_iadd C dL_law_1268 (kk := ?_)
  refine hsd _ _ _ _ _ _ (i + 1) dL_law_1269 (by omega) hL ?_
  refine i_aload_n C dL_law_1270 (kk := ?_)
  refine i_callSH C lk_L_179 (w_extent l hl D hW ht hO hr0) (hst := rfl) dL_law_1271 (hf := ⟨by show n + 10 ≤ 601024; omega, by show k + 200 ≤ 7293034; omega⟩) (kk := fun v1 w1 g1 => ?_)
  rw [← hR] at g1
  obtain ⟨rfl, τ2, ad2, nb2, tb2, hW2, e0, e5, hk2, g2, hO2, hg2⟩ := g1
  have ht2 : τ2 (ad2 6000) = 6000 := by rw [e5 6000 (by omega), (hk2 _ (by rw [hO]; exact nofun) (by omega)).1]; exact ht
  have hJ2 := hJ.carry e5 ht hk2
  have hI2 := MdI.of hW.1 hJ2
  obtain ⟨fs7, hobj⟩ := hJ2.objx
  rw [← e5 6000 (by omega)] at hO2
  rw [← e0, ← e5 5000 (by omega), ← e5 6000 (by omega)]
  rw [← e0, ← e5 5000 (by omega), ← e5 6000 (by omega)] at jn
  refine i_istore C dL_law_1274 (kk := ?_)
  refine i_aload_n C dL_law_1276 (kk := ?_)
  refine i_aload_n C dL_law_1277 (kk := ?_)
  refine i_iload C dL_law_1278 (kk := ?_)
  refine i_iconst C dL_law_1280 (kk := ?_)
  refine i_iadd C dL_law_1281 (kk := ?_)
  refine hsd _ _ _ _ _ _ (i + 1) dL_law_1282 (by omega) hL ?_
  refine i_callV C lk_L_181 (c_X7_extent l hl D (hI := hI2) (i := (xs (i + 1)).toInt)) (hcl := rfl) (hst := rfl) dL_law_1283 (hw := hobj) (hf := ⟨by show n + 10 + 0 ≤ 601024; omega, by show k + 200 + 0 ≤ 7293034; omega⟩) (kk := fun v3 w3 g3 => ?_)
  rw [← hR] at g3
  obtain ⟨rfl, hJ3⟩ := g3
  have hJ3 : MdJ D w1 w3 τ2 ad2 R.2.2 R.1 := hJ3
  have hW3 := hW2.far hJ3.off (by omega)
  have hO3 : w3 (ad2 6000) = some (lar D 1 g2) := by rw [hJ3.off _ (Or.inr (by omega))]; exact hO2
  have hfin : LInv D w3 R.2.2 R.1 (ad2 0) (ad2 5000) (ad2 6000) := ⟨τ2, ad2, nb2, tb2, g2, hW3, hJ3.reset, ht2, hO3, rfl, rfl, rfl⟩
  obtain ⟨F3, dn3, op3', sh3, hM3, hV3⟩ := id hJ3
  refine i_istore C dL_law_1286 (kk := ?_)
  refine i_aload_n C dL_law_1288 (kk := ?_)
  refine i_callV C lk_L_122 (c_X7_thrown l hl D (hM := hM3)) (hcl := rfl) (hst := rfl) dL_law_1289 (hw := hM3.obj) (hf := ⟨by show n + 10 + 0 + 0 ≤ 601024; omega, by show k + 200 + 0 + 0 ≤ 7293034; omega⟩) (kk := fun v4 w4 g4 => ?_)
  obtain ⟨rfl, q4⟩ := g4
  have q4 := q4.symm
  subst q4
  refine i_iload C dL_law_1292 (kk := ?_)
  refine i_icmp_eq C dL_law_1294 (tgt := 1299) (kt := fun _ => ?_) (kf := fun hB => absurd rfl hB)
  refine i_iload C dL_law_1299 (kk := ?_)
  refine i_if_ne C dL_law_1301 (tgt := 1316) (kt := fun _ => ?_) (kf := fun hB => ?_)
  · refine i_goto C dL_law_1316 (tgt := 2056) (kk := ?_)
    exact jn _ _ _ _ _ _ _ (Nat.le_refl _) (Nat.le_refl _) hfin
  · have hg3 : g2 0 = (Z32 R.2.1).toInt64 := hg2 hB
    refine i_aload_n C dL_law_1304 (kk := ?_)
    refine i_iconst C dL_law_1305 (kk := ?_)
    refine i_laload C dL_law_1306 (hw := hO3) (kk := ?_)
    show G _ _ _ _ _ (.long (g2 0) :: _)
    rw [hg3]
    refine i_iload C dL_law_1307 (kk := ?_)
    refine i_i2l C dL_law_1309 (kk := ?_)
    refine i_lcmp C dL_law_1310 (kk := ?_)
    rw [lg_same]
    refine i_if_eq C dL_law_1311 (tgt := 1316) (ha := by decide) (kt := fun _ => ?_) (kf := fun hB => absurd rfl hB)
    refine i_goto C dL_law_1316 (tgt := 2056) (kk := ?_)
    exact jn _ _ _ _ _ _ _ (Nat.le_refl _) (Nat.le_refl _) hfin

set_option maxRecDepth 100000 in
set_option maxHeartbeats 4000000 in
theorem k_items {l : Launch} (hl : l.stackTraces = false) {D : gD} {b L : Nat} {xs : Nat → Int32} {G : gG} (C : CxL l D b L xs G) {i n k x0 m0 o0 : Nat} {w : wW} {σ : Sg} {la : Int} {o5 o6 : Option Value} (hi : i + 4 ≤ L) (hL : L ≤ 2048) (hn : n + 10 ≤ 601024) (hk : k + 200 ≤ 7293034) (hI : LInv D w σ la x0 m0 o0) (jn : JN G D b i x0 m0 o0 (n + 10) (k + 200)) : G n k w [some (.ref b), some (.ref x0), some (.ref m0), some (.ref o0), some (.int (Z32 (i : Int))), o5, o6] 1319 [] := by
  obtain ⟨C, hsl, hsd⟩ := C
  obtain ⟨τ, ad, nb, tb, g9, hW, hJ, ht, hO, rfl, rfl, rfl⟩ := hI
  have hr0 := Z32_rng (xs (i + 1))
  have hr1 := Z32_rng (xs (i + 2))
  obtain ⟨R, hR⟩ : ∃ R : Rs, R = oItems σ (xs (i + 1)).toInt (xs (i + 2)).toInt := ⟨_, rfl⟩
  have hR3 : 0 ≤ R.1 ∧ R.1 ≤ 3 := by rw [hR]; exact op3_R (by first | rfl | (split <;> rfl))
  refine i_aload_n C dL_law_1319 (kk := ?_)
  refine i_aload_n C dL_law_1320 (kk := ?_)
  refine i_iload C dL_law_1321 (kk := ?_)
  refine i_iconst C dL_law_1323 (kk := ?_)
  refine i_iadd C dL_law_1324 (kk := ?_)
  refine hsd _ _ _ _ _ _ (i + 1) dL_law_1325 (by omega) hL ?_
  refine i_aload_n C dL_law_1326 (kk := ?_)
  refine i_iload C dL_law_1327 (kk := ?_)
  refine i_iconst C dL_law_1329 (kk := ?_)
  refine i_iadd C dL_law_1330 (kk := ?_)
  refine hsd _ _ _ _ _ _ (i + 2) dL_law_1331 (by omega) hL ?_
  refine i_aload_n C dL_law_1332 (kk := ?_)
  refine i_callSH C lk_L_182 (w_items l hl D hW ht hO hr0 hr1) (hst := rfl) dL_law_1333 (hf := ⟨by show n + 10 ≤ 601024; omega, by show k + 200 ≤ 7293034; omega⟩) (kk := fun v1 w1 g1 => ?_)
  rw [← hR] at g1
  obtain ⟨rfl, τ2, ad2, nb2, tb2, hW2, e0, e5, hk2, g2, hO2, hg2⟩ := g1
  have ht2 : τ2 (ad2 6000) = 6000 := by rw [e5 6000 (by omega), (hk2 _ (by rw [hO]; exact nofun) (by omega)).1]; exact ht
  have hJ2 := hJ.carry e5 ht hk2
  have hI2 := MdI.of hW.1 hJ2
  obtain ⟨fs7, hobj⟩ := hJ2.objx
  rw [← e5 6000 (by omega)] at hO2
  rw [← e0, ← e5 5000 (by omega), ← e5 6000 (by omega)]
  rw [← e0, ← e5 5000 (by omega), ← e5 6000 (by omega)] at jn
  refine i_istore C dL_law_1336 (kk := ?_)
  refine i_aload_n C dL_law_1338 (kk := ?_)
  refine i_aload_n C dL_law_1339 (kk := ?_)
  refine i_iload C dL_law_1340 (kk := ?_)
  refine i_iconst C dL_law_1342 (kk := ?_)
  refine i_iadd C dL_law_1343 (kk := ?_)
  refine hsd _ _ _ _ _ _ (i + 1) dL_law_1344 (by omega) hL ?_
  refine i_aload_n C dL_law_1345 (kk := ?_)
  refine i_iload C dL_law_1346 (kk := ?_)
  refine i_iconst C dL_law_1348 (kk := ?_)
  refine i_iadd C dL_law_1349 (kk := ?_)
  refine hsd _ _ _ _ _ _ (i + 2) dL_law_1350 (by omega) hL ?_
  refine i_callV C lk_L_184 (c_X7_items l hl D (hI := hI2) (i := (xs (i + 1)).toInt) (j := (xs (i + 2)).toInt)) (hcl := rfl) (hst := rfl) dL_law_1351 (hw := hobj) (hf := ⟨by show n + 10 + 0 ≤ 601024; omega, by show k + 200 + 0 ≤ 7293034; omega⟩) (kk := fun v3 w3 g3 => ?_)
  rw [← hR] at g3
  obtain ⟨rfl, hJ3⟩ := g3
  have hJ3 : MdJ D w1 w3 τ2 ad2 R.2.2 R.1 := hJ3
  have hW3 := hW2.far hJ3.off (by omega)
  have hO3 : w3 (ad2 6000) = some (lar D 1 g2) := by rw [hJ3.off _ (Or.inr (by omega))]; exact hO2
  have hfin : LInv D w3 R.2.2 R.1 (ad2 0) (ad2 5000) (ad2 6000) := ⟨τ2, ad2, nb2, tb2, g2, hW3, hJ3.reset, ht2, hO3, rfl, rfl, rfl⟩
  obtain ⟨F3, dn3, op3', sh3, hM3, hV3⟩ := id hJ3
  refine i_istore C dL_law_1354 (kk := ?_)
  refine i_aload_n C dL_law_1356 (kk := ?_)
  refine i_callV C lk_L_122 (c_X7_thrown l hl D (hM := hM3)) (hcl := rfl) (hst := rfl) dL_law_1357 (hw := hM3.obj) (hf := ⟨by show n + 10 + 0 + 0 ≤ 601024; omega, by show k + 200 + 0 + 0 ≤ 7293034; omega⟩) (kk := fun v4 w4 g4 => ?_)
  obtain ⟨rfl, q4⟩ := g4
  have q4 := q4.symm
  subst q4
  refine i_iload C dL_law_1360 (kk := ?_)
  refine i_icmp_eq C dL_law_1362 (tgt := 1367) (kt := fun _ => ?_) (kf := fun hB => absurd rfl hB)
  refine i_iload C dL_law_1367 (kk := ?_)
  refine i_if_ne C dL_law_1369 (tgt := 1384) (kt := fun _ => ?_) (kf := fun hB => ?_)
  · refine i_goto C dL_law_1384 (tgt := 2056) (kk := ?_)
    exact jn _ _ _ _ _ _ _ (Nat.le_refl _) (Nat.le_refl _) hfin
  · have hg3 : g2 0 = (Z32 R.2.1).toInt64 := hg2 hB
    refine i_aload_n C dL_law_1372 (kk := ?_)
    refine i_iconst C dL_law_1373 (kk := ?_)
    refine i_laload C dL_law_1374 (hw := hO3) (kk := ?_)
    show G _ _ _ _ _ (.long (g2 0) :: _)
    rw [hg3]
    refine i_iload C dL_law_1375 (kk := ?_)
    refine i_i2l C dL_law_1377 (kk := ?_)
    refine i_lcmp C dL_law_1378 (kk := ?_)
    rw [lg_same]
    refine i_if_eq C dL_law_1379 (tgt := 1384) (ha := by decide) (kt := fun _ => ?_) (kf := fun hB => absurd rfl hB)
    refine i_goto C dL_law_1384 (tgt := 2056) (kk := ?_)
    exact jn _ _ _ _ _ _ _ (Nat.le_refl _) (Nat.le_refl _) hfin

set_option maxRecDepth 100000 in
set_option maxHeartbeats 4000000 in
theorem k_sortAt {l : Launch} (hl : l.stackTraces = false) {D : gD} {b L : Nat} {xs : Nat → Int32} {G : gG} (C : CxL l D b L xs G) {i n k x0 m0 o0 : Nat} {w : wW} {σ : Sg} {la : Int} {o5 o6 : Option Value} (hi : i + 4 ≤ L) (hL : L ≤ 2048) (hn : n + 10 ≤ 601024) (hk : k + 200 ≤ 7293034) (hI : LInv D w σ la x0 m0 o0) (jn : JN G D b i x0 m0 o0 (n + 10) (k + 200)) : G n k w [some (.ref b), some (.ref x0), some (.ref m0), some (.ref o0), some (.int (Z32 (i : Int))), o5, o6] 1387 [] := by
  obtain ⟨C, hsl, hsd⟩ := C
  obtain ⟨τ, ad, nb, tb, g9, hW, hJ, ht, hO, rfl, rfl, rfl⟩ := hI
  have hr0 := Z32_rng (xs (i + 1))
  have hr1 := Z32_rng (xs (i + 2))
  have hr2 := Z32_rng (xs (i + 3))
  obtain ⟨R, hR⟩ : ∃ R : Rs, R = oSortAt σ (xs (i + 1)).toInt (xs (i + 2)).toInt (xs (i + 3)).toInt := ⟨_, rfl⟩
  have hR3 : 0 ≤ R.1 ∧ R.1 ≤ 3 := by rw [hR]; exact op3_R (by first | rfl | (split <;> rfl))
  refine i_aload_n C dL_law_1387 (kk := ?_)
  refine i_aload_n C dL_law_1388 (kk := ?_)
  refine i_iload C dL_law_1389 (kk := ?_)
  refine i_iconst C dL_law_1391 (kk := ?_)
  refine i_iadd C dL_law_1392 (kk := ?_)
  refine hsd _ _ _ _ _ _ (i + 1) dL_law_1393 (by omega) hL ?_
  refine i_aload_n C dL_law_1394 (kk := ?_)
  refine i_iload C dL_law_1395 (kk := ?_)
  refine i_iconst C dL_law_1397 (kk := ?_)
  refine i_iadd C dL_law_1398 (kk := ?_)
  refine hsd _ _ _ _ _ _ (i + 2) dL_law_1399 (by omega) hL ?_
  refine i_aload_n C dL_law_1400 (kk := ?_)
  refine i_iload C dL_law_1401 (kk := ?_)
  refine i_iconst C dL_law_1403 (kk := ?_)
  refine i_iadd C dL_law_1404 (kk := ?_)
  refine hsd _ _ _ _ _ _ (i + 3) dL_law_1405 (by omega) hL ?_
  refine i_aload_n C dL_law_1406 (kk := ?_)
  refine i_callSH C lk_L_185 (w_sortAt l hl D hW ht hO hr0 hr1 hr2) (hst := rfl) dL_law_1407 (hf := ⟨by show n + 10 ≤ 601024; omega, by show k + 200 ≤ 7293034; omega⟩) (kk := fun v1 w1 g1 => ?_)
  rw [← hR] at g1
  obtain ⟨rfl, τ2, ad2, nb2, tb2, hW2, e0, e5, hk2, g2, hO2, hg2⟩ := g1
  have ht2 : τ2 (ad2 6000) = 6000 := by rw [e5 6000 (by omega), (hk2 _ (by rw [hO]; exact nofun) (by omega)).1]; exact ht
  have hJ2 := hJ.carry e5 ht hk2
  have hI2 := MdI.of hW.1 hJ2
  obtain ⟨fs7, hobj⟩ := hJ2.objx
  rw [← e5 6000 (by omega)] at hO2
  rw [← e0, ← e5 5000 (by omega), ← e5 6000 (by omega)]
  rw [← e0, ← e5 5000 (by omega), ← e5 6000 (by omega)] at jn
  refine i_istore C dL_law_1410 (kk := ?_)
  refine i_aload_n C dL_law_1412 (kk := ?_)
  refine i_aload_n C dL_law_1413 (kk := ?_)
  refine i_iload C dL_law_1414 (kk := ?_)
  refine i_iconst C dL_law_1416 (kk := ?_)
  refine i_iadd C dL_law_1417 (kk := ?_)
  refine hsd _ _ _ _ _ _ (i + 1) dL_law_1418 (by omega) hL ?_
  refine i_aload_n C dL_law_1419 (kk := ?_)
  refine i_iload C dL_law_1420 (kk := ?_)
  refine i_iconst C dL_law_1422 (kk := ?_)
  refine i_iadd C dL_law_1423 (kk := ?_)
  refine hsd _ _ _ _ _ _ (i + 2) dL_law_1424 (by omega) hL ?_
  refine i_aload_n C dL_law_1425 (kk := ?_)
  refine i_iload C dL_law_1426 (kk := ?_)
  refine i_iconst C dL_law_1428 (kk := ?_)
  refine i_iadd C dL_law_1429 (kk := ?_)
  refine hsd _ _ _ _ _ _ (i + 3) dL_law_1430 (by omega) hL ?_
  refine i_callV C lk_L_187 (c_X7_sortAt l hl D (hI := hI2) (i := (xs (i + 1)).toInt) (j := (xs (i + 2)).toInt) (k := (xs (i + 3)).toInt)) (hcl := rfl) (hst := rfl) dL_law_1431 (hw := hobj) (hf := ⟨by show n + 10 + 0 ≤ 601024; omega, by show k + 200 + 0 ≤ 7293034; omega⟩) (kk := fun v3 w3 g3 => ?_)
  rw [← hR] at g3
  obtain ⟨rfl, hJ3⟩ := g3
  have hJ3 : MdJ D w1 w3 τ2 ad2 R.2.2 R.1 := hJ3
  have hW3 := hW2.far hJ3.off (by omega)
  have hO3 : w3 (ad2 6000) = some (lar D 1 g2) := by rw [hJ3.off _ (Or.inr (by omega))]; exact hO2
  have hfin : LInv D w3 R.2.2 R.1 (ad2 0) (ad2 5000) (ad2 6000) := ⟨τ2, ad2, nb2, tb2, g2, hW3, hJ3.reset, ht2, hO3, rfl, rfl, rfl⟩
  obtain ⟨F3, dn3, op3', sh3, hM3, hV3⟩ := id hJ3
  refine i_istore C dL_law_1434 (kk := ?_)
  refine i_aload_n C dL_law_1436 (kk := ?_)
  refine i_callV C lk_L_122 (c_X7_thrown l hl D (hM := hM3)) (hcl := rfl) (hst := rfl) dL_law_1437 (hw := hM3.obj) (hf := ⟨by show n + 10 + 0 + 0 ≤ 601024; omega, by show k + 200 + 0 + 0 ≤ 7293034; omega⟩) (kk := fun v4 w4 g4 => ?_)
  obtain ⟨rfl, q4⟩ := g4
  have q4 := q4.symm
  subst q4
  refine i_iload C dL_law_1440 (kk := ?_)
  refine i_icmp_eq C dL_law_1442 (tgt := 1447) (kt := fun _ => ?_) (kf := fun hB => absurd rfl hB)
  refine i_iload C dL_law_1447 (kk := ?_)
  refine i_if_ne C dL_law_1449 (tgt := 1464) (kt := fun _ => ?_) (kf := fun hB => ?_)
  · refine i_goto C dL_law_1464 (tgt := 2056) (kk := ?_)
    exact jn _ _ _ _ _ _ _ (Nat.le_refl _) (Nat.le_refl _) hfin
  · have hg3 : g2 0 = (Z32 R.2.1).toInt64 := hg2 hB
    refine i_aload_n C dL_law_1452 (kk := ?_)
    refine i_iconst C dL_law_1453 (kk := ?_)
    refine i_laload C dL_law_1454 (hw := hO3) (kk := ?_)
    show G _ _ _ _ _ (.long (g2 0) :: _)
    rw [hg3]
    refine i_iload C dL_law_1455 (kk := ?_)
    refine i_i2l C dL_law_1457 (kk := ?_)
    refine i_lcmp C dL_law_1458 (kk := ?_)
    rw [lg_same]
    refine i_if_eq C dL_law_1459 (tgt := 1464) (ha := by decide) (kt := fun _ => ?_) (kf := fun hB => absurd rfl hB)
    refine i_goto C dL_law_1464 (tgt := 2056) (kk := ?_)
    exact jn _ _ _ _ _ _ _ (Nat.le_refl _) (Nat.le_refl _) hfin

set_option maxRecDepth 100000 in
set_option maxHeartbeats 4000000 in
theorem k_itemAt {l : Launch} (hl : l.stackTraces = false) {D : gD} {b L : Nat} {xs : Nat → Int32} {G : gG} (C : CxL l D b L xs G) {i n k x0 m0 o0 : Nat} {w : wW} {σ : Sg} {la : Int} {o5 o6 : Option Value} (hi : i + 4 ≤ L) (hL : L ≤ 2048) (hn : n + 10 ≤ 601024) (hk : k + 200 ≤ 7293034) (hI : LInv D w σ la x0 m0 o0) (jn : JN G D b i x0 m0 o0 (n + 10) (k + 200)) : G n k w [some (.ref b), some (.ref x0), some (.ref m0), some (.ref o0), some (.int (Z32 (i : Int))), o5, o6] 1467 [] := by
  obtain ⟨C, hsl, hsd⟩ := C
  obtain ⟨τ, ad, nb, tb, g9, hW, hJ, ht, hO, rfl, rfl, rfl⟩ := hI
  have hr0 := Z32_rng (xs (i + 1))
  have hr1 := Z32_rng (xs (i + 2))
  have hr2 := Z32_rng (xs (i + 3))
  obtain ⟨R, hR⟩ : ∃ R : Rs, R = oItemAt σ (xs (i + 1)).toInt (xs (i + 2)).toInt (xs (i + 3)).toInt := ⟨_, rfl⟩
  have hR3 : 0 ≤ R.1 ∧ R.1 ≤ 3 := by rw [hR]; exact op3_R (by first | rfl | (split <;> rfl))
  refine i_aload_n C dL_law_1467 (kk := ?_)
  refine i_aload_n C dL_law_1468 (kk := ?_)
  refine i_iload C dL_law_1469 (kk := ?_)
  refine i_iconst C dL_law_1471 (kk := ?_)
  refine i_iadd C dL_law_1472 (kk := ?_)
  refine hsd _ _ _ _ _ _ (i + 1) dL_law_1473 (by omega) hL ?_
  refine i_aload_n C dL_law_1474 (kk := ?_)
  refine i_iload C dL_law_1475 (kk := ?_)
  refine i_iconst C dL_law_1477 (kk := ?_)
  refine i_iadd C dL_law_1478 (kk := ?_)
  refine hsd _ _ _ _ _ _ (i + 2) dL_law_1479 (by omega) hL ?_
  refine i_aload_n C dL_law_1480 (kk := ?_)
  refine i_iload C dL_law_1481 (kk := ?_)
  refine i_iconst C dL_law_1483 (kk := ?_)
  refine i_iadd C dL_law_1484 (kk := ?_)
  refine hsd _ _ _ _ _ _ (i + 3) dL_law_1485 (by omega) hL ?_
  refine i_aload_n C dL_law_1486 (kk := ?_)
  refine i_callSH C lk_L_188 (w_itemAt l hl D hW ht hO hr0 hr1 hr2) (hst := rfl) dL_law_1487 (hf := ⟨by show n + 10 ≤ 601024; omega, by show k + 200 ≤ 7293034; omega⟩) (kk := fun v1 w1 g1 => ?_)
  rw [← hR] at g1
  obtain ⟨rfl, τ2, ad2, nb2, tb2, hW2, e0, e5, hk2, g2, hO2, hg2⟩ := g1
  have ht2 : τ2 (ad2 6000) = 6000 := by rw [e5 6000 (by omega), (hk2 _ (by rw [hO]; exact nofun) (by omega)).1]; exact ht
  have hJ2 := hJ.carry e5 ht hk2
  have hI2 := MdI.of hW.1 hJ2
  obtain ⟨fs7, hobj⟩ := hJ2.objx
  rw [← e5 6000 (by omega)] at hO2
  rw [← e0, ← e5 5000 (by omega), ← e5 6000 (by omega)]
  rw [← e0, ← e5 5000 (by omega), ← e5 6000 (by omega)] at jn
  refine i_istore C dL_law_1490 (kk := ?_)
  refine i_aload_n C dL_law_1492 (kk := ?_)
  refine i_aload_n C dL_law_1493 (kk := ?_)
  refine i_iload C dL_law_1494 (kk := ?_)
  refine i_iconst C dL_law_1496 (kk := ?_)
  refine i_iadd C dL_law_1497 (kk := ?_)
  refine hsd _ _ _ _ _ _ (i + 1) dL_law_1498 (by omega) hL ?_
  refine i_aload_n C dL_law_1499 (kk := ?_)
  refine i_iload C dL_law_1500 (kk := ?_)
  refine i_iconst C dL_law_1502 (kk := ?_)
  refine i_iadd C dL_law_1503 (kk := ?_)
  refine hsd _ _ _ _ _ _ (i + 2) dL_law_1504 (by omega) hL ?_
  refine i_aload_n C dL_law_1505 (kk := ?_)
  refine i_iload C dL_law_1506 (kk := ?_)
  refine i_iconst C dL_law_1508 (kk := ?_)
  refine i_iadd C dL_law_1509 (kk := ?_)
  refine hsd _ _ _ _ _ _ (i + 3) dL_law_1510 (by omega) hL ?_
  refine i_callV C lk_L_190 (c_X7_itemAt l hl D (hI := hI2) (i := (xs (i + 1)).toInt) (j := (xs (i + 2)).toInt) (k := (xs (i + 3)).toInt)) (hcl := rfl) (hst := rfl) dL_law_1511 (hw := hobj) (hf := ⟨by show n + 10 + 0 ≤ 601024; omega, by show k + 200 + 0 ≤ 7293034; omega⟩) (kk := fun v3 w3 g3 => ?_)
  rw [← hR] at g3
  obtain ⟨rfl, hJ3⟩ := g3
  have hJ3 : MdJ D w1 w3 τ2 ad2 R.2.2 R.1 := hJ3
  have hW3 := hW2.far hJ3.off (by omega)
  have hO3 : w3 (ad2 6000) = some (lar D 1 g2) := by rw [hJ3.off _ (Or.inr (by omega))]; exact hO2
  have hfin : LInv D w3 R.2.2 R.1 (ad2 0) (ad2 5000) (ad2 6000) := ⟨τ2, ad2, nb2, tb2, g2, hW3, hJ3.reset, ht2, hO3, rfl, rfl, rfl⟩
  obtain ⟨F3, dn3, op3', sh3, hM3, hV3⟩ := id hJ3
  refine i_istore C dL_law_1514 (kk := ?_)
  refine i_aload_n C dL_law_1516 (kk := ?_)
  refine i_callV C lk_L_122 (c_X7_thrown l hl D (hM := hM3)) (hcl := rfl) (hst := rfl) dL_law_1517 (hw := hM3.obj) (hf := ⟨by show n + 10 + 0 + 0 ≤ 601024; omega, by show k + 200 + 0 + 0 ≤ 7293034; omega⟩) (kk := fun v4 w4 g4 => ?_)
  obtain ⟨rfl, q4⟩ := g4
  have q4 := q4.symm
  subst q4
  refine i_iload C dL_law_1520 (kk := ?_)
  refine i_icmp_eq C dL_law_1522 (tgt := 1527) (kt := fun _ => ?_) (kf := fun hB => absurd rfl hB)
  refine i_iload C dL_law_1527 (kk := ?_)
  refine i_if_ne C dL_law_1529 (tgt := 1544) (kt := fun _ => ?_) (kf := fun hB => ?_)
  · refine i_goto C dL_law_1544 (tgt := 2056) (kk := ?_)
    exact jn _ _ _ _ _ _ _ (Nat.le_refl _) (Nat.le_refl _) hfin
  · have hg3 : g2 0 = (Z32 R.2.1).toInt64 := hg2 hB
    refine i_aload_n C dL_law_1532 (kk := ?_)
    refine i_iconst C dL_law_1533 (kk := ?_)
    refine i_laload C dL_law_1534 (hw := hO3) (kk := ?_)
    show G _ _ _ _ _ (.long (g2 0) :: _)
    rw [hg3]
    refine i_iload C dL_law_1535 (kk := ?_)
    refine i_i2l C dL_law_1537 (kk := ?_)
    refine i_lcmp C dL_law_1538 (kk := ?_)
    rw [lg_same]
    refine i_if_eq C dL_law_1539 (tgt := 1544) (ha := by decide) (kt := fun _ => ?_) (kf := fun hB => absurd rfl hB)
    refine i_goto C dL_law_1544 (tgt := 2056) (kk := ?_)
    exact jn _ _ _ _ _ _ _ (Nat.le_refl _) (Nat.le_refl _) hfin

set_option maxRecDepth 100000 in
set_option maxHeartbeats 4000000 in
theorem k_itemAnew {l : Launch} (hl : l.stackTraces = false) {D : gD} {b L : Nat} {xs : Nat → Int32} {G : gG} (C : CxL l D b L xs G) {i n k x0 m0 o0 : Nat} {w : wW} {σ : Sg} {la : Int} {o5 o6 : Option Value} (hi : i + 4 ≤ L) (hL : L ≤ 2048) (hn : n + 10 ≤ 601024) (hk : k + 200 ≤ 7293034) (hI : LInv D w σ la x0 m0 o0) (jn : JN G D b i x0 m0 o0 (n + 10) (k + 200)) : G n k w [some (.ref b), some (.ref x0), some (.ref m0), some (.ref o0), some (.int (Z32 (i : Int))), o5, o6] 1547 [] := by
  obtain ⟨C, hsl, hsd⟩ := C
  obtain ⟨τ, ad, nb, tb, g9, hW, hJ, ht, hO, rfl, rfl, rfl⟩ := hI
  have hr0 := Z32_rng (xs (i + 1))
  have hr1 := Z32_rng (xs (i + 2))
  have hr2 := Z32_rng (xs (i + 3))
  obtain ⟨R, hR⟩ : ∃ R : Rs, R = oItemAt σ (xs (i + 1)).toInt (xs (i + 2)).toInt (xs (i + 3)).toInt := ⟨_, rfl⟩
  have hR3 : 0 ≤ R.1 ∧ R.1 ≤ 3 := by rw [hR]; exact op3_R (by first | rfl | (split <;> rfl))
  refine i_aload_n C dL_law_1547 (kk := ?_)
  refine i_aload_n C dL_law_1548 (kk := ?_)
  refine i_iload C dL_law_1549 (kk := ?_)
  refine i_iconst C dL_law_1551 (kk := ?_)
  refine i_iadd C dL_law_1552 (kk := ?_)
  refine hsd _ _ _ _ _ _ (i + 1) dL_law_1553 (by omega) hL ?_
  refine i_aload_n C dL_law_1554 (kk := ?_)
  refine i_iload C dL_law_1555 (kk := ?_)
  refine i_iconst C dL_law_1557 (kk := ?_)
  refine i_iadd C dL_law_1558 (kk := ?_)
  refine hsd _ _ _ _ _ _ (i + 2) dL_law_1559 (by omega) hL ?_
  refine i_aload_n C dL_law_1560 (kk := ?_)
  refine i_iload C dL_law_1561 (kk := ?_)
  refine i_iconst C dL_law_1563 (kk := ?_)
  refine i_iadd C dL_law_1564 (kk := ?_)
  refine hsd _ _ _ _ _ _ (i + 3) dL_law_1565 (by omega) hL ?_
  refine i_aload_n C dL_law_1566 (kk := ?_)
  refine i_callSH C lk_L_191 (w_itemAnew l hl D hW ht hO hr0 hr1 hr2) (hst := rfl) dL_law_1567 (hf := ⟨by show n + 10 ≤ 601024; omega, by show k + 200 ≤ 7293034; omega⟩) (kk := fun v1 w1 g1 => ?_)
  rw [← hR] at g1
  obtain ⟨rfl, τ2, ad2, nb2, tb2, hW2, e0, e5, hk2, g2, hO2, hg2⟩ := g1
  have ht2 : τ2 (ad2 6000) = 6000 := by rw [e5 6000 (by omega), (hk2 _ (by rw [hO]; exact nofun) (by omega)).1]; exact ht
  have hJ2 := hJ.carry e5 ht hk2
  have hI2 := MdI.of hW.1 hJ2
  obtain ⟨fs7, hobj⟩ := hJ2.objx
  rw [← e5 6000 (by omega)] at hO2
  rw [← e0, ← e5 5000 (by omega), ← e5 6000 (by omega)]
  rw [← e0, ← e5 5000 (by omega), ← e5 6000 (by omega)] at jn
  refine i_istore C dL_law_1570 (kk := ?_)
  refine i_aload_n C dL_law_1572 (kk := ?_)
  refine i_aload_n C dL_law_1573 (kk := ?_)
  refine i_iload C dL_law_1574 (kk := ?_)
  refine i_iconst C dL_law_1576 (kk := ?_)
  refine i_iadd C dL_law_1577 (kk := ?_)
  refine hsd _ _ _ _ _ _ (i + 1) dL_law_1578 (by omega) hL ?_
  refine i_aload_n C dL_law_1579 (kk := ?_)
  refine i_iload C dL_law_1580 (kk := ?_)
  refine i_iconst C dL_law_1582 (kk := ?_)
  refine i_iadd C dL_law_1583 (kk := ?_)
  refine hsd _ _ _ _ _ _ (i + 2) dL_law_1584 (by omega) hL ?_
  refine i_aload_n C dL_law_1585 (kk := ?_)
  refine i_iload C dL_law_1586 (kk := ?_)
  refine i_iconst C dL_law_1588 (kk := ?_)
  refine i_iadd C dL_law_1589 (kk := ?_)
  refine hsd _ _ _ _ _ _ (i + 3) dL_law_1590 (by omega) hL ?_
  refine i_callV C lk_L_193 (c_X7_itemAnew l hl D (hI := hI2) (i := (xs (i + 1)).toInt) (j := (xs (i + 2)).toInt) (k := (xs (i + 3)).toInt)) (hcl := rfl) (hst := rfl) dL_law_1591 (hw := hobj) (hf := ⟨by show n + 10 + 0 ≤ 601024; omega, by show k + 200 + 0 ≤ 7293034; omega⟩) (kk := fun v3 w3 g3 => ?_)
  rw [← hR] at g3
  obtain ⟨rfl, hJ3⟩ := g3
  have hJ3 : MdJ D w1 w3 τ2 ad2 R.2.2 R.1 := hJ3
  have hW3 := hW2.far hJ3.off (by omega)
  have hO3 : w3 (ad2 6000) = some (lar D 1 g2) := by rw [hJ3.off _ (Or.inr (by omega))]; exact hO2
  have hfin : LInv D w3 R.2.2 R.1 (ad2 0) (ad2 5000) (ad2 6000) := ⟨τ2, ad2, nb2, tb2, g2, hW3, hJ3.reset, ht2, hO3, rfl, rfl, rfl⟩
  obtain ⟨F3, dn3, op3', sh3, hM3, hV3⟩ := id hJ3
  refine i_istore C dL_law_1594 (kk := ?_)
  refine i_aload_n C dL_law_1596 (kk := ?_)
  refine i_callV C lk_L_122 (c_X7_thrown l hl D (hM := hM3)) (hcl := rfl) (hst := rfl) dL_law_1597 (hw := hM3.obj) (hf := ⟨by show n + 10 + 0 + 0 ≤ 601024; omega, by show k + 200 + 0 + 0 ≤ 7293034; omega⟩) (kk := fun v4 w4 g4 => ?_)
  obtain ⟨rfl, q4⟩ := g4
  have q4 := q4.symm
  subst q4
  refine i_iload C dL_law_1600 (kk := ?_)
  refine i_icmp_eq C dL_law_1602 (tgt := 1607) (kt := fun _ => ?_) (kf := fun hB => absurd rfl hB)
  refine i_iload C dL_law_1607 (kk := ?_)
  refine i_if_ne C dL_law_1609 (tgt := 1624) (kt := fun _ => ?_) (kf := fun hB => ?_)
  · refine i_goto C dL_law_1624 (tgt := 2056) (kk := ?_)
    exact jn _ _ _ _ _ _ _ (Nat.le_refl _) (Nat.le_refl _) hfin
  · have hg3 : g2 0 = (Z32 R.2.1).toInt64 := hg2 hB
    refine i_aload_n C dL_law_1612 (kk := ?_)
    refine i_iconst C dL_law_1613 (kk := ?_)
    refine i_laload C dL_law_1614 (hw := hO3) (kk := ?_)
    show G _ _ _ _ _ (.long (g2 0) :: _)
    rw [hg3]
    refine i_iload C dL_law_1615 (kk := ?_)
    refine i_i2l C dL_law_1617 (kk := ?_)
    refine i_lcmp C dL_law_1618 (kk := ?_)
    rw [lg_same]
    refine i_if_eq C dL_law_1619 (tgt := 1624) (ha := by decide) (kt := fun _ => ?_) (kf := fun hB => absurd rfl hB)
    refine i_goto C dL_law_1624 (tgt := 2056) (kk := ?_)
    exact jn _ _ _ _ _ _ _ (Nat.le_refl _) (Nat.le_refl _) hfin

set_option maxRecDepth 100000 in
set_option maxHeartbeats 4000000 in
theorem k_sourceAt {l : Launch} (hl : l.stackTraces = false) {D : gD} {b L : Nat} {xs : Nat → Int32} {G : gG} (C : CxL l D b L xs G) {i n k x0 m0 o0 : Nat} {w : wW} {σ : Sg} {la : Int} {o5 o6 : Option Value} (hi : i + 4 ≤ L) (hL : L ≤ 2048) (hn : n + 10 ≤ 601024) (hk : k + 200 ≤ 7293034) (hI : LInv D w σ la x0 m0 o0) (jn : JN G D b i x0 m0 o0 (n + 10) (k + 200)) : G n k w [some (.ref b), some (.ref x0), some (.ref m0), some (.ref o0), some (.int (Z32 (i : Int))), o5, o6] 1627 [] := by
  obtain ⟨C, hsl, hsd⟩ := C
  obtain ⟨τ, ad, nb, tb, g9, hW, hJ, ht, hO, rfl, rfl, rfl⟩ := hI
  have hr0 := Z32_rng (xs (i + 1))
  have hr1 := Z32_rng (xs (i + 2))
  have hr2 := Z32_rng (xs (i + 3))
  obtain ⟨R, hR⟩ : ∃ R : Rs, R = oSourceAt σ (xs (i + 1)).toInt (xs (i + 2)).toInt (xs (i + 3)).toInt := ⟨_, rfl⟩
  have hR3 : 0 ≤ R.1 ∧ R.1 ≤ 3 := by rw [hR]; exact op3_R (by first | rfl | (split <;> rfl))
  refine i_aload_n C dL_law_1627 (kk := ?_)
  refine i_aload_n C dL_law_1628 (kk := ?_)
  refine i_iload C dL_law_1629 (kk := ?_)
  refine i_iconst C dL_law_1631 (kk := ?_)
  refine i_iadd C dL_law_1632 (kk := ?_)
  refine hsd _ _ _ _ _ _ (i + 1) dL_law_1633 (by omega) hL ?_
  refine i_aload_n C dL_law_1634 (kk := ?_)
  refine i_iload C dL_law_1635 (kk := ?_)
  refine i_iconst C dL_law_1637 (kk := ?_)
  refine i_iadd C dL_law_1638 (kk := ?_)
  refine hsd _ _ _ _ _ _ (i + 2) dL_law_1639 (by omega) hL ?_
  refine i_aload_n C dL_law_1640 (kk := ?_)
  refine i_iload C dL_law_1641 (kk := ?_)
  refine i_iconst C dL_law_1643 (kk := ?_)
  refine i_iadd C dL_law_1644 (kk := ?_)
  refine hsd _ _ _ _ _ _ (i + 3) dL_law_1645 (by omega) hL ?_
  refine i_aload_n C dL_law_1646 (kk := ?_)
  refine i_callSH C lk_L_194 (w_sourceAt l hl D hW ht hO hr0 hr1 hr2) (hst := rfl) dL_law_1647 (hf := ⟨by show n + 10 ≤ 601024; omega, by show k + 200 ≤ 7293034; omega⟩) (kk := fun v1 w1 g1 => ?_)
  rw [← hR] at g1
  obtain ⟨rfl, τ2, ad2, nb2, tb2, hW2, e0, e5, hk2, g2, hO2, hg2⟩ := g1
  have ht2 : τ2 (ad2 6000) = 6000 := by rw [e5 6000 (by omega), (hk2 _ (by rw [hO]; exact nofun) (by omega)).1]; exact ht
  have hJ2 := hJ.carry e5 ht hk2
  have hI2 := MdI.of hW.1 hJ2
  obtain ⟨fs7, hobj⟩ := hJ2.objx
  rw [← e5 6000 (by omega)] at hO2
  rw [← e0, ← e5 5000 (by omega), ← e5 6000 (by omega)]
  rw [← e0, ← e5 5000 (by omega), ← e5 6000 (by omega)] at jn
  refine i_istore C dL_law_1650 (kk := ?_)
  refine i_aload_n C dL_law_1652 (kk := ?_)
  refine i_aload_n C dL_law_1653 (kk := ?_)
  refine i_iload C dL_law_1654 (kk := ?_)
  refine i_iconst C dL_law_1656 (kk := ?_)
  refine i_iadd C dL_law_1657 (kk := ?_)
  refine hsd _ _ _ _ _ _ (i + 1) dL_law_1658 (by omega) hL ?_
  refine i_aload_n C dL_law_1659 (kk := ?_)
  refine i_iload C dL_law_1660 (kk := ?_)
  refine i_iconst C dL_law_1662 (kk := ?_)
  refine i_iadd C dL_law_1663 (kk := ?_)
  refine hsd _ _ _ _ _ _ (i + 2) dL_law_1664 (by omega) hL ?_
  refine i_aload_n C dL_law_1665 (kk := ?_)
  refine i_iload C dL_law_1666 (kk := ?_)
  refine i_iconst C dL_law_1668 (kk := ?_)
  refine i_iadd C dL_law_1669 (kk := ?_)
  refine hsd _ _ _ _ _ _ (i + 3) dL_law_1670 (by omega) hL ?_
  refine i_callV C lk_L_196 (c_X7_sourceAt l hl D (hI := hI2) (i := (xs (i + 1)).toInt) (j := (xs (i + 2)).toInt) (k := (xs (i + 3)).toInt)) (hcl := rfl) (hst := rfl) dL_law_1671 (hw := hobj) (hf := ⟨by show n + 10 + 0 ≤ 601024; omega, by show k + 200 + 0 ≤ 7293034; omega⟩) (kk := fun v3 w3 g3 => ?_)
  rw [← hR] at g3
  obtain ⟨rfl, hJ3⟩ := g3
  have hJ3 : MdJ D w1 w3 τ2 ad2 R.2.2 R.1 := hJ3
  have hW3 := hW2.far hJ3.off (by omega)
  have hO3 : w3 (ad2 6000) = some (lar D 1 g2) := by rw [hJ3.off _ (Or.inr (by omega))]; exact hO2
  have hfin : LInv D w3 R.2.2 R.1 (ad2 0) (ad2 5000) (ad2 6000) := ⟨τ2, ad2, nb2, tb2, g2, hW3, hJ3.reset, ht2, hO3, rfl, rfl, rfl⟩
  obtain ⟨F3, dn3, op3', sh3, hM3, hV3⟩ := id hJ3
  refine i_istore C dL_law_1674 (kk := ?_)
  refine i_aload_n C dL_law_1676 (kk := ?_)
  refine i_callV C lk_L_122 (c_X7_thrown l hl D (hM := hM3)) (hcl := rfl) (hst := rfl) dL_law_1677 (hw := hM3.obj) (hf := ⟨by show n + 10 + 0 + 0 ≤ 601024; omega, by show k + 200 + 0 + 0 ≤ 7293034; omega⟩) (kk := fun v4 w4 g4 => ?_)
  obtain ⟨rfl, q4⟩ := g4
  have q4 := q4.symm
  subst q4
  refine i_iload C dL_law_1680 (kk := ?_)
  refine i_icmp_eq C dL_law_1682 (tgt := 1687) (kt := fun _ => ?_) (kf := fun hB => absurd rfl hB)
  refine i_iload C dL_law_1687 (kk := ?_)
  refine i_if_ne C dL_law_1689 (tgt := 1704) (kt := fun _ => ?_) (kf := fun hB => ?_)
  · refine i_goto C dL_law_1704 (tgt := 2056) (kk := ?_)
    exact jn _ _ _ _ _ _ _ (Nat.le_refl _) (Nat.le_refl _) hfin
  · have hg3 : g2 0 = (Z32 R.2.1).toInt64 := hg2 hB
    refine i_aload_n C dL_law_1692 (kk := ?_)
    refine i_iconst C dL_law_1693 (kk := ?_)
    refine i_laload C dL_law_1694 (hw := hO3) (kk := ?_)
    show G _ _ _ _ _ (.long (g2 0) :: _)
    rw [hg3]
    refine i_iload C dL_law_1695 (kk := ?_)
    refine i_i2l C dL_law_1697 (kk := ?_)
    refine i_lcmp C dL_law_1698 (kk := ?_)
    rw [lg_same]
    refine i_if_eq C dL_law_1699 (tgt := 1704) (ha := by decide) (kt := fun _ => ?_) (kf := fun hB => absurd rfl hB)
    refine i_goto C dL_law_1704 (tgt := 2056) (kk := ?_)
    exact jn _ _ _ _ _ _ _ (Nat.le_refl _) (Nat.le_refl _) hfin

set_option maxRecDepth 100000 in
set_option maxHeartbeats 4000000 in
theorem k_standsFor {l : Launch} (hl : l.stackTraces = false) {D : gD} {b L : Nat} {xs : Nat → Int32} {G : gG} (C : CxL l D b L xs G) {i n k x0 m0 o0 : Nat} {w : wW} {σ : Sg} {la : Int} {o5 o6 : Option Value} (hi : i + 4 ≤ L) (hL : L ≤ 2048) (hn : n + 10 ≤ 601024) (hk : k + 200 ≤ 7293034) (hI : LInv D w σ la x0 m0 o0) (jn : JN G D b i x0 m0 o0 (n + 10) (k + 200)) : G n k w [some (.ref b), some (.ref x0), some (.ref m0), some (.ref o0), some (.int (Z32 (i : Int))), o5, o6] 1707 [] := by
  obtain ⟨C, hsl, hsd⟩ := C
  obtain ⟨τ, ad, nb, tb, g9, hW, hJ, ht, hO, rfl, rfl, rfl⟩ := hI
  have hr0 := Z32_rng (xs (i + 1))
  obtain ⟨R, hR⟩ : ∃ R : Rs, R = oStandsFor σ (xs (i + 1)).toInt := ⟨_, rfl⟩
  have hR3 : 0 ≤ R.1 ∧ R.1 ≤ 3 := by rw [hR]; exact op3_R (by first | rfl | (split <;> rfl))
  refine i_aload_n C dL_law_1707 (kk := ?_)
  refine i_aload_n C dL_law_1708 (kk := ?_)
  refine i_iload C dL_law_1709 (kk := ?_)
  refine i_iconst C dL_law_1711 (kk := ?_)
  refine i_iadd C dL_law_1712 (kk := ?_)
  refine hsd _ _ _ _ _ _ (i + 1) dL_law_1713 (by omega) hL ?_
  refine i_aload_n C dL_law_1714 (kk := ?_)
  refine i_callSH C lk_L_197 (w_standsFor l hl D hW ht hO hr0) (hst := rfl) dL_law_1715 (hf := ⟨by show n + 10 ≤ 601024; omega, by show k + 200 ≤ 7293034; omega⟩) (kk := fun v1 w1 g1 => ?_)
  rw [← hR] at g1
  obtain ⟨rfl, τ2, ad2, nb2, tb2, hW2, e0, e5, hk2, g2, hO2, hg2⟩ := g1
  have ht2 : τ2 (ad2 6000) = 6000 := by rw [e5 6000 (by omega), (hk2 _ (by rw [hO]; exact nofun) (by omega)).1]; exact ht
  have hJ2 := hJ.carry e5 ht hk2
  have hI2 := MdI.of hW.1 hJ2
  obtain ⟨fs7, hobj⟩ := hJ2.objx
  rw [← e5 6000 (by omega)] at hO2
  rw [← e0, ← e5 5000 (by omega), ← e5 6000 (by omega)]
  rw [← e0, ← e5 5000 (by omega), ← e5 6000 (by omega)] at jn
  refine i_istore C dL_law_1718 (kk := ?_)
  refine i_aload_n C dL_law_1720 (kk := ?_)
  refine i_aload_n C dL_law_1721 (kk := ?_)
  refine i_iload C dL_law_1722 (kk := ?_)
  refine i_iconst C dL_law_1724 (kk := ?_)
  refine i_iadd C dL_law_1725 (kk := ?_)
  refine hsd _ _ _ _ _ _ (i + 1) dL_law_1726 (by omega) hL ?_
  refine i_callV C lk_L_199 (c_X7_standsFor l hl D (hI := hI2) (i := (xs (i + 1)).toInt) (hI9 := hW.it)) (hcl := rfl) (hst := rfl) dL_law_1727 (hw := hobj) (hf := ⟨by show n + 10 + 0 ≤ 601024; omega, by show k + 200 + 0 ≤ 7293034; omega⟩) (kk := fun v3 w3 g3 => ?_)
  rw [← hR] at g3
  obtain ⟨rfl, hJ3⟩ := g3
  have hJ3 : MdJ D w1 w3 τ2 ad2 R.2.2 R.1 := hJ3
  have hW3 := hW2.far hJ3.off (by omega)
  have hO3 : w3 (ad2 6000) = some (lar D 1 g2) := by rw [hJ3.off _ (Or.inr (by omega))]; exact hO2
  have hfin : LInv D w3 R.2.2 R.1 (ad2 0) (ad2 5000) (ad2 6000) := ⟨τ2, ad2, nb2, tb2, g2, hW3, hJ3.reset, ht2, hO3, rfl, rfl, rfl⟩
  obtain ⟨F3, dn3, op3', sh3, hM3, hV3⟩ := id hJ3
  refine i_istore C dL_law_1730 (kk := ?_)
  refine i_aload_n C dL_law_1732 (kk := ?_)
  refine i_callV C lk_L_122 (c_X7_thrown l hl D (hM := hM3)) (hcl := rfl) (hst := rfl) dL_law_1733 (hw := hM3.obj) (hf := ⟨by show n + 10 + 0 + 0 ≤ 601024; omega, by show k + 200 + 0 + 0 ≤ 7293034; omega⟩) (kk := fun v4 w4 g4 => ?_)
  obtain ⟨rfl, q4⟩ := g4
  have q4 := q4.symm
  subst q4
  refine i_iload C dL_law_1736 (kk := ?_)
  refine i_icmp_eq C dL_law_1738 (tgt := 1743) (kt := fun _ => ?_) (kf := fun hB => absurd rfl hB)
  refine i_iload C dL_law_1743 (kk := ?_)
  refine i_if_ne C dL_law_1745 (tgt := 1760) (kt := fun _ => ?_) (kf := fun hB => ?_)
  · refine i_goto C dL_law_1760 (tgt := 2056) (kk := ?_)
    exact jn _ _ _ _ _ _ _ (Nat.le_refl _) (Nat.le_refl _) hfin
  · have hg3 : g2 0 = (Z32 R.2.1).toInt64 := hg2 hB
    refine i_aload_n C dL_law_1748 (kk := ?_)
    refine i_iconst C dL_law_1749 (kk := ?_)
    refine i_laload C dL_law_1750 (hw := hO3) (kk := ?_)
    show G _ _ _ _ _ (.long (g2 0) :: _)
    rw [hg3]
    refine i_iload C dL_law_1751 (kk := ?_)
    refine i_i2l C dL_law_1753 (kk := ?_)
    refine i_lcmp C dL_law_1754 (kk := ?_)
    rw [lg_same]
    refine i_if_eq C dL_law_1755 (tgt := 1760) (ha := by decide) (kt := fun _ => ?_) (kf := fun hB => absurd rfl hB)
    refine i_goto C dL_law_1760 (tgt := 2056) (kk := ?_)
    exact jn _ _ _ _ _ _ _ (Nat.le_refl _) (Nat.le_refl _) hfin

set_option maxRecDepth 100000 in
set_option maxHeartbeats 4000000 in
theorem k_links {l : Launch} (hl : l.stackTraces = false) {D : gD} {b L : Nat} {xs : Nat → Int32} {G : gG} (C : CxL l D b L xs G) {i n k x0 m0 o0 : Nat} {w : wW} {σ : Sg} {la : Int} {o5 o6 : Option Value} (hi : i + 4 ≤ L) (hL : L ≤ 2048) (hn : n + 10 ≤ 601024) (hk : k + 200 ≤ 7293034) (hI : LInv D w σ la x0 m0 o0) (jn : JN G D b i x0 m0 o0 (n + 10) (k + 200)) : G n k w [some (.ref b), some (.ref x0), some (.ref m0), some (.ref o0), some (.int (Z32 (i : Int))), o5, o6] 1763 [] := by
  obtain ⟨C, hsl, hsd⟩ := C
  obtain ⟨τ, ad, nb, tb, g9, hW, hJ, ht, hO, rfl, rfl, rfl⟩ := hI
  have hr0 := Z32_rng (xs (i + 1))
  obtain ⟨R, hR⟩ : ∃ R : Rs, R = oLinks σ (xs (i + 1)).toInt := ⟨_, rfl⟩
  have hR3 : 0 ≤ R.1 ∧ R.1 ≤ 3 := by rw [hR]; exact op3_R (by first | rfl | (split <;> rfl))
  refine i_aload_n C dL_law_1763 (kk := ?_)
  refine i_aload_n C dL_law_1764 (kk := ?_)
  refine i_iload C dL_law_1765 (kk := ?_)
  refine i_iconst C dL_law_1767 (kk := ?_)
  refine i_iadd C dL_law_1768 (kk := ?_)
  refine hsd _ _ _ _ _ _ (i + 1) dL_law_1769 (by omega) hL ?_
  refine i_aload_n C dL_law_1770 (kk := ?_)
  refine i_callSH C lk_L_200 (w_links l hl D hW ht hO hr0) (hst := rfl) dL_law_1771 (hf := ⟨by show n + 10 ≤ 601024; omega, by show k + 200 ≤ 7293034; omega⟩) (kk := fun v1 w1 g1 => ?_)
  rw [← hR] at g1
  obtain ⟨rfl, τ2, ad2, nb2, tb2, hW2, e0, e5, hk2, g2, hO2, hg2⟩ := g1
  have ht2 : τ2 (ad2 6000) = 6000 := by rw [e5 6000 (by omega), (hk2 _ (by rw [hO]; exact nofun) (by omega)).1]; exact ht
  have hJ2 := hJ.carry e5 ht hk2
  have hI2 := MdI.of hW.1 hJ2
  obtain ⟨fs7, hobj⟩ := hJ2.objx
  rw [← e5 6000 (by omega)] at hO2
  rw [← e0, ← e5 5000 (by omega), ← e5 6000 (by omega)]
  rw [← e0, ← e5 5000 (by omega), ← e5 6000 (by omega)] at jn
  refine i_istore C dL_law_1774 (kk := ?_)
  refine i_aload_n C dL_law_1776 (kk := ?_)
  refine i_aload_n C dL_law_1777 (kk := ?_)
  refine i_iload C dL_law_1778 (kk := ?_)
  refine i_iconst C dL_law_1780 (kk := ?_)
  refine i_iadd C dL_law_1781 (kk := ?_)
  refine hsd _ _ _ _ _ _ (i + 1) dL_law_1782 (by omega) hL ?_
  refine i_callV C lk_L_202 (c_X7_links l hl D (hI := hI2) (i := (xs (i + 1)).toInt) (hI9 := hW.it)) (hcl := rfl) (hst := rfl) dL_law_1783 (hw := hobj) (hf := ⟨by show n + 10 + 0 ≤ 601024; omega, by show k + 200 + 0 ≤ 7293034; omega⟩) (kk := fun v3 w3 g3 => ?_)
  rw [← hR] at g3
  obtain ⟨rfl, hJ3⟩ := g3
  have hJ3 : MdJ D w1 w3 τ2 ad2 R.2.2 R.1 := hJ3
  have hW3 := hW2.far hJ3.off (by omega)
  have hO3 : w3 (ad2 6000) = some (lar D 1 g2) := by rw [hJ3.off _ (Or.inr (by omega))]; exact hO2
  have hfin : LInv D w3 R.2.2 R.1 (ad2 0) (ad2 5000) (ad2 6000) := ⟨τ2, ad2, nb2, tb2, g2, hW3, hJ3.reset, ht2, hO3, rfl, rfl, rfl⟩
  obtain ⟨F3, dn3, op3', sh3, hM3, hV3⟩ := id hJ3
  refine i_istore C dL_law_1786 (kk := ?_)
  refine i_aload_n C dL_law_1788 (kk := ?_)
  refine i_callV C lk_L_122 (c_X7_thrown l hl D (hM := hM3)) (hcl := rfl) (hst := rfl) dL_law_1789 (hw := hM3.obj) (hf := ⟨by show n + 10 + 0 + 0 ≤ 601024; omega, by show k + 200 + 0 + 0 ≤ 7293034; omega⟩) (kk := fun v4 w4 g4 => ?_)
  obtain ⟨rfl, q4⟩ := g4
  have q4 := q4.symm
  subst q4
  refine i_iload C dL_law_1792 (kk := ?_)
  refine i_icmp_eq C dL_law_1794 (tgt := 1799) (kt := fun _ => ?_) (kf := fun hB => absurd rfl hB)
  refine i_iload C dL_law_1799 (kk := ?_)
  refine i_if_ne C dL_law_1801 (tgt := 1816) (kt := fun _ => ?_) (kf := fun hB => ?_)
  · refine i_goto C dL_law_1816 (tgt := 2056) (kk := ?_)
    exact jn _ _ _ _ _ _ _ (Nat.le_refl _) (Nat.le_refl _) hfin
  · have hg3 : g2 0 = (Z32 R.2.1).toInt64 := hg2 hB
    refine i_aload_n C dL_law_1804 (kk := ?_)
    refine i_iconst C dL_law_1805 (kk := ?_)
    refine i_laload C dL_law_1806 (hw := hO3) (kk := ?_)
    show G _ _ _ _ _ (.long (g2 0) :: _)
    rw [hg3]
    refine i_iload C dL_law_1807 (kk := ?_)
    refine i_i2l C dL_law_1809 (kk := ?_)
    refine i_lcmp C dL_law_1810 (kk := ?_)
    rw [lg_same]
    refine i_if_eq C dL_law_1811 (tgt := 1816) (ha := by decide) (kt := fun _ => ?_) (kf := fun hB => absurd rfl hB)
    refine i_goto C dL_law_1816 (tgt := 2056) (kk := ?_)
    exact jn _ _ _ _ _ _ _ (Nat.le_refl _) (Nat.le_refl _) hfin

set_option maxRecDepth 100000 in
set_option maxHeartbeats 4000000 in
theorem k_broken {l : Launch} (hl : l.stackTraces = false) {D : gD} {b L : Nat} {xs : Nat → Int32} {G : gG} (C : CxL l D b L xs G) {i n k x0 m0 o0 : Nat} {w : wW} {σ : Sg} {la : Int} {o5 o6 : Option Value} (hi : i + 4 ≤ L) (hL : L ≤ 2048) (hn : n + 10 ≤ 601024) (hk : k + 200 ≤ 7293034) (hI : LInv D w σ la x0 m0 o0) (jn : JN G D b i x0 m0 o0 (n + 10) (k + 200)) : G n k w [some (.ref b), some (.ref x0), some (.ref m0), some (.ref o0), some (.int (Z32 (i : Int))), o5, o6] 1819 [] := by
  obtain ⟨C, hsl, hsd⟩ := C
  obtain ⟨τ, ad, nb, tb, g9, hW, hJ, ht, hO, rfl, rfl, rfl⟩ := hI
  have hr0 := Z32_rng (xs (i + 1))
  obtain ⟨R, hR⟩ : ∃ R : Rs, R = oBroken σ (xs (i + 1)).toInt := ⟨_, rfl⟩
  have hR3 : 0 ≤ R.1 ∧ R.1 ≤ 3 := by rw [hR]; exact op3_R (by first | rfl | (split <;> rfl))
  refine i_aload_n C dL_law_1819 (kk := ?_)
  refine i_aload_n C dL_law_1820 (kk := ?_)
  refine i_iload C dL_law_1821 (kk := ?_)
  refine i_iconst C dL_law_1823 (kk := ?_)
  refine i_iadd C dL_law_1824 (kk := ?_)
  refine hsd _ _ _ _ _ _ (i + 1) dL_law_1825 (by omega) hL ?_
  refine i_aload_n C dL_law_1826 (kk := ?_)
  refine i_callSH C lk_L_203 (w_broken l hl D hW ht hO hr0) (hst := rfl) dL_law_1827 (hf := ⟨by show n + 10 ≤ 601024; omega, by show k + 200 ≤ 7293034; omega⟩) (kk := fun v1 w1 g1 => ?_)
  rw [← hR] at g1
  obtain ⟨rfl, τ2, ad2, nb2, tb2, hW2, e0, e5, hk2, g2, hO2, hg2⟩ := g1
  have ht2 : τ2 (ad2 6000) = 6000 := by rw [e5 6000 (by omega), (hk2 _ (by rw [hO]; exact nofun) (by omega)).1]; exact ht
  have hJ2 := hJ.carry e5 ht hk2
  have hI2 := MdI.of hW.1 hJ2
  obtain ⟨fs7, hobj⟩ := hJ2.objx
  rw [← e5 6000 (by omega)] at hO2
  rw [← e0, ← e5 5000 (by omega), ← e5 6000 (by omega)]
  rw [← e0, ← e5 5000 (by omega), ← e5 6000 (by omega)] at jn
  refine i_istore C dL_law_1830 (kk := ?_)
  refine i_aload_n C dL_law_1832 (kk := ?_)
  refine i_aload_n C dL_law_1833 (kk := ?_)
  refine i_iload C dL_law_1834 (kk := ?_)
  refine i_iconst C dL_law_1836 (kk := ?_)
  refine i_iadd C dL_law_1837 (kk := ?_)
  refine hsd _ _ _ _ _ _ (i + 1) dL_law_1838 (by omega) hL ?_
  refine i_callV C lk_L_205 (c_X7_broken l hl D (hI := hI2) (i := (xs (i + 1)).toInt) (hI9 := hW.it)) (hcl := rfl) (hst := rfl) dL_law_1839 (hw := hobj) (hf := ⟨by show n + 10 + 0 ≤ 601024; omega, by show k + 200 + 0 ≤ 7293034; omega⟩) (kk := fun v3 w3 g3 => ?_)
  rw [← hR] at g3
  obtain ⟨rfl, hJ3⟩ := g3
  have hJ3 : MdJ D w1 w3 τ2 ad2 R.2.2 R.1 := hJ3
  have hW3 := hW2.far hJ3.off (by omega)
  have hO3 : w3 (ad2 6000) = some (lar D 1 g2) := by rw [hJ3.off _ (Or.inr (by omega))]; exact hO2
  have hfin : LInv D w3 R.2.2 R.1 (ad2 0) (ad2 5000) (ad2 6000) := ⟨τ2, ad2, nb2, tb2, g2, hW3, hJ3.reset, ht2, hO3, rfl, rfl, rfl⟩
  obtain ⟨F3, dn3, op3', sh3, hM3, hV3⟩ := id hJ3
  refine i_istore C dL_law_1842 (kk := ?_)
  refine i_aload_n C dL_law_1844 (kk := ?_)
  refine i_callV C lk_L_122 (c_X7_thrown l hl D (hM := hM3)) (hcl := rfl) (hst := rfl) dL_law_1845 (hw := hM3.obj) (hf := ⟨by show n + 10 + 0 + 0 ≤ 601024; omega, by show k + 200 + 0 + 0 ≤ 7293034; omega⟩) (kk := fun v4 w4 g4 => ?_)
  obtain ⟨rfl, q4⟩ := g4
  have q4 := q4.symm
  subst q4
  refine i_iload C dL_law_1848 (kk := ?_)
  refine i_icmp_eq C dL_law_1850 (tgt := 1855) (kt := fun _ => ?_) (kf := fun hB => absurd rfl hB)
  refine i_iload C dL_law_1855 (kk := ?_)
  refine i_if_ne C dL_law_1857 (tgt := 1872) (kt := fun _ => ?_) (kf := fun hB => ?_)
  · refine i_goto C dL_law_1872 (tgt := 2056) (kk := ?_)
    exact jn _ _ _ _ _ _ _ (Nat.le_refl _) (Nat.le_refl _) hfin
  · have hg3 : g2 0 = (Z32 R.2.1).toInt64 := hg2 hB
    refine i_aload_n C dL_law_1860 (kk := ?_)
    refine i_iconst C dL_law_1861 (kk := ?_)
    refine i_laload C dL_law_1862 (hw := hO3) (kk := ?_)
    show G _ _ _ _ _ (.long (g2 0) :: _)
    rw [hg3]
    refine i_iload C dL_law_1863 (kk := ?_)
    refine i_i2l C dL_law_1865 (kk := ?_)
    refine i_lcmp C dL_law_1866 (kk := ?_)
    rw [lg_same]
    refine i_if_eq C dL_law_1867 (tgt := 1872) (ha := by decide) (kt := fun _ => ?_) (kf := fun hB => absurd rfl hB)
    refine i_goto C dL_law_1872 (tgt := 2056) (kk := ?_)
    exact jn _ _ _ _ _ _ _ (Nat.le_refl _) (Nat.le_refl _) hfin

set_option maxRecDepth 100000 in
set_option maxHeartbeats 4000000 in
theorem k_firstBroken {l : Launch} (hl : l.stackTraces = false) {D : gD} {b L : Nat} {xs : Nat → Int32} {G : gG} (C : CxL l D b L xs G) {i n k x0 m0 o0 : Nat} {w : wW} {σ : Sg} {la : Int} {o5 o6 : Option Value} (hi : i + 4 ≤ L) (hL : L ≤ 2048) (hn : n + 10 ≤ 601024) (hk : k + 200 ≤ 7293034) (hI : LInv D w σ la x0 m0 o0) (jn : JN G D b i x0 m0 o0 (n + 10) (k + 200)) : G n k w [some (.ref b), some (.ref x0), some (.ref m0), some (.ref o0), some (.int (Z32 (i : Int))), o5, o6] 1875 [] := by
  obtain ⟨C, hsl, hsd⟩ := C
  obtain ⟨τ, ad, nb, tb, g9, hW, hJ, ht, hO, rfl, rfl, rfl⟩ := hI
  have hr0 := Z32_rng (xs (i + 1))
  obtain ⟨R, hR⟩ : ∃ R : Rs, R = oFirstBroken σ (xs (i + 1)).toInt := ⟨_, rfl⟩
  have hR3 : 0 ≤ R.1 ∧ R.1 ≤ 3 := by rw [hR]; exact op3_R (by first | rfl | (split <;> rfl))
  refine i_aload_n C dL_law_1875 (kk := ?_)
  refine i_aload_n C dL_law_1876 (kk := ?_)
  refine i_iload C dL_law_1877 (kk := ?_)
  refine i_iconst C dL_law_1879 (kk := ?_)
  refine i_iadd C dL_law_1880 (kk := ?_)
  refine hsd _ _ _ _ _ _ (i + 1) dL_law_1881 (by omega) hL ?_
  refine i_aload_n C dL_law_1882 (kk := ?_)
  refine i_callSH C lk_L_206 (w_firstBroken l hl D hW ht hO hr0) (hst := rfl) dL_law_1883 (hf := ⟨by show n + 10 ≤ 601024; omega, by show k + 200 ≤ 7293034; omega⟩) (kk := fun v1 w1 g1 => ?_)
  rw [← hR] at g1
  obtain ⟨rfl, τ2, ad2, nb2, tb2, hW2, e0, e5, hk2, g2, hO2, hg2⟩ := g1
  have ht2 : τ2 (ad2 6000) = 6000 := by rw [e5 6000 (by omega), (hk2 _ (by rw [hO]; exact nofun) (by omega)).1]; exact ht
  have hJ2 := hJ.carry e5 ht hk2
  have hI2 := MdI.of hW.1 hJ2
  obtain ⟨fs7, hobj⟩ := hJ2.objx
  rw [← e5 6000 (by omega)] at hO2
  rw [← e0, ← e5 5000 (by omega), ← e5 6000 (by omega)]
  rw [← e0, ← e5 5000 (by omega), ← e5 6000 (by omega)] at jn
  refine i_istore C dL_law_1886 (kk := ?_)
  refine i_aload_n C dL_law_1888 (kk := ?_)
  refine i_aload_n C dL_law_1889 (kk := ?_)
  refine i_iload C dL_law_1890 (kk := ?_)
  refine i_iconst C dL_law_1892 (kk := ?_)
  refine i_iadd C dL_law_1893 (kk := ?_)
  refine hsd _ _ _ _ _ _ (i + 1) dL_law_1894 (by omega) hL ?_
  refine i_callV C lk_L_208 (c_X7_firstBroken l hl D (hI := hI2) (i := (xs (i + 1)).toInt) (hI9 := hW.it)) (hcl := rfl) (hst := rfl) dL_law_1895 (hw := hobj) (hf := ⟨by show n + 10 + 0 ≤ 601024; omega, by show k + 200 + 0 ≤ 7293034; omega⟩) (kk := fun v3 w3 g3 => ?_)
  rw [← hR] at g3
  obtain ⟨rfl, hJ3⟩ := g3
  have hJ3 : MdJ D w1 w3 τ2 ad2 R.2.2 R.1 := hJ3
  have hW3 := hW2.far hJ3.off (by omega)
  have hO3 : w3 (ad2 6000) = some (lar D 1 g2) := by rw [hJ3.off _ (Or.inr (by omega))]; exact hO2
  have hfin : LInv D w3 R.2.2 R.1 (ad2 0) (ad2 5000) (ad2 6000) := ⟨τ2, ad2, nb2, tb2, g2, hW3, hJ3.reset, ht2, hO3, rfl, rfl, rfl⟩
  obtain ⟨F3, dn3, op3', sh3, hM3, hV3⟩ := id hJ3
  refine i_istore C dL_law_1898 (kk := ?_)
  refine i_aload_n C dL_law_1900 (kk := ?_)
  refine i_callV C lk_L_122 (c_X7_thrown l hl D (hM := hM3)) (hcl := rfl) (hst := rfl) dL_law_1901 (hw := hM3.obj) (hf := ⟨by show n + 10 + 0 + 0 ≤ 601024; omega, by show k + 200 + 0 + 0 ≤ 7293034; omega⟩) (kk := fun v4 w4 g4 => ?_)
  obtain ⟨rfl, q4⟩ := g4
  have q4 := q4.symm
  subst q4
  refine i_iload C dL_law_1904 (kk := ?_)
  refine i_icmp_eq C dL_law_1906 (tgt := 1911) (kt := fun _ => ?_) (kf := fun hB => absurd rfl hB)
  refine i_iload C dL_law_1911 (kk := ?_)
  refine i_if_ne C dL_law_1913 (tgt := 1928) (kt := fun _ => ?_) (kf := fun hB => ?_)
  · refine i_goto C dL_law_1928 (tgt := 2056) (kk := ?_)
    exact jn _ _ _ _ _ _ _ (Nat.le_refl _) (Nat.le_refl _) hfin
  · have hg3 : g2 0 = (Z32 R.2.1).toInt64 := hg2 hB
    refine i_aload_n C dL_law_1916 (kk := ?_)
    refine i_iconst C dL_law_1917 (kk := ?_)
    refine i_laload C dL_law_1918 (hw := hO3) (kk := ?_)
    show G _ _ _ _ _ (.long (g2 0) :: _)
    rw [hg3]
    refine i_iload C dL_law_1919 (kk := ?_)
    refine i_i2l C dL_law_1921 (kk := ?_)
    refine i_lcmp C dL_law_1922 (kk := ?_)
    rw [lg_same]
    refine i_if_eq C dL_law_1923 (tgt := 1928) (ha := by decide) (kt := fun _ => ?_) (kf := fun hB => absurd rfl hB)
    refine i_goto C dL_law_1928 (tgt := 2056) (kk := ?_)
    exact jn _ _ _ _ _ _ _ (Nat.le_refl _) (Nat.le_refl _) hfin

set_option maxRecDepth 100000 in
set_option maxHeartbeats 4000000 in
theorem k_linkedFrom {l : Launch} (hl : l.stackTraces = false) {D : gD} {b L : Nat} {xs : Nat → Int32} {G : gG} (C : CxL l D b L xs G) {i n k x0 m0 o0 : Nat} {w : wW} {σ : Sg} {la : Int} {o5 o6 : Option Value} (hi : i + 4 ≤ L) (hL : L ≤ 2048) (hn : n + 10 ≤ 601024) (hk : k + 200 ≤ 7293034) (hI : LInv D w σ la x0 m0 o0) (jn : JN G D b i x0 m0 o0 (n + 10) (k + 200)) : G n k w [some (.ref b), some (.ref x0), some (.ref m0), some (.ref o0), some (.int (Z32 (i : Int))), o5, o6] 1931 [] := by
  obtain ⟨C, hsl, hsd⟩ := C
  obtain ⟨τ, ad, nb, tb, g9, hW, hJ, ht, hO, rfl, rfl, rfl⟩ := hI
  have hr0 := Z32_rng (xs (i + 1))
  obtain ⟨R, hR⟩ : ∃ R : Rs, R = oLinkedFrom σ (xs (i + 1)).toInt := ⟨_, rfl⟩
  have hR3 : 0 ≤ R.1 ∧ R.1 ≤ 3 := by rw [hR]; exact op3_R (by first | rfl | (split <;> rfl))
  refine i_aload_n C dL_law_1931 (kk := ?_)
  refine i_aload_n C dL_law_1932 (kk := ?_)
  refine i_iload C dL_law_1933 (kk := ?_)
  refine i_iconst C dL_law_1935 (kk := ?_)
  refine i_iadd C dL_law_1936 (kk := ?_)
  refine hsd _ _ _ _ _ _ (i + 1) dL_law_1937 (by omega) hL ?_
  refine i_aload_n C dL_law_1938 (kk := ?_)
  refine i_callSH C lk_L_209 (w_linkedFrom l hl D hW ht hO hr0) (hst := rfl) dL_law_1939 (hf := ⟨by show n + 10 ≤ 601024; omega, by show k + 200 ≤ 7293034; omega⟩) (kk := fun v1 w1 g1 => ?_)
  rw [← hR] at g1
  obtain ⟨rfl, τ2, ad2, nb2, tb2, hW2, e0, e5, hk2, g2, hO2, hg2⟩ := g1
  have ht2 : τ2 (ad2 6000) = 6000 := by rw [e5 6000 (by omega), (hk2 _ (by rw [hO]; exact nofun) (by omega)).1]; exact ht
  have hJ2 := hJ.carry e5 ht hk2
  have hI2 := MdI.of hW.1 hJ2
  obtain ⟨fs7, hobj⟩ := hJ2.objx
  rw [← e5 6000 (by omega)] at hO2
  rw [← e0, ← e5 5000 (by omega), ← e5 6000 (by omega)]
  rw [← e0, ← e5 5000 (by omega), ← e5 6000 (by omega)] at jn
  refine i_istore C dL_law_1942 (kk := ?_)
  refine i_aload_n C dL_law_1944 (kk := ?_)
  refine i_aload_n C dL_law_1945 (kk := ?_)
  refine i_iload C dL_law_1946 (kk := ?_)
  refine i_iconst C dL_law_1948 (kk := ?_)
  refine i_iadd C dL_law_1949 (kk := ?_)
  refine hsd _ _ _ _ _ _ (i + 1) dL_law_1950 (by omega) hL ?_
  refine i_callV C lk_L_211 (c_X7_linkedFrom l hl D (hI := hI2) (i := (xs (i + 1)).toInt) (hI9 := hW.it)) (hcl := rfl) (hst := rfl) dL_law_1951 (hw := hobj) (hf := ⟨by show n + 10 + 0 ≤ 601024; omega, by show k + 200 + 0 ≤ 7293034; omega⟩) (kk := fun v3 w3 g3 => ?_)
  rw [← hR] at g3
  obtain ⟨rfl, hJ3⟩ := g3
  have hJ3 : MdJ D w1 w3 τ2 ad2 R.2.2 R.1 := hJ3
  have hW3 := hW2.far hJ3.off (by omega)
  have hO3 : w3 (ad2 6000) = some (lar D 1 g2) := by rw [hJ3.off _ (Or.inr (by omega))]; exact hO2
  have hfin : LInv D w3 R.2.2 R.1 (ad2 0) (ad2 5000) (ad2 6000) := ⟨τ2, ad2, nb2, tb2, g2, hW3, hJ3.reset, ht2, hO3, rfl, rfl, rfl⟩
  obtain ⟨F3, dn3, op3', sh3, hM3, hV3⟩ := id hJ3
  refine i_istore C dL_law_1954 (kk := ?_)
  refine i_aload_n C dL_law_1956 (kk := ?_)
  refine i_callV C lk_L_122 (c_X7_thrown l hl D (hM := hM3)) (hcl := rfl) (hst := rfl) dL_law_1957 (hw := hM3.obj) (hf := ⟨by show n + 10 + 0 + 0 ≤ 601024; omega, by show k + 200 + 0 + 0 ≤ 7293034; omega⟩) (kk := fun v4 w4 g4 => ?_)
  obtain ⟨rfl, q4⟩ := g4
  have q4 := q4.symm
  subst q4
  refine i_iload C dL_law_1960 (kk := ?_)
  refine i_icmp_eq C dL_law_1962 (tgt := 1967) (kt := fun _ => ?_) (kf := fun hB => absurd rfl hB)
  refine i_iload C dL_law_1967 (kk := ?_)
  refine i_if_ne C dL_law_1969 (tgt := 1984) (kt := fun _ => ?_) (kf := fun hB => ?_)
  · refine i_goto C dL_law_1984 (tgt := 2056) (kk := ?_)
    exact jn _ _ _ _ _ _ _ (Nat.le_refl _) (Nat.le_refl _) hfin
  · have hg3 : g2 0 = (Z32 R.2.1).toInt64 := hg2 hB
    refine i_aload_n C dL_law_1972 (kk := ?_)
    refine i_iconst C dL_law_1973 (kk := ?_)
    refine i_laload C dL_law_1974 (hw := hO3) (kk := ?_)
    show G _ _ _ _ _ (.long (g2 0) :: _)
    rw [hg3]
    refine i_iload C dL_law_1975 (kk := ?_)
    refine i_i2l C dL_law_1977 (kk := ?_)
    refine i_lcmp C dL_law_1978 (kk := ?_)
    rw [lg_same]
    refine i_if_eq C dL_law_1979 (tgt := 1984) (ha := by decide) (kt := fun _ => ?_) (kf := fun hB => absurd rfl hB)
    refine i_goto C dL_law_1984 (tgt := 2056) (kk := ?_)
    exact jn _ _ _ _ _ _ _ (Nat.le_refl _) (Nat.le_refl _) hfin

set_option maxRecDepth 100000 in
set_option maxHeartbeats 4000000 in
theorem k_breaches {l : Launch} (hl : l.stackTraces = false) {D : gD} {b L : Nat} {xs : Nat → Int32} {G : gG} (C : CxL l D b L xs G) {i n k x0 m0 o0 : Nat} {w : wW} {σ : Sg} {la : Int} {o5 o6 : Option Value} (hi : i + 4 ≤ L) (hL : L ≤ 2048) (hn : n + 10 ≤ 601024) (hk : k + 200 ≤ 7293034) (hI : LInv D w σ la x0 m0 o0) (jn : JN G D b i x0 m0 o0 (n + 10) (k + 200)) : G n k w [some (.ref b), some (.ref x0), some (.ref m0), some (.ref o0), some (.int (Z32 (i : Int))), o5, o6] 1987 [] := by
  obtain ⟨C, hsl, hsd⟩ := C
  obtain ⟨τ, ad, nb, tb, g9, hW, hJ, ht, hO, rfl, rfl, rfl⟩ := hI
  have hr0 := Z32_rng (xs (i + 1))
  obtain ⟨R, hR⟩ : ∃ R : Rs, R = oBreaches σ (xs (i + 1)).toInt := ⟨_, rfl⟩
  have hR3 : 0 ≤ R.1 ∧ R.1 ≤ 3 := by rw [hR]; exact op3_R (by first | rfl | (split <;> rfl))
  refine i_aload_n C dL_law_1987 (kk := ?_)
  refine i_aload_n C dL_law_1988 (kk := ?_)
  refine i_iload C dL_law_1989 (kk := ?_)
  refine i_iconst C dL_law_1991 (kk := ?_)
  refine i_iadd C dL_law_1992 (kk := ?_)
  refine hsd _ _ _ _ _ _ (i + 1) dL_law_1993 (by omega) hL ?_
  refine i_aload_n C dL_law_1994 (kk := ?_)
  refine i_callSH C lk_L_212 (w_breaches l hl D hW ht hO hr0) (hst := rfl) dL_law_1995 (hf := ⟨by show n + 10 ≤ 601024; omega, by show k + 200 ≤ 7293034; omega⟩) (kk := fun v1 w1 g1 => ?_)
  rw [← hR] at g1
  obtain ⟨rfl, τ2, ad2, nb2, tb2, hW2, e0, e5, hk2, g2, hO2, hg2⟩ := g1
  have ht2 : τ2 (ad2 6000) = 6000 := by rw [e5 6000 (by omega), (hk2 _ (by rw [hO]; exact nofun) (by omega)).1]; exact ht
  have hJ2 := hJ.carry e5 ht hk2
  have hI2 := MdI.of hW.1 hJ2
  obtain ⟨fs7, hobj⟩ := hJ2.objx
  rw [← e5 6000 (by omega)] at hO2
  rw [← e0, ← e5 5000 (by omega), ← e5 6000 (by omega)]
  rw [← e0, ← e5 5000 (by omega), ← e5 6000 (by omega)] at jn
  refine i_istore C dL_law_1998 (kk := ?_)
  refine i_aload_n C dL_law_2000 (kk := ?_)
  refine i_aload_n C dL_law_2001 (kk := ?_)
  refine i_iload C dL_law_2002 (kk := ?_)
  refine i_iconst C dL_law_2004 (kk := ?_)
  refine i_iadd C dL_law_2005 (kk := ?_)
  refine hsd _ _ _ _ _ _ (i + 1) dL_law_2006 (by omega) hL ?_
  refine i_callV C lk_L_214 (c_X7_breaches l hl D (hI := hI2) (i := (xs (i + 1)).toInt) (hI9 := hW.it)) (hcl := rfl) (hst := rfl) dL_law_2007 (hw := hobj) (hf := ⟨by show n + 10 + 0 ≤ 601024; omega, by show k + 200 + 0 ≤ 7293034; omega⟩) (kk := fun v3 w3 g3 => ?_)
  rw [← hR] at g3
  obtain ⟨rfl, hJ3⟩ := g3
  have hJ3 : MdJ D w1 w3 τ2 ad2 R.2.2 R.1 := hJ3
  have hW3 := hW2.far hJ3.off (by omega)
  have hO3 : w3 (ad2 6000) = some (lar D 1 g2) := by rw [hJ3.off _ (Or.inr (by omega))]; exact hO2
  have hfin : LInv D w3 R.2.2 R.1 (ad2 0) (ad2 5000) (ad2 6000) := ⟨τ2, ad2, nb2, tb2, g2, hW3, hJ3.reset, ht2, hO3, rfl, rfl, rfl⟩
  obtain ⟨F3, dn3, op3', sh3, hM3, hV3⟩ := id hJ3
  refine i_istore C dL_law_2010 (kk := ?_)
  refine i_aload_n C dL_law_2012 (kk := ?_)
  refine i_callV C lk_L_122 (c_X7_thrown l hl D (hM := hM3)) (hcl := rfl) (hst := rfl) dL_law_2013 (hw := hM3.obj) (hf := ⟨by show n + 10 + 0 + 0 ≤ 601024; omega, by show k + 200 + 0 + 0 ≤ 7293034; omega⟩) (kk := fun v4 w4 g4 => ?_)
  obtain ⟨rfl, q4⟩ := g4
  have q4 := q4.symm
  subst q4
  refine i_iload C dL_law_2016 (kk := ?_)
  refine i_icmp_eq C dL_law_2018 (tgt := 2023) (kt := fun _ => ?_) (kf := fun hB => absurd rfl hB)
  refine i_iload C dL_law_2023 (kk := ?_)
  refine i_if_ne C dL_law_2025 (tgt := 2040) (kt := fun _ => ?_) (kf := fun hB => ?_)
  · refine i_goto C dL_law_2040 (tgt := 2056) (kk := ?_)
    exact jn _ _ _ _ _ _ _ (Nat.le_refl _) (Nat.le_refl _) hfin
  · have hg3 : g2 0 = (Z32 R.2.1).toInt64 := hg2 hB
    refine i_aload_n C dL_law_2028 (kk := ?_)
    refine i_iconst C dL_law_2029 (kk := ?_)
    refine i_laload C dL_law_2030 (hw := hO3) (kk := ?_)
    show G _ _ _ _ _ (.long (g2 0) :: _)
    rw [hg3]
    refine i_iload C dL_law_2031 (kk := ?_)
    refine i_i2l C dL_law_2033 (kk := ?_)
    refine i_lcmp C dL_law_2034 (kk := ?_)
    rw [lg_same]
    refine i_if_eq C dL_law_2035 (tgt := 2040) (ha := by decide) (kt := fun _ => ?_) (kf := fun hB => absurd rfl hB)
    refine i_goto C dL_law_2040 (tgt := 2056) (kk := ?_)
    exact jn _ _ _ _ _ _ _ (Nat.le_refl _) (Nat.le_refl _) hfin
