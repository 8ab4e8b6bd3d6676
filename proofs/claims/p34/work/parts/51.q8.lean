def lk5 (q : It4) : Prop := q.2.1 = 2 → 0 ≤ q.2.2.1 ∧ q.2.2.1 < 50
theorem lk5_sadd {its : List It4} {x : It4} (h : ∀ q ∈ its, lk5 q) (hx : lk5 x) : ∀ q ∈ sadd its x, lk5 q := by
  unfold sadd
  split
  · exact h
  · intro q hq
    rcases List.mem_append.mp hq with z | z
    · exact h q z
    · rw [List.mem_singleton.mp z]; exact hx
theorem lk5_tkC {nd arg : Int} : ∀ (qs its : List It4), (∀ q ∈ its, lk5 q) → (∀ q ∈ qs, lk5 q) → ∀ q ∈ tkC nd arg its qs, lk5 q
  | [], its, h, _ => h
  | x :: qs, its, h, hq => by
    have e : tkC nd arg its (x :: qs) = tkC nd arg (if shw x arg then sadd its (nd, isrt x, iwth x arg, x.2.2.2) else its) qs := rfl
    rw [e]
    refine lk5_tkC qs _ ?_ (fun q z => hq q (List.mem_cons_of_mem _ z))
    split
    · refine lk5_sadd h ?_
      have hx := hq x List.mem_cons_self
      intro z
      have z2 : isrt x = 2 := z
      unfold isrt at z2
      by_cases y : x.2.1 = 3
      · rw [if_pos y] at z2; exact absurd z2 (by decide)
      · rw [if_neg y] at z2
        have h3 := hx z2
        have e3 : iwth x arg = x.2.2.1 := if_neg y
        show 0 ≤ iwth x arg ∧ iwth x arg < 50
        rw [e3]; exact h3
    · exact h
theorem lk5_tkO {nd : Int} : ∀ (qs its : List It4), (∀ q ∈ its, lk5 q) → (∀ q ∈ qs, lk5 q) → ∀ q ∈ tkO nd its qs, lk5 q
  | [], its, h, _ => h
  | x :: qs, its, h, hq => by
    have e : tkO nd its (x :: qs) = tkO nd (sadd its (tog nd x.1, x.2.1, x.2.2.1, x.2.2.2)) qs := rfl
    rw [e]
    exact lk5_tkO qs _ (lk5_sadd h (hq x List.mem_cons_self)) (fun q z => hq q (List.mem_cons_of_mem _ z))
theorem lk5_text {rec : Nat → List It4} {p : Nat} (hr : ∀ q, q < 5 → ∀ x ∈ rec q, lk5 x) : ∀ (ps : List Pc3) (st : List It4 × List Int), (∀ pc ∈ ps, Sm6 pc) → (∀ q ∈ st.1, lk5 q) → ∀ q ∈ (ps.foldl (spStep rec p) st).1, lk5 q
  | [], st, _, h => h
  | pc :: ps, st, hs, h => by
    show ∀ q ∈ (ps.foldl (spStep rec p) (spStep rec p st pc)).1, lk5 q
    refine lk5_text hr ps _ (fun x hx => hs x (List.mem_cons_of_mem _ hx)) ?_
    obtain ⟨hv, hc1, hc2, -, h2⟩ := hs pc List.mem_cons_self
    unfold spStep
    unfold clD at hc1 hc2
    by_cases z6 : pc.1 = 6
    · rw [if_pos z6]; exact h
    · rw [if_neg z6]
      by_cases z7 : pc.1 = 7
      · rw [if_pos z7]; exact h
      · rw [if_neg z7]
        by_cases z4 : pc.1 = 4
        · rw [if_pos z4]
          rw [if_pos (Or.inl z4)] at hc1 hc2
          exact lk5_tkC _ _ h (hr _ (by unfold PV at hv; omega))
        · rw [if_neg z4]
          by_cases z5 : pc.1 = 5
          · rw [if_pos z5]
            rw [if_pos (Or.inr z5)] at hc1 hc2
            exact lk5_tkO _ _ h (hr _ (by unfold PV at hv; omega))
          · rw [if_neg z5]
            split
            · refine lk5_sadd h (fun z => ?_)
              have z2 : pc.1 = 2 := z
              have e : pItem pc = 10 * pc.2.1 + pc.2.2 := if_pos z2
              show 0 ≤ pItem pc ∧ pItem pc < 50
              have h3 := h2 z2
              rw [e]
              unfold PV at hv
              omega
            · exact h
theorem lk5_spr {T : Nat → List Pc3} (hs : ∀ q, q < 12 → ∀ pc ∈ T q, Sm6 pc) : ∀ (n p : Nat), p < 12 → ∀ q ∈ sprN T n p, lk5 q
  | 0, p, _ => fun q h => nomatch h
  | n + 1, p, hp => lk5_text (fun q hq => lk5_spr hs n q (by omega)) (T p) ([], []) (hs p hp) (fun q h => nomatch h)
theorem lk5_shl {T : Nat → List Pc3} (hs : ∀ q, q < 12 → ∀ pc ∈ T q, Sm6 pc) {p : Nat} (hp : p < 12) {x : Sh3} (hx : x ∈ shl (-1) (sprT T p)) (h2 : x.1 = 2) : 0 ≤ x.2.1 ∧ x.2.1 < 50 := by
  unfold shl at hx
  obtain ⟨q, hq, rfl⟩ := List.mem_map.mp hx
  have h3 := lk5_spr hs 6 p hp q (List.mem_filter.mp hq).1
  have h4 : isrt q = 2 := h2
  unfold isrt at h4
  by_cases y : q.2.1 = 3
  · rw [if_pos y] at h4; exact absurd h4 (by decide)
  · rw [if_neg y] at h4
    have e : iwth q (-1) = q.2.2.1 := if_neg y
    show 0 ≤ iwth q (-1) ∧ iwth q (-1) < 50
    rw [e]; exact h3 h4
theorem stN5 {T : Nat → List Pc3} (hs : ∀ q, q < 12 → ∀ pc ∈ T q, Sm6 pc) : ∀ (n p : Nat), p < 5 → stN T n p = -1 ∨ (0 ≤ stN T n p ∧ stN T n p < 5)
  | 0, p, _ => Or.inl rfl
  | n + 1, p, hp => by
    unfold stN
    split
    · rename_i hr
      obtain ⟨h1, h2⟩ := rdrb_iff.mp hr
      obtain ⟨hv, -, -, h8, -⟩ := hs p (by omega) _ (pcs_mem (ps := T p) (i := 0) (by omega))
      have h9 := h8 h2
      exact stN5 hs n _ (by omega)
    · exact Or.inr ⟨by omega, by omega⟩
/-- whether a page is linked from page f, by the first k items of that -/
def lfK (T : Nat → List Pc3) (M : List Int) (p f : Nat) : Nat := if M.any (fun k => leadb T p k && goodb T k) = true then lfs T p f ||| 2 ^ f else lfs T p f
theorem lfK_0 {T : Nat → List Pc3} {p f : Nat} : lfK T [] p f = lfs T p f := if_neg (by simp)
theorem lfK_all {T : Nat → List Pc3} {p f : Nat} : lfK T (lkL (shl (-1) (sprT T f))) p f = lfs T p (f + 1) := by
  unfold lfK
  have e : lfb T p f = (lkL (shl (-1) (sprT T f))).any (fun k => leadb T p k && goodb T k) := lfb_lkL (sprT T f)
  rw [← e]; rfl
theorem lfK_no {T : Nat → List Pc3} {M : List Int} {p f : Nat} {k : Int} (h : (leadb T p k && goodb T k) = false) : lfK T (M ++ [k]) p f = lfK T M p f := by
  unfold lfK
  rw [List.any_append, show [k].any (fun k => leadb T p k && goodb T k) = false by simp [h], Bool.or_false]
theorem lfK_yes {T : Nat → List Pc3} {M : List Int} {p f : Nat} {k : Int} (h : (leadb T p k && goodb T k) = true) : lfK T (M ++ [k]) p f = lfK T M p f ||| 2 ^ f := by
  unfold lfK
  rw [List.any_append, show [k].any (fun k => leadb T p k && goodb T k) = true by simp [h], Bool.or_true, if_pos rfl]
  split
  · rw [Nat.or_assoc, Nat.or_self]
  · rfl
theorem lfK_lt {T : Nat → List Pc3} {M : List Int} {p f : Nat} (hf : f < 5) : lfK T M p f < 32 := by
  have h1 := lfs_lt (T := T) (p := p) f
  have h2 : (2 : Nat) ^ f ≤ 2 ^ 4 := Nat.pow_le_pow_right (by decide) (by omega)
  unfold lfK
  split
  · exact Nat.or_lt_two_pow (n := 5) (by omega) (by omega)
  · omega
theorem lkL_snoc2 {L : List Sh3} {k : Nat} {x : Sh3} (h : L[k]? = some x) (h2 : x.1 = 2) : lkL (L.take (k + 1)) = lkL (L.take k) ++ [x.2.1] := by rw [take_snoc h, lkL_app, lkL_yes h2]
theorem lkL_snocN {L : List Sh3} {k : Nat} {x : Sh3} (h : L[k]? = some x) (h2 : x.1 ≠ 2) : lkL (L.take (k + 1)) = lkL (L.take k) := by rw [take_snoc h, lkL_app, lkL_no h2, List.append_nil]
theorem fbL_snoc {T : Nat → List Pc3} {k : Int} : ∀ (M : List Int), (∀ x ∈ M, 0 ≤ x) → fbL T (M ++ [k]) = if fbL T M < 0 then (if goodb T k = true then -1 else k) else fbL T M
  | [], _ => rfl
  | x :: M, h => by
    have ih := fbL_snoc (T := T) (k := k) M (fun y hy => h y (List.mem_cons_of_mem _ hy))
    have h0 := h x List.mem_cons_self
    show (if goodb T x = true then fbL T (M ++ [k]) else x) = if (if goodb T x = true then fbL T M else x) < 0 then _ else (if goodb T x = true then fbL T M else x)
    by_cases z : goodb T x = true
    · rw [if_pos z, if_pos z, ih]
    · rw [if_neg z, if_neg z, if_neg (by omega)]
theorem fbL_R {T : Nat → List Pc3} : ∀ (M : List Int), (∀ x ∈ M, 0 ≤ x ∧ x < 50) → -1 ≤ fbL T M ∧ fbL T M < 50
  | [], _ => (show (-1 : Int) ≤ -1 ∧ (-1 : Int) < 50 from ⟨by decide, by decide⟩)
  | x :: M, h => by
    have ih := fbL_R (T := T) M (fun y hy => h y (List.mem_cons_of_mem _ hy))
    have h0 := h x List.mem_cons_self
    show -1 ≤ (if goodb T x = true then fbL T M else x) ∧ (if goodb T x = true then fbL T M else x) < 50
    split <;> omega
theorem badN_le {T : Nat → List Pc3} (M : List Int) : badN T M ≤ M.length := List.length_filter_le _ _
theorem lkL_le (L : List Sh3) : (lkL L).length ≤ L.length := by
  unfold lkL
  rw [List.length_map]
  exact List.length_filter_le _ _
theorem lkL_mem {L : List Sh3} {k : Int} (h : k ∈ lkL L) : ∃ x ∈ L, x.1 = 2 ∧ x.2.1 = k := by
  unfold lkL at h
  obtain ⟨x, hx, rfl⟩ := List.mem_map.mp h
  obtain ⟨h1, h2⟩ := List.mem_filter.mp hx
  exact ⟨x, h1, by simpa using h2, rfl⟩
theorem lfs_5 {σ : Sg} {ft : Nat → Int64} {fz fr fv : Nat → Int} (hR : LwR σ ft fz fr fv) {p : Nat} : ∀ k, k ≤ 7 → lfs (sT σ) p (5 + k) = lfs (sT σ) p 5
  | 0, _ => rfl
  | k + 1, hk => by
    have ih := lfs_5 hR (p := p) k (by omega)
    have e : lfb (sT σ) p (5 + k) = false := by
      unfold lfb
      rw [spr_nil (hR.none (by omega) (by omega))]; rfl
    show (if lfb (sT σ) p (5 + k) = true then _ else lfs (sT σ) p (5 + k)) = _
    rw [e, if_neg Bool.false_ne_true, ih]
theorem LwR.sm {σ : Sg} {ft : Nat → Int64} {fz fr fv : Nat → Int} (hR : LwR σ ft fz fr fv) : ∀ q, q < 12 → ∀ pc ∈ sT σ q, Sm6 pc := fun q hq => (TO.now hR).sm hR Tx64.nil hq
theorem goodb_st {T : Nat → List Pc3} {k : Int} {s : Nat} (h : stT T (k / 10).toNat = (s : Int)) : goodb T k = ancb (k % 10) (sprT T s) := by
  rw [goodb_yes (by omega), h, Int.toNat_natCast]
set_option maxRecDepth 100000 in
set_option maxHeartbeats 4000000 in
theorem c_L_areLinks (l : Launch) (hl : l.stackTraces = false) (D : gD) {w : wW} {x0 a1 a2 a3 a4 : Nat} {σ : Sg} {ft : Nat → Int64} {fz fr fv : Nat → Int} (h1 : w a1 = some (lar D 60 ft) := by assumption) (h2 : w a2 = some (iar D 60 fz) := by assumption) (h3 : w a3 = some (iar D 60 fr) := by assumption) (h4 : w a4 = some (iar D 16 fv) := by assumption) (hR : LwR σ ft fz fr fv := by assumption) (hX : WkX D w x0 σ) : CTm l D yL_areLinks cL_areLinks 15 (some .boolean) (rmL 13 3600 30300) [.ref x0, .ref a1, .ref a2, .ref a3, .ref a4] w (fun u w1 => u = some (.int (Z32 1)) ∧ kW w w1) := by
  refine CTm_of hl false rfl (by rfl) (Nat.le_of_ble_eq_true rfl) (fun h => nomatch h) ?_
  intro G C
  show G 0 0 w [some (.ref x0), some (.ref a1), some (.ref a2), some (.ref a3), some (.ref a4), none, none, none, none, none, none, none, none, none, none] 0 []
  refine i_iconst C dL_areLinks_0 (kk := ?_)
  refine i_newint C (harr := ta_int) (N := 5) (d := dL_areLinks_1) (kk := fun q1 nq1 => ?_)
  have hS := hX.ok
  obtain ⟨W, hW⟩ : ∃ W, W = wset w q1 (iar D 5 (fun _ => 0)) := ⟨_, rfl⟩
  rw [← hW]
  have hkW : kW w W := by rw [hW]; exact kW.rf.put nq1
  have g1 := h1
  have g2 := h2
  have g3 := h3
  have g4 := h4
  have k5 : W q1 = some (iar D 5 (cz (fun _ => 0))) := by rw [hW, wset_eq]; rfl
  obtain ⟨d1, d2, d3⟩ := hS.dx
  refine i_astore C dL_areLinks_3 (kk := ?_)
  refine i_iconst C dL_areLinks_5 (kk := ?_)
  refine i_istore C dL_areLinks_6 (kk := ?_)
  refine i_iconst C dL_areLinks_8 (kk := ?_)
  refine i_istore C dL_areLinks_9 (kk := ?_)
  have lp1 : ∀ (m i : Nat) (N K : Nat) (W : wW) (F : Nat → Nat) (o8 o9 o10 o11 o12 o13 o14 : Option Value), 5 + 1 ≤ m + i → i ≤ 5 → N ≤ 1 + 707 * i → K ≤ 5 + 6042 * i → kW w W → W q1 = some (iar D 5 (cz F)) → (∀ p, p < 5 → F p = lfs (sT σ) p i) → G N K W [some (.ref x0), some (.ref a1), some (.ref a2), some (.ref a3), some (.ref a4), some (.ref q1), some (.int (Z32 1)), some (.int (Z32 (i : Int))), o8, o9, o10, o11, o12, o13, o14] 11 [] := by
    intro m
    induction m with
    | zero => intro i N K W F o8 o9 o10 o11 o12 o13 o14 h1 h2; omega
    | succ m ih =>
    intro i N K W F o8 o9 o10 o11 o12 o13 o14 h1 h2 hN hK hkw hq1 hF
    refine i_iload C dL_areLinks_11 (kk := ?_)
    refine i_iconst C dL_areLinks_13 (kk := ?_)
    refine i_icmp_ge C dL_areLinks_14 (tgt := 253) (kt := fun hB14 => ?_) (kf := fun hB14 => ?_)
    · have e5 : i = 5 := by omega
      subst e5
      refine i_iconst C dL_areLinks_253 (kk := ?_)
      refine i_istore C dL_areLinks_254 (kk := ?_)
      have lp3 : ∀ (m i : Nat) (N K : Nat) (o8 o9 o10 o11 o12 o13 o14 : Option Value), 5 + 1 ≤ m + i → i ≤ 5 → N ≤ 3536 + i → K ≤ 30215 + 6 * i → G N K W [some (.ref x0), some (.ref a1), some (.ref a2), some (.ref a3), some (.ref a4), some (.ref q1), some (.int (Z32 1)), some (.int (Z32 (i : Int))), o8, o9, o10, o11, o12, o13, o14] 256 [] := by
        intro m
        induction m with
        | zero => intro i N K o8 o9 o10 o11 o12 o13 o14 h1 h2; omega
        | succ m ih3 =>
        intro i N K o8 o9 o10 o11 o12 o13 o14 h1 h2 hN3 hK3
        refine i_iload C dL_areLinks_256 (kk := ?_)
        refine i_iconst C dL_areLinks_258 (kk := ?_)
        refine i_icmp_ge C dL_areLinks_259 (tgt := 294) (kt := fun hB259 => ?_) (kf := fun hB259 => ?_)
        · have e5 : i = 5 := by omega
          subst e5
          refine i_iload C dL_areLinks_294 (kk := ?_)
          exact i_zret C (d := dL_areLinks_296) (hn := by show _ ≤ 3600; omega) (hk := by show _ ≤ 30300; omega) (ha := Or.inr rfl) (h := ⟨rfl, hkw⟩)
        · have hi5 : i < 5 := by omega
          have hXb := hX.kept hkw
          obtain ⟨fsb, hOb⟩ := hXb.obj
          have hlf := lfs_5 hR (p := i) 7 (by omega)
          have hll := lfs_lt (T := sT σ) (p := i) 5
          refine i_iload C dL_areLinks_262 (kk := ?_)
          refine i_if_eq C dL_areLinks_264 (tgt := 294) (kt := fun hB264 => ?_) (kf := fun hB264 => ?_)
          · exact absurd hB264 (by decide)
          · refine i_aload_n C dL_areLinks_267 (kk := ?_)
            refine i_iload C dL_areLinks_268 (kk := ?_)
            refine i_callVF C lk_L_106 (x_linkedFrom l hl D hXb (i := (i : Int))) (hcl := rfl) (hst := rfl) dL_areLinks_270 (hw := hOb) (hxx := fun E w1 h => h.2.1 (by omega)) (hf := ⟨by show _ ≤ 3600; (try simp only [rmL]); omega, by show _ ≤ 30300; (try simp only [rmL]); omega⟩) (kk := fun v270 w270 g270 => ?_)
            obtain ⟨⟨p9, hp9, e9, rfl⟩, q270⟩ := g270
            have q270 := q270.symm
            subst q270
            have e7 : i = p9 := by omega
            subst e7
            rw [show lfs (sT σ) i 12 = lfs (sT σ) i 5 from hlf]
            refine i_aload C dL_areLinks_273 (kk := ?_)
            refine i_iload C dL_areLinks_275 (kk := ?_)
            refine i_iaload C dL_areLinks_277 (hw := hq1) (kk := ?_)
            rw [Int.toNat_natCast, cz_at, hF i hi5]
            refine i_icmp_ne C dL_areLinks_278 (tgt := 285) (kt := fun hB278 => ?_) (kf := fun hB278 => ?_)
            · exact absurd rfl hB278
            · refine i_iconst C dL_areLinks_281 (kk := ?_)
              refine i_goto C dL_areLinks_282 (tgt := 286) (kk := ?_)
              refine i_istore C dL_areLinks_286 (kk := ?_)
              refine i_iinc C dL_areLinks_288 (kk := ?_)
              refine i_goto C dL_areLinks_291 (tgt := 256) (kk := ?_)
              exact ih3 (i + 1) _ _ _ _ _ _ _ _ _ (by omega) (by omega) (by (try simp only [rmL]); omega) (by (try simp only [rmL]); omega)
      exact lp3 6 0 _ _ _ _ _ _ _ _ _ (by omega) (by omega) (by omega) (by omega)
    · have hi5 : i < 5 := by omega
      have hsl := shl_le hS (p := i) (by omega) (-1)
      refine i_iload C dL_areLinks_17 (kk := ?_)
      refine i_if_eq C dL_areLinks_19 (tgt := 253) (kt := fun hB19 => ?_) (kf := fun hB19 => ?_)
      · exact absurd hB19 (by decide)
      · refine i_iconst C dL_areLinks_22 (kk := ?_)
        refine i_istore C dL_areLinks_23 (kk := ?_)
        refine i_iconst C dL_areLinks_25 (kk := ?_)
        refine i_istore C dL_areLinks_26 (kk := ?_)
        have hXa := hX.kept hkw
        obtain ⟨fsa, hOa⟩ := hXa.obj
        refine i_aload_n C dL_areLinks_28 (kk := ?_)
        refine i_iload C dL_areLinks_29 (kk := ?_)
        refine i_iconst C dL_areLinks_31 (kk := ?_)
        refine i_callVF C lk_L_80 (x_items l hl D hXa (i := (i : Int)) (j := -1)) (hcl := rfl) (hst := rfl) dL_areLinks_32 (hw := hOa) (hxx := fun E w1 h => by (obtain ⟨h, -⟩ := h; rcases h with ⟨-, h⟩ | ⟨-, -, h⟩ <;> exact h (by omega))) (hf := ⟨by show _ ≤ 3600; (try simp only [rmL]); omega, by show _ ≤ 30300; (try simp only [rmL]); omega⟩) (kk := fun v32 w32 g32 => ?_)
        obtain ⟨⟨p9, hp9, e9, -, rfl⟩, q32⟩ := g32
        have q32 := q32.symm
        subst q32
        have e7 : i = p9 := by omega
        subst e7
        rw [← shl_len]
        refine i_istore C dL_areLinks_35 (kk := ?_)
        refine i_iconst C dL_areLinks_37 (kk := ?_)
        refine i_istore C dL_areLinks_38 (kk := ?_)
        have lp2 : ∀ (m k : Nat) (N K : Nat) (W : wW) (F : Nat → Nat) (o12 o13 o14 : Option Value), (shl (-1) (sprT (sT σ) i)).length + 1 ≤ m + k → k ≤ (shl (-1) (sprT (sT σ) i)).length → N ≤ 1 + 707 * i + 3 + 7 * k → K ≤ 5 + 6042 * i + 18 + 60 * k → kW w W → W q1 = some (iar D 5 (cz F)) → (∀ p, p < 5 → F p = lfK (sT σ) (lkL ((shl (-1) (sprT (sT σ) i)).take k)) p i) → G N K W [some (.ref x0), some (.ref a1), some (.ref a2), some (.ref a3), some (.ref a4), some (.ref q1), some (.int (Z32 1)), some (.int (Z32 (i : Int))), some (.int (Z32 ((badN (sT σ) (lkL ((shl (-1) (sprT (sT σ) i)).take k)) : Nat) : Int))), some (.int (Z32 (fbL (sT σ) (lkL ((shl (-1) (sprT (sT σ) i)).take k))))), some (.int (Z32 (((shl (-1) (sprT (sT σ) i)).length : Nat) : Int))), some (.int (Z32 (k : Int))), o12, o13, o14] 40 [] := by
          intro m
          induction m with
          | zero => intro k N K W F o12 o13 o14 h1 h2; omega
          | succ m ihk =>
          intro k N K W F o12 o13 o14 h1 h2 hN hK hkw hq1 hF
          have hbd := badN_le (T := sT σ) (lkL ((shl (-1) (sprT (sT σ) i)).take k))
          have hkl := lkL_le ((shl (-1) (sprT (sT σ) i)).take k)
          rw [List.length_take] at hkl
          have hM : ∀ x ∈ (lkL ((shl (-1) (sprT (sT σ) i)).take k)), 0 ≤ x ∧ x < 50 := fun x hx => by
            obtain ⟨y, hy, y1, rfl⟩ := lkL_mem hx
            exact lk5_shl hR.sm (by omega) (List.mem_of_mem_take hy) y1
          have hfR := fbL_R (T := sT σ) _ hM
          refine i_iload C dL_areLinks_40 (kk := ?_)
          refine i_iload C dL_areLinks_42 (kk := ?_)
          refine i_icmp_ge C dL_areLinks_44 (tgt := 218) (kt := fun hB44 => ?_) (kf := fun hB44 => ?_)
          · have ek : k = (shl (-1) (sprT (sT σ) i)).length := by omega
            subst ek
            rw [List.take_of_length_le (Nat.le_refl _)] at hbd hfR hF ⊢
            have hXb := hX.kept hkw
            obtain ⟨fsb, hOb⟩ := hXb.obj
            have hkl2 := lkL_le (shl (-1) (sprT (sT σ) i))
            have hbc := badN_cnt (T := sT σ) (sprT (sT σ) i)
            have hfc := fbL_fbk (T := sT σ) (sprT (sT σ) i)
            refine i_aload_n C dL_areLinks_218 (kk := ?_)
            refine i_iload C dL_areLinks_219 (kk := ?_)
            refine i_callVF C lk_L_100 (x_broken l hl D hXb (i0 := (i : Int))) (hcl := rfl) (hst := rfl) dL_areLinks_221 (hw := hOb) (hxx := fun E w1 h => h.2.1 (by omega)) (hf := ⟨by show _ ≤ 3600; (try simp only [rmL]); omega, by show _ ≤ 30300; (try simp only [rmL]); omega⟩) (kk := fun v221 w221 g221 => ?_)
            obtain ⟨⟨p9, hp9, e9, rfl⟩, q221⟩ := g221
            have q221 := q221.symm
            subst q221
            have e7 : i = p9 := by omega
            subst e7
            rw [hbc]
            refine i_iload C dL_areLinks_224 (kk := ?_)
            refine i_icmp_ne C dL_areLinks_226 (tgt := 244) (kt := fun hB226 => ?_) (kf := fun hB226 => ?_)
            · exact absurd rfl hB226
            · refine i_aload_n C dL_areLinks_229 (kk := ?_)
              refine i_iload C dL_areLinks_230 (kk := ?_)
              refine i_callVF C lk_L_103 (x_firstBroken l hl D hXb (i0 := (i : Int))) (hcl := rfl) (hst := rfl) dL_areLinks_232 (hw := hOb) (hxx := fun E w1 h => h.2.1 (by omega)) (hf := ⟨by show _ ≤ 3600; (try simp only [rmL]); omega, by show _ ≤ 30300; (try simp only [rmL]); omega⟩) (kk := fun v232 w232 g232 => ?_)
              obtain ⟨⟨p9, hp9, e9, rfl⟩, q232⟩ := g232
              have q232 := q232.symm
              subst q232
              have e7 : i = p9 := by omega
              subst e7
              rw [hfc]
              refine i_iload C dL_areLinks_235 (kk := ?_)
              refine i_icmp_ne C dL_areLinks_237 (tgt := 244) (kt := fun hB237 => ?_) (kf := fun hB237 => ?_)
              · exact absurd rfl hB237
              · refine i_iconst C dL_areLinks_240 (kk := ?_)
                refine i_goto C dL_areLinks_241 (tgt := 245) (kk := ?_)
                refine i_istore C dL_areLinks_245 (kk := ?_)
                refine i_iinc C dL_areLinks_247 (kk := ?_)
                refine i_goto C dL_areLinks_250 (tgt := 11) (kk := ?_)
                exact ih (i + 1) _ _ _ F _ _ _ _ _ _ _ (by omega) (by omega) (by (try simp only [rmL]); omega) (by (try simp only [rmL]); omega) hkw hq1 (fun p hp => by rw [hF p hp, lfK_all])
          · have hXk := hX.kept hkw
            obtain ⟨fsk, hOk⟩ := hXk.obj
            obtain ⟨x, hx⟩ := get_lt (show k < (shl (-1) (sprT (sT σ) i)).length by omega)
            have hxm := List.mem_of_getElem? hx
            have hxv := shl_val (hXk.it (p := i) (by omega)) (by decide) (by decide) hxm
            have j1 := hkw.at g1
            have j2 := hkw.at g2
            have j3 := hkw.at g3
            have j4 := hkw.at g4
            by_cases hx2 : x.1 = 2
            · have hl5 := lk5_shl hR.sm (by omega) hxm hx2
              obtain ⟨v, hv⟩ : ∃ v : Int, v = x.2.1 := ⟨_, rfl⟩
              have hs2 := lkL_snoc2 hx hx2
              rw [← hv] at hl5 hs2 hxv
              have hbn : badN (sT σ) (lkL ((shl (-1) (sprT (sT σ) i)).take (k + 1))) = badN (sT σ) (lkL ((shl (-1) (sprT (sT σ) i)).take k)) + (if goodb (sT σ) v = true then 0 else 1) := by rw [hs2, badN_app, badN_one]
              have hfs := fbL_snoc (T := sT σ) (k := v) (lkL ((shl (-1) (sprT (sT σ) i)).take k)) (fun x hx => (hM x hx).1)
              rw [← hs2] at hfs
              obtain ⟨u, hu⟩ : ∃ u : Nat, (u : Int) = v / 10 := ⟨(v / 10).toNat, by omega⟩
              have hut : (v / 10).toNat = u := by omega
              have hst5 := stN5 hR.sm 4 u (by omega)
              obtain ⟨sv, hsv⟩ : ∃ sv, stT (sT σ) u = sv := ⟨_, rfl⟩
              have hst5 : sv = -1 ∨ (0 ≤ sv ∧ sv < 5) := by rw [← hsv]; exact hst5
              refine i_aload_n C dL_areLinks_47 (kk := ?_)
              refine i_iload C dL_areLinks_48 (kk := ?_)
              refine i_iconst C dL_areLinks_50 (kk := ?_)
              refine i_iload C dL_areLinks_51 (kk := ?_)
              refine i_callVF C lk_L_44 (x_sortAt l hl D hXk (i := (i : Int)) (j := -1) (k := (k : Int))) (hcl := rfl) (hst := rfl) dL_areLinks_53 (hw := hOk) (hxx := fun E w1 h => by (obtain ⟨h, -⟩ := h; rcases h with ⟨-, h⟩ | ⟨-, -, h⟩ | ⟨-, -, p9, hp9, e9, h⟩; exact h (by omega); exact h (by omega); (have e8 : i = p9 := by omega); subst e8; (have h7 := h k rfl); omega)) (hf := ⟨by show _ ≤ 3600; (try simp only [rmL]); omega, by show _ ≤ 30300; (try simp only [rmL]); omega⟩) (kk := fun v53 w53 g53 => ?_)
              obtain ⟨⟨p9, hp9, e9, -, n9, y9, e8, hy9, rfl⟩, q53⟩ := g53
              have q53 := q53.symm
              subst q53
              have e7 : i = p9 := by omega
              subst e7
              have e6 : k = n9 := by omega
              subst e6
              rw [hx] at hy9
              cases hy9
              refine i_iconst C dL_areLinks_56 (kk := ?_)
              refine i_icmp_ne C dL_areLinks_57 (tgt := 72) (kt := fun hB57 => ?_) (kf := fun hB57 => ?_)
              · exact absurd hx2 hB57
              · refine i_aload_n C dL_areLinks_60 (kk := ?_)
                refine i_iload C dL_areLinks_61 (kk := ?_)
                refine i_iconst C dL_areLinks_63 (kk := ?_)
                refine i_iload C dL_areLinks_64 (kk := ?_)
                refine i_callVF C lk_L_56 (x_itemAt l hl D hXk (i := (i : Int)) (j := -1) (k := (k : Int))) (hcl := rfl) (hst := rfl) dL_areLinks_66 (hw := hOk) (hxx := fun E w1 h => by (obtain ⟨h, -⟩ := h; rcases h with ⟨-, h⟩ | ⟨-, -, h⟩ | ⟨-, -, p9, hp9, e9, h⟩; exact h (by omega); exact h (by omega); (have e8 : i = p9 := by omega); subst e8; (have h7 := h k rfl); omega)) (hf := ⟨by show _ ≤ 3600; (try simp only [rmL]); omega, by show _ ≤ 30300; (try simp only [rmL]); omega⟩) (kk := fun v66 w66 g66 => ?_)
                obtain ⟨⟨p9, hp9, e9, -, n9, y9, e8, hy9, rfl⟩, q66⟩ := g66
                have q66 := q66.symm
                subst q66
                have e7 : i = p9 := by omega
                subst e7
                have e6 : k = n9 := by omega
                subst e6
                rw [hx] at hy9
                cases hy9
                rw [← hv]
                refine i_goto C dL_areLinks_69 (tgt := 73) (kk := ?_)
                refine i_istore C dL_areLinks_73 (kk := ?_)
                refine i_iload C dL_areLinks_75 (kk := ?_)
                refine i_if_ge C dL_areLinks_77 (tgt := 84) (kt := fun hB77 => ?_) (kf := fun hB77 => ?_)
                · refine i_aload_n C dL_areLinks_84 (kk := ?_)
                  refine i_aload_n C dL_areLinks_85 (kk := ?_)
                  refine i_aload C dL_areLinks_86 (kk := ?_)
                  refine i_iload C dL_areLinks_88 (kk := ?_)
                  refine i_bipush C dL_areLinks_90 (kk := ?_)
                  refine i_idiv C dL_areLinks_92 (kk := ?_)
                  rw [← hu]
                  refine i_callS C lk_L_90 (c_L_stands l hl D (p := u) (h1 := j1) (h2 := j2) (h4 := j4) (hR := hR) (hp := by omega)) (hst := rfl) dL_areLinks_93 (hf := ⟨by show _ ≤ 3600; (try simp only [rmL]); omega, by show _ ≤ 30300; (try simp only [rmL]); omega⟩) (kk := fun v93 w93 g93 => ?_)
                  obtain ⟨rfl, q93⟩ := g93
                  have q93 := q93.symm
                  subst q93
                  rw [hsv]
                  refine i_istore C dL_areLinks_96 (kk := ?_)
                  have hcs3 : sv = -1 ∨ (0 ≤ sv ∧ goodb (sT σ) v = true) ∨ (0 ≤ sv ∧ goodb (sT σ) v = false) := by
                    rcases hst5 with z | z
                    · exact Or.inl z
                    · cases hz : goodb (sT σ) v with
                      | true => exact Or.inr (Or.inl ⟨z.1, rfl⟩)
                      | false => exact Or.inr (Or.inr ⟨z.1, rfl⟩)
                  rcases hcs3 with hcs | hcs | hcs
                  · have hgd : goodb (sT σ) v = false := goodb_no (by rw [hut, hsv]; exact hcs)
                    rw [if_neg (by rw [hgd]; exact Bool.false_ne_true)] at hbn
                    rw [if_neg (c := goodb (sT σ) v = true) (by rw [hgd]; exact Bool.false_ne_true)] at hfs
                    refine i_iload C dL_areLinks_98 (kk := ?_)
                    refine i_if_lt C dL_areLinks_100 (tgt := 128) (kt := fun hB100 => ?_) (kf := fun hB100 => ?_)
                    · refine i_iconst C dL_areLinks_128 (kk := ?_)
                      refine i_istore C dL_areLinks_129 (kk := ?_)
                      refine i_iload C dL_areLinks_131 (kk := ?_)
                      refine i_iload C dL_areLinks_133 (kk := ?_)
                      refine i_if_lt C dL_areLinks_135 (tgt := 147) (kt := fun hB135 => ?_) (kf := fun hB135 => ?_)
                      · exfalso; omega
                      · refine i_iload C dL_areLinks_138 (kk := ?_)
                        refine i_if_ne C dL_areLinks_140 (tgt := 147) (kt := fun hB140 => ?_) (kf := fun hB140 => ?_)
                        · exact absurd rfl hB140
                        · refine i_iconst C dL_areLinks_143 (kk := ?_)
                          refine i_goto C dL_areLinks_144 (tgt := 148) (kk := ?_)
                          refine i_iadd C dL_areLinks_148 (kk := ?_)
                          refine i_istore C dL_areLinks_149 (kk := ?_)
                          refine i_iload C dL_areLinks_151 (kk := ?_)
                          refine i_if_lt C dL_areLinks_153 (tgt := 171) (kt := fun hB153 => ?_) (kf := fun hB153 => ?_)
                          · exfalso; omega
                          · refine i_iload C dL_areLinks_156 (kk := ?_)
                            refine i_if_ne C dL_areLinks_158 (tgt := 171) (kt := fun hB158 => ?_) (kf := fun hB158 => ?_)
                            · exact absurd rfl hB158
                            · refine i_iload C dL_areLinks_161 (kk := ?_)
                              refine i_if_ge C dL_areLinks_163 (tgt := 171) (kt := fun hB163 => ?_) (kf := fun hB163 => ?_)
                              · rw [if_neg (by omega)] at hfs
                                refine i_iload C dL_areLinks_171 (kk := ?_)
                                refine i_istore C dL_areLinks_173 (kk := ?_)
                                refine i_iload C dL_areLinks_175 (kk := ?_)
                                refine i_if_lt C dL_areLinks_177 (tgt := 212) (kt := fun hB177 => ?_) (kf := fun hB177 => ?_)
                                · exfalso; omega
                                · refine i_iload C dL_areLinks_180 (kk := ?_)
                                  refine i_if_eq C dL_areLinks_182 (tgt := 212) (kt := fun hB182 => ?_) (kf := fun hB182 => ?_)
                                  · refine i_iinc C dL_areLinks_212 (kk := ?_)
                                    rw [show (k : Int) + 1 = ((k + 1 : Nat) : Int) by omega]
                                    refine i_goto C dL_areLinks_215 (tgt := 40) (kk := ?_)
                                    rw [show ((badN (sT σ) (lkL ((shl (-1) (sprT (sT σ) i)).take k)) : Nat) : Int) + 1 = ((badN (sT σ) (lkL ((shl (-1) (sprT (sT σ) i)).take (k + 1))) : Nat) : Int) by rw [hbn]; omega, ← hfs]
                                    exact ihk (k + 1) _ _ _ F _ _ _ (by omega) (by omega) (by (try simp only [rmL]); omega) (by (try simp only [rmL]); omega) hkw hq1 (fun p hp => by rw [hs2, lfK_no (by rw [hgd, Bool.and_false])]; exact hF p hp)
                                  · exact absurd rfl hB182
                              · rw [if_pos (by omega)] at hfs
                                refine i_iload C dL_areLinks_166 (kk := ?_)
                                refine i_goto C dL_areLinks_168 (tgt := 173) (kk := ?_)
                                refine i_istore C dL_areLinks_173 (kk := ?_)
                                refine i_iload C dL_areLinks_175 (kk := ?_)
                                refine i_if_lt C dL_areLinks_177 (tgt := 212) (kt := fun hB177 => ?_) (kf := fun hB177 => ?_)
                                · exfalso; omega
                                · refine i_iload C dL_areLinks_180 (kk := ?_)
                                  refine i_if_eq C dL_areLinks_182 (tgt := 212) (kt := fun hB182 => ?_) (kf := fun hB182 => ?_)
                                  · refine i_iinc C dL_areLinks_212 (kk := ?_)
                                    rw [show (k : Int) + 1 = ((k + 1 : Nat) : Int) by omega]
                                    refine i_goto C dL_areLinks_215 (tgt := 40) (kk := ?_)
                                    rw [show ((badN (sT σ) (lkL ((shl (-1) (sprT (sT σ) i)).take k)) : Nat) : Int) + 1 = ((badN (sT σ) (lkL ((shl (-1) (sprT (sT σ) i)).take (k + 1))) : Nat) : Int) by rw [hbn]; omega, ← hfs]
                                    exact ihk (k + 1) _ _ _ F _ _ _ (by omega) (by omega) (by (try simp only [rmL]); omega) (by (try simp only [rmL]); omega) hkw hq1 (fun p hp => by rw [hs2, lfK_no (by rw [hgd, Bool.and_false])]; exact hF p hp)
                                  · exact absurd rfl hB182
                    · exfalso; omega
                  · obtain ⟨hc0, hgd⟩ := hcs
                    obtain ⟨s, hs⟩ : ∃ s : Nat, (s : Int) = sv := ⟨sv.toNat, by omega⟩
                    subst hs
                    have hgs : goodb (sT σ) v = ancb (v % 10) (sprT (sT σ) s) := goodb_st (by rw [hut]; exact hsv)
                    rw [if_pos hgd] at hbn
                    rw [if_pos (c := goodb (sT σ) v = true) hgd] at hfs
                    have hfs : fbL (sT σ) (lkL ((shl (-1) (sprT (sT σ) i)).take (k + 1))) = fbL (sT σ) (lkL ((shl (-1) (sprT (sT σ) i)).take k)) := by rw [hfs]; split <;> omega
                    have hFs0 := lfK_lt (T := sT σ) (M := (lkL ((shl (-1) (sprT (sT σ) i)).take k))) (p := s) (f := i) (by omega)
                    refine i_iload C dL_areLinks_98 (kk := ?_)
                    refine i_if_lt C dL_areLinks_100 (tgt := 128) (kt := fun hB100 => ?_) (kf := fun hB100 => ?_)
                    · exfalso; omega
                    · refine i_aload_n C dL_areLinks_103 (kk := ?_)
                      refine i_aload_n C dL_areLinks_104 (kk := ?_)
                      refine i_aload_n C dL_areLinks_105 (kk := ?_)
                      refine i_aload_n C dL_areLinks_106 (kk := ?_)
                      refine i_aload C dL_areLinks_107 (kk := ?_)
                      refine i_iload C dL_areLinks_109 (kk := ?_)
                      refine i_iconst C dL_areLinks_111 (kk := ?_)
                      refine i_iconst C dL_areLinks_112 (kk := ?_)
                      refine i_iload C dL_areLinks_113 (kk := ?_)
                      refine i_bipush C dL_areLinks_115 (kk := ?_)
                      refine i_irem C dL_areLinks_117 (kk := ?_)
                      refine i_callS C lk_L_62 (c_L_walk l hl D (p := s) (CC := 1) (SS := 24) (a := 1) (g0 := -1) (h1 := j1) (h2 := j2) (h3 := j3) (h4 := j4) (hR := hR) (hX := hXk) (hp := by omega) (hg0 := by omega) (ha := by omega) (hnum := by omega) (hCC := by omega)) (hst := rfl) dL_areLinks_118 (hf := ⟨by show _ ≤ 3600; (try simp only [rmL]); omega, by show _ ≤ 30300; (try simp only [rmL]); omega⟩) (kk := fun v118 w118 g118 => ?_)
                      obtain ⟨rfl, hkwk⟩ := g118
                      have hkw9 := hkw.trans hkwk
                      have hq9 := hkwk.at hq1
                      have hwa := wkA_1 (σ := σ) (num := v % 10) (p := s) (q := s)
                      rw [← hgs] at hwa
                      have hwl : wkA σ 1 (v % 10) s (shl (-1) (sprT (sT σ) s)) ≤ 100 := by unfold wkA; rw [if_neg (by decide)]; exact Nat.le_trans (fndS_le _) (shl_le hS (by omega) (-1))
                      refine i_if_le C dL_areLinks_121 (tgt := 128) (kt := fun hB121 => ?_) (kf := fun hB121 => ?_)
                      · exact absurd (hwa.mpr hgd) (by omega)
                      · refine i_iconst C dL_areLinks_124 (kk := ?_)
                        refine i_goto C dL_areLinks_125 (tgt := 129) (kk := ?_)
                        refine i_istore C dL_areLinks_129 (kk := ?_)
                        refine i_iload C dL_areLinks_131 (kk := ?_)
                        refine i_iload C dL_areLinks_133 (kk := ?_)
                        refine i_if_lt C dL_areLinks_135 (tgt := 147) (kt := fun hB135 => ?_) (kf := fun hB135 => ?_)
                        · exfalso; omega
                        · refine i_iload C dL_areLinks_138 (kk := ?_)
                          refine i_if_ne C dL_areLinks_140 (tgt := 147) (kt := fun hB140 => ?_) (kf := fun hB140 => ?_)
                          · refine i_iconst C dL_areLinks_147 (kk := ?_)
                            refine i_iadd C dL_areLinks_148 (kk := ?_)
                            refine i_istore C dL_areLinks_149 (kk := ?_)
                            refine i_iload C dL_areLinks_151 (kk := ?_)
                            refine i_if_lt C dL_areLinks_153 (tgt := 171) (kt := fun hB153 => ?_) (kf := fun hB153 => ?_)
                            · exfalso; omega
                            · refine i_iload C dL_areLinks_156 (kk := ?_)
                              refine i_if_ne C dL_areLinks_158 (tgt := 171) (kt := fun hB158 => ?_) (kf := fun hB158 => ?_)
                              · refine i_iload C dL_areLinks_171 (kk := ?_)
                                refine i_istore C dL_areLinks_173 (kk := ?_)
                                refine i_iload C dL_areLinks_175 (kk := ?_)
                                refine i_if_lt C dL_areLinks_177 (tgt := 212) (kt := fun hB177 => ?_) (kf := fun hB177 => ?_)
                                · exfalso; omega
                                · refine i_iload C dL_areLinks_180 (kk := ?_)
                                  refine i_if_eq C dL_areLinks_182 (tgt := 212) (kt := fun hB182 => ?_) (kf := fun hB182 => ?_)
                                  · exact absurd hB182 (by decide)
                                  · refine i_aload C dL_areLinks_185 (kk := ?_)
                                    refine i_iload C dL_areLinks_187 (kk := ?_)
                                    refine i_dup2 C dL_areLinks_189 (kk := ?_)
                                    refine i_iaload C dL_areLinks_190 (hw := hq9) (kk := ?_)
                                    rw [Int.toNat_natCast, cz_at]
                                    refine i_iconst C dL_areLinks_191 (kk := ?_)
                                    refine i_iload C dL_areLinks_192 (kk := ?_)
                                    refine i_ishl C dL_areLinks_194 (hz := Z32_shl (by omega)) (kk := ?_)
                                    refine i_ior C dL_areLinks_195 (hz := Z32_or _ _) (kk := ?_)
                                    refine i_iastore C dL_areLinks_196 (hw := hq9) (kk := ?_)
                                    rw [Int.toNat_natCast, cz_up]
                                    refine i_aload C dL_areLinks_197 (kk := ?_)
                                    refine i_iload C dL_areLinks_199 (kk := ?_)
                                    refine i_bipush C dL_areLinks_201 (kk := ?_)
                                    refine i_idiv C dL_areLinks_203 (kk := ?_)
                                    rw [← hu]
                                    refine i_dup2 C dL_areLinks_204 (kk := ?_)
                                    refine i_iaload C dL_areLinks_205 (hw := wset_eq) (kk := ?_)
                                    rw [Int.toNat_natCast, cz_at]
                                    refine i_iconst C dL_areLinks_206 (kk := ?_)
                                    refine i_iload C dL_areLinks_207 (kk := ?_)
                                    refine i_ishl C dL_areLinks_209 (hz := Z32_shl (by omega)) (kk := ?_)
                                    refine i_ior C dL_areLinks_210 (hz := Z32_or _ _) (kk := ?_)
                                    refine i_iastore C dL_areLinks_211 (hw := wset_eq) (kk := ?_)
                                    rw [Int.toNat_natCast, cz_up, wset_twice]
                                    refine i_iinc C dL_areLinks_212 (kk := ?_)
                                    rw [show (k : Int) + 1 = ((k + 1 : Nat) : Int) by omega]
                                    refine i_goto C dL_areLinks_215 (tgt := 40) (kk := ?_)
                                    rw [Int.add_zero, show badN (sT σ) (lkL ((shl (-1) (sprT (sT σ) i)).take k)) = badN (sT σ) (lkL ((shl (-1) (sprT (sT σ) i)).take (k + 1))) by omega, show fbL (sT σ) (lkL ((shl (-1) (sprT (sT σ) i)).take k)) = fbL (sT σ) (lkL ((shl (-1) (sprT (sT σ) i)).take (k + 1))) by omega]
                                    refine ihk (k + 1) _ _ _ _ _ _ _ (by omega) (by omega) (by (try simp only [rmL]); omega) (by (try simp only [rmL]); omega) (hkw9.put nq1) wset_eq (fun p hp => ?_)
                                    have hlb : leadb (sT σ) p v = true ↔ (p = u ∨ p = s) := by
                                      rw [leadb_iff, hut, hsv]
                                      omega
                                    have hFu := hF u (by omega)
                                    have hFs := hF s (by omega)
                                    have hFp := hF p hp
                                    rw [hs2]
                                    by_cases z1 : p = u ∨ p = s
                                    · rw [lfK_yes (by rw [hlb.mpr z1, hgd]; rfl)]
                                      by_cases zu : p = u
                                      · subst zu
                                        rw [upz_eq]
                                        by_cases zs : p = s
                                        · subst zs
                                          rw [upz_eq, hFp, Nat.or_assoc, Nat.or_self]
                                        · rw [upz_ne zs, hFp]
                                      · rw [upz_ne zu]
                                        have zs : p = s := by omega
                                        subst zs
                                        rw [upz_eq, hFp]
                                    · have hlf : leadb (sT σ) p v = false := by
                                        cases hz : leadb (sT σ) p v with
                                        | false => rfl
                                        | true => exact absurd (hlb.mp hz) z1
                                      rw [lfK_no (by rw [hlf]; rfl), upz_ne (by omega), upz_ne (by omega)]
                                      exact hFp
                              · exact absurd hB158 (by decide)
                          · exact absurd hB140 (by decide)
                  · obtain ⟨hc0, hgd⟩ := hcs
                    obtain ⟨s, hs⟩ : ∃ s : Nat, (s : Int) = sv := ⟨sv.toNat, by omega⟩
                    subst hs
                    have hgs : goodb (sT σ) v = ancb (v % 10) (sprT (sT σ) s) := goodb_st (by rw [hut]; exact hsv)
                    rw [if_neg (by rw [hgd]; exact Bool.false_ne_true)] at hbn
                    rw [if_neg (c := goodb (sT σ) v = true) (by rw [hgd]; exact Bool.false_ne_true)] at hfs
                    refine i_iload C dL_areLinks_98 (kk := ?_)
                    refine i_if_lt C dL_areLinks_100 (tgt := 128) (kt := fun hB100 => ?_) (kf := fun hB100 => ?_)
                    · exfalso; omega
                    · refine i_aload_n C dL_areLinks_103 (kk := ?_)
                      refine i_aload_n C dL_areLinks_104 (kk := ?_)
                      refine i_aload_n C dL_areLinks_105 (kk := ?_)
                      refine i_aload_n C dL_areLinks_106 (kk := ?_)
                      refine i_aload C dL_areLinks_107 (kk := ?_)
                      refine i_iload C dL_areLinks_109 (kk := ?_)
                      refine i_iconst C dL_areLinks_111 (kk := ?_)
                      refine i_iconst C dL_areLinks_112 (kk := ?_)
                      refine i_iload C dL_areLinks_113 (kk := ?_)
                      refine i_bipush C dL_areLinks_115 (kk := ?_)
                      refine i_irem C dL_areLinks_117 (kk := ?_)
                      refine i_callS C lk_L_62 (c_L_walk l hl D (p := s) (CC := 1) (SS := 24) (a := 1) (g0 := -1) (h1 := j1) (h2 := j2) (h3 := j3) (h4 := j4) (hR := hR) (hX := hXk) (hp := by omega) (hg0 := by omega) (ha := by omega) (hnum := by omega) (hCC := by omega)) (hst := rfl) dL_areLinks_118 (hf := ⟨by show _ ≤ 3600; (try simp only [rmL]); omega, by show _ ≤ 30300; (try simp only [rmL]); omega⟩) (kk := fun v118 w118 g118 => ?_)
                      obtain ⟨rfl, hkwk⟩ := g118
                      have hkw9 := hkw.trans hkwk
                      have hq9 := hkwk.at hq1
                      have hwa := wkA_1 (σ := σ) (num := v % 10) (p := s) (q := s)
                      rw [← hgs] at hwa
                      have hwl : wkA σ 1 (v % 10) s (shl (-1) (sprT (sT σ) s)) ≤ 100 := by unfold wkA; rw [if_neg (by decide)]; exact Nat.le_trans (fndS_le _) (shl_le hS (by omega) (-1))
                      refine i_if_le C dL_areLinks_121 (tgt := 128) (kt := fun hB121 => ?_) (kf := fun hB121 => ?_)
                      · refine i_iconst C dL_areLinks_128 (kk := ?_)
                        refine i_istore C dL_areLinks_129 (kk := ?_)
                        refine i_iload C dL_areLinks_131 (kk := ?_)
                        refine i_iload C dL_areLinks_133 (kk := ?_)
                        refine i_if_lt C dL_areLinks_135 (tgt := 147) (kt := fun hB135 => ?_) (kf := fun hB135 => ?_)
                        · exfalso; omega
                        · refine i_iload C dL_areLinks_138 (kk := ?_)
                          refine i_if_ne C dL_areLinks_140 (tgt := 147) (kt := fun hB140 => ?_) (kf := fun hB140 => ?_)
                          · exact absurd rfl hB140
                          · refine i_iconst C dL_areLinks_143 (kk := ?_)
                            refine i_goto C dL_areLinks_144 (tgt := 148) (kk := ?_)
                            refine i_iadd C dL_areLinks_148 (kk := ?_)
                            refine i_istore C dL_areLinks_149 (kk := ?_)
                            refine i_iload C dL_areLinks_151 (kk := ?_)
                            refine i_if_lt C dL_areLinks_153 (tgt := 171) (kt := fun hB153 => ?_) (kf := fun hB153 => ?_)
                            · exfalso; omega
                            · refine i_iload C dL_areLinks_156 (kk := ?_)
                              refine i_if_ne C dL_areLinks_158 (tgt := 171) (kt := fun hB158 => ?_) (kf := fun hB158 => ?_)
                              · exact absurd rfl hB158
                              · refine i_iload C dL_areLinks_161 (kk := ?_)
                                refine i_if_ge C dL_areLinks_163 (tgt := 171) (kt := fun hB163 => ?_) (kf := fun hB163 => ?_)
                                · rw [if_neg (by omega)] at hfs
                                  refine i_iload C dL_areLinks_171 (kk := ?_)
                                  refine i_istore C dL_areLinks_173 (kk := ?_)
                                  refine i_iload C dL_areLinks_175 (kk := ?_)
                                  refine i_if_lt C dL_areLinks_177 (tgt := 212) (kt := fun hB177 => ?_) (kf := fun hB177 => ?_)
                                  · exfalso; omega
                                  · refine i_iload C dL_areLinks_180 (kk := ?_)
                                    refine i_if_eq C dL_areLinks_182 (tgt := 212) (kt := fun hB182 => ?_) (kf := fun hB182 => ?_)
                                    · refine i_iinc C dL_areLinks_212 (kk := ?_)
                                      rw [show (k : Int) + 1 = ((k + 1 : Nat) : Int) by omega]
                                      refine i_goto C dL_areLinks_215 (tgt := 40) (kk := ?_)
                                      rw [show ((badN (sT σ) (lkL ((shl (-1) (sprT (sT σ) i)).take k)) : Nat) : Int) + 1 = ((badN (sT σ) (lkL ((shl (-1) (sprT (sT σ) i)).take (k + 1))) : Nat) : Int) by rw [hbn]; omega, ← hfs]
                                      exact ihk (k + 1) _ _ _ F _ _ _ (by omega) (by omega) (by (try simp only [rmL]); omega) (by (try simp only [rmL]); omega) hkw9 hq9 (fun p hp => by rw [hs2, lfK_no (by rw [hgd, Bool.and_false])]; exact hF p hp)
                                    · exact absurd rfl hB182
                                · rw [if_pos (by omega)] at hfs
                                  refine i_iload C dL_areLinks_166 (kk := ?_)
                                  refine i_goto C dL_areLinks_168 (tgt := 173) (kk := ?_)
                                  refine i_istore C dL_areLinks_173 (kk := ?_)
                                  refine i_iload C dL_areLinks_175 (kk := ?_)
                                  refine i_if_lt C dL_areLinks_177 (tgt := 212) (kt := fun hB177 => ?_) (kf := fun hB177 => ?_)
                                  · exfalso; omega
                                  · refine i_iload C dL_areLinks_180 (kk := ?_)
                                    refine i_if_eq C dL_areLinks_182 (tgt := 212) (kt := fun hB182 => ?_) (kf := fun hB182 => ?_)
                                    · refine i_iinc C dL_areLinks_212 (kk := ?_)
                                      rw [show (k : Int) + 1 = ((k + 1 : Nat) : Int) by omega]
                                      refine i_goto C dL_areLinks_215 (tgt := 40) (kk := ?_)
                                      rw [show ((badN (sT σ) (lkL ((shl (-1) (sprT (sT σ) i)).take k)) : Nat) : Int) + 1 = ((badN (sT σ) (lkL ((shl (-1) (sprT (sT σ) i)).take (k + 1))) : Nat) : Int) by rw [hbn]; omega, ← hfs]
                                      exact ihk (k + 1) _ _ _ F _ _ _ (by omega) (by omega) (by (try simp only [rmL]); omega) (by (try simp only [rmL]); omega) hkw9 hq9 (fun p hp => by rw [hs2, lfK_no (by rw [hgd, Bool.and_false])]; exact hF p hp)
                                    · exact absurd rfl hB182
                      · exact absurd (hwa.mp (by omega)) (by rw [hgd]; exact Bool.false_ne_true)
                · exfalso; omega
            · have hsN := lkL_snocN hx hx2
              refine i_aload_n C dL_areLinks_47 (kk := ?_)
              refine i_iload C dL_areLinks_48 (kk := ?_)
              refine i_iconst C dL_areLinks_50 (kk := ?_)
              refine i_iload C dL_areLinks_51 (kk := ?_)
              refine i_callVF C lk_L_44 (x_sortAt l hl D hXk (i := (i : Int)) (j := -1) (k := (k : Int))) (hcl := rfl) (hst := rfl) dL_areLinks_53 (hw := hOk) (hxx := fun E w1 h => by (obtain ⟨h, -⟩ := h; rcases h with ⟨-, h⟩ | ⟨-, -, h⟩ | ⟨-, -, p9, hp9, e9, h⟩; exact h (by omega); exact h (by omega); (have e8 : i = p9 := by omega); subst e8; (have h7 := h k rfl); omega)) (hf := ⟨by show _ ≤ 3600; (try simp only [rmL]); omega, by show _ ≤ 30300; (try simp only [rmL]); omega⟩) (kk := fun v53 w53 g53 => ?_)
              obtain ⟨⟨p9, hp9, e9, -, n9, y9, e8, hy9, rfl⟩, q53⟩ := g53
              have q53 := q53.symm
              subst q53
              have e7 : i = p9 := by omega
              subst e7
              have e6 : k = n9 := by omega
              subst e6
              rw [hx] at hy9
              cases hy9
              refine i_iconst C dL_areLinks_56 (kk := ?_)
              refine i_icmp_ne C dL_areLinks_57 (tgt := 72) (kt := fun hB57 => ?_) (kf := fun hB57 => ?_)
              · refine i_iconst C dL_areLinks_72 (kk := ?_)
                refine i_istore C dL_areLinks_73 (kk := ?_)
                refine i_iload C dL_areLinks_75 (kk := ?_)
                refine i_if_ge C dL_areLinks_77 (tgt := 84) (kt := fun hB77 => ?_) (kf := fun hB77 => ?_)
                · exfalso; omega
                · refine i_iconst C dL_areLinks_80 (kk := ?_)
                  refine i_goto C dL_areLinks_81 (tgt := 96) (kk := ?_)
                  refine i_istore C dL_areLinks_96 (kk := ?_)
                  refine i_iload C dL_areLinks_98 (kk := ?_)
                  refine i_if_lt C dL_areLinks_100 (tgt := 128) (kt := fun hB100 => ?_) (kf := fun hB100 => ?_)
                  · refine i_iconst C dL_areLinks_128 (kk := ?_)
                    refine i_istore C dL_areLinks_129 (kk := ?_)
                    refine i_iload C dL_areLinks_131 (kk := ?_)
                    refine i_iload C dL_areLinks_133 (kk := ?_)
                    refine i_if_lt C dL_areLinks_135 (tgt := 147) (kt := fun hB135 => ?_) (kf := fun hB135 => ?_)
                    · refine i_iconst C dL_areLinks_147 (kk := ?_)
                      refine i_iadd C dL_areLinks_148 (kk := ?_)
                      refine i_istore C dL_areLinks_149 (kk := ?_)
                      refine i_iload C dL_areLinks_151 (kk := ?_)
                      refine i_if_lt C dL_areLinks_153 (tgt := 171) (kt := fun hB153 => ?_) (kf := fun hB153 => ?_)
                      · refine i_iload C dL_areLinks_171 (kk := ?_)
                        refine i_istore C dL_areLinks_173 (kk := ?_)
                        refine i_iload C dL_areLinks_175 (kk := ?_)
                        refine i_if_lt C dL_areLinks_177 (tgt := 212) (kt := fun hB177 => ?_) (kf := fun hB177 => ?_)
                        · refine i_iinc C dL_areLinks_212 (kk := ?_)
                          rw [show (k : Int) + 1 = ((k + 1 : Nat) : Int) by omega]
                          refine i_goto C dL_areLinks_215 (tgt := 40) (kk := ?_)
                          rw [Int.add_zero, ← hsN]
                          exact ihk (k + 1) _ _ _ F _ _ _ (by omega) (by omega) (by (try simp only [rmL]); omega) (by (try simp only [rmL]); omega) hkw hq1 (by rw [hsN]; exact hF)
                        · exfalso; omega
                      · exfalso; omega
                    · exfalso; omega
                  · exfalso; omega
              · exact absurd hB57 hx2
        exact lp2 ((shl (-1) (sprT (sT σ) i)).length + 1) 0 _ _ _ F _ _ _ (by omega) (by omega) (by (try simp only [rmL]); omega) (by (try simp only [rmL]); omega) hkw hq1 (fun p hp => by rw [hF p hp]; exact lfK_0.symm)
  exact lp1 6 0 _ _ _ (fun _ => 0) _ _ _ _ _ _ _ (by omega) (by omega) (by omega) (by omega) hkW k5 (fun p hp => rfl)
