set_option maxRecDepth 100000 in
set_option maxHeartbeats 4000000 in
theorem k_breached {l : Launch} (hl : l.stackTraces = false) {D : gD} {b L : Nat} {xs : Nat → Int32} {G : gG} (C : CxL l D b L xs G) {i n k x0 m0 o0 : Nat} {w : wW} {σ : Sg} {la : Int} {o5 o6 : Option Value} (hn : n + 10 ≤ 601024) (hk : k + 200 ≤ 7293034) (hI : LInv D w σ la x0 m0 o0) (jn : JN G D b i x0 m0 o0 (n + 10) (k + 200)) : G n k w [some (.ref b), some (.ref x0), some (.ref m0), some (.ref o0), some (.int (Z32 (i : Int))), o5, o6] 2043 [] := by
  obtain ⟨C, hsl, hsd⟩ := C
  obtain ⟨τ, ad, nb, tb, g9, hW, hJ, ht, hO, rfl, rfl, rfl⟩ := hI
  have hbs := brs_le σ 12
  obtain ⟨fs7, hobj⟩ := hJ.objx
  have hI2 := MdI.of hW.1 hJ
  refine i_aload_n C dL_law_2043 (kk := ?_)
  refine i_callV C lk_L_215 (c_X6_breached l hl D (hW := hW)) (hcl := rfl) (hst := rfl) dL_law_2044 (hw := hW.obj) (hf := ⟨by show n + 0 ≤ 601024; omega, by show k + 0 ≤ 7293034; omega⟩) (kk := fun v1 w1 g1 => ?_)
  obtain ⟨rfl, q1⟩ := g1
  have q1 := q1.symm
  subst q1
  refine i_aload_n C dL_law_2047 (kk := ?_)
  refine i_callV C lk_L_218 (c_X7_breached l hl D (hI := hI2) hW.it) (hcl := rfl) (hst := rfl) dL_law_2048 (hw := hobj) (hf := ⟨by show n + 0 + 0 ≤ 601024; omega, by show k + 0 + 0 ≤ 7293034; omega⟩) (kk := fun v2 w2 g2 => ?_)
  obtain ⟨rfl, hJ3⟩ := g2
  refine i_icmp_eq C dL_law_2051 (tgt := 2056) (kt := fun _ => ?_) (kf := fun hB => absurd rfl hB)
  exact jn _ _ _ _ _ _ _ (by show n + 0 + 0 ≤ _; omega) (by show k + 0 + 0 ≤ _; omega) ⟨τ, ad, nb, tb, g9, hW.far hJ3.off (by omega), hJ3.reset, ht, by rw [hJ3.off _ (Or.inr (by omega))]; exact hO, rfl, rfl, rfl⟩
set_option maxRecDepth 100000 in
set_option maxHeartbeats 4000000 in
theorem law_loop {l : Launch} (hl : l.stackTraces = false) {D : gD} {b L : Nat} {xs : Nat → Int32} {G : gG} (C : CxL l D b L xs G) (hL : L ≤ 2048) : ∀ (m i n k : Nat) (w : wW) (σ : Sg) (la : Int) (x0 m0 o0 : Nat) (o5 o6 : Option Value), L + 5 ≤ m + i → i ≤ L → n ≤ 200 + 10 * i → k ≤ 20000 + 200 * i → LInv D w σ la x0 m0 o0 → G n k w [some (.ref b), some (.ref x0), some (.ref m0), some (.ref o0), some (.int (Z32 (i : Int))), o5, o6] 23 [] := by
  intro m
  induction m with
  | zero => intro i n k w σ la x0 m0 o0 o5 o6 h1 h2; omega
  | succ m ih =>
  intro i n k w σ la x0 m0 o0 o5 o6 h1 h2 hn hk hI
  have C9 := C
  obtain ⟨C, hsl, hsd⟩ := C
  refine i_iload C dL_law_23 (kk := ?_)
  refine i_aload_n C dL_law_25 (kk := ?_)
  refine hsl _ _ _ _ _ _ dL_law_26 ?_
  refine i_iconst C dL_law_27 (kk := ?_)
  refine i_isub C dL_law_28 (kk := ?_)
  refine i_icmp_gt C dL_law_29 (tgt := 2062) (kt := fun hB => ?_) (kf := fun hB => ?_)
  · refine i_iconst C dL_law_2062 (kk := ?_)
    exact i_zret C (d := dL_law_2063) (hn := by show n ≤ 601024; omega) (hk := by show k ≤ 7293034; omega) (ha := Or.inr rfl) (h := rfl)
  · refine i_aload_n C dL_law_32 (kk := ?_)
    refine i_iload C dL_law_33 (kk := ?_)
    refine hsd _ _ _ _ _ _ i dL_law_35 (by omega) hL ?_
    refine i_bipush C dL_law_36 (kk := ?_)
    obtain ⟨v, hv, hv2⟩ := and31 (Z32 (xs i).toInt)
    refine i_iand C dL_law_38 (hz := hv2) (kk := ?_)
    have jn : JN G D b i x0 m0 o0 (n + 10) (k + 200) := by
      intro n' k' w' σ' la' p5 p6 hn' hk' hI'
      refine i_iinc C dL_law_2056 (kk := ?_)
      refine i_goto C dL_law_2059 (tgt := 23) (kk := ?_)
      exact ih (i + 4) n' k' w' σ' la' x0 m0 o0 p5 p6 (by omega) (by omega) (by omega) (by omega) hI'
    rcases (show v = 0 ∨ v = 1 ∨ v = 2 ∨ v = 3 ∨ v = 4 ∨ v = 5 ∨ v = 6 ∨ v = 7 ∨ v = 8 ∨ v = 9 ∨ v = 10 ∨ v = 11 ∨ v = 12 ∨ v = 13 ∨ v = 14 ∨ v = 15 ∨ v = 16 ∨ v = 17 ∨ v = 18 ∨ v = 19 ∨ v = 20 ∨ v = 21 ∨ v = 22 ∨ v = 23 ∨ v = 24 ∨ v = 25 ∨ v = 26 ∨ v = 27 ∨ v = 28 ∨ v = 29 ∨ v = 30 ∨ v = 31 by omega) with rfl | rfl | rfl | rfl | rfl | rfl | rfl | rfl | rfl | rfl | rfl | rfl | rfl | rfl | rfl | rfl | rfl | rfl | rfl | rfl | rfl | rfl | rfl | rfl | rfl | rfl | rfl | rfl | rfl | rfl | rfl | rfl
    · refine i_tableIn C dL_law_39 (tgt := 176) (ha := by decide) (h1 := by decide) (h2 := by decide) (ho := rfl) (ht := by decide) (kk := ?_)
      exact k_letter hl C9 (by omega) hL (by omega) (by omega) hI jn
    · refine i_tableIn C dL_law_39 (tgt := 232) (ha := by decide) (h1 := by decide) (h2 := by decide) (ho := rfl) (ht := by decide) (kk := ?_)
      exact k_argument hl C9 (by omega) hL (by omega) (by omega) hI jn
    · refine i_tableIn C dL_law_39 (tgt := 276) (ha := by decide) (h1 := by decide) (h2 := by decide) (ho := rfl) (ht := by decide) (kk := ?_)
      exact k_call hl C9 (by omega) hL (by omega) (by omega) hI jn
    · refine i_tableIn C dL_law_39 (tgt := 344) (ha := by decide) (h1 := by decide) (h2 := by decide) (ho := rfl) (ht := by decide) (kk := ?_)
      exact k_callOn hl C9 (by omega) hL (by omega) (by omega) hI jn
    · refine i_tableIn C dL_law_39 (tgt := 400) (ha := by decide) (h1 := by decide) (h2 := by decide) (ho := rfl) (ht := by decide) (kk := ?_)
      exact k_when hl C9 (by omega) hL (by omega) (by omega) hI jn
    · refine i_tableIn C dL_law_39 (tgt := 456) (ha := by decide) (h1 := by decide) (h2 := by decide) (ho := rfl) (ht := by decide) (kk := ?_)
      exact k_end hl C9 (by omega) hL (by omega) (by omega) hI jn
    · refine i_tableIn C dL_law_39 (tgt := 500) (ha := by decide) (h1 := by decide) (h2 := by decide) (ho := rfl) (ht := by decide) (kk := ?_)
      exact k_anchor hl C9 (by omega) hL (by omega) (by omega) hI jn
    · refine i_tableIn C dL_law_39 (tgt := 556) (ha := by decide) (h1 := by decide) (h2 := by decide) (ho := rfl) (ht := by decide) (kk := ?_)
      exact k_link hl C9 (by omega) hL (by omega) (by omega) hI jn
    · refine i_tableIn C dL_law_39 (tgt := 624) (ha := by decide) (h1 := by decide) (h2 := by decide) (ho := rfl) (ht := by decide) (kk := ?_)
      exact k_redirect hl C9 (by omega) hL (by omega) (by omega) hI jn
    · refine i_tableIn C dL_law_39 (tgt := 680) (ha := by decide) (h1 := by decide) (h2 := by decide) (ho := rfl) (ht := by decide) (kk := ?_)
      exact k_edit hl C9 (by omega) hL (by omega) (by omega) hI jn
    · refine i_tableIn C dL_law_39 (tgt := 748) (ha := by decide) (h1 := by decide) (h2 := by decide) (ho := rfl) (ht := by decide) (kk := ?_)
      exact k_undo hl C9 (by omega) hL (by omega) (by omega) hI jn
    · refine i_tableIn C dL_law_39 (tgt := 816) (ha := by decide) (h1 := by decide) (h2 := by decide) (ho := rfl) (ht := by decide) (kk := ?_)
      exact k_approve hl C9 (by omega) hL (by omega) (by omega) hI jn
    · refine i_tableIn C dL_law_39 (tgt := 891) (ha := by decide) (h1 := by decide) (h2 := by decide) (ho := rfl) (ht := by decide) (kk := ?_)
      exact k_lock hl C9 (by omega) hL (by omega) (by omega) hI jn
    · refine i_tableIn C dL_law_39 (tgt := 971) (ha := by decide) (h1 := by decide) (h2 := by decide) (ho := rfl) (ht := by decide) (kk := ?_)
      exact k_setRank hl C9 (by omega) hL (by omega) (by omega) hI jn
    · refine i_tableIn C dL_law_39 (tgt := 1039) (ha := by decide) (h1 := by decide) (h2 := by decide) (ho := rfl) (ht := by decide) (kk := ?_)
      exact k_version hl C9 (by omega) hL (by omega) (by omega) hI jn
    · refine i_tableIn C dL_law_39 (tgt := 1095) (ha := by decide) (h1 := by decide) (h2 := by decide) (ho := rfl) (ht := by decide) (kk := ?_)
      exact k_rankOf hl C9 (by omega) hL (by omega) (by omega) hI jn
    · refine i_tableIn C dL_law_39 (tgt := 1151) (ha := by decide) (h1 := by decide) (h2 := by decide) (ho := rfl) (ht := by decide) (kk := ?_)
      exact k_force hl C9 (by omega) hL (by omega) (by omega) hI jn
    · refine i_tableIn C dL_law_39 (tgt := 1207) (ha := by decide) (h1 := by decide) (h2 := by decide) (ho := rfl) (ht := by decide) (kk := ?_)
      exact k_reaches hl C9 (by omega) hL (by omega) (by omega) hI jn
    · refine i_tableIn C dL_law_39 (tgt := 1263) (ha := by decide) (h1 := by decide) (h2 := by decide) (ho := rfl) (ht := by decide) (kk := ?_)
      exact k_extent hl C9 (by omega) hL (by omega) (by omega) hI jn
    · refine i_tableIn C dL_law_39 (tgt := 1319) (ha := by decide) (h1 := by decide) (h2 := by decide) (ho := rfl) (ht := by decide) (kk := ?_)
      exact k_items hl C9 (by omega) hL (by omega) (by omega) hI jn
    · refine i_tableIn C dL_law_39 (tgt := 1387) (ha := by decide) (h1 := by decide) (h2 := by decide) (ho := rfl) (ht := by decide) (kk := ?_)
      exact k_sortAt hl C9 (by omega) hL (by omega) (by omega) hI jn
    · refine i_tableIn C dL_law_39 (tgt := 1467) (ha := by decide) (h1 := by decide) (h2 := by decide) (ho := rfl) (ht := by decide) (kk := ?_)
      exact k_itemAt hl C9 (by omega) hL (by omega) (by omega) hI jn
    · refine i_tableIn C dL_law_39 (tgt := 1547) (ha := by decide) (h1 := by decide) (h2 := by decide) (ho := rfl) (ht := by decide) (kk := ?_)
      exact k_itemAnew hl C9 (by omega) hL (by omega) (by omega) hI jn
    · refine i_tableIn C dL_law_39 (tgt := 1627) (ha := by decide) (h1 := by decide) (h2 := by decide) (ho := rfl) (ht := by decide) (kk := ?_)
      exact k_sourceAt hl C9 (by omega) hL (by omega) (by omega) hI jn
    · refine i_tableIn C dL_law_39 (tgt := 1707) (ha := by decide) (h1 := by decide) (h2 := by decide) (ho := rfl) (ht := by decide) (kk := ?_)
      exact k_standsFor hl C9 (by omega) hL (by omega) (by omega) hI jn
    · refine i_tableIn C dL_law_39 (tgt := 1763) (ha := by decide) (h1 := by decide) (h2 := by decide) (ho := rfl) (ht := by decide) (kk := ?_)
      exact k_links hl C9 (by omega) hL (by omega) (by omega) hI jn
    · refine i_tableIn C dL_law_39 (tgt := 1819) (ha := by decide) (h1 := by decide) (h2 := by decide) (ho := rfl) (ht := by decide) (kk := ?_)
      exact k_broken hl C9 (by omega) hL (by omega) (by omega) hI jn
    · refine i_tableIn C dL_law_39 (tgt := 1875) (ha := by decide) (h1 := by decide) (h2 := by decide) (ho := rfl) (ht := by decide) (kk := ?_)
      exact k_firstBroken hl C9 (by omega) hL (by omega) (by omega) hI jn
    · refine i_tableIn C dL_law_39 (tgt := 1931) (ha := by decide) (h1 := by decide) (h2 := by decide) (ho := rfl) (ht := by decide) (kk := ?_)
      exact k_linkedFrom hl C9 (by omega) hL (by omega) (by omega) hI jn
    · refine i_tableIn C dL_law_39 (tgt := 1987) (ha := by decide) (h1 := by decide) (h2 := by decide) (ho := rfl) (ht := by decide) (kk := ?_)
      exact k_breaches hl C9 (by omega) hL (by omega) (by omega) hI jn
    · refine i_tableIn C dL_law_39 (tgt := 2043) (ha := by decide) (h1 := by decide) (h2 := by decide) (ho := rfl) (ht := by decide) (kk := ?_)
      exact k_breached hl C9 (by omega) (by omega) hI jn
    · refine i_tableOut C dL_law_39 (tgt := 2056) (ha := by decide) (h1 := by decide) (ht := by decide) (kk := ?_)
      exact jn _ _ _ _ _ _ _ (by omega) (by omega) hI
theorem MdJ.carry2 {D : gD} {w w1 w0 : wW} {τ ad τ2 ad2 : Nat → Nat} {σ : Sg} {la : Int} (h : MdJ D w0 w τ ad σ la) (had : ∀ r, 5000 ≤ r → r < 5030 → ad2 r = ad r) (hk : ∀ q, w q ≠ none → τ2 q = τ q ∧ w1 q = w q) : MdJ D w1 w1 τ2 ad2 σ la := by
  obtain ⟨F, dn, op, sh, ⟨⟨a1, a2⟩, a3, -⟩, hV⟩ := h
  have k0 := hk (ad 5000) (by rw [a2]; exact nofun)
  have hobj : mdO ad2 dn op sh la = mdO ad dn op sh la := by
    unfold mdO
    rw [had 5001 (by omega) (by omega), had 5004 (by omega) (by omega), had 5005 (by omega) (by omega), had 5006 (by omega) (by omega), had 5007 (by omega) (by omega), had 5008 (by omega) (by omega), had 5009 (by omega) (by omega), had 5010 (by omega) (by omega), had 5011 (by omega) (by omega), had 5012 (by omega) (by omega), had 5013 (by omega) (by omega), had 5014 (by omega) (by omega), had 5015 (by omega) (by omega), had 5016 (by omega) (by omega), had 5017 (by omega) (by omega), had 5019 (by omega) (by omega), had 5020 (by omega) (by omega), had 5021 (by omega) (by omega)]
  refine ⟨F, dn, op, sh, ⟨⟨by rw [had 5000 (by omega) (by omega), k0.1]; exact a1, by rw [had 5000 (by omega) (by omega), k0.2, hobj]; exact a2⟩, fun k hk9 => ?_, offR.rf⟩, hV⟩
  obtain ⟨b1, b2⟩ := a3 k hk9
  have hlt := mK_lt hk9
  have kk := hk (ad (5001 + k)) (by rw [b2]; exact nofun)
  rw [had (5001 + k) (by omega) hlt]
  exact ⟨by rw [kk.1]; exact b1, by rw [kk.2]; exact b2⟩
set_option maxRecDepth 100000 in
set_option maxHeartbeats 4000000 in
theorem law_start {l : Launch} (hl : l.stackTraces = false) {D : gD} {b L : Nat} {xs : Nat → Int32} {G : gG} (C : CxL l D b L xs G) (hL : L ≤ 2048) : G 0 0 (fun _ => none) [some (.ref b), none, none, none, none, none, none] 0 [] := by
  have C9 := C
  obtain ⟨C, -, -⟩ := C
  refine i_new C nw_L_8 dL_law_0 (kk := fun q0 n0 => ?_)
  refine i_dup C dL_law_3 (kk := ?_)
  refine i_callI C lk_L_112 (c_X6_init l hl D (hw := wset_eq)) (hst := rfl) dL_law_4 (kk := fun v4 w4 g4 => ?_)
  obtain ⟨rfl, τ, ad, hW, e0, -⟩ := g4
  refine i_astore_n C dL_law_7 (kk := ?_)
  refine i_new C nw_L_113 dL_law_8 (kk := fun q8 n8 => ?_)
  refine i_dup C dL_law_11 (kk := ?_)
  refine i_callI C lk_L_115 (c_X7_init l hl D (τ0 := τ) (ad0 := ad) (hw := wset_eq)) (hst := rfl) dL_law_12 (kk := fun v12 w12 g12 => ?_)
  obtain ⟨rfl, τ2, ad2, F, h1, h2, h3, hM, hV⟩ := g12
  have hne : ∀ q, w4 q ≠ none → q ≠ q8 := fun q hq z => hq (by rw [z]; exact n8)
  have hτ2 : ∀ q, w4 q ≠ none → τ2 q = τ q := fun q hq => h1 q (by rw [wset_ne (hne q hq)]; exact hq) (hne q hq)
  have t8 : τ2 q8 = 5000 := by rw [← h3]; exact hM.1.1
  have hW2 := (hW.retag (ad' := ad2) hτ2 (fun r hr => h2 r (by omega)) (fun q hq x hx y hy => h2 _ (by have hs := (hW.1.2.1 q hq).1; unfold vr; omega))).far (w1 := w12) (lo := 5000) (hi := 5030) (fun q hq => by rw [hM.2.2 q hq, wset_ne (fun z => by rw [z, t8] at hq; omega)]) (by omega)
  have hJ2 : MdJ D w12 w12 τ2 ad2 sg0 0 := MdJ.reset ⟨F, _, _, _, hM, hV⟩
  refine i_astore_n C dL_law_15 (kk := ?_)
  refine i_iconst C dL_law_16 (kk := ?_)
  refine i_newlong C (harr := ta_long) (N := 1) (d := dL_law_17) (kk := fun q17 n17 => ?_)
  refine i_astore_n C dL_law_19 (kk := ?_)
  refine i_iconst C dL_law_20 (kk := ?_)
  refine i_istore C dL_law_21 (kk := ?_)
  have hk3 : ∀ q, w12 q ≠ none → upz τ2 q17 6000 q = τ2 q ∧ wset w12 q17 (lar D 1 (fun _ => 0)) q = w12 q := fun q hq => by
    have z : q ≠ q17 := fun z => hq (by rw [z]; exact n17)
    rw [upz_ne z, wset_ne z]
    exact ⟨rfl, rfl⟩
  have hW3 := (hW2.retag (τ' := upz τ2 q17 6000) (ad' := upz ad2 6000 q17) (fun q hq => (hk3 q hq).1) (fun r hr => upz_ne (by omega)) (fun q hq x hx y hy => upz_ne (by have hs := (hW2.1.2.1 q hq).1; unfold vr; omega))).far (w1 := wset w12 q17 (lar D 1 (fun _ => 0))) (lo := 6000) (hi := 6001) (offR.rf.put (by rw [upz_eq]; omega) (by rw [upz_eq]; omega)) (by omega)
  have hJ3 : MdJ D _ (wset w12 q17 (lar D 1 (fun _ => 0))) (upz τ2 q17 6000) (upz ad2 6000 q17) sg0 0 := hJ2.carry2 (fun r h1 h2 => upz_ne (by omega)) hk3
  exact law_loop hl C9 hL (L + 5) 0 _ _ _ sg0 0 q0 q8 q17 none none (by omega) (Nat.zero_le _) (by show (191 : Nat) ≤ 200; decide) (by show (15976 : Nat) ≤ 20000; decide) ⟨_, _, _, _, _, hW3, hJ3, by rw [upz_eq, upz_eq], by rw [upz_eq]; exact wset_eq, by rw [upz_ne (by omega), h2 0 (by omega)]; exact e0, by rw [upz_ne (by omega)]; exact h3, upz_eq⟩