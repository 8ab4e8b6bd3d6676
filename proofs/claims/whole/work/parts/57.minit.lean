/-- arrays that an object's constructor makes, one after another -/
def Bl (D : gD) (w W : wW) (a : Nat) (obj : va_E) (L : List (Nat × Nat)) : Prop := W a = some obj ∧ Gr w W a (L.map Prod.fst) ∧ ∀ x ∈ L, W x.1 = some (iar D x.2 (fun _ => 0))
theorem Bl.start {D : gD} {w : wW} {a : Nat} {obj : va_E} (h : w a = some obj) : Bl D w w a obj [] := ⟨h, Gr.rf (by rw [h]; exact nofun), fun _ h => nomatch h⟩
theorem Bl.step {D : gD} {w W : wW} {a q N : Nat} {obj obj' : va_E} {L : List (Nat × Nat)} (h : Bl D w W a obj L) (hq : W q = none) : Bl D w (wset (wset W q (iar D N (fun _ => 0))) a obj') a obj' (L ++ [(q, N)]) := by
  have hqa : q ≠ a := fun z => by rw [z, h.1] at hq; cases hq
  refine ⟨wset_eq, by rw [List.map_append]; exact (h.2.1.new hq).mod (Or.inl rfl), fun x hx => ?_⟩
  rcases List.mem_append.mp hx with z | z
  · have hx1 := h.2.2 x z
    rw [wset_ne (fun e => by have y := h.2.1.2.1 x.1 (List.mem_map_of_mem z); rw [e] at y; exact h.2.1.2.2.2.2.1 y), keep1 hx1 hq]
  · rw [List.mem_singleton.mp z, wset_ne hqa, wset_eq]
set_option maxRecDepth 100000 in
set_option maxHeartbeats 4000000 in
theorem c_X7_init (l : Launch) (hl : l.stackTraces = false) (D : gD) {w : wW} {a : Nat} {τ0 ad0 : Nat → Nat} (hw : w a = some (.inr (7, [.null, .int 0, .int 0, .null, .null, .null, .null, .null, .null, .null, .null, .null, .null, .null, .null, .null, .null, .int 0, .null, .null, .null, .int 0])) := by assumption) : CTm l D yX7_init cX7_init 2 none (rmL 2 18 8748) [.ref a] w (fun u w1 => u = none ∧ ∃ (τ ad : Nat → Nat) (F : Nat → Nat → Int), (∀ q, w q ≠ none → q ≠ a → τ q = τ0 q) ∧ (∀ r, r < 5000 → ad r = ad0 r) ∧ ad 5000 = a ∧ MdR D w w1 τ ad F 0 0 0 0 ∧ MdV sg0 F 0 0) := by
  refine CTm_of hl true rfl (by rfl) (Nat.le_of_ble_eq_true rfl) (fun _ => rfl) ?_
  intro G C
  show G 0 0 w [some (.ref a), none] 0 []
  refine i_aload_n C dX7_init_0 (kk := ?_)
  refine i_objInit C lk_X7_1 dX7_init_1 (kk := ?_)
  have B := Bl.start (D := D) hw
  refine i_aload_n C dX7_init_4 (kk := ?_)
  refine i_bipush C dX7_init_5 (kk := ?_)
  refine i_newint C (harr := ta_int) (N := 30) (d := dX7_init_7) (kk := fun q7 n7 => ?_)
  refine i_putF C ff_X7_7 dX7_init_9 (hw := keep1 B.1 n7) (kk := ?_)
  have B := B.step (N := 30) (obj' := .inr (7, [.ref q7, .int 0, .int 0, .null, .null, .null, .null, .null, .null, .null, .null, .null, .null, .null, .null, .null, .null, .int 0, .null, .null, .null, .int 0])) n7
  refine i_aload_n C dX7_init_12 (kk := ?_)
  refine i_sipush C dX7_init_13 (kk := ?_)
  refine i_newint C (harr := ta_int) (N := 7560) (d := dX7_init_16) (kk := fun q16 n16 => ?_)
  refine i_putF C ff_X7_13 dX7_init_18 (hw := keep1 B.1 n16) (kk := ?_)
  have B := B.step (N := 7560) (obj' := .inr (7, [.ref q7, .int 0, .int 0, .ref q16, .null, .null, .null, .null, .null, .null, .null, .null, .null, .null, .null, .null, .null, .int 0, .null, .null, .null, .int 0])) n16
  refine i_aload_n C dX7_init_21 (kk := ?_)
  refine i_sipush C dX7_init_22 (kk := ?_)
  refine i_newint C (harr := ta_int) (N := 252) (d := dX7_init_25) (kk := fun q25 n25 => ?_)
  refine i_putF C ff_X7_16 dX7_init_27 (hw := keep1 B.1 n25) (kk := ?_)
  have B := B.step (N := 252) (obj' := .inr (7, [.ref q7, .int 0, .int 0, .ref q16, .ref q25, .null, .null, .null, .null, .null, .null, .null, .null, .null, .null, .null, .null, .int 0, .null, .null, .null, .int 0])) n25
  refine i_aload_n C dX7_init_30 (kk := ?_)
  refine i_sipush C dX7_init_31 (kk := ?_)
  refine i_newint C (harr := ta_int) (N := 252) (d := dX7_init_34) (kk := fun q34 n34 => ?_)
  refine i_putF C ff_X7_19 dX7_init_36 (hw := keep1 B.1 n34) (kk := ?_)
  have B := B.step (N := 252) (obj' := .inr (7, [.ref q7, .int 0, .int 0, .ref q16, .ref q25, .ref q34, .null, .null, .null, .null, .null, .null, .null, .null, .null, .null, .null, .int 0, .null, .null, .null, .int 0])) n34
  refine i_aload_n C dX7_init_39 (kk := ?_)
  refine i_bipush C dX7_init_40 (kk := ?_)
  refine i_newint C (harr := ta_int) (N := 12) (d := dX7_init_42) (kk := fun q42 n42 => ?_)
  refine i_putF C ff_X7_22 dX7_init_44 (hw := keep1 B.1 n42) (kk := ?_)
  have B := B.step (N := 12) (obj' := .inr (7, [.ref q7, .int 0, .int 0, .ref q16, .ref q25, .ref q34, .ref q42, .null, .null, .null, .null, .null, .null, .null, .null, .null, .null, .int 0, .null, .null, .null, .int 0])) n42
  refine i_aload_n C dX7_init_47 (kk := ?_)
  refine i_bipush C dX7_init_48 (kk := ?_)
  refine i_newint C (harr := ta_int) (N := 12) (d := dX7_init_50) (kk := fun q50 n50 => ?_)
  refine i_putF C ff_X7_25 dX7_init_52 (hw := keep1 B.1 n50) (kk := ?_)
  have B := B.step (N := 12) (obj' := .inr (7, [.ref q7, .int 0, .int 0, .ref q16, .ref q25, .ref q34, .ref q42, .ref q50, .null, .null, .null, .null, .null, .null, .null, .null, .null, .int 0, .null, .null, .null, .int 0])) n50
  refine i_aload_n C dX7_init_55 (kk := ?_)
  refine i_bipush C dX7_init_56 (kk := ?_)
  refine i_newint C (harr := ta_int) (N := 6) (d := dX7_init_58) (kk := fun q58 n58 => ?_)
  refine i_putF C ff_X7_28 dX7_init_60 (hw := keep1 B.1 n58) (kk := ?_)
  have B := B.step (N := 6) (obj' := .inr (7, [.ref q7, .int 0, .int 0, .ref q16, .ref q25, .ref q34, .ref q42, .ref q50, .ref q58, .null, .null, .null, .null, .null, .null, .null, .null, .int 0, .null, .null, .null, .int 0])) n58
  refine i_aload_n C dX7_init_63 (kk := ?_)
  refine i_sipush C dX7_init_64 (kk := ?_)
  refine i_newint C (harr := ta_int) (N := 144) (d := dX7_init_67) (kk := fun q67 n67 => ?_)
  refine i_putF C ff_X7_31 dX7_init_69 (hw := keep1 B.1 n67) (kk := ?_)
  have B := B.step (N := 144) (obj' := .inr (7, [.ref q7, .int 0, .int 0, .ref q16, .ref q25, .ref q34, .ref q42, .ref q50, .ref q58, .ref q67, .null, .null, .null, .null, .null, .null, .null, .int 0, .null, .null, .null, .int 0])) n67
  refine i_aload_n C dX7_init_72 (kk := ?_)
  refine i_bipush C dX7_init_73 (kk := ?_)
  refine i_newint C (harr := ta_int) (N := 12) (d := dX7_init_75) (kk := fun q75 n75 => ?_)
  refine i_putF C ff_X7_34 dX7_init_77 (hw := keep1 B.1 n75) (kk := ?_)
  have B := B.step (N := 12) (obj' := .inr (7, [.ref q7, .int 0, .int 0, .ref q16, .ref q25, .ref q34, .ref q42, .ref q50, .ref q58, .ref q67, .ref q75, .null, .null, .null, .null, .null, .null, .int 0, .null, .null, .null, .int 0])) n75
  refine i_aload_n C dX7_init_80 (kk := ?_)
  refine i_bipush C dX7_init_81 (kk := ?_)
  refine i_newint C (harr := ta_int) (N := 12) (d := dX7_init_83) (kk := fun q83 n83 => ?_)
  refine i_putF C ff_X7_37 dX7_init_85 (hw := keep1 B.1 n83) (kk := ?_)
  have B := B.step (N := 12) (obj' := .inr (7, [.ref q7, .int 0, .int 0, .ref q16, .ref q25, .ref q34, .ref q42, .ref q50, .ref q58, .ref q67, .ref q75, .ref q83, .null, .null, .null, .null, .null, .int 0, .null, .null, .null, .int 0])) n83
  refine i_aload_n C dX7_init_88 (kk := ?_)
  refine i_bipush C dX7_init_89 (kk := ?_)
  refine i_newint C (harr := ta_int) (N := 12) (d := dX7_init_91) (kk := fun q91 n91 => ?_)
  refine i_putF C ff_X7_40 dX7_init_93 (hw := keep1 B.1 n91) (kk := ?_)
  have B := B.step (N := 12) (obj' := .inr (7, [.ref q7, .int 0, .int 0, .ref q16, .ref q25, .ref q34, .ref q42, .ref q50, .ref q58, .ref q67, .ref q75, .ref q83, .ref q91, .null, .null, .null, .null, .int 0, .null, .null, .null, .int 0])) n91
  refine i_aload_n C dX7_init_96 (kk := ?_)
  refine i_bipush C dX7_init_97 (kk := ?_)
  refine i_newint C (harr := ta_int) (N := 12) (d := dX7_init_99) (kk := fun q99 n99 => ?_)
  refine i_putF C ff_X7_43 dX7_init_101 (hw := keep1 B.1 n99) (kk := ?_)
  have B := B.step (N := 12) (obj' := .inr (7, [.ref q7, .int 0, .int 0, .ref q16, .ref q25, .ref q34, .ref q42, .ref q50, .ref q58, .ref q67, .ref q75, .ref q83, .ref q91, .ref q99, .null, .null, .null, .int 0, .null, .null, .null, .int 0])) n99
  refine i_aload_n C dX7_init_104 (kk := ?_)
  refine i_sipush C dX7_init_105 (kk := ?_)
  refine i_newint C (harr := ta_int) (N := 128) (d := dX7_init_108) (kk := fun q108 n108 => ?_)
  refine i_putF C ff_X7_46 dX7_init_110 (hw := keep1 B.1 n108) (kk := ?_)
  have B := B.step (N := 128) (obj' := .inr (7, [.ref q7, .int 0, .int 0, .ref q16, .ref q25, .ref q34, .ref q42, .ref q50, .ref q58, .ref q67, .ref q75, .ref q83, .ref q91, .ref q99, .ref q108, .null, .null, .int 0, .null, .null, .null, .int 0])) n108
  refine i_aload_n C dX7_init_113 (kk := ?_)
  refine i_sipush C dX7_init_114 (kk := ?_)
  refine i_newint C (harr := ta_int) (N := 128) (d := dX7_init_117) (kk := fun q117 n117 => ?_)
  refine i_putF C ff_X7_49 dX7_init_119 (hw := keep1 B.1 n117) (kk := ?_)
  have B := B.step (N := 128) (obj' := .inr (7, [.ref q7, .int 0, .int 0, .ref q16, .ref q25, .ref q34, .ref q42, .ref q50, .ref q58, .ref q67, .ref q75, .ref q83, .ref q91, .ref q99, .ref q108, .ref q117, .null, .int 0, .null, .null, .null, .int 0])) n117
  refine i_aload_n C dX7_init_122 (kk := ?_)
  refine i_sipush C dX7_init_123 (kk := ?_)
  refine i_newint C (harr := ta_int) (N := 128) (d := dX7_init_126) (kk := fun q126 n126 => ?_)
  refine i_putF C ff_X7_52 dX7_init_128 (hw := keep1 B.1 n126) (kk := ?_)
  have B := B.step (N := 128) (obj' := .inr (7, [.ref q7, .int 0, .int 0, .ref q16, .ref q25, .ref q34, .ref q42, .ref q50, .ref q58, .ref q67, .ref q75, .ref q83, .ref q91, .ref q99, .ref q108, .ref q117, .ref q126, .int 0, .null, .null, .null, .int 0])) n126
  refine i_aload_n C dX7_init_131 (kk := ?_)
  refine i_bipush C dX7_init_132 (kk := ?_)
  refine i_newint C (harr := ta_int) (N := 16) (d := dX7_init_134) (kk := fun q134 n134 => ?_)
  refine i_putF C ff_X7_55 dX7_init_136 (hw := keep1 B.1 n134) (kk := ?_)
  have B := B.step (N := 16) (obj' := .inr (7, [.ref q7, .int 0, .int 0, .ref q16, .ref q25, .ref q34, .ref q42, .ref q50, .ref q58, .ref q67, .ref q75, .ref q83, .ref q91, .ref q99, .ref q108, .ref q117, .ref q126, .int 0, .ref q134, .null, .null, .int 0])) n134
  refine i_aload_n C dX7_init_139 (kk := ?_)
  refine i_bipush C dX7_init_140 (kk := ?_)
  refine i_newint C (harr := ta_int) (N := 16) (d := dX7_init_142) (kk := fun q142 n142 => ?_)
  refine i_putF C ff_X7_58 dX7_init_144 (hw := keep1 B.1 n142) (kk := ?_)
  have B := B.step (N := 16) (obj' := .inr (7, [.ref q7, .int 0, .int 0, .ref q16, .ref q25, .ref q34, .ref q42, .ref q50, .ref q58, .ref q67, .ref q75, .ref q83, .ref q91, .ref q99, .ref q108, .ref q117, .ref q126, .int 0, .ref q134, .ref q142, .null, .int 0])) n142
  refine i_aload_n C dX7_init_147 (kk := ?_)
  refine i_bipush C dX7_init_148 (kk := ?_)
  refine i_newint C (harr := ta_int) (N := 16) (d := dX7_init_150) (kk := fun q150 n150 => ?_)
  refine i_putF C ff_X7_61 dX7_init_152 (hw := keep1 B.1 n150) (kk := ?_)
  have B := B.step (N := 16) (obj' := .inr (7, [.ref q7, .int 0, .int 0, .ref q16, .ref q25, .ref q34, .ref q42, .ref q50, .ref q58, .ref q67, .ref q75, .ref q83, .ref q91, .ref q99, .ref q108, .ref q117, .ref q126, .int 0, .ref q134, .ref q142, .ref q150, .int 0])) n150
  suffices key : ∀ W : wW, Bl D w W a (.inr (7, [.ref q7, .int 0, .int 0, .ref q16, .ref q25, .ref q34, .ref q42, .ref q50, .ref q58, .ref q67, .ref q75, .ref q83, .ref q91, .ref q99, .ref q108, .ref q117, .ref q126, .int 0, .ref q134, .ref q142, .ref q150, .int 0])) [(q7, 30), (q16, 7560), (q25, 252), (q34, 252), (q42, 12), (q50, 12), (q58, 6), (q67, 144), (q75, 12), (q83, 12), (q91, 12), (q99, 12), (q108, 128), (q117, 128), (q126, 128), (q134, 16), (q142, 16), (q150, 16)] → G 18 8748 W [some (.ref a), none] 155 [] from key _ B
  intro W B
  refine i_iconst C dX7_init_155 (kk := ?_)
  refine i_istore_n C dX7_init_156 (kk := ?_)
  have hna : a ∉ ([(q7, 30), (q16, 7560), (q25, 252), (q34, 252), (q42, 12), (q50, 12), (q58, 6), (q67, 144), (q75, 12), (q83, 12), (q91, 12), (q99, 12), (q108, 128), (q117, 128), (q126, 128), (q134, 16), (q142, 16), (q150, 16)] : List (Nat × Nat)).map Prod.fst := fun z => by have y := B.2.1.2.1 a z; rw [hw] at y; cases y
  have hnd : (([(a, 5000), (q7, 5001), (q16, 5004), (q25, 5005), (q34, 5006), (q42, 5007), (q50, 5008), (q58, 5009), (q67, 5010), (q75, 5011), (q83, 5012), (q91, 5013), (q99, 5014), (q108, 5015), (q117, 5016), (q126, 5017), (q134, 5019), (q142, 5020), (q150, 5021)] : List (Nat × Nat)).map Prod.fst).Nodup := List.nodup_cons.mpr ⟨hna, B.2.1.1⟩
  obtain ⟨τ, ad, m1, m2, m3⟩ := tagL τ0 ad0 [(a, 5000), (q7, 5001), (q16, 5004), (q25, 5005), (q34, 5006), (q42, 5007), (q50, 5008), (q58, 5009), (q67, 5010), (q75, 5011), (q83, 5012), (q91, 5013), (q99, 5014), (q108, 5015), (q117, 5016), (q126, 5017), (q134, 5019), (q142, 5020), (q150, 5021)] hnd (show ([5000, 5001, 5004, 5005, 5006, 5007, 5008, 5009, 5010, 5011, 5012, 5013, 5014, 5015, 5016, 5017, 5019, 5020, 5021] : List Nat).Nodup by decide)
  have M := fun x r (hx : (x, r) ∈ _) => m1 (x, r) hx
  have t0 := M a 5000 (by simp)
  have t1 := M q7 5001 (by simp)
  have t4 := M q16 5004 (by simp)
  have t5 := M q25 5005 (by simp)
  have t6 := M q34 5006 (by simp)
  have t7 := M q42 5007 (by simp)
  have t8 := M q50 5008 (by simp)
  have t9 := M q58 5009 (by simp)
  have t10 := M q67 5010 (by simp)
  have t11 := M q75 5011 (by simp)
  have t12 := M q83 5012 (by simp)
  have t13 := M q91 5013 (by simp)
  have t14 := M q99 5014 (by simp)
  have t15 := M q108 5015 (by simp)
  have t16 := M q117 5016 (by simp)
  have t17 := M q126 5017 (by simp)
  have t19 := M q134 5019 (by simp)
  have t20 := M q142 5020 (by simp)
  have t21 := M q150 5021 (by simp)
  have hM : MdR D w W τ ad (fun _ _ => 0) 0 0 0 0 := by
    refine ⟨⟨by rw [t0.2]; exact t0.1, ?_⟩, fun k hk => ?_, fun q hq => ?_⟩
    · unfold mdO; rw [t1.2, t4.2, t5.2, t6.2, t7.2, t8.2, t9.2, t10.2, t11.2, t12.2, t13.2, t14.2, t15.2, t16.2, t17.2, t19.2, t20.2, t21.2, t0.2]; exact B.1
    · have hk2 : k = 0 ∨ k = 3 ∨ k = 4 ∨ k = 5 ∨ k = 6 ∨ k = 7 ∨ k = 8 ∨ k = 9 ∨ k = 10 ∨ k = 11 ∨ k = 12 ∨ k = 13 ∨ k = 14 ∨ k = 15 ∨ k = 16 ∨ k = 18 ∨ k = 19 ∨ k = 20 := by unfold mK at hk; simp at hk; omega
      rcases hk2 with rfl | rfl | rfl | rfl | rfl | rfl | rfl | rfl | rfl | rfl | rfl | rfl | rfl | rfl | rfl | rfl | rfl | rfl
      · exact ⟨by rw [show 5001 + 0 = 5001 from rfl, t1.2]; exact t1.1, by rw [show 5001 + 0 = 5001 from rfl, t1.2]; exact B.2.2 (q7, 30) (by simp)⟩
      · exact ⟨by rw [show 5001 + 3 = 5004 from rfl, t4.2]; exact t4.1, by rw [show 5001 + 3 = 5004 from rfl, t4.2]; exact B.2.2 (q16, 7560) (by simp)⟩
      · exact ⟨by rw [show 5001 + 4 = 5005 from rfl, t5.2]; exact t5.1, by rw [show 5001 + 4 = 5005 from rfl, t5.2]; exact B.2.2 (q25, 252) (by simp)⟩
      · exact ⟨by rw [show 5001 + 5 = 5006 from rfl, t6.2]; exact t6.1, by rw [show 5001 + 5 = 5006 from rfl, t6.2]; exact B.2.2 (q34, 252) (by simp)⟩
      · exact ⟨by rw [show 5001 + 6 = 5007 from rfl, t7.2]; exact t7.1, by rw [show 5001 + 6 = 5007 from rfl, t7.2]; exact B.2.2 (q42, 12) (by simp)⟩
      · exact ⟨by rw [show 5001 + 7 = 5008 from rfl, t8.2]; exact t8.1, by rw [show 5001 + 7 = 5008 from rfl, t8.2]; exact B.2.2 (q50, 12) (by simp)⟩
      · exact ⟨by rw [show 5001 + 8 = 5009 from rfl, t9.2]; exact t9.1, by rw [show 5001 + 8 = 5009 from rfl, t9.2]; exact B.2.2 (q58, 6) (by simp)⟩
      · exact ⟨by rw [show 5001 + 9 = 5010 from rfl, t10.2]; exact t10.1, by rw [show 5001 + 9 = 5010 from rfl, t10.2]; exact B.2.2 (q67, 144) (by simp)⟩
      · exact ⟨by rw [show 5001 + 10 = 5011 from rfl, t11.2]; exact t11.1, by rw [show 5001 + 10 = 5011 from rfl, t11.2]; exact B.2.2 (q75, 12) (by simp)⟩
      · exact ⟨by rw [show 5001 + 11 = 5012 from rfl, t12.2]; exact t12.1, by rw [show 5001 + 11 = 5012 from rfl, t12.2]; exact B.2.2 (q83, 12) (by simp)⟩
      · exact ⟨by rw [show 5001 + 12 = 5013 from rfl, t13.2]; exact t13.1, by rw [show 5001 + 12 = 5013 from rfl, t13.2]; exact B.2.2 (q91, 12) (by simp)⟩
      · exact ⟨by rw [show 5001 + 13 = 5014 from rfl, t14.2]; exact t14.1, by rw [show 5001 + 13 = 5014 from rfl, t14.2]; exact B.2.2 (q99, 12) (by simp)⟩
      · exact ⟨by rw [show 5001 + 14 = 5015 from rfl, t15.2]; exact t15.1, by rw [show 5001 + 14 = 5015 from rfl, t15.2]; exact B.2.2 (q108, 128) (by simp)⟩
      · exact ⟨by rw [show 5001 + 15 = 5016 from rfl, t16.2]; exact t16.1, by rw [show 5001 + 15 = 5016 from rfl, t16.2]; exact B.2.2 (q117, 128) (by simp)⟩
      · exact ⟨by rw [show 5001 + 16 = 5017 from rfl, t17.2]; exact t17.1, by rw [show 5001 + 16 = 5017 from rfl, t17.2]; exact B.2.2 (q126, 128) (by simp)⟩
      · exact ⟨by rw [show 5001 + 18 = 5019 from rfl, t19.2]; exact t19.1, by rw [show 5001 + 18 = 5019 from rfl, t19.2]; exact B.2.2 (q134, 16) (by simp)⟩
      · exact ⟨by rw [show 5001 + 19 = 5020 from rfl, t20.2]; exact t20.1, by rw [show 5001 + 19 = 5020 from rfl, t20.2]; exact B.2.2 (q142, 16) (by simp)⟩
      · exact ⟨by rw [show 5001 + 20 = 5021 from rfl, t21.2]; exact t21.1, by rw [show 5001 + 20 = 5021 from rfl, t21.2]; exact B.2.2 (q150, 16) (by simp)⟩
    · refine B.2.1.2.2.2.2.2 q (fun z => by rw [z, t0.1] at hq; omega) (fun z => ?_)
      obtain ⟨⟨x, y⟩, hx, rfl⟩ := List.mem_map.mp z
      simp only [List.mem_cons, List.not_mem_nil, or_false, Prod.mk.injEq] at hx
      rcases hx with ⟨rfl, -⟩ | ⟨rfl, -⟩ | ⟨rfl, -⟩ | ⟨rfl, -⟩ | ⟨rfl, -⟩ | ⟨rfl, -⟩ | ⟨rfl, -⟩ | ⟨rfl, -⟩ | ⟨rfl, -⟩ | ⟨rfl, -⟩ | ⟨rfl, -⟩ | ⟨rfl, -⟩ | ⟨rfl, -⟩ | ⟨rfl, -⟩ | ⟨rfl, -⟩ | ⟨rfl, -⟩ | ⟨rfl, -⟩ | ⟨rfl, -⟩
      · rw [t1.1] at hq; omega
      · rw [t4.1] at hq; omega
      · rw [t5.1] at hq; omega
      · rw [t6.1] at hq; omega
      · rw [t7.1] at hq; omega
      · rw [t8.1] at hq; omega
      · rw [t9.1] at hq; omega
      · rw [t10.1] at hq; omega
      · rw [t11.1] at hq; omega
      · rw [t12.1] at hq; omega
      · rw [t13.1] at hq; omega
      · rw [t14.1] at hq; omega
      · rw [t15.1] at hq; omega
      · rw [t16.1] at hq; omega
      · rw [t17.1] at hq; omega
      · rw [t19.1] at hq; omega
      · rw [t20.1] at hq; omega
      · rw [t21.1] at hq; omega
  have hT1 : ∀ q, w q ≠ none → q ≠ a → τ q = τ0 q := fun q h1 h2 => m2 q (fun z => by
    rcases List.mem_cons.mp z with y | y
    · exact h2 y
    · exact h1 (B.2.1.2.1 q y))
  have hT2 : ∀ r, r < 5000 → ad r = ad0 r := fun r h => m3 r (by simp; omega)
  have lp : ∀ (m k : Nat) (w1 : wW) (F1 : Nat → Nat → Int), 12 + 1 ≤ m + k → k ≤ 12 → MdR D w w1 τ ad F1 0 0 0 0 → (∀ z, z ≠ 5 → F1 z = fun _ => 0) → (∀ p, p < k → F1 5 (21 * p) = 3) → G 18 8748 w1 [some (.ref (ad 5000)), some (.int (Z32 (k : Int)))] 157 [] := by
    intro m
    induction m with
    | zero => intro k w1 F1 h1 h2; omega
    | succ m ih =>
    intro k w1 F1 h1 h2 hM er e5
    refine i_iload_n C dX7_init_157 (kk := ?_)
    refine i_bipush C dX7_init_158 (kk := ?_)
    refine i_icmp_ge C dX7_init_160 (tgt := 179) (kt := fun hB160 => ?_) (kf := fun hB160 => ?_)
    · have hk9 : k = 12 := by omega
      subst hk9
      exact i_vret C (d := dX7_init_179) (h := ⟨rfl, τ, ad, F1, hT1, hT2, t0.2, hM, rfl, rfl, fun i hi => absurd hi (Nat.not_lt_zero i), fun p hp => ⟨by rw [er 6 (by decide)]; rfl, by rw [er 7 (by decide)]; rfl, fun v hv => by have e : v = 0 := Nat.le_zero.mp hv; subst e; exact ⟨by rw [er 4 (by decide)]; rfl, e5 p hp, fun i hi => absurd hi (Nat.not_lt_zero i)⟩⟩, fun u hu => by rw [er 8 (by decide)]; rfl⟩)
    · refine i_aload_n C dX7_init_163 (kk := ?_)
      refine i_getf C f_X7_19 dX7_init_164 (hw := hM.obj) (kk := ?_)
      refine i_bipush C dX7_init_167 (kk := ?_)
      refine i_iload_n C dX7_init_169 (kk := ?_)
      refine i_imul C dX7_init_170 (kk := ?_)
      refine i_iconst C dX7_init_171 (kk := ?_)
      refine m_iasF C hM 5 (21 * k) (N := 252) dX7_init_172 (kk := fun w172 F172 hM u172 n172 => ?_)
      refine i_iinc C dX7_init_173 (kk := ?_)
      refine i_goto C dX7_init_176 (tgt := 157) (kk := ?_)
      exact ih (k + 1) _ _ (by omega) (by omega) hM (fun z hz => by rw [n172 z hz]; exact er z hz) (fun p hp => by rw [u172]; by_cases y : p = k; (subst y; rw [upz_eq]); (rw [upz_ne (by omega)]; exact e5 p (by omega)))
  rw [show a = ad 5000 from t0.2.symm]
  exact lp 13 0 _ _ (by omega) (by omega) hM (fun _ _ => rfl) (fun p hp => absurd hp (Nat.not_lt_zero p))
