-- ===== calls =====
theorem wH.P1 {D : gD} {w : wW} {H : Heap} (hH : wH D w H) {a : Nat} {x : va_E} (hw : w a = some x) : va_P D.1 vwCl [(a, x)] H := fun i q hq => by
  have hz : i < 1 := (List.getElem?_eq_some_iff.mp hq).1
  rw [show i = 0 by omega] at hq
  cases hq
  exact hH _ _ hw
def gOk (y : MethodName) (na : Nat) : Prop := y.cls ≠ "java/lang/invoke/MethodHandle" ∧ y.cls ≠ "java/lang/invoke/VarHandle" ∧ (parseMethodDescriptor y.desc).map (fun d => d.parameters.length) = some na
def LkV (own : String) (ix : Nat) (y : MethodName) (b : ByteArray) (mL : Nat) (rt : Option FieldType) (na : Nat) : Prop := Cond.methodLink own ix y ∈ gT ∧ Cond.instanceMethod y ∈ gT ∧ Cond.selects y.cls y y ∈ gT ∧ Cond.initialized y.cls ∈ gT ∧ Cond.code y b mL rt ∈ gT ∧ gOk y na
def LkS (own : String) (ix : Nat) (y : MethodName) (b : ByteArray) (mL : Nat) (rt : Option FieldType) (na : Nat) : Prop := Cond.methodLink own ix y ∈ gT ∧ Cond.static y ∈ gT ∧ Cond.initialized y.cls ∈ gT ∧ Cond.code y b mL rt ∈ gT ∧ gOk y na
def LkH (own : String) (ix : Nat) (y : MethodName) (b : ByteArray) (mL : Nat) (rt : Option FieldType) (hs : List (Nat × Nat × Nat × Nat)) (na : Nat) : Prop := Cond.methodLink own ix y ∈ gT ∧ Cond.static y ∈ gT ∧ Cond.initialized y.cls ∈ gT ∧ Cond.codeWith y b mL rt hs ∈ gT ∧ gOk y na
def LkN (own : String) (ix : Nat) (y : MethodName) (b : ByteArray) (mL : Nat) (rt : Option FieldType) (na : Nat) : Prop := (∃ host, Cond.methodLinkNest own ix y host ∈ gN) ∧ Cond.static y ∈ gT ∧ Cond.initialized y.cls ∈ gT ∧ Cond.code y b mL rt ∈ gT ∧ gOk y na
def LkI (own : String) (ix : Nat) (y : MethodName) (b : ByteArray) (mL : Nat) (na : Nat) : Prop := (Cond.methodLink own ix y ∈ gT ∨ ∃ host, Cond.methodLinkNest own ix y host ∈ gN) ∧ y.name = "<init>" ∧ Cond.instanceMethod y ∈ gT ∧ Cond.initialized y.cls ∈ gT ∧ Cond.code y b mL none ∈ gT ∧ gOk y na
theorem gW_code {y : MethodName} {b : ByteArray} {mL : Nat} {rt : Option FieldType} (h : Cond.code y b mL rt ∈ gT) : ∀ w ∈ (Cond.code y b mL rt :: gT), w ∈ gT := fun w hw => (List.mem_cons.mp hw).elim (fun q => q ▸ h) id
theorem gW_codeW {y : MethodName} {b : ByteArray} {mL : Nat} {rt : Option FieldType} {hs : List (Nat × Nat × Nat × Nat)} (h : Cond.codeWith y b mL rt hs ∈ gT) : ∀ w ∈ (Cond.codeWith y b mL rt hs :: gT), w ∈ gT := fun w hw => (List.mem_cons.mp hw).elim (fun q => q ▸ h) id
theorem gG_V {own : String} {ix mL : Nat} {y : MethodName} {b : ByteArray} {rt : Option FieldType} (l1 : Cond.methodLink own ix y ∈ gT) (l2 : Cond.instanceMethod y ∈ gT) (l3 : Cond.selects y.cls y y ∈ gT) (l4 : Cond.initialized y.cls ∈ gT) (l5 : Cond.code y b mL rt ∈ gT) : GoodIn gT (wsV own ix y.cls y (Cond.code y b mL rt :: gT)) := gT_in (by
  intro w9 h9
  simp only [wsV, List.cons_append, List.nil_append, List.mem_cons] at h9
  rcases h9 with rfl | rfl | rfl | rfl | rfl | h9
  · exact l1
  · exact l2
  · exact l3
  · exact l4
  · exact l5
  · exact h9)
theorem gG_S {own : String} {ix : Nat} {y : MethodName} {cw : Cond} (l1 : Cond.methodLink own ix y ∈ gT) (l2 : Cond.static y ∈ gT) (l4 : Cond.initialized y.cls ∈ gT) (l5 : cw ∈ gT) : GoodIn gT (va_wsS own ix y (cw :: gT)) := gT_in (by
  intro w9 h9
  simp only [va_wsS, List.cons_append, List.nil_append, List.mem_cons] at h9
  rcases h9 with rfl | rfl | rfl | rfl | h9
  · exact l1
  · exact l2
  · exact l4
  · exact l5
  · exact h9)
section IC
variable {l : Launch} {D : gD} {own : String} {cc : ByteArray} {nL : Nat} {R : Room} {rt : Option FieldType} {ini : Bool} {hh : Option (List (Nat × Nat × Nat × Nat))} {Rp : Option Value → wW → Prop} {Xp : String → wW → Prop} {G : gG} {n k : Nat} {w : wW} {L : List (Option Value)} {pc : Nat} {st rest As : List Value}
variable {y : MethodName} {b : ByteArray} {mL ix : Nat} {rt' : Option FieldType} {rm : Room} {Rp' : Option Value → wW → Prop} {Xp' : String → wW → Prop}
theorem i_runM {p : Program} {e : Env} {s : State} {m : MethodId} {args : Array Value} {below : List Frame} {meth : Method} {c : Code} {A : Nat → Prop} {Q : State → Prop} {av : List Value} (hAA : ∀ q, s.heap.size ≤ q → A q)
    (hr : ∀ (H : Heap) (locs : List Loc) (ls : Array Slot), wH D w H → (∀ a x, w a = some x → A a) → va_S A s.heap H locs → lw_has ls L → va_Run p l e R s m args below meth c H locs n k rm.cells rm.slots (F0 m pc ls st) rest (cQ D (wA w H.size) Rp' av.toArray) (wA w H.size))
    (kk : ∀ (v : Option Value) (w1 : wW), Rp' v w1 → JJ p l e R s m args below meth c A D Q (n + rm.cells) (k + rm.slots) w1 L (pc + 3) (v.toList ++ rest)) : JJ p l e R s m args below meth c A D Q n k w L pc st := by
  intro H locs ls hH hA hS hl T hT X
  obtain ⟨v, st₀, t, T', Lx, h0, X', hL, e1, e2, ⟨⟨v', w1, hv, hp, hH1, hd1⟩, hF⟩, st9⟩ := hr H locs ls hH hA hS hl T hT X
  cases hv
  have hAA9 := wA_in (D := D) hA hAA hS
  obtain ⟨k1, k2, k3⟩ := vx_keep h0 e1 hS (fun q _ h => hAA9 q h) hAA9 hL hF
  obtain ⟨t2, a1, b1⟩ := kk v w1 hp T'.heap (locs ++ Lx) ls (by rw [e1]; exact hH1) (fun a x h => hAA9 a (hd1 a x h)) k3 hl T' rfl X'
  exact ⟨t2, st9 t2 a1, b1⟩
theorem i_runX {p : Program} {e : Env} {s : State} {m : MethodId} {args : Array Value} {below : List Frame} {meth : Method} {c : Code} {A : Nat → Prop} {Q : State → Prop} {av : List Value} (hAA : ∀ q, s.heap.size ≤ q → A q)
    (hr : ∀ (H : Heap) (locs : List Loc) (ls : Array Slot), wH D w H → (∀ a x, w a = some x → A a) → va_S A s.heap H locs → lw_has ls L → vx_Run p l e R s m args below meth c H locs n k rm.cells rm.slots (F0 m pc ls st) rest (cQ D (wA w H.size) Rp' av.toArray) (cXC D (wA w H.size) Xp') (wA w H.size))
    (kx : ∀ (E : String) (w1 : wW) (H1 : Heap) (locs1 : List Loc) (ls : Array Slot) (ce : Cell) (q9 : Addr), Xp' E w1 → wH D w1 H1 → (∀ a x, w1 a = some x → A a) → va_S A s.heap H1 locs1 → lw_has ls L → H1[q9]? = some ce → ce.vm = .none → s.vm.findClass E = some ce.cls → vx_W p l e R s m args below meth c H1 locs1 (n + rm.cells) (k + rm.slots) Q (F0 m pc ls rest) q9)
    (kk : ∀ (v : Option Value) (w1 : wW), Rp' v w1 → JJ p l e R s m args below meth c A D Q (n + rm.cells) (k + rm.slots) w1 L (pc + 3) (v.toList ++ rest)) : JJ p l e R s m args below meth c A D Q n k w L pc st := by
  intro H locs ls hH hA hS hl T hT X
  have hAA9 := wA_in (D := D) hA hAA hS
  rcases hr H locs ls hH hA hS hl T hT X with ⟨v, st₀, t, T', Lx, h0, X', hL, e1, e2, ⟨⟨v', w1, hv, hp, hH1, hd1⟩, hF⟩, st9⟩ | ⟨q, st₀, t, T', Lx, E, ce, h0, X', hL, e1, e2, ⟨⟨w1, hp, hH1, hd1⟩, hF⟩, hce, hcv, hcl, st9⟩
  · cases hv
    obtain ⟨k1, k2, k3⟩ := vx_keep h0 e1 hS (fun q _ h => hAA9 q h) hAA9 hL hF
    obtain ⟨t2, a1, b1⟩ := kk v w1 hp T'.heap (locs ++ Lx) ls (by rw [e1]; exact hH1) (fun a x h => hAA9 a (hd1 a x h)) k3 hl T' rfl X'
    exact ⟨t2, st9 t2 a1, b1⟩
  · obtain ⟨k1, k2, k3⟩ := vx_keep h0 e1 hS (fun q _ h => hAA9 q h) hAA9 hL hF
    obtain ⟨t2, a1, b1⟩ := kx E w1 T'.heap (locs ++ Lx) ls ce q hp (by rw [e1]; exact hH1) (fun a x h => hAA9 a (hd1 a x h)) k3 hl (by rw [e1]; exact hce) hcv hcl T' rfl X'
    exact ⟨t2, st9.trans a1, b1⟩
/-- a call of an instance method that returns -/
theorem i_callV (C : Cx l D own cc nL R rt ini hh Rp Xp G) {na a ci : Nat} {fs : List Value} {T9 : u_T} {N9 : Nat} (lk : LkV own ix y b mL rt' na) (hc : CTm l D y b mL rt' rm (.ref a :: As) w Rp') (hcl : vwCl[ci]? = some (y.cls, T9, N9)) (hst : st = As.reverse ++ .ref a :: rest) (d : decode cc pc = .ok (.invokevirtual ix, 3)) (hw : w a = some (.inr (ci, fs)) := by assumption) (hna : As.length = na := by rfl) (hLn : L.length = nL := by rfl) (hR : rm.frames + 1 ≤ R.frames ∧ 8 + (mL + 11) + rm.locals ≤ R.locals := by exact ⟨Nat.le_of_ble_eq_true rfl, Nat.le_of_ble_eq_true rfl⟩) (hsum : (rest.map fun v => v.category).sum ≤ 8 := by exact Nat.le_of_ble_eq_true rfl) (hf : n + rm.cells ≤ R.cells ∧ k + rm.slots ≤ R.slots := by exact ⟨Nat.le_of_ble_eq_true rfl, Nat.le_of_ble_eq_true rfl⟩)
    (kk : ∀ (v : Option Value) (w1 : wW), Rp' v w1 → G (n + rm.cells) (k + rm.slots) w1 L (pc + 3) (v.toList ++ rest)) : G n k w L pc st := by
  subst hst
  obtain ⟨p, e, s, m, args, below, meth, c, A, Q, rfl, hx, hb, hml, hown, hts, hKX, hST, hAA, hlo, hr, hin, hst9, htab, habs, hthr⟩ := C
  obtain ⟨l1, l2, l3, l4, l5, l6⟩ := lk
  exact i_runM (av := .ref a :: As) hAA (fun H locs ls hH hA hS hl => va_runV ⟨hx, hb, hml, hown, hts⟩ (hc H.size) (cwV na hts (gG_V l1 l2 l3 l4 l5) rfl rfl rfl ⟨rfl, l6⟩ hR) ⟨cP_blind, va_recv (q0 := 0) hKX.2.1 (hH.P1 hw) hcl rfl, fun U hU hW => ⟨rfl, cP_at hH hA hAA hS hKX hST hU hW⟩⟩ rfl hna (hl.1.trans hLn) rfl (lv_room hsum) d hf) kk

/-- a call of a static method that returns -/
theorem i_callS (C : Cx l D own cc nL R rt ini hh Rp Xp G) {na : Nat} (lk : LkS own ix y b mL rt' na) (hc : CTm l D y b mL rt' rm As w Rp') (hst : st = As.reverse ++ rest) (d : decode cc pc = .ok (.invokestatic ix, 3)) (hna : As.length = na := by rfl) (hLn : L.length = nL := by rfl) (hR : rm.frames + 1 ≤ R.frames ∧ 8 + (mL + 11) + rm.locals ≤ R.locals := by exact ⟨Nat.le_of_ble_eq_true rfl, Nat.le_of_ble_eq_true rfl⟩) (hsum : (rest.map fun v => v.category).sum ≤ 8 := by exact Nat.le_of_ble_eq_true rfl) (hf : n + rm.cells ≤ R.cells ∧ k + rm.slots ≤ R.slots := by exact ⟨Nat.le_of_ble_eq_true rfl, Nat.le_of_ble_eq_true rfl⟩)
    (kk : ∀ (v : Option Value) (w1 : wW), Rp' v w1 → G (n + rm.cells) (k + rm.slots) w1 L (pc + 3) (v.toList ++ rest)) : G n k w L pc st := by
  subst hst
  obtain ⟨p, e, s, m, args, below, meth, c, A, Q, rfl, hx, hb, hml, hown, hts, hKX, hST, hAA, hlo, hr, hin, hst9, htab, habs, hthr⟩ := C
  obtain ⟨l1, l2, l3, l4, l6⟩ := lk
  exact i_runM (av := As) hAA (fun H locs ls hH hA hS hl => va_runS ⟨hx, hb, hml, hown, hts⟩ (hc H.size) (va_cwS na hts (gG_S l1 l2 l3 l4) rfl rfl rfl l6 hR) ⟨cP_blind, fun U hU hW => ⟨rfl, cP_at hH hA hAA hS hKX hST hU hW⟩⟩ rfl hna (hl.1.trans hLn) rfl (lv_room hsum) d hf) kk

/-- a call of a nest mate's private static method -/
theorem i_callSN (C : Cx l D own cc nL R rt ini hh Rp Xp G) {na : Nat} (lk : LkN own ix y b mL rt' na) (hc : CTm l D y b mL rt' rm As w Rp') (hst : st = As.reverse ++ rest) (d : decode cc pc = .ok (.invokestatic ix, 3)) (hna : As.length = na := by rfl) (hLn : L.length = nL := by rfl) (hR : rm.frames + 1 ≤ R.frames ∧ 8 + (mL + 11) + rm.locals ≤ R.locals := by exact ⟨Nat.le_of_ble_eq_true rfl, Nat.le_of_ble_eq_true rfl⟩) (hsum : (rest.map fun v => v.category).sum ≤ 8 := by exact Nat.le_of_ble_eq_true rfl) (hf : n + rm.cells ≤ R.cells ∧ k + rm.slots ≤ R.slots := by exact ⟨Nat.le_of_ble_eq_true rfl, Nat.le_of_ble_eq_true rfl⟩)
    (kk : ∀ (v : Option Value) (w1 : wW), Rp' v w1 → G (n + rm.cells) (k + rm.slots) w1 L (pc + 3) (v.toList ++ rest)) : G n k w L pc st := by
  subst hst
  obtain ⟨p, e, s, m, args, below, meth, c, A, Q, rfl, hx, hb, hml, hown, hts, hKX, hST, hAA, hlo, hr, hin, hst9, htab, habs, hthr⟩ := C
  obtain ⟨⟨host, l1⟩, l2, l3, l4, l6⟩ := lk
  exact i_runM (av := As) hAA (fun H locs ls hH hA hS hl => va_runSN ⟨hx, hb, hml, hown, hts⟩ (hc H.size) ⟨va_cnB na hts (gT_in (gW_code l4)) rfl rfl rfl (hKX.1 _ l1) (hts _ l3) l6 hR, hts _ l2, trivial⟩ ⟨cP_blind, fun U hU hW => ⟨rfl, cP_at hH hA hAA hS hKX hST hU hW⟩⟩ rfl hna (hl.1.trans hLn) rfl (lv_room hsum) d hf) kk

/-- a constructor -/
theorem i_callI (C : Cx l D own cc nL R rt ini hh Rp Xp G) {na a : Nat} (lk : LkI own ix y b mL na) (hc : CTm l D y b mL none rm (.ref a :: As) w Rp') (hst : st = As.reverse ++ .ref a :: rest) (d : decode cc pc = .ok (.invokespecial ix, 3)) (hna : As.length = na := by rfl) (hLn : L.length = nL := by rfl) (hR : rm.frames + 1 ≤ R.frames ∧ 8 + (mL + 11) + rm.locals ≤ R.locals := by exact ⟨Nat.le_of_ble_eq_true rfl, Nat.le_of_ble_eq_true rfl⟩) (hsum : (rest.map fun v => v.category).sum ≤ 8 := by exact Nat.le_of_ble_eq_true rfl) (hf : n + rm.cells ≤ R.cells ∧ k + rm.slots ≤ R.slots := by exact ⟨Nat.le_of_ble_eq_true rfl, Nat.le_of_ble_eq_true rfl⟩)
    (kk : ∀ (v : Option Value) (w1 : wW), Rp' v w1 → G (n + rm.cells) (k + rm.slots) w1 L (pc + 3) (v.toList ++ rest)) : G n k w L pc st := by
  subst hst
  obtain ⟨p, e, s, m, args, below, meth, c, A, Q, rfl, hx, hb, hml, hown, hts, hKX, hST, hAA, hlo, hr, hin, hst9, htab, habs, hthr⟩ := C
  obtain ⟨l1, l2, l3, l4, l5, l6⟩ := lk
  rcases l1 with l1 | ⟨host, l1⟩
  · exact i_runM (av := .ref a :: As) hAA (fun H locs ls hH hA hS hl => va_runI ⟨hx, hb, hml, hown, hts⟩ (hc H.size) (cwI na hts (gT_in (gW_code l5)) rfl rfl rfl (hts _ l4) (hts _ l1) (hts _ l3) l2 l6 hR) ⟨cP_blind, fun U hU hW => ⟨rfl, cP_at hH hA hAA hS hKX hST hU hW⟩⟩ rfl hna (hl.1.trans hLn) rfl (lv_room hsum) d hf) kk
  · exact i_runM (av := .ref a :: As) hAA (fun H locs ls hH hA hS hl => va_runIN ⟨hx, hb, hml, hown, hts⟩ (hc H.size) ⟨va_cnB na hts (gT_in (gW_code l5)) rfl rfl rfl (hKX.1 _ l1) (hts _ l4) l6 hR, l2, hts _ l3⟩ ⟨cP_blind, fun U hU hW => ⟨rfl, cP_at hH hA hAA hS hKX hST hU hW⟩⟩ rfl hna (hl.1.trans hLn) rfl (lv_room hsum) d hf) kk

/-- calls of methods that may throw: what they throw goes on to the caller -/
theorem i_callVX (C : Cx l D own cc nL R rt ini (some []) Rp Xp G) {na a ci : Nat} {fs : List Value} {T9 : u_T} {N9 : Nat} (lk : LkV own ix y b mL rt' na) (hc : CTx l D y b mL rt' rm (.ref a :: As) w Rp' Xp') (hcl : vwCl[ci]? = some (y.cls, T9, N9)) (hst : st = As.reverse ++ .ref a :: rest) (d : decode cc pc = .ok (.invokevirtual ix, 3)) (hw : w a = some (.inr (ci, fs)) := by assumption) (hxx : ∀ E w1, Xp' E w1 → Xp E w1) (hna : As.length = na := by rfl) (hLn : L.length = nL := by rfl) (hR : rm.frames + 1 ≤ R.frames ∧ 8 + (mL + 11) + rm.locals ≤ R.locals := by exact ⟨Nat.le_of_ble_eq_true rfl, Nat.le_of_ble_eq_true rfl⟩) (hsum : (rest.map fun v => v.category).sum ≤ 8 := by exact Nat.le_of_ble_eq_true rfl) (hf : n + rm.cells ≤ R.cells ∧ k + rm.slots ≤ R.slots := by exact ⟨Nat.le_of_ble_eq_true rfl, Nat.le_of_ble_eq_true rfl⟩)
    (kk : ∀ (v : Option Value) (w1 : wW), Rp' v w1 → G (n + rm.cells) (k + rm.slots) w1 L (pc + 3) (v.toList ++ rest)) : G n k w L pc st := by
  subst hst
  obtain ⟨p, e, s, m, args, below, meth, c, A, Q, rfl, hx, hb, hml, hown, hts, hKX, hST, hAA, hlo, hr, hin, hst9, htab, habs, hthr⟩ := C
  obtain ⟨l1, l2, l3, l4, l5, l6⟩ := lk
  exact i_runX (av := .ref a :: As) (Xp' := Xp') hAA (fun H locs ls hH hA hS hl => vx_runV ⟨hx, hb, hml, hown, hts⟩ (hc H.size) (cwV na hts (gG_V l1 l2 l3 l4 l5) rfl rfl rfl ⟨rfl, l6⟩ hR) ⟨cP_blind, va_recv (q0 := 0) hKX.2.1 (hH.P1 hw) hcl rfl, fun U hU hW => ⟨rfl, cP_at hH hA hAA hS hKX hST hU hW⟩⟩ rfl hna (hl.1.trans hLn) rfl (lv_room hsum) d hf) (fun E w1 H1 locs1 ls ce q9 hX9 hH1 hA1 hS1 hl1 hce hcv hcl9 => by
    rcases hthr with rfl | hthr
    · exact vx_out (by rw [htab [] rfl]; intro x hx9; cases hx9) hlo hce hcv hcl9 (fun t ht hAl => ⟨⟨w1, hxx E w1 hX9, by rw [ht]; exact hH1, hA1⟩, hS1.F ht⟩) hS1.2.2 hf.1 hf.2
    · cases hthr) kk

theorem i_callSX (C : Cx l D own cc nL R rt ini (some []) Rp Xp G) {na : Nat} (lk : LkS own ix y b mL rt' na) (hc : CTx l D y b mL rt' rm As w Rp' Xp') (hst : st = As.reverse ++ rest) (d : decode cc pc = .ok (.invokestatic ix, 3)) (hxx : ∀ E w1, Xp' E w1 → Xp E w1) (hna : As.length = na := by rfl) (hLn : L.length = nL := by rfl) (hR : rm.frames + 1 ≤ R.frames ∧ 8 + (mL + 11) + rm.locals ≤ R.locals := by exact ⟨Nat.le_of_ble_eq_true rfl, Nat.le_of_ble_eq_true rfl⟩) (hsum : (rest.map fun v => v.category).sum ≤ 8 := by exact Nat.le_of_ble_eq_true rfl) (hf : n + rm.cells ≤ R.cells ∧ k + rm.slots ≤ R.slots := by exact ⟨Nat.le_of_ble_eq_true rfl, Nat.le_of_ble_eq_true rfl⟩)
    (kk : ∀ (v : Option Value) (w1 : wW), Rp' v w1 → G (n + rm.cells) (k + rm.slots) w1 L (pc + 3) (v.toList ++ rest)) : G n k w L pc st := by
  subst hst
  obtain ⟨p, e, s, m, args, below, meth, c, A, Q, rfl, hx, hb, hml, hown, hts, hKX, hST, hAA, hlo, hr, hin, hst9, htab, habs, hthr⟩ := C
  obtain ⟨l1, l2, l3, l4, l6⟩ := lk
  exact i_runX (av := As) (Xp' := Xp') hAA (fun H locs ls hH hA hS hl => vx_runS ⟨hx, hb, hml, hown, hts⟩ (hc H.size) (va_cwS na hts (gG_S l1 l2 l3 l4) rfl rfl rfl l6 hR) ⟨cP_blind, fun U hU hW => ⟨rfl, cP_at hH hA hAA hS hKX hST hU hW⟩⟩ rfl hna (hl.1.trans hLn) rfl (lv_room hsum) d hf) (fun E w1 H1 locs1 ls ce q9 hX9 hH1 hA1 hS1 hl1 hce hcv hcl9 => by
    rcases hthr with rfl | hthr
    · exact vx_out (by rw [htab [] rfl]; intro x hx9; cases hx9) hlo hce hcv hcl9 (fun t ht hAl => ⟨⟨w1, hxx E w1 hX9, by rw [ht]; exact hH1, hA1⟩, hS1.F ht⟩) hS1.2.2 hf.1 hf.2
    · cases hthr) kk

/-- a static method with handlers, that lets nothing out -/
theorem i_callSH (C : Cx l D own cc nL R rt ini hh Rp Xp G) {hs : List (Nat × Nat × Nat × Nat)} {na : Nat} (lk : LkH own ix y b mL rt' hs na) (hc : CTh l D y b mL rt' hs rm As w Rp') (hst : st = As.reverse ++ rest) (d : decode cc pc = .ok (.invokestatic ix, 3)) (hna : As.length = na := by rfl) (hLn : L.length = nL := by rfl) (hR : rm.frames + 1 ≤ R.frames ∧ 8 + (mL + 11) + rm.locals ≤ R.locals := by exact ⟨Nat.le_of_ble_eq_true rfl, Nat.le_of_ble_eq_true rfl⟩) (hsum : (rest.map fun v => v.category).sum ≤ 8 := by exact Nat.le_of_ble_eq_true rfl) (hf : n + rm.cells ≤ R.cells ∧ k + rm.slots ≤ R.slots := by exact ⟨Nat.le_of_ble_eq_true rfl, Nat.le_of_ble_eq_true rfl⟩)
    (kk : ∀ (v : Option Value) (w1 : wW), Rp' v w1 → G (n + rm.cells) (k + rm.slots) w1 L (pc + 3) (v.toList ++ rest)) : G n k w L pc st := by
  subst hst
  obtain ⟨p, e, s, m, args, below, meth, c, A, Q, rfl, hx, hb, hml, hown, hts, hKX, hST, hAA, hlo, hr, hin, hst9, htab, habs, hthr⟩ := C
  obtain ⟨l1, l2, l3, l4, l6⟩ := lk
  exact i_runX (av := As) (Xp' := fun _ _ => False) hAA (fun H locs ls hH hA hS hl => vx_runSX ⟨hx, hb, hml, hown, hts⟩ (hc H.size) (vx_cwSW na hts (gG_S l1 l2 l3 l4) rfl rfl rfl l6 hR) ⟨cP_blind, fun U hU hW => ⟨rfl, cP_at hH hA hAA hS hKX hST hU hW⟩⟩ rfl hna (hl.1.trans hLn) rfl (lv_room hsum) d hf) (fun E w1 H1 locs1 ls ce q9 hX9 => hX9.elim) kk

/-- a call of a method that may throw, in a method with handlers: each class that it throws comes to its handler -/
def gH (own : String) (hs : List (Nat × Nat × Nat × Nat)) (pc : Nat) (E : String) (h : Nat) : Prop := ∃ (pre suf : List (Nat × Nat × Nat × Nat)) (x : Nat × Nat × Nat × Nat), hs = pre ++ x :: suf ∧ (∀ z ∈ tableOf pre, z.catchType ≠ 0 ∧ ∃ nm : String, Cond.classLink own z.catchType nm ∈ gT ∧ (E, nm) ∈ gC) ∧ covers (tableOf [x]).head! pc = true ∧ x.2.2.2 ≠ 0 ∧ x.2.2.1 = h ∧ Cond.classLink own x.2.2.2 E ∈ gT ∧ Cond.castable E E ∈ gN
theorem i_callVC {hs : List (Nat × Nat × Nat × Nat)} (C : Cx l D own cc nL R rt ini (some hs) Rp Xp G) {na a ci : Nat} {fs : List Value} {T9 : u_T} {N9 : Nat} (lk : LkV own ix y b mL rt' na) (hc : CTx l D y b mL rt' rm (.ref a :: As) w Rp' Xp') (hcl : vwCl[ci]? = some (y.cls, T9, N9)) (hst : st = As.reverse ++ .ref a :: rest) (d : decode cc pc = .ok (.invokevirtual ix, 3)) (hw : w a = some (.inr (ci, fs)) := by assumption) (hxx : ∀ E w1, Xp' E w1 → ∃ h, gH own hs pc E h ∧ ∀ q : Nat, G (n + rm.cells) (k + rm.slots) w1 L h [.ref q]) (hna : As.length = na := by rfl) (hLn : L.length = nL := by rfl) (hR : rm.frames + 1 ≤ R.frames ∧ 8 + (mL + 11) + rm.locals ≤ R.locals := by exact ⟨Nat.le_of_ble_eq_true rfl, Nat.le_of_ble_eq_true rfl⟩) (hsum : (rest.map fun v => v.category).sum ≤ 8 := by exact Nat.le_of_ble_eq_true rfl) (hf : n + rm.cells ≤ R.cells ∧ k + rm.slots ≤ R.slots := by exact ⟨Nat.le_of_ble_eq_true rfl, Nat.le_of_ble_eq_true rfl⟩)
    (kk : ∀ (v : Option Value) (w1 : wW), Rp' v w1 → G (n + rm.cells) (k + rm.slots) w1 L (pc + 3) (v.toList ++ rest)) : G n k w L pc st := by
  subst hst
  obtain ⟨p, e, s, m, args, below, meth, c, A, Q, rfl, hx, hb, hml, hown, hts, hKX, hST, hAA, hlo, hr, hin, hst9, htab, habs, hthr⟩ := C
  obtain ⟨l1, l2, l3, l4, l5, l6⟩ := lk
  exact i_runX (av := .ref a :: As) (Xp' := Xp') hAA (fun H locs ls hH hA hS hl => vx_runV ⟨hx, hb, hml, hown, hts⟩ (hc H.size) (cwV na hts (gG_V l1 l2 l3 l4 l5) rfl rfl rfl ⟨rfl, l6⟩ hR) ⟨cP_blind, va_recv (q0 := 0) hKX.2.1 (hH.P1 hw) hcl rfl, fun U hU hW => ⟨rfl, cP_at hH hA hAA hS hKX hST hU hW⟩⟩ rfl hna (hl.1.trans hLn) rfl (lv_room hsum) d hf) (fun E w1 H1 locs1 ls ce q9 hX9 hH1 hA1 hS1 hl1 hce hcv hcl9 => by
    obtain ⟨h, ⟨pre, suf, x, e1, e2, e3, e4, e5, e6, e7⟩, hk9⟩ := hxx E w1 hX9
    have htb : c.exceptionTable.toList = tableOf pre ++ ⟨x.1, x.2.1, x.2.2.1, x.2.2.2⟩ :: tableOf suf := by rw [htab hs rfl, e1]; simp [tableOf]
    refine vx_catch hown (tableOf pre) _ (tableOf suf) htb (fun z hz => Or.inr ⟨(e2 z hz).1, ?_⟩) e3 e4 (hts _ e6) (va_Nw.use (gN_tab e7) (hKX.1 _ e7)) hce hcv hcl9 ?_
    · obtain ⟨nm, n1, n2⟩ := (e2 z hz).2
      exact ⟨nm, hts _ n1, hKX.2.2.2.2 _ n2⟩
    · subst e5
      exact hk9 q9 H1 locs1 ls hH1 hA1 hS1 hl1) kk

/-- throw new cls(text) -/
def gThr (own : String) (ik is ic : Nat) (cls text : String) (names : List String) : Prop := Bundle.fit cls = true ∧ (∀ n ∈ names, Bundle.fit n = true) ∧ Cond.classLink own ik cls ∈ gT ∧ Cond.initialized cls ∈ gT ∧ (own, is, text) ∈ gS ∧ ∀ w ∈ vx_atS own ic cls names, w ∈ gT ∨ w ∈ gN
theorem i_throw (C : Cx l D own cc nL R rt ini (some []) Rp Xp G) {ik is ic : Nat} {cls text : String} {names : List String} (g : gThr own ik is ic cls text names) (d0 : decode cc pc = .ok (.new ik, 3)) (d3 : decode cc (pc + 3) = .ok (.dup, 1)) (d4 : decode cc (pc + 4) = .ok (.ldc is, 2)) (d6 : decode cc (pc + 6) = .ok (.invokespecial ic, 3)) (d9 : decode cc (pc + 9) = .ok (.athrow, 1)) (hLn : L.length = nL := by rfl) (hRf : names.length + 3 < R.frames := by exact Nat.le_of_ble_eq_true rfl) (hRl : (st.map fun v => v.category).sum + (13 * (names.length + 1) + 43) ≤ R.locals := by exact Nat.le_of_ble_eq_true rfl) (hc : n + 1 ≤ R.cells := by exact Nat.le_of_ble_eq_true rfl) (hs : k + 6 ≤ R.slots := by exact Nat.le_of_ble_eq_true rfl) (hX : Xp cls w) : G n k w L pc st := by
  obtain ⟨p, e, s, m, args, below, meth, c, A, Q, rfl, hx, hb, hml, hown, hts, hKX, hST, hAA, hlo, hr, hin, hst9, htab, habs, hthr⟩ := C
  obtain ⟨g1, g2, g3, g4, g5, g6⟩ := g
  rcases hthr with rfl | hthr
  · intro H locs ls hH hA hS hl
    obtain ⟨sa, hsa⟩ := hKX.2.2.2.1 _ g5
    have hat : ∀ w9 ∈ vx_atS own ic cls names, w9.before args s = true := fun w9 h9 => (g6 w9 h9).elim (fun q => hts _ q) (fun q => va_Nw.use (gN_tab q) (hKX.1 _ q))
    have hgood : ∀ w9 ∈ Cond.classLink own ik cls :: Cond.initialized cls :: vx_atS own ic cls names, vx_ot w9 = true := by
      intro w9 h9
      rcases List.mem_cons.mp h9 with rfl | h9
      · rfl
      · rcases List.mem_cons.mp h9 with rfl | h9
        · rfl
        · unfold vx_ot
          rcases g6 w9 h9 with q | q
          · rw [gT_good q, Bool.or_true]
          · rw [gN_tab q, Bool.true_or]
    refine vx_throwS hx hb hst9 (mc := R.cells) (ms := R.slots) hown g1 g2 (hts _ g3) (hts _ g4) hsa hat hgood hST.1 hST.2.1 hS (by rw [hml]; exact hl.1.trans hLn) d0 d3 d4 d6 d9 (by rw [htab [] rfl]; intro x hx9; cases hx9) hRf hRl hc hs hlo (fun t hal hz hk => ?_) hS.2.2 hc hs
    refine ⟨⟨w, hX, fun a x hax => (hH a x hax).kept (hk a (hH.lt hax)), hA⟩, Nat.le_trans hS.1 hz, fun q hq hnq => ?_⟩
    rw [hk q (Nat.lt_of_lt_of_le hq hS.1)]
    exact hS.2.1 q hq hnq
  · cases hthr
/-- Math.max, Math.min -/
def gMM (own : String) (ix : Nat) (y : MethodName) (b : ByteArray) : Prop := Cond.methodLink own ix y ∈ gT ∧ Cond.static y ∈ gT ∧ Cond.initialized "java/lang/Math" ∈ gT ∧ Cond.code y b 2 (some .int) ∈ gT
theorem i_max (C : Cx l D own cc nL R rt ini hh Rp Xp G) {x z : Int} (g : gMM own ix Lib.Math.max.name Lib.Math.max.code) (d : decode cc pc = .ok (.invokestatic ix, 3)) (hx9 : inR x := by omega) (hz9 : inR z := by omega) (hLn : L.length = nL := by rfl) (hRf : 1 ≤ R.frames := by exact Nat.le_of_ble_eq_true rfl) (hRl : (st.map fun v => v.category).sum + 13 ≤ R.locals := by exact Nat.le_of_ble_eq_true rfl) (hc : n ≤ R.cells := by exact Nat.le_of_ble_eq_true rfl) (hs : k ≤ R.slots := by exact Nat.le_of_ble_eq_true rfl) (kk : G n k w L (pc + 3) (.int (Z32 (max x z)) :: st)) : G n k w L pc (.int (Z32 z) :: .int (Z32 x) :: st) := by
  obtain ⟨p, e, s, m, args, below, meth, c, A, Q, rfl, hx, hb, hml, hown, hts, hKX, hST, hAA, hlo, hr, hin, hst9, htab, habs, hthr⟩ := C
  obtain ⟨g1, g2, g3, g4⟩ := g
  intro H locs ls hH hA hS hl
  refine va_mmax hx hb (by rw [hml, hl.1, hLn]) hown (hts _ g1) (hts _ g2) (hts _ g3) (hts _ g4) hRf hRl hc hs d ?_
  have e9 : (if Z32 x < Z32 z then Z32 z else Z32 x) = Z32 (max x z) := by
    by_cases h : x < z
    · rw [if_pos ((Z32_lt hx9 hz9).mpr h)]; congr 1; omega
    · rw [if_neg (fun q => h ((Z32_lt hx9 hz9).mp q))]; congr 1; omega
  rw [e9]
  exact kk H locs ls hH hA hS hl
theorem i_min (C : Cx l D own cc nL R rt ini hh Rp Xp G) {x z : Int} (g : gMM own ix Lib.Math.min.name Lib.Math.min.code) (d : decode cc pc = .ok (.invokestatic ix, 3)) (hx9 : inR x := by omega) (hz9 : inR z := by omega) (hLn : L.length = nL := by rfl) (hRf : 1 ≤ R.frames := by exact Nat.le_of_ble_eq_true rfl) (hRl : (st.map fun v => v.category).sum + 13 ≤ R.locals := by exact Nat.le_of_ble_eq_true rfl) (hc : n ≤ R.cells := by exact Nat.le_of_ble_eq_true rfl) (hs : k ≤ R.slots := by exact Nat.le_of_ble_eq_true rfl) (kk : G n k w L (pc + 3) (.int (Z32 (min x z)) :: st)) : G n k w L pc (.int (Z32 z) :: .int (Z32 x) :: st) := by
  obtain ⟨p, e, s, m, args, below, meth, c, A, Q, rfl, hx, hb, hml, hown, hts, hKX, hST, hAA, hlo, hr, hin, hst9, htab, habs, hthr⟩ := C
  obtain ⟨g1, g2, g3, g4⟩ := g
  intro H locs ls hH hA hS hl
  refine va_mmin hx hb (by rw [hml, hl.1, hLn]) hown (hts _ g1) (hts _ g2) (hts _ g3) (hts _ g4) hRf hRl hc hs d ?_
  have e9 : (if Z32 z < Z32 x then Z32 z else Z32 x) = Z32 (min x z) := by
    by_cases h : z < x
    · rw [if_pos ((Z32_lt hz9 hx9).mpr h)]; congr 1; omega
    · rw [if_neg (fun q => h ((Z32_lt hz9 hx9).mp q))]; congr 1; omega
  rw [e9]
  exact kk H locs ls hH hA hS hl
/-- Object's constructor -/
def gObj (own : String) (ix : Nat) : Prop := Cond.methodLink own ix objectInit ∈ gT ∧ Cond.instanceMethod objectInit ∈ gT ∧ Cond.code objectInit ⟨#[0xb1]⟩ 1 none ∈ gT
theorem i_objInit (C : Cx l D own cc nL R rt ini hh Rp Xp G) {a : Nat} (g : gObj own ix) (d : decode cc pc = .ok (.invokespecial ix, 3)) (hLn : L.length = nL := by rfl) (hRf : 1 ≤ R.frames := by exact Nat.le_of_ble_eq_true rfl) (hRl : (st.map fun v => v.category).sum + 12 ≤ R.locals := by exact Nat.le_of_ble_eq_true rfl) (kk : G n k w L (pc + 3) st) : G n k w L pc (.ref a :: st) := by
  obtain ⟨p, e, s, m, args, below, meth, c, A, Q, rfl, hx, hb, hml, hown, hts, hKX, hST, hAA, hlo, hr, hin, hst9, htab, habs, hthr⟩ := C
  obtain ⟨g1, g2, g3⟩ := g
  intro H locs ls hH hA hS hl
  exact W.objInit hx hb hown (hts _ g1) (hts _ g2) (hts _ g3) rfl (by rw [hml]; exact hl.1.trans hLn) rfl d hRf (by show 2 * 0 + _ + 12 ≤ _; omega) (kk H locs ls hH hA hS hl)
end IC
