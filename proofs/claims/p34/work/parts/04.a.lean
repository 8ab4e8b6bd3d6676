-- ===== the numbers: an int as Z32 of an integer =====
def Z32 (z : Int) : Int32 := Int32.ofInt z
abbrev inR (z : Int) : Prop := -2147483648 ≤ z ∧ z < 2147483648
theorem Z32_toInt {z : Int} (h : inR z) : (Z32 z).toInt = z := by
  show (Int32.ofInt z).toInt = z
  rw [Int32.toInt_ofInt]
  show z.bmod 4294967296 = z
  rw [Int.bmod_eq_of_le (by omega) (by omega)]
theorem Z32_as (x : Int32) : Z32 x.toInt = x := Int32.ofInt_toInt x
theorem Z32_rng (x : Int32) : inR x.toInt := ⟨Int32.le_toInt x, Int32.toInt_lt x⟩
theorem Z32_add (a b : Int) : Z32 a + Z32 b = Z32 (a + b) := (Int32.ofInt_add a b).symm
theorem Z32_sub (a b : Int) : Z32 a - Z32 b = Z32 (a - b) := (Int32.ofInt_sub a b).symm
theorem Z32_mul (a b : Int) : Z32 a * Z32 b = Z32 (a * b) := (Int32.ofInt_mul a b).symm
theorem Z32_lt {a b : Int} (ha : inR a) (hb : inR b) : Z32 a < Z32 b ↔ a < b := by
  rw [Int32.lt_iff_toInt_lt, Z32_toInt ha, Z32_toInt hb]
theorem Z32_le {a b : Int} (ha : inR a) (hb : inR b) : Z32 a ≤ Z32 b ↔ a ≤ b := by
  rw [Int32.le_iff_toInt_le, Z32_toInt ha, Z32_toInt hb]
theorem Z32_eq {a b : Int} (ha : inR a) (hb : inR b) : Z32 a = Z32 b ↔ a = b := by
  rw [← Int32.toInt_inj, Z32_toInt ha, Z32_toInt hb]
theorem Z32_0 : Z32 0 = 0 := rfl
theorem Z32_1 : Z32 1 = 1 := rfl
theorem Z32_n (n : Nat) : Z32 (n : Int) = nI n := rfl
theorem Z32_cl {a : Int} (h0 : 0 ≤ a) (h1 : a < 2147483648) : (Z32 a).toNatClampNeg = a.toNat := by
  obtain ⟨n, rfl⟩ := Int.eq_ofNat_of_zero_le h0
  rw [Z32_n, nI_clamp (by omega)]
  rfl
theorem Z32_in {a : Int} {N : Nat} (h0 : 0 ≤ a) (h1 : a < N) (h2 : a < 2147483648) : ¬ (Z32 a < 0 ∨ N ≤ (Z32 a).toNatClampNeg) := by
  rw [Z32_cl h0 h2, ← Z32_0, Z32_lt ⟨by omega, h2⟩ ⟨by omega, by omega⟩]
  omega
theorem Z32_div {a b : Int} (ha : 0 ≤ a) (ha2 : a < 2147483648) (hb : 0 < b) (hb2 : b < 2147483648) : Z32 a / Z32 b = Z32 (a / b) := by
  obtain ⟨n, rfl⟩ := Int.eq_ofNat_of_zero_le ha
  obtain ⟨k, rfl⟩ := Int.eq_ofNat_of_zero_le (Int.le_of_lt hb)
  rw [Z32_n, Z32_n, pk_div (by omega) (by omega) (by omega)]
  rfl
theorem Z32_rem {a b : Int} (ha : 0 ≤ a) (ha2 : a < 2147483648) (hb : 0 < b) (hb2 : b < 2147483648) : Z32 a - Z32 a / Z32 b * Z32 b = Z32 (a % b) := by
  obtain ⟨n, rfl⟩ := Int.eq_ofNat_of_zero_le ha
  obtain ⟨k, rfl⟩ := Int.eq_ofNat_of_zero_le (Int.le_of_lt hb)
  rw [Z32_n, Z32_n, pk_rem (by omega) (by omega) (by omega)]
  rfl
theorem Z32_or (a b : Nat) : Z32 (a : Int) ||| Z32 (b : Int) = Z32 ((a ||| b : Nat) : Int) := by
  apply Int32.toBitVec_inj.1
  show BitVec.ofNat 32 a ||| BitVec.ofNat 32 b = BitVec.ofNat 32 (a ||| b)
  exact BitVec.ofNat_or.symm
theorem Z32_and (a b : Nat) : Z32 (a : Int) &&& Z32 (b : Int) = Z32 ((a &&& b : Nat) : Int) := by
  apply Int32.toBitVec_inj.1
  show BitVec.ofNat 32 a &&& BitVec.ofNat 32 b = BitVec.ofNat 32 (a &&& b)
  exact BitVec.ofNat_and.symm
-- ===== the locals: a row of values, none where nothing is known =====
/-- a known local stands; one of two slots only while nothing is said of its second slot -/
def lw_okb (L : List (Option Value)) (i : Nat) (v : Value) : Bool := v.category == 1 || (match L[i + 1]? with | some none => true | _ => false)
def lw_has (ls : Array Slot) (L : List (Option Value)) : Prop := ls.size = L.length ∧ lv_wf ls ∧ ∀ (i : Nat) (v : Value), L[i]? = some (some v) → lw_okb L i v = true → ls[i]? = some (.val v)
def lw_as (L : List (Option Value)) : List (Nat × Value) := (List.range L.length).filterMap (fun i => match L[i]? with | some (some v) => if lw_okb L i v = true then some (i, v) else none | _ => none)
theorem lw_as_in {L : List (Option Value)} {i : Nat} {v : Value} : (i, v) ∈ lw_as L ↔ (L[i]? = some (some v) ∧ lw_okb L i v = true) := by
  unfold lw_as
  rw [List.mem_filterMap]
  constructor
  · rintro ⟨j, hj, h⟩
    split at h
    · rename_i w hw
      split at h
      · rename_i hk
        cases h
        exact ⟨hw, hk⟩
      · cases h
    · cases h
  · rintro ⟨h, hk⟩
    have hi : i < L.length := (List.getElem?_eq_some_iff.mp h).1
    exact ⟨i, List.mem_range.mpr hi, by rw [h]; exact if_pos hk⟩
theorem lw_okb_iff {L : List (Option Value)} {i : Nat} {v : Value} : lw_okb L i v = true ↔ (v.category = 1 ∨ L[i + 1]? = some none) := by
  unfold lw_okb
  rw [Bool.or_eq_true, beq_iff_eq]
  refine or_congr Iff.rfl ⟨fun h => ?_, fun h => by rw [h]⟩
  split at h
  · rename_i z; exact z
  · cases h
theorem lw_to {ls : Array Slot} {L : List (Option Value)} (h : lw_has ls L) : lv_has ls L.length (lw_as L) := ⟨h.1, h.2.1, fun q hq => h.2.2 q.1 q.2 (lw_as_in.mp hq).1 (lw_as_in.mp hq).2⟩
theorem lw_of {ls ls' : Array Slot} {L : List (Option Value)} {i : Nat} {v : Value} (h0 : lw_has ls L) (hi : i < L.length) (hc : v.category = 1) (h : lv_has ls' L.length ((i, v) :: (lw_as L).filter (fun q => !(q.1 == i) && !(q.1 + 1 == i && q.2.category == 2)))) : lw_has ls' (L.set i (some v)) := by
  refine ⟨by rw [List.length_set]; exact h.1, h.2.1, fun j u hj hk => ?_⟩
  by_cases hji : j = i
  · subst hji
    rw [List.getElem?_set_self hi] at hj
    cases hj
    exact h.2.2 (j, v) List.mem_cons_self
  · rw [List.getElem?_set_ne (Ne.symm hji)] at hj
    have hk2 := lw_okb_iff.mp hk
    have hk3 : u.category = 1 ∨ (j + 1 ≠ i ∧ L[j + 1]? = some none) := by
      rcases hk2 with z | z
      · exact Or.inl z
      · by_cases y : j + 1 = i
        · rw [y, List.getElem?_set_self hi] at z; cases z
        · rw [List.getElem?_set_ne (Ne.symm y)] at z
          exact Or.inr ⟨y, z⟩
    refine h.2.2 (j, u) (List.mem_cons_of_mem _ (List.mem_filter.mpr ⟨lw_as_in.mpr ⟨hj, lw_okb_iff.mpr (hk3.imp id (fun z => z.2))⟩, ?_⟩))
    rcases hk3 with z | ⟨z, -⟩
    · simp [hji, z]
    · simp [hji, z]
theorem lw_of2 {ls ls' : Array Slot} {L : List (Option Value)} {i : Nat} {x : Int64} (hi : i + 1 < L.length) (h : lv_has ls' L.length ((i, Value.long x) :: (lw_as L).filter (fun q => !(q.1 == i) && (!(q.1 == i + 1) && !(q.1 + 1 == i && q.2.category == 2))))) : lw_has ls' ((L.set i (some (.long x))).set (i + 1) none) := by
  refine ⟨by rw [List.length_set, List.length_set]; exact h.1, h.2.1, fun j u hj hk => ?_⟩
  by_cases hj1 : j = i + 1
  · subst hj1
    rw [List.getElem?_set_self (by rw [List.length_set]; exact hi)] at hj
    cases hj
  rw [List.getElem?_set_ne (Ne.symm hj1)] at hj
  by_cases hji : j = i
  · subst hji
    rw [List.getElem?_set_self (by omega)] at hj
    cases hj
    exact h.2.2 (j, .long x) List.mem_cons_self
  · rw [List.getElem?_set_ne (Ne.symm hji)] at hj
    have hk2 := lw_okb_iff.mp hk
    have hk3 : u.category = 1 ∨ (j + 1 ≠ i ∧ L[j + 1]? = some none) := by
      rcases hk2 with z | z
      · exact Or.inl z
      · rw [List.getElem?_set_ne (by omega)] at z
        by_cases y : j + 1 = i
        · rw [y, List.getElem?_set_self (by omega)] at z; cases z
        · rw [List.getElem?_set_ne (Ne.symm y)] at z
          exact Or.inr ⟨y, z⟩
    refine h.2.2 (j, u) (List.mem_cons_of_mem _ (List.mem_filter.mpr ⟨lw_as_in.mpr ⟨hj, lw_okb_iff.mpr (hk3.imp id (fun z => z.2))⟩, ?_⟩))
    rcases hk3 with z | ⟨z, -⟩
    · simp [hji, hj1, z]
    · simp [hji, hj1, z]
theorem lw_at {ls : Array Slot} {L : List (Option Value)} {i : Nat} {v : Value} (h : lw_has ls L) (hi : L[i]? = some (some v)) (hc : v.category = 1 := by rfl) : ls[i]? = some (.val v) := h.2.2 i v hi (lw_okb_iff.mpr (Or.inl hc))
theorem lw_at2 {ls : Array Slot} {L : List (Option Value)} {i : Nat} {v : Value} (h : lw_has ls L) (hi : L[i]? = some (some v)) (hn : L[i + 1]? = some none) : ls[i]? = some (.val v) := h.2.2 i v hi (lw_okb_iff.mpr (Or.inr hn))
/-- the locals that a call lays for its arguments -/
def lw_arg : List Value → List (Option Value)
  | [] => []
  | v :: vs => if v.category = 2 then some v :: none :: lw_arg vs else some v :: lw_arg vs
theorem lw_sl2 : ∀ (vs : List Value), (lw_arg vs).length = (lg_sl vs).length ∧ ∀ (i : Nat) (v : Value), (lw_arg vs)[i]? = some (some v) → (lg_sl vs)[i]? = some (Slot.val v)
  | [] => ⟨rfl, fun i v h => by simp [lw_arg] at h⟩
  | u :: vs => by
    obtain ⟨ih1, ih2⟩ := lw_sl2 vs
    have e : lg_sl (u :: vs) = (if u.category = 2 then [Slot.val u, Slot.second] else [Slot.val u]) ++ lg_sl vs := rfl
    have e2 : lw_arg (u :: vs) = (if u.category = 2 then some u :: none :: lw_arg vs else some u :: lw_arg vs) := rfl
    rw [e, e2]
    by_cases h2 : u.category = 2
    · rw [if_pos h2, if_pos h2]
      refine ⟨by simp [ih1], fun i v h => ?_⟩
      match i, h with
      | 0, h => cases h; rfl
      | 1, h => cases h
      | i + 2, h => exact ih2 i v h
    · rw [if_neg h2, if_neg h2]
      refine ⟨by simp [ih1], fun i v h => ?_⟩
      match i, h with
      | 0, h => cases h; rfl
      | i + 1, h => exact ih2 i v h
theorem lw_arg1 : ∀ (vs : List Value), vs.all (fun v => v.category == 1) = true → lw_arg vs = vs.map some
  | [], _ => rfl
  | v :: vs, h => by
    simp only [List.all_cons, Bool.and_eq_true, beq_iff_eq] at h
    show (if v.category = 2 then _ else _) = _
    rw [if_neg (by omega), lw_arg1 vs (by simpa using h.2)]
    rfl
theorem lw_entry2 (vs : List Value) {n : Nat} (h : (lw_arg vs).length ≤ n) : lw_has ((lg_sl vs ++ List.replicate (n - (lg_sl vs).length) Slot.unset).toArray) (lw_arg vs ++ List.replicate (n - (lw_arg vs).length) none) := by
  obtain ⟨e1, e2⟩ := lw_sl2 vs
  have h1 := lv_entry vs (n := n) (by rw [← e1]; exact h)
  refine ⟨by rw [h1.1, List.length_append, List.length_replicate]; omega, h1.2.1, fun i v hv _ => ?_⟩
  by_cases hi : i < (lw_arg vs).length
  · rw [List.getElem?_append_left hi] at hv
    rw [List.getElem?_toArray, List.getElem?_append_left (by rw [← e1]; exact hi)]
    exact e2 i v hv
  · rw [List.getElem?_append_right (by omega), List.getElem?_replicate] at hv
    split at hv
    · cases hv
    · cases hv
theorem lw_entry (vs : List Value) {n : Nat} (hc : vs.all (fun v => v.category == 1) = true) (h : vs.length ≤ n) : lw_has ((lg_sl vs ++ List.replicate (n - (lg_sl vs).length) Slot.unset).toArray) (vs.map some ++ List.replicate (n - vs.length) none) := by
  have e := lw_arg1 vs hc
  have h2 := lw_entry2 vs (n := n) (by rw [e, List.length_map]; exact h)
  rw [e, List.length_map] at h2
  exact h2
-- ===== the world: a function of addresses =====
abbrev wW : Type := Nat → Option va_E
def wset (w : wW) (a : Nat) (e : va_E) : wW := fun b => if b = a then some e else w b
theorem wset_eq {w : wW} {a : Nat} {e : va_E} : wset w a e a = some e := if_pos rfl
theorem wset_ne {w : wW} {a b : Nat} {e : va_E} (h : b ≠ a) : wset w a e b = w b := if_neg h
/-- the classes, the array classes, and the script: where it lies, its length, its ints -/
abbrev gD : Type := va_G × ClassId × ClassId × ClassId × (Nat × Nat × (Nat → Int32))
def wH (D : gD) (w : wW) (H : Heap) : Prop := ∀ (a : Nat) (e : va_E), w a = some e → va_at D.1 vwCl (a, e) H
theorem wH.lt {D : gD} {w : wW} {H : Heap} (h : wH D w H) {a : Nat} {e : va_E} (ha : w a = some e) : a < H.size := (h a e ha).lt
theorem wH.set {D : gD} {w : wW} {H H1 : Heap} {a : Nat} {e : va_E} (h : wH D w H) (ha : va_at D.1 vwCl (a, e) H1) (ho : ∀ q : Nat, q ≠ a → H1[q]? = H[q]?) : wH D (wset w a e) H1 := by
  intro b f hb
  by_cases hba : b = a
  · subst hba
    rw [wset_eq] at hb
    cases hb
    exact ha
  · rw [wset_ne hba] at hb
    exact (h b f hb).kept (ho b hba)
theorem wH.push {D : gD} {w : wW} {H H1 : Heap} {e : va_E} (h : wH D w H) (ha : va_at D.1 vwCl (H.size, e) H1) (ho : ∀ q : Nat, q < H.size → H1[q]? = H[q]?) : wH D (wset w H.size e) H1 := by
  intro b f hb
  by_cases hba : b = H.size
  · subst hba
    rw [wset_eq] at hb
    cases hb
    exact ha
  · rw [wset_ne hba] at hb
    exact (h b f hb).kept (ho b (h.lt hb))
theorem wH.none {D : gD} {w : wW} {H : Heap} (h : wH D w H) : w H.size = none := by
  cases hw : w H.size with
  | none => rfl
  | some e => exact absurd (h.lt hw) (Nat.lt_irrefl _)
/-- an int array, a long array, an array of pages -/
def iar (D : gD) (n : Nat) (f : Nat → Int) : va_E := .inl (D.2.1, n, .inl (fun j => Z32 (f j)))
def lar (D : gD) (n : Nat) (f : Nat → Int64) : va_E := .inl (D.2.2.1, n, .inr (.inl f))
def par (D : gD) (n : Nat) (f : Nat → Option Nat) : va_E := .inl (D.2.2.2.1, n, .inr (.inr (.inr (.inr f))))
def upz {α : Type} (f : Nat → α) (k : Nat) (x : α) : Nat → α := fun j => if j = k then x else f j
theorem upz_eq {α : Type} {f : Nat → α} {k : Nat} {x : α} : upz f k x k = x := if_pos rfl
theorem upz_ne {α : Type} {f : Nat → α} {k j : Nat} {x : α} (h : j ≠ k) : upz f k x j = f j := if_neg h
def tysD (D : gD) : List (ClassId × FieldType) := [(D.2.1, .int), (D.2.2.1, .long), (D.2.2.2.1, .object "MacroWiki$Page")]
-- ===== the tables' words: the good ones go along with every call; of the others we keep those of four kinds =====
def gT : List Cond := lw_tbl.filter goodWord
def g_isN : Cond → Bool
  | .methodLinkNest .. | .fieldLinkNest .. | .declares _ | .castable .. => true
  | _ => false
def gN : List Cond := tables_1.filter g_isN
theorem gT_good {w : Cond} (h : w ∈ gT) : goodWord w = true := (List.mem_filter.mp h).2
theorem gT_of {w : Cond} (i : Nat) (h : lw_tbl[i]? = some w) (hg : goodWord w = true) : w ∈ gT := List.mem_filter.mpr ⟨List.mem_of_getElem? h, hg⟩
theorem gN_of {w : Cond} (i : Nat) (h : tables_1[i]? = some w) (hg : g_isN w = true) : w ∈ gN := List.mem_filter.mpr ⟨List.mem_of_getElem? h, hg⟩
theorem gN_tab {w : Cond} (h : w ∈ gN) : w.onTables = true := by
  have h1 := (List.mem_filter.mp h).2
  cases w <;> first | rfl | (simp [g_isN] at h1)
theorem gT_in {ws : List Cond} (h : ∀ w ∈ ws, w ∈ gT) : GoodIn gT ws := fun w hw => ⟨h w hw, good_of_word (gT_good (h w hw))⟩
theorem gN_warm {s U : State} (hW : s.WarmedH U.vm) {w : Cond} (hw : w ∈ gN) (h : va_Nw w s) : va_Nw w U := by
  have h1 := (List.mem_filter.mp hw).2
  cases w <;> first | (simp [g_isN] at h1; done) | exact va_Nw.warmM hW h | exact va_Nw.warmF hW h | exact va_Nw.warmD hW h | exact va_Nw.warmC hW h
-- ===== what a state's tables say, carried from call to call =====
def KX (gS : List (String × Nat × String)) (gC : List (String × String)) (D : gD) (s : State) : Prop := (∀ w ∈ gN, va_Nw w s) ∧ va_K D.1 vwCl (tysD D) s ∧ va_AO "MacroWiki$Page" s ∧ (∀ q ∈ gS, ∃ a : Nat, vk_R q.1 q.2.1 q.2.2 a s) ∧ ∀ q ∈ gC, va_Nc q.1 q.2 s
def gS : List (String × Nat × String) := (tables_1.filterMap (fun w => match w with | .stringRef a k t => some (a, k, t) | _ => none))
def gX : List String := []
def gC : List (String × String) := gX.flatMap (fun a => (gX.filter (fun b => decide (b ≠ a))).map (fun b => (a, b)))
abbrev KD (D : gD) (s : State) : Prop := KX gS gC D s
theorem KX.warm {gS : List (String × Nat × String)} {gC : List (String × String)} {D : gD} {s U : State} (hW : s.WarmedH U.vm) (h : KX gS gC D s) : KX gS gC D U :=
  ⟨fun w hw => gN_warm hW hw (h.1 w hw), va_K.moved hW.alike h.2.1, va_AO.moved hW.alike h.2.2.1, fun q hq => by obtain ⟨a, ha⟩ := h.2.2.2.1 q hq; exact ⟨a, vk_R.warm hW ha⟩, fun q hq => va_Nc.moved hW.alike (h.2.2.2.2 q hq)⟩
theorem KX.same {gS : List (String × Nat × String)} {gC : List (String × String)} {D : gD} {s U : State} (hv : U.vm = s.vm) (h : KX gS gC D s) : KX gS gC D U :=
  ⟨fun w hw => va_Nw.same (gN_tab hw) hv.symm (h.1 w hw), va_K.moved (by rw [hv]; exact Vm.Alike.refl _) h.2.1, va_AO.moved (by rw [hv]; exact Vm.Alike.refl _) h.2.2.1, fun q hq => by obtain ⟨a, ha⟩ := h.2.2.2.1 q hq; exact ⟨a, vk_R.same hv ha⟩, fun q hq => va_Nc.moved (by rw [hv]; exact Vm.Alike.refl _) (h.2.2.2.2 q hq)⟩
def SX (D : gD) (A : Nat → Prop) (U : State) (H : Heap) : Prop := va_X D.2.2.2.2.1 D.2.2.2.2.2.1 D.2.2.2.2.2.2 U H ∧ D.2.2.2.2.1 < H.size ∧ ¬ A D.2.2.2.2.1
/-- two statics that stand, and the script -/
def ST (D : gD) (A : Nat → Prop) (U : State) (H : Heap) : Prop := vx_Zq Bundle.tN "UNASSIGNED_STACK" Bundle.steD A U H ∧ vx_Zq Bundle.tN "SUPPRESSED_SENTINEL" Bundle.listD A U H ∧ SX D A U H
theorem ST.moved {D : gD} {A : Nat → Prop} {u U : State} {H : Heap} (hvm : u.vm.Alike U.vm) (h : ST D A u H) : ST D A U H := ⟨vx_Zq.moved hvm h.1, vx_Zq.moved hvm h.2.1, va_X.moved hvm h.2.2.1, h.2.2.2⟩
theorem ST.kept {D : gD} {A : Nat → Prop} {U : State} {H H1 : Heap} (h : ST D A U H) (hq : ∀ a : Nat, a < H.size → ¬ A a → H1[a]? = H[a]?) : ST D A U H1 := by
  obtain ⟨h1, h2, h3, h4, h5⟩ := h
  have e := hq _ h4 h5
  refine ⟨h1.kept hq, h2.kept hq, va_X.kept h3 e, ?_, h5⟩
  obtain ⟨scr, k, -⟩ := h3
  rw [k] at e
  exact (Array.getElem?_eq_some_iff.mp e).1
theorem ST.narrow {D : gD} {A B : Nat → Prop} {U : State} {H : Heap} (h : ST D A U H) (hAB : ∀ q, B q → A q) : ST D B U H := ⟨h.1.narrow hAB, h.2.1.narrow hAB, h.2.2.1, h.2.2.2.1, fun q => h.2.2.2.2 (hAB _ q)⟩
-- ===== contracts =====
def wA (w : wW) (sz : Nat) : Nat → Prop := fun q => (∃ e, w q = some e) ∨ sz ≤ q
def cP (D : gD) (w : wW) (sz : Nat) : State → Prop := fun U => U.heap.size = sz ∧ wH D w U.heap ∧ KD D U ∧ ST D (wA w sz) U U.heap
def cQ (D : gD) (A : Nat → Prop) (Rp : Option Value → wW → Prop) : Array Value → State → Outcome → State → Prop := fun _ st o t =>
  (∃ (v : Option Value) (w1 : wW), o = .returned v ∧ Rp v w1 ∧ wH D w1 t.heap ∧ ∀ a e, w1 a = some e → A a) ∧ va_F A st t
def cXC (D : gD) (A : Nat → Prop) (Xp : String → wW → Prop) : String → State → State → Prop := fun E st t =>
  (∃ w1 : wW, Xp E w1 ∧ wH D w1 t.heap ∧ ∀ a e, w1 a = some e → A a) ∧ va_F A st t
/-- a contract of a method that returns -/
def CTm (l : Launch) (D : gD) (y : MethodName) (b : ByteArray) (mL : Nat) (rt : Option FieldType) (rm : Room) (av : List Value) (w : wW) (Rp : Option Value → wW → Prop) : Prop :=
  ∀ sz : Nat, Met l y (.code y b mL rt :: gT) rm (va_Pc av (cP D w sz)) (cQ D (wA w sz) Rp) rm.cells rm.slots (wA w sz)
/-- a contract of a method that returns or throws -/
def CTx (l : Launch) (D : gD) (y : MethodName) (b : ByteArray) (mL : Nat) (rt : Option FieldType) (rm : Room) (av : List Value) (w : wW) (Rp : Option Value → wW → Prop) (Xp : String → wW → Prop) : Prop :=
  ∀ sz : Nat, vx_Met l y (.code y b mL rt :: gT) rm (va_Pc av (cP D w sz)) (cQ D (wA w sz) Rp) (cXC D (wA w sz) Xp) rm.cells rm.slots (wA w sz)
/-- the same of a method with handlers -/
def CTh (l : Launch) (D : gD) (y : MethodName) (b : ByteArray) (mL : Nat) (rt : Option FieldType) (hh : List (Nat × Nat × Nat × Nat)) (rm : Room) (av : List Value) (w : wW) (Rp : Option Value → wW → Prop) : Prop :=
  ∀ sz : Nat, vx_Met l y (.codeWith y b mL rt hh :: gT) rm (va_Pc av (cP D w sz)) (cQ D (wA w sz) Rp) (cXC D (wA w sz) (fun _ _ => False)) rm.cells rm.slots (wA w sz)
theorem cP_blind {D : gD} {w : wW} {sz : Nat} {av : List Value} : FrameBlind (va_Pc av (cP D w sz)) := by
  rintro a U g mk ⟨h0, h1, h2, h3, h4⟩
  exact ⟨h0, h1, h2, KX.same (s := U) rfl h3, ST.moved (Vm.Alike.refl _) h4⟩
theorem cP_at {D : gD} {w : wW} {s U : State} {A : Nat → Prop} {H : Heap} {locs : List Loc} (hH : wH D w H) (hw : ∀ a e, w a = some e → A a) (hA : ∀ q, s.heap.size ≤ q → A q) (hS : va_S A s.heap H locs) (hK : KD D s) (hT : ST D A s s.heap) (hU : U.heap = H) (hW : s.WarmedH U.vm) : cP D w H.size U := by
  subst hU
  refine ⟨rfl, hH, KX.warm hW hK, ?_⟩
  refine ST.moved hW.alike ((hT.kept hS.2.1).narrow ?_)
  rintro q (⟨e, he⟩ | hq)
  · exact hw q e he
  · exact hA q (Nat.le_trans hS.1 hq)
theorem wA_in {D : gD} {w : wW} {A : Nat → Prop} {H H0 : Heap} {locs : List Loc} (hw : ∀ a e, w a = some e → A a) (hA : ∀ q, H0.size ≤ q → A q) (hS : va_S A H0 H locs) : ∀ q, wA w H.size q → A q := by
  rintro q (⟨e, he⟩ | hq)
  · exact hw q e he
  · exact hA q (Nat.le_trans hS.1 hq)
-- ===== the walk's judgement =====
def JJ (p : Program) (l : Launch) (e : Env) (R : Room) (s : State) (m : MethodId) (args : Array Value) (below : List Frame) (meth : Method) (c : Code) (A : Nat → Prop) (D : gD) (Q : State → Prop) (n k : Nat) (w : wW) (L : List (Option Value)) (pc : Nat) (st : List Value) : Prop :=
  ∀ (H : Heap) (locs : List Loc) (ls : Array Slot), wH D w H → (∀ a x, w a = some x → A a) → va_S A s.heap H locs → lw_has ls L → W p l e R s m args below meth c H locs n k Q (F0 m pc ls st)
abbrev gG : Type := Nat → Nat → wW → List (Option Value) → Nat → List Value → Prop
def CxF (p : Program) (l : Launch) (e : Env) (R : Room) (s : State) (m : MethodId) (args : Array Value) (below : List Frame) (meth : Method) (c : Code) (A : Nat → Prop) (D : gD) (Q : State → Prop) (own : String) (cc : ByteArray) (nL : Nat) (rt : Option FieldType) (ini : Bool) (hh : Option (List (Nat × Nat × Nat × Nat))) (Rp : Option Value → wW → Prop) (Xp : String → wW → Prop) : Prop :=
  p.tables.exec = Jvm.exec ∧ c.code = cc ∧ c.maxLocals = nL ∧ s.vm.findClass own = some m.cls ∧ (∀ w ∈ gT, w.before args s = true) ∧ KD D s ∧ ST D A s s.heap ∧ (∀ q, s.heap.size ≤ q → A q) ∧ meth.locks = false ∧ meth.sig.returnType = rt ∧ (ini = true → meth.name = "<init>") ∧ l.stackTraces = false ∧
  (∀ h, hh = some h → c.exceptionTable.toList = tableOf h) ∧ (∀ H locs n k g, W p l e R s m args below meth c H locs n k (MQ below (cQ D A Rp) args s R.cells R.slots A) g → W p l e R s m args below meth c H locs n k Q g) ∧
  (Q = vx_MQ below (cQ D A Rp) (cXC D A Xp) args s R.cells R.slots A ∨ hh = none)
/-- the context of a walk: G n k w L pc st says: from there, the method's end is come to -/
def Cx (l : Launch) (D : gD) (own : String) (cc : ByteArray) (nL : Nat) (R : Room) (rt : Option FieldType) (ini : Bool) (hh : Option (List (Nat × Nat × Nat × Nat))) (Rp : Option Value → wW → Prop) (Xp : String → wW → Prop) (G : gG) : Prop :=
  ∃ (p : Program) (e : Env) (s : State) (m : MethodId) (args : Array Value) (below : List Frame) (meth : Method) (c : Code) (A : Nat → Prop) (Q : State → Prop), G = JJ p l e R s m args below meth c A D Q ∧ CxF p l e R s m args below meth c A D Q own cc nL rt ini hh Rp Xp
theorem CTm_of {l : Launch} {D : gD} {y : MethodName} {b : ByteArray} {mL : Nat} {rt : Option FieldType} {rm : Room} {av : List Value} {w : wW} {Rp : Option Value → wW → Prop} (hl : l.stackTraces = false) (ini : Bool) (hy : plainName y.cls = true) (hc1 : av.all (fun v => v.category == 1) = true) (hlen : av.length ≤ mL) (hini : ini = true → y.name = "<init>")
    (body : ∀ G : gG, Cx l D y.cls b mL rm rt ini none Rp (fun _ _ => False) G → G 0 0 w (av.map some ++ List.replicate (mL - av.length) none) 0 []) : CTm l D y b mL rt rm av w Rp := by
  intro sz
  refine Met.ofW (cc := b) (maxL := mL) (ret := rt) hy rfl ?_
  intro p e s m args below meth c s₁ B hml hv
  obtain ⟨rfl, hsz, hH, hK, hS⟩ := hv
  subst hsz
  have hts := atoms_spec (ws := Jvm.Cond.code y b mL rt :: gT) B.pre
  rw [lg_entry_eq]
  refine body (JJ p l e rm s m av.toArray below meth c (wA w s.heap.size) D (MQ below (cQ D (wA w s.heap.size) Rp) av.toArray s rm.cells rm.slots (wA w s.heap.size))) ⟨p, e, s, m, av.toArray, below, meth, c, wA w s.heap.size, _, rfl, ?_⟩ s.heap [] _ hH (fun a x h => Or.inl ⟨x, h⟩) va_S.rf (lw_entry av hc1 hlen)
  exact ⟨B.exec, B.bytes, hml, findClass_of_methodNamed B.named, fun w9 h9 => hts w9 (List.mem_cons_of_mem _ h9), hK, hS, fun q h => Or.inr h, B.notSynchronized, B.returns, fun h => ((name_of_methodNamed B.named B.method).1).trans (hini h), hl, (fun h hh => nomatch hh), fun _ _ _ _ _ h => h, Or.inr rfl⟩
theorem CTx_of {l : Launch} {D : gD} {y : MethodName} {b : ByteArray} {mL : Nat} {rt : Option FieldType} {rm : Room} {av : List Value} {w : wW} {Rp : Option Value → wW → Prop} {Xp : String → wW → Prop} (hl : l.stackTraces = false) (hy : plainName y.cls = true) (hc1 : av.all (fun v => v.category == 1) = true) (hlen : av.length ≤ mL)
    (body : ∀ G : gG, Cx l D y.cls b mL rm rt false (some []) Rp Xp G → G 0 0 w (av.map some ++ List.replicate (mL - av.length) none) 0 []) : CTx l D y b mL rt rm av w Rp Xp := by
  intro sz
  refine vx_ofW (cc := b) (maxL := mL) (ret := rt) hy rfl ?_
  intro p e s m args below meth c s₁ B hml htab hv
  obtain ⟨rfl, hsz, hH, hK, hS⟩ := hv
  subst hsz
  have hts := atoms_spec (ws := Jvm.Cond.code y b mL rt :: gT) B.pre
  rw [lg_entry_eq]
  refine body (JJ p l e rm s m av.toArray below meth c (wA w s.heap.size) D (vx_MQ below (cQ D (wA w s.heap.size) Rp) (cXC D (wA w s.heap.size) Xp) av.toArray s rm.cells rm.slots (wA w s.heap.size))) ⟨p, e, s, m, av.toArray, below, meth, c, wA w s.heap.size, _, rfl, ?_⟩ s.heap [] _ hH (fun a x h => Or.inl ⟨x, h⟩) va_S.rf (lw_entry av hc1 hlen)
  refine ⟨B.exec, B.bytes, hml, findClass_of_methodNamed B.named, fun w9 h9 => hts w9 (List.mem_cons_of_mem _ h9), hK, hS, fun q h => Or.inr h, B.notSynchronized, B.returns, (fun h => nomatch h), hl, ?_, fun _ _ _ _ _ h => vx_ret h, Or.inl rfl⟩
  intro h hh
  cases hh
  exact List.eq_nil_iff_forall_not_mem.mpr htab
theorem CTh_of {l : Launch} {D : gD} {y : MethodName} {b : ByteArray} {mL : Nat} {rt : Option FieldType} {hh : List (Nat × Nat × Nat × Nat)} {rm : Room} {av : List Value} {w : wW} {Rp : Option Value → wW → Prop} (hl : l.stackTraces = false) (hy : plainName y.cls = true) (hc1 : av.all (fun v => v.category == 1) = true) (hlen : av.length ≤ mL)
    (body : ∀ G : gG, Cx l D y.cls b mL rm rt false (some hh) Rp (fun _ _ => False) G → G 0 0 w (av.map some ++ List.replicate (mL - av.length) none) 0 []) : CTh l D y b mL rt hh rm av w Rp := by
  intro sz
  refine vx_ofWH (cc := b) (maxL := mL) (ret := rt) (hh := hh) hy rfl ?_
  intro p e s m args below meth c s₁ B hml hv
  obtain ⟨rfl, hsz, hH, hK, hS⟩ := hv
  subst hsz
  have hts := atoms_spec (ws := Jvm.Cond.codeWith y b mL rt hh :: gT) B.pre
  have htab := vx_table (x := y) B (hts _ List.mem_cons_self)
  rw [lg_entry_eq]
  refine body (JJ p l e rm s m av.toArray below meth c (wA w s.heap.size) D (vx_MQ below (cQ D (wA w s.heap.size) Rp) (cXC D (wA w s.heap.size) (fun _ _ => False)) av.toArray s rm.cells rm.slots (wA w s.heap.size))) ⟨p, e, s, m, av.toArray, below, meth, c, wA w s.heap.size, _, rfl, ?_⟩ s.heap [] _ hH (fun a x h => Or.inl ⟨x, h⟩) va_S.rf (lw_entry av hc1 hlen)
  refine ⟨B.exec, B.bytes, hml, findClass_of_methodNamed B.named, fun w9 h9 => hts w9 (List.mem_cons_of_mem _ h9), hK, hS, fun q h => Or.inr h, B.notSynchronized, B.returns, (fun h => nomatch h), hl, ?_, fun _ _ _ _ _ h => vx_ret h, Or.inl rfl⟩
  intro h h9
  cases h9
  exact htab
theorem CTm_ofL {l : Launch} {D : gD} {y : MethodName} {b : ByteArray} {mL : Nat} {rt : Option FieldType} {rm : Room} {av : List Value} {w : wW} {Rp : Option Value → wW → Prop} (hl : l.stackTraces = false) (ini : Bool) (hy : plainName y.cls = true) (L0 : List (Option Value)) (hL0 : lw_arg av ++ List.replicate (mL - (lw_arg av).length) none = L0) (hlen : (lw_arg av).length ≤ mL) (hini : ini = true → y.name = "<init>")
    (body : ∀ G : gG, Cx l D y.cls b mL rm rt ini none Rp (fun _ _ => False) G → G 0 0 w L0 0 []) : CTm l D y b mL rt rm av w Rp := by
  subst hL0
  intro sz
  refine Met.ofW (cc := b) (maxL := mL) (ret := rt) hy rfl ?_
  intro p e s m args below meth c s₁ B hml hv
  obtain ⟨rfl, hsz, hH, hK, hS⟩ := hv
  subst hsz
  have hts := atoms_spec (ws := Jvm.Cond.code y b mL rt :: gT) B.pre
  rw [lg_entry_eq]
  refine body (JJ p l e rm s m av.toArray below meth c (wA w s.heap.size) D (MQ below (cQ D (wA w s.heap.size) Rp) av.toArray s rm.cells rm.slots (wA w s.heap.size))) ⟨p, e, s, m, av.toArray, below, meth, c, wA w s.heap.size, _, rfl, ?_⟩ s.heap [] _ hH (fun a x h => Or.inl ⟨x, h⟩) va_S.rf (lw_entry2 av hlen)
  exact ⟨B.exec, B.bytes, hml, findClass_of_methodNamed B.named, fun w9 h9 => hts w9 (List.mem_cons_of_mem _ h9), hK, hS, fun q h => Or.inr h, B.notSynchronized, B.returns, fun h => ((name_of_methodNamed B.named B.method).1).trans (hini h), hl, (fun h hh => nomatch hh), fun _ _ _ _ _ h => h, Or.inr rfl⟩
theorem CTx_ofL {l : Launch} {D : gD} {y : MethodName} {b : ByteArray} {mL : Nat} {rt : Option FieldType} {rm : Room} {av : List Value} {w : wW} {Rp : Option Value → wW → Prop} {Xp : String → wW → Prop} (hl : l.stackTraces = false) (hy : plainName y.cls = true) (L0 : List (Option Value)) (hL0 : lw_arg av ++ List.replicate (mL - (lw_arg av).length) none = L0) (hlen : (lw_arg av).length ≤ mL)
    (body : ∀ G : gG, Cx l D y.cls b mL rm rt false (some []) Rp Xp G → G 0 0 w L0 0 []) : CTx l D y b mL rt rm av w Rp Xp := by
  subst hL0
  intro sz
  refine vx_ofW (cc := b) (maxL := mL) (ret := rt) hy rfl ?_
  intro p e s m args below meth c s₁ B hml htab hv
  obtain ⟨rfl, hsz, hH, hK, hS⟩ := hv
  subst hsz
  have hts := atoms_spec (ws := Jvm.Cond.code y b mL rt :: gT) B.pre
  rw [lg_entry_eq]
  refine body (JJ p l e rm s m av.toArray below meth c (wA w s.heap.size) D (vx_MQ below (cQ D (wA w s.heap.size) Rp) (cXC D (wA w s.heap.size) Xp) av.toArray s rm.cells rm.slots (wA w s.heap.size))) ⟨p, e, s, m, av.toArray, below, meth, c, wA w s.heap.size, _, rfl, ?_⟩ s.heap [] _ hH (fun a x h => Or.inl ⟨x, h⟩) va_S.rf (lw_entry2 av hlen)
  refine ⟨B.exec, B.bytes, hml, findClass_of_methodNamed B.named, fun w9 h9 => hts w9 (List.mem_cons_of_mem _ h9), hK, hS, fun q h => Or.inr h, B.notSynchronized, B.returns, (fun h => nomatch h), hl, ?_, fun _ _ _ _ _ h => vx_ret h, Or.inl rfl⟩
  intro h hh
  cases hh
  exact List.eq_nil_iff_forall_not_mem.mpr htab
