-- ===== the reference: its object at role 5000, the array of its k-th field at role 5001 + k =====
def mdO (ad : Nat → Nat) (dn op sh la : Int) : va_E := .inr (7, [.ref (ad 5001), .int (Z32 dn), .int (Z32 op), .ref (ad 5004), .ref (ad 5005), .ref (ad 5006), .ref (ad 5007), .ref (ad 5008), .ref (ad 5009), .ref (ad 5010), .ref (ad 5011), .ref (ad 5012), .ref (ad 5013), .ref (ad 5014), .ref (ad 5015), .ref (ad 5016), .ref (ad 5017), .int (Z32 sh), .ref (ad 5019), .ref (ad 5020), .ref (ad 5021), .int (Z32 la)])
def mK (k : Nat) : Bool := k == 0 || (3 ≤ k && k ≤ 16) || (18 ≤ k && k ≤ 20)
def msz : Nat → Nat
  | 0 => 30
  | 3 => 7560
  | 4 => 252
  | 5 => 252
  | 6 => 12
  | 7 => 12
  | 8 => 6
  | 9 => 144
  | 10 => 12
  | 11 => 12
  | 12 => 12
  | 13 => 12
  | 14 => 128
  | 15 => 128
  | 16 => 128
  | 18 => 16
  | 19 => 16
  | 20 => 16
  | _ => 0
def MdR (D : gD) (w0 w : wW) (τ ad : Nat → Nat) (F : Nat → Nat → Int) (dn op sh la : Int) : Prop := (τ (ad 5000) = 5000 ∧ w (ad 5000) = some (mdO ad dn op sh la)) ∧ (∀ k, mK k = true → τ (ad (5001 + k)) = 5001 + k ∧ w (ad (5001 + k)) = some (iar D (msz k) (F k))) ∧ offR τ w0 w 5000 5030
section MD
variable {D : gD} {w0 w : wW} {τ ad : Nat → Nat} {F : Nat → Nat → Int} {dn op sh la : Int}
theorem MdR.obj (h : MdR D w0 w τ ad F dn op sh la) : w (ad 5000) = some (mdO ad dn op sh la) := h.1.2
theorem MdR.a0 (h : MdR D w0 w τ ad F dn op sh la) : w (ad 5001) = some (iar D 30 (F 0)) := (h.2.1 0 rfl).2
theorem MdR.a3 (h : MdR D w0 w τ ad F dn op sh la) : w (ad 5004) = some (iar D 7560 (F 3)) := (h.2.1 3 rfl).2
theorem MdR.a4 (h : MdR D w0 w τ ad F dn op sh la) : w (ad 5005) = some (iar D 252 (F 4)) := (h.2.1 4 rfl).2
theorem MdR.a5 (h : MdR D w0 w τ ad F dn op sh la) : w (ad 5006) = some (iar D 252 (F 5)) := (h.2.1 5 rfl).2
theorem MdR.a6 (h : MdR D w0 w τ ad F dn op sh la) : w (ad 5007) = some (iar D 12 (F 6)) := (h.2.1 6 rfl).2
theorem MdR.a7 (h : MdR D w0 w τ ad F dn op sh la) : w (ad 5008) = some (iar D 12 (F 7)) := (h.2.1 7 rfl).2
theorem MdR.a8 (h : MdR D w0 w τ ad F dn op sh la) : w (ad 5009) = some (iar D 6 (F 8)) := (h.2.1 8 rfl).2
theorem MdR.a9 (h : MdR D w0 w τ ad F dn op sh la) : w (ad 5010) = some (iar D 144 (F 9)) := (h.2.1 9 rfl).2
theorem MdR.a10 (h : MdR D w0 w τ ad F dn op sh la) : w (ad 5011) = some (iar D 12 (F 10)) := (h.2.1 10 rfl).2
theorem MdR.a11 (h : MdR D w0 w τ ad F dn op sh la) : w (ad 5012) = some (iar D 12 (F 11)) := (h.2.1 11 rfl).2
theorem MdR.a12 (h : MdR D w0 w τ ad F dn op sh la) : w (ad 5013) = some (iar D 12 (F 12)) := (h.2.1 12 rfl).2
theorem MdR.a13 (h : MdR D w0 w τ ad F dn op sh la) : w (ad 5014) = some (iar D 12 (F 13)) := (h.2.1 13 rfl).2
theorem MdR.a14 (h : MdR D w0 w τ ad F dn op sh la) : w (ad 5015) = some (iar D 128 (F 14)) := (h.2.1 14 rfl).2
theorem MdR.a15 (h : MdR D w0 w τ ad F dn op sh la) : w (ad 5016) = some (iar D 128 (F 15)) := (h.2.1 15 rfl).2
theorem MdR.a16 (h : MdR D w0 w τ ad F dn op sh la) : w (ad 5017) = some (iar D 128 (F 16)) := (h.2.1 16 rfl).2
theorem MdR.a18 (h : MdR D w0 w τ ad F dn op sh la) : w (ad 5019) = some (iar D 16 (F 18)) := (h.2.1 18 rfl).2
theorem MdR.a19 (h : MdR D w0 w τ ad F dn op sh la) : w (ad 5020) = some (iar D 16 (F 19)) := (h.2.1 19 rfl).2
theorem MdR.a20 (h : MdR D w0 w τ ad F dn op sh la) : w (ad 5021) = some (iar D 16 (F 20)) := (h.2.1 20 rfl).2
theorem MdR.put (h : MdR D w0 w τ ad F dn op sh la) (k : Nat) (hk : mK k = true) (g : Nat → Int) : MdR D w0 (wset w (ad (5001 + k)) (iar D (msz k) g)) τ ad (upz F k g) dn op sh la := by
  have hk2 : 5001 + k < 5030 := by
    unfold mK at hk
    simp at hk
    omega
  refine ⟨⟨h.1.1, ?_⟩, fun j hj => ⟨(h.2.1 j hj).1, ?_⟩, h.2.2.put (by rw [(h.2.1 k hk).1]; omega) (by rw [(h.2.1 k hk).1]; omega)⟩
  · rw [wset_ne (fun e => by have h1 := (h.2.1 k hk).1; rw [← e, h.1.1] at h1; omega)]
    exact h.1.2
  · by_cases z : j = k
    · subst z; rw [wset_eq, upz_eq]
    · rw [wset_ne (fun e => by have h1 := (h.2.1 k hk).1; rw [← e, (h.2.1 j hj).1] at h1; omega), upz_ne z]
      exact (h.2.1 j hj).2
theorem MdR.set (h : MdR D w0 w τ ad F dn op sh la) (dn' op' sh' la' : Int) : MdR D w0 (wset w (ad 5000) (mdO ad dn' op' sh' la')) τ ad F dn' op' sh' la' := by
  refine ⟨⟨h.1.1, wset_eq⟩, fun j hj => ⟨(h.2.1 j hj).1, ?_⟩, h.2.2.put (by rw [h.1.1]; omega) (by rw [h.1.1]; omega)⟩
  rw [wset_ne (fun e => by have h1 := (h.2.1 j hj).1; rw [e, h.1.1] at h1; omega)]
  exact (h.2.1 j hj).2
end MD
section MR
variable {l : Launch} {D : gD} {own : String} {cc : ByteArray} {nL : Nat} {R : Room} {rt : Option FieldType} {ini : Bool} {hh : Option (List (Nat × Nat × Nat × Nat))} {Rp : Option Value → wW → Prop} {Xp : String → wW → Prop} {G : gG} {n k : Nat} {w : wW} {L : List (Option Value)} {pc : Nat} {st : List Value}
variable {w0 : wW} {τ ad : Nat → Nat} {F : Nat → Nat → Int} {dn op sh la : Int}
theorem m_ial (C : Cx l D own cc nL R rt ini hh Rp Xp G) (hM : MdR D w0 w τ ad F dn op sh la) (a i : Nat) {N : Nat} {e : Int} (d : decode cc pc = .ok (.iaload, 1)) (hk : mK a = true := by rfl) (hN : msz a = N := by rfl) (he : e = (i : Int) := by omega) (hi : i < N := by omega) (hN2 : N ≤ 7560 := by decide) (kk : G n k w L (pc + 1) (.int (Z32 (F a i)) :: st)) : G n k w L pc (.int (Z32 e) :: .ref (ad (5001 + a)) :: st) := by
  subst he
  refine i_iaload C d (hw := (hM.2.1 a hk).2) (h0 := by omega) (h1 := by rw [hN]; omega) (h2 := by omega) (kk := ?_)
  rw [Int.toNat_natCast]
  exact kk
theorem m_ias (C : Cx l D own cc nL R rt ini hh Rp Xp G) (hM : MdR D w0 w τ ad F dn op sh la) (a i : Nat) {N : Nat} {e x : Int} (d : decode cc pc = .ok (.iastore, 1)) (hk : mK a = true := by rfl) (hN : msz a = N := by rfl) (he : e = (i : Int) := by omega) (hi : i < N := by omega) (hN2 : N ≤ 7560 := by decide) (kk : ∀ w1 : wW, MdR D w0 w1 τ ad (upz F a (upz (F a) i x)) dn op sh la → G n k w1 L (pc + 1) st) : G n k w L pc (.int (Z32 x) :: .int (Z32 e) :: .ref (ad (5001 + a)) :: st) := by
  subst he
  refine i_iastore C d (hw := (hM.2.1 a hk).2) (h0 := by omega) (h1 := by rw [hN]; omega) (h2 := by omega) (kk := ?_)
  rw [Int.toNat_natCast]
  exact kk _ (hM.put a hk _)
theorem m_put1 (C : Cx l D RX7 cc nL R rt ini hh Rp Xp G) (hM : MdR D w0 w τ ad F dn op sh la) {x : Int} (d : decode cc pc = .ok (.putfield 72, 3)) (kk : ∀ w1 : wW, MdR D w0 w1 τ ad F x op sh la → G n k w1 L (pc + 3) st) : G n k w L pc (.int (Z32 x) :: .ref (ad 5000) :: st) :=
  i_putf C fk_X7_72 d (hw := hM.obj) (kk := kk _ (hM.set x op sh la))
theorem m_put2 (C : Cx l D RX7 cc nL R rt ini hh Rp Xp G) (hM : MdR D w0 w τ ad F dn op sh la) {x : Int} (d : decode cc pc = .ok (.putfield 94, 3)) (kk : ∀ w1 : wW, MdR D w0 w1 τ ad F dn x sh la → G n k w1 L (pc + 3) st) : G n k w L pc (.int (Z32 x) :: .ref (ad 5000) :: st) :=
  i_putf C fk_X7_94 d (hw := hM.obj) (kk := kk _ (hM.set dn x sh la))
theorem m_put17 (C : Cx l D RX7 cc nL R rt ini hh Rp Xp G) (hM : MdR D w0 w τ ad F dn op sh la) {x : Int} (d : decode cc pc = .ok (.putfield 131, 3)) (kk : ∀ w1 : wW, MdR D w0 w1 τ ad F dn op x la → G n k w1 L (pc + 3) st) : G n k w L pc (.int (Z32 x) :: .ref (ad 5000) :: st) :=
  i_putf C fk_X7_131 d (hw := hM.obj) (kk := kk _ (hM.set dn op x la))
theorem m_put21 (C : Cx l D RX7 cc nL R rt ini hh Rp Xp G) (hM : MdR D w0 w τ ad F dn op sh la) {x : Int} (d : decode cc pc = .ok (.putfield 64, 3)) (kk : ∀ w1 : wW, MdR D w0 w1 τ ad F dn op sh x → G n k w1 L (pc + 3) st) : G n k w L pc (.int (Z32 x) :: .ref (ad 5000) :: st) :=
  i_putf C fk_X7_64 d (hw := hM.obj) (kk := kk _ (hM.set dn op sh x))
end MR
-- ===== pieces as numbers =====
def kd (s : Int) : Int := if s = 0 then 0 else if s = 3 then 1 else if s = 4 then 2 else if s = 5 then 3 else if s = 6 then 4 else if s = 7 then 5 else if s = 1 then 6 else if s = 2 then 7 else 8
def enc (p : Pc3) : Int := if p.1 = 0 then 1 + 100 * p.2.2 else if p.1 = 3 then 10001 else if p.1 = 4 then 20001 + 100 * p.2.1 + p.2.2 else if p.1 = 5 then 30001 + 100 * p.2.1 else if p.1 = 6 then 40001 + 100 * p.2.2 else if p.1 = 7 then 50001 else if p.1 = 1 then 60001 + 100 * p.2.2 else if p.1 = 2 then 70001 + 100 * p.2.1 + p.2.2 else 80001 + 100 * p.2.1
/-- what the numbers say of a piece -/
theorem enc_R {p : Pc3} (h : PV p) : 0 ≤ enc p ∧ enc p < 90000 ∧ enc p / 10000 = kd p.1 ∧ 0 ≤ enc p / 100 ∧ 0 ≤ enc p / 100 % 100 ∧ enc p / 100 % 100 < 100 ∧ 0 ≤ enc p % 100 ∧ enc p % 100 < 100 ∧ ((p.1 = 0 ∨ p.1 = 6 ∨ p.1 = 1) → enc p / 100 % 100 = p.2.2) ∧ ((p.1 = 4 ∨ p.1 = 5 ∨ p.1 = 2 ∨ p.1 = 8) → enc p / 100 % 100 = p.2.1) ∧ ((p.1 = 4 ∨ p.1 = 2) → enc p % 100 - 1 = p.2.2) := by
  obtain ⟨s, q, g⟩ := p
  unfold PV at h
  unfold enc kd
  dsimp only at h ⊢
  rcases h with h | h | h | h | h | h | h | h | h <;> (obtain ⟨h1, h2⟩ := h; subst h1; simp <;> omega)
theorem kd_iff {s : Int} (h : 0 ≤ s ∧ s ≤ 8) : 0 ≤ kd s ∧ kd s ≤ 8 ∧ (kd s = 0 ↔ s = 0) ∧ (kd s = 1 ↔ s = 3) ∧ (kd s = 2 ↔ s = 4) ∧ (kd s = 3 ↔ s = 5) ∧ (kd s = 4 ↔ s = 6) ∧ (kd s = 5 ↔ s = 7) ∧ (kd s = 6 ↔ s = 1) ∧ (kd s = 7 ↔ s = 2) ∧ (kd s = 8 ↔ s = 8) := by
  unfold kd
  rcases (show s = 0 ∨ s = 1 ∨ s = 2 ∨ s = 3 ∨ s = 4 ∨ s = 5 ∨ s = 6 ∨ s = 7 ∨ s = 8 by omega) with rfl | rfl | rfl | rfl | rfl | rfl | rfl | rfl | rfl <;> simp
/-- the reference's rows say what the state is -/
def MdV (σ : Sg) (F : Nat → Nat → Int) (dn op : Int) : Prop := dn = ((sDr σ).length : Int) ∧ op = owc (sDr σ) ∧ (∀ i, i < (sDr σ).length → F 0 i = enc (pcs (sDr σ) i)) ∧ (∀ p, p < 12 → F 6 p = (sNv σ p : Int) ∧ F 7 p = sLk σ p ∧ ∀ v, v ≤ sNv σ p → F 4 (21 * p + v) = ((sTx σ p v).length : Int) ∧ F 5 (21 * p + v) = sRk σ p v ∧ ∀ i, i < (sTx σ p v).length → F 3 (30 * (21 * p + v) + i) = enc (pcs (sTx σ p v) i)) ∧ ∀ u, u < 6 → F 8 u = sUr σ u
theorem MdV.congr {σ : Sg} {F F' : Nat → Nat → Int} {dn op : Int} (h : MdV σ F dn op) (e : ∀ k, k ≤ 8 → F' k = F k) : MdV σ F' dn op := by
  obtain ⟨h1, h2, h3, h4, h5⟩ := h
  refine ⟨h1, h2, fun i hi => by rw [e 0 (by omega)]; exact h3 i hi, fun p hp => ?_, fun u hu => by rw [e 8 (by omega)]; exact h5 u hu⟩
  rw [e 6 (by omega), e 7 (by omega), e 4 (by omega), e 5 (by omega), e 3 (by omega)]
  exact h4 p hp
/-- the reference stands at a state; what it said last -/
def MdI (D : gD) (w0 w : wW) (τ ad : Nat → Nat) (σ : Sg) (la : Int) : Prop := SgOK σ ∧ ∃ F dn op sh, MdR D w0 w τ ad F dn op sh la ∧ MdV σ F dn op
/-- rows of the arrays from 9 on are left free -/
def MdF (F F' : Nat → Nat → Int) (ks : Nat → Bool) : Prop := ∀ k, ks k = false → F' k = F k
def bz (P : Prop) [Decidable P] : Int := if P then 1 else 0
theorem bz_t {P : Prop} [Decidable P] (h : P) : bz P = 1 := if_pos h
theorem bz_f {P : Prop} [Decidable P] (h : ¬ P) : bz P = 0 := if_neg h
theorem bz_R (P : Prop) [Decidable P] : bz P = 0 ∨ bz P = 1 := by unfold bz; split; exact Or.inr rfl; exact Or.inl rfl
theorem bz_ne {P : Prop} [Decidable P] : bz P ≠ 0 ↔ P := by unfold bz; split <;> simp [*]
theorem bz_z {P : Prop} [Decidable P] : bz P = 0 ↔ ¬ P := by unfold bz; split <;> simp [*]
theorem nwR {p v : Nat} (hp : p < 12) (hv : v ≤ 20) : 21 * p + v < 252 := by omega
