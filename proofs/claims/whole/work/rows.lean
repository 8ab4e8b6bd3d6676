section
/-! ===== BEGIN words of one list among another's, by their places ===== -/
theorem goodIn_r {big : List Cond} (ws : List Cond) (ps : List Nat) (hp : ws = ps.filterMap (fun i => big[i]?)) (h : ws.all goodWord = true) : GoodIn big ws := by
  intro w hw
  have h1 := List.all_eq_true.mp h w hw
  rw [hp] at hw
  obtain ⟨i, -, hi⟩ := List.mem_filterMap.mp hw
  have hm : w ∈ big := by first | exact List.mem_of_getElem? hi | exact List.getElem?_mem hi
  exact ⟨hm, good_of_word h1⟩
theorem goodIn_app {big a b : List Cond} (ha : GoodIn big a) (hb : GoodIn big b) : GoodIn big (a ++ b) := fun w h => (List.mem_append.mp h).elim (ha w) (hb w)
theorem goodIn_ca {big a b : List Cond} {c : Cond} (ha : GoodIn big (c :: a)) (hb : GoodIn big b) : GoodIn big (c :: (a ++ b)) := fun w h => (List.mem_cons.mp h).elim (fun e => ha w (List.mem_cons.mpr (Or.inl e))) (fun h => (List.mem_append.mp h).elim (fun h => ha w (List.mem_cons.mpr (Or.inr h))) (hb w))
theorem goodIn_sub {big ws : List Cond} (hm : ∀ w ∈ ws, w ∈ big) (h : ws.all goodWord = true) : GoodIn big ws := fun w hw => ⟨hm w hw, good_of_word (List.all_eq_true.mp h w hw)⟩
/-! ===== END ===== -/

/-! ===== BEGIN exceptions that leave a method, and their catching by the caller (launches without stack traces) ===== -/
section VXA
/-! The laws vx_back, vx_callV, vx_callS, vx_callSW, vx_throw0, vx_throwS follow proofs of the library, with one case more: JvmDerived/Free/Laws.lean (Back.of_free), Shelf42/LK1.lean (callV, callS), Shelf/KitTraced.lean (throwNew0V, throwNewS). -/
/-- where a method has thrown q: the class by its name, the cell, what was written, the world -/
def vx_T (XC : String → State → State → Prop) (st : State) (q : Addr) (t : State) (mc ms : Nat) (free : Addr → Prop) : Prop :=
  ∃ (E : String) (ce : Cell) (L : List Loc), XC E st t ∧ t.heap[q]? = some ce ∧ ce.vm = .none ∧ st.vm.findClass E = some ce.cls ∧ st.WarmedH t.vm ∧ st.sameButNew ({ t with vm := st.vm } : State) L mc ms ∧ ∀ z ∈ L, free z.base
def vx_Q (Qc : Array Value → State → Outcome → State → Prop) (XC : String → State → State → Prop) (mc ms : Nat) (free : Addr → Prop) : Array Value → State → Outcome → State → Prop := fun a st o t =>
  (Qc a st o t ∧ ∃ L, FrameEnd st o t L mc ms ∧ ∀ q ∈ L, free q.base) ∨ ∃ q, o = .threw q ∧ vx_T XC st q t mc ms free
/-- a callee that returns or throws -/
def vx_Met (l : Launch) (y : MethodName) (ws : List Cond) (rm : Room) (Pc : Array Value → State → Prop) (Qc : Array Value → State → Outcome → State → Prop) (XC : String → State → State → Prop) (mc ms : Nat) (free : Addr → Prop) : Prop :=
  MetFree l y (headSpec ws rm) Pc (fun _ _ _ _ _ => True) (vx_Q Qc XC mc ms free)
def vx_Post (XC : String → State → State → Prop) (mc ms : Nat) (free : Addr → Prop) : Pt → Array Value → Addr → Pt → Prop := fun A a q B =>
  ∃ (g : JFrame) (mk : MethodId) (t : State) (L : List Loc) (E : String) (ce : Cell), B.U.heap = t.heap ∧ B.U.vm = t.vm ∧ XC E (A.U.calling g mk a) t ∧ t.heap[q]? = some ce ∧ ce.vm = .none ∧ A.U.vm.findClass E = some ce.cls ∧ B.locs = A.locs ++ L ∧ (∀ z ∈ L, free z.base) ∧ B.cells = A.cells + mc ∧ B.slots = A.slots + ms
def vx_Back (l : Launch) (R : Room) (p : Program) (e : Env) (below : List Frame) (s : State) (sargs : Array Value) (y : MethodName) (len W9 : Nat)
    (Pre : Pt → Array Value → Prop) (Post : Pt → Array Value → Option Value → Pt → Prop) (PostX : Pt → Array Value → Addr → Pt → Prop) : Prop :=
  ∀ (m : MethodId) (meth : Method) (c : Code) (A : Pt) (g : JFrame) (ig : Instr) (mk : MethodId) (a : Array Value),
    Stand p l e R s m sargs below meth c A.U A.locs A.cells A.slots → g.method = m → g.locals.size = c.maxLocals → decode c.code g.pc = .ok (ig, len) →
    2 * g.monitorRoom + (g.stack.map fun v => v.category).sum ≤ W9 → A.U.methodNamed? y = some mk → Pre A a →
    (∃ (v : Option Value) (B : Pt), Stand p l e R s m sargs below meth c B.U B.locs B.cells B.slots ∧ Post A a v B ∧
      Steps p.tables e below (doInvoke e (A.U.setTop g) [] mk a).1 (B.U.setTop { g with pc := g.pc + len, stack := v.toList ++ g.stack })) ∨
    (∃ (q : Addr) (B : Pt), Stand p l e R s m sargs below meth c B.U B.locs B.cells B.slots ∧ PostX A a q B ∧
      Steps p.tables e below (doInvoke e (A.U.setTop g) [] mk a).1 ((B.U.setTop g).pushFrame (.throwing q)))
section Payer
variable {l : Launch} {R : Room} {p : Program} {e : Env} {below : List Frame} {s : State} {sargs : Array Value} {y : MethodName} {len W9 : Nat}
theorem vx_back {ws : List Cond} {rm : Room} {Pc : Array Value → State → Prop} {Qc : Array Value → State → Outcome → State → Prop} {XC : String → State → State → Prop} {mc ms : Nat} {free : Addr → Prop} {bytes : ByteArray} {maxL : Nat} {ret : Option FieldType}
    (hM : vx_Met l y ws rm Pc Qc XC mc ms free) (hblind : FrameBlind Pc) (hrc : rm.cells = mc) (hrs : rm.slots = ms)
    (hframes : rm.frames + 1 ≤ R.frames) (hlocals : W9 + (maxL + 11) + rm.locals ≤ R.locals)
    (hws : ∀ w ∈ ws, ∀ a' U, s.WarmedH U.vm → w.before a' U = true) (hcode : Cond.code y bytes maxL ret ∈ ws) (hinit : ∀ a' U, s.WarmedH U.vm → (Cond.initialized y.cls).before a' U = true) :
    vx_Back l R p e below s sargs y len W9 (PreOf R mc ms Pc) (PostOf Qc mc ms free) (vx_Post XC mc ms free) := by
  intro m meth c A g ig mk a X hg hsize hdg hW hn hp
  have h1 : (headSpec ws rm).pre.before a A.U = true := atoms_intro fun w hw => hws w hw _ _ X.warmed
  have h2 : (Cond.code y bytes maxL ret).before a A.U = true := hws _ hcode _ _ X.warmed
  have h3 : (Cond.initialized y.cls).before a A.U = true := hinit _ _ X.warmed
  have h4 : A.cells + (headSpec ws rm).room.cells ≤ R.cells := by rw [show (headSpec ws rm).room.cells = mc from hrc]; exact hp.1
  have h5 : A.slots + (headSpec ws rm).room.slots ≤ R.slots := by rw [show (headSpec ws rm).room.slots = ms from hrs]; exact hp.2.1
  have hPc : Pc a (A.U.calling g mk a) := hblind _ _ _ _ hp.2.2
  obtain ⟨U, Ls, c0, s0⟩ := A
  dsimp only [Pt.U, Pt.locs, Pt.cells, Pt.slots] at h1 h2 h3 h4 h5 X hn hPc ⊢
  obtain ⟨methY, cY, hmY, hcY, -, hlY, -, -, -, -⟩ := Cond.code_spec hn h2
  obtain ⟨kY, hkY, -⟩ := className_of_methodNamed hn
  have hinitY : kY.init = .initialized := Cond.initialized_spec (findClass_of_methodNamed hn) hkY h3
  have h : At U g.method c below := by rw [hg]; exact X.here
  have hlocals9 : W9 + (maxL + 11) + (headSpec ws rm).room.locals ≤ R.locals := hlocals
  have happ : (headSpec ws rm).appliesLoose y e.platform (U.calling g mk a) = true :=
    Spec.appliesLoose_calling (g := g) h hdg hn hkY hinitY
      (X.room_calling (g := g) (R' := (headSpec ws rm).room) hsize hmY hcY hframes (by rw [hlY]; omega) h4 h5) h1
  obtain ⟨mid, hmid⟩ := h.above
  have hfr : (U.setTop g).frames = (.java g :: mid) ++ below := by rw [State.frames_setTop' g h.top, hmid]; rfl
  obtain ⟨o, s₂, hsteps, -, hend, hq⟩ := Steps.callFree hM p X.admits X.cas X.clock (acts := []) hfr happ hPc trivial
  have hq' : vx_Q Qc XC mc ms free a (U.calling g mk a) o s₂ := hq
  rw [State.frames_setTop' g h.top] at hend
  obtain ⟨g₀, hg0⟩ := Option.isSome_iff_exists.mp h.top
  obtain ⟨r, hr⟩ := State.topJava?_eq_some.mp hg0
  have hr' : (({ U with heap := s₂.heap, slotsUsed := s₂.slotsUsed } : State).setVm s₂.vm).frames = .java g₀ :: r := hr
  rcases hq' with ⟨hqc, L, hfe, hL⟩ | ⟨q, rfl, E, ce, L, hx, hce, hcv, hcl, hW₂, hsm, hL⟩
  · obtain ⟨⟨v, rfl⟩, hW₂, e2, q2, q3, q4, q5, q6⟩ := id hfe
    have e3 : s₂ = ({ (U.calling g mk a).setFrames s₂.frames with heap := s₂.heap, slotsUsed := s₂.slotsUsed } : State).setVm s₂.vm := by
      have : s₂ = ({ s₂ with vm := (U.calling g mk a).vm } : State).setVm s₂.vm := rfl
      rw [e2] at this
      exact this
    obtain ⟨c₂, i₂, len₂, hc₂, hd₂, hf₂⟩ := hend
    have hW' : U.WarmedH s₂.vm := hW₂
    have hcc : c₂ = c := by
      have h1 : s₂.code? g.method = U.code? g.method := by
        rw [State.code?_eq, State.code?_eq, hW'.alike.method?]
      exact Option.some.inj (hc₂.symm.trans (h1.trans h.code))
    subst hcc
    have hlen : len₂ = len := by rw [hdg] at hd₂; cases hd₂; rfl
    subst hlen
    have hs₂ : s₂ = (({ U with heap := s₂.heap, slotsUsed := s₂.slotsUsed } : State).setVm s₂.vm).setTop { g with pc := g.pc + len₂, stack := v.toList ++ g.stack } := by
      refine e3.trans ?_
      rw [hf₂, State.calling_eq h.top, State.setFrames_setFrames, State.setTop_of_frames _ hr', hr]
      rfl
    have hsame : U.sameButNew ({ U with heap := s₂.heap, slotsUsed := s₂.slotsUsed } : State) L mc ms := by
      refine ⟨?_, q2, q3, q4, q5, q6⟩
      obtain ⟨t, ht, -⟩ := State.frames_cons hr
      show ({ U with heap := s₂.heap, slotsUsed := s₂.slotsUsed } : State) = { U.setFrames U.frames with heap := s₂.heap, slotsUsed := s₂.slotsUsed }
      rw [State.setFrames_self ht]
    subst hg
    refine Or.inl ⟨v, ⟨(({ U with heap := s₂.heap, slotsUsed := s₂.slotsUsed } : State).setVm s₂.vm), Ls ++ L, c0 + mc, s0 + ms⟩,
      ⟨X.admits, X.cas, X.clock, X.frames, X.room, X.hears, X.method, X.code, (X.here.setHeapUsed s₂.heap s₂.slotsUsed).setVm hW'.alike, X.tail, State.WarmedH.trans X.warmed hW', X.limits, X.bytes, X.same.trans (hsame.setVm s.vm)⟩,
      ⟨g, mk, s₂, L, rfl, rfl, hqc, rfl, hL, rfl, rfl⟩, ?_⟩
    show Steps p.tables e below _ ((({ U with heap := s₂.heap, slotsUsed := s₂.slotsUsed } : State).setVm s₂.vm).setTop { g with pc := g.pc + len₂, stack := v.toList ++ g.stack })
    rw [← hs₂]
    exact hsteps
  · obtain ⟨e2, q2, q3, q4, q5, q6⟩ := id hsm
    have e3 : s₂ = ({ (U.calling g mk a).setFrames s₂.frames with heap := s₂.heap, slotsUsed := s₂.slotsUsed } : State).setVm s₂.vm := by
      have : s₂ = ({ s₂ with vm := (U.calling g mk a).vm } : State).setVm s₂.vm := rfl
      rw [e2] at this
      exact this
    have hf₂ : s₂.frames = .throwing q :: .java g :: U.frames.tail := hend
    have hW' : U.WarmedH s₂.vm := hW₂
    have hs₂ : s₂ = ((({ U with heap := s₂.heap, slotsUsed := s₂.slotsUsed } : State).setVm s₂.vm).setTop g).pushFrame (.throwing q) := by
      refine e3.trans ?_
      rw [hf₂, State.calling_eq h.top, State.setFrames_setFrames, State.pushFrame, State.frames_setTop _ hr', State.setTop_of_frames _ hr', State.setFrames_setFrames, hr]
      rfl
    have hsame : U.sameButNew ({ U with heap := s₂.heap, slotsUsed := s₂.slotsUsed } : State) L mc ms := by
      refine ⟨?_, q2, q3, q4, q5, q6⟩
      obtain ⟨t, ht, -⟩ := State.frames_cons hr
      show ({ U with heap := s₂.heap, slotsUsed := s₂.slotsUsed } : State) = { U.setFrames U.frames with heap := s₂.heap, slotsUsed := s₂.slotsUsed }
      rw [State.setFrames_self ht]
    subst hg
    refine Or.inr ⟨q, ⟨(({ U with heap := s₂.heap, slotsUsed := s₂.slotsUsed } : State).setVm s₂.vm), Ls ++ L, c0 + mc, s0 + ms⟩,
      ⟨X.admits, X.cas, X.clock, X.frames, X.room, X.hears, X.method, X.code, (X.here.setHeapUsed s₂.heap s₂.slotsUsed).setVm hW'.alike, X.tail, State.WarmedH.trans X.warmed hW', X.limits, X.bytes, X.same.trans (hsame.setVm s.vm)⟩,
      ⟨g, mk, s₂, L, E, ce, rfl, rfl, hx, hce, hcv, hcl, rfl, hL, rfl, rfl⟩, ?_⟩
    show Steps p.tables e below _ (((({ U with heap := s₂.heap, slotsUsed := s₂.slotsUsed } : State).setVm s₂.vm).setTop g).pushFrame (.throwing q))
    rw [← hs₂]
    exact hsteps
end Payer
section Calls
variable {p : Program} {l : Launch} {e : Env} {R : Room} {s : State} {m : MethodId} {args : Array Value} {below : List Frame} {meth : Method} {c : Code} {T : State} {locs : List Loc} {cells slots : Nat}
theorem vx_callV (X : Stand p l e R s m args below meth c T locs cells slots) (hexec : p.tables.exec = Jvm.exec) {own C : String} {index : Nat} {y : MethodName} {bytes : ByteArray} {maxL : Nat} {ret : Option FieldType}
    (hown : s.vm.findClass own = some m.cls) (hlink : (Cond.methodLink own index y).before args s = true) (hinst : (Cond.instanceMethod y).before args s = true) (hsel : (Cond.selects C y y).before args s = true)
    (hcode : (Cond.code y bytes maxL ret).before args s = true) (hy : y.cls ≠ "java/lang/invoke/MethodHandle" ∧ y.cls ≠ "java/lang/invoke/VarHandle")
    {W9 : Nat} {Pre : Pt → Array Value → Prop} {Post : Pt → Array Value → Option Value → Pt → Prop} {PostX : Pt → Array Value → Addr → Pt → Prop} (hK : vx_Back l R p e below s args y 3 W9 Pre Post PostX)
    {b : Addr} {cellB : Cell} (hcell : T.heap[b]? = some cellB) (hobj : cellB.vm.isStatics = false) (hcls : s.vm.findClass C = some cellB.cls)
    {g : JFrame} (hg : g.method = m) (hsize : g.locals.size = c.maxLocals) {argsL rest : List Value} (hlen : ∀ sig, parseMethodDescriptor y.desc = some sig → argsL.length = sig.parameters.length)
    (hstack : g.stack = argsL.reverse ++ .ref b :: rest) (hW : 2 * g.monitorRoom + (rest.map fun v => v.category).sum ≤ W9) (hdg : decode c.code g.pc = .ok (.invokevirtual index, 3))
    (hpre : ∀ vm₁, s.WarmedH vm₁ → Pre ⟨T.setVm vm₁, locs, cells, slots⟩ (Value.ref b :: argsL).toArray) :
    (∃ (v : Option Value) (vm₁ : Vm) (B : Pt), s.WarmedH vm₁ ∧ Stand p l e R s m args below meth c B.U B.locs B.cells B.slots ∧ Post ⟨T.setVm vm₁, locs, cells, slots⟩ (Value.ref b :: argsL).toArray v B ∧
      ∀ target, Steps p.tables e below (B.U.setTop { g with pc := g.pc + 3, stack := v.toList ++ rest }) target → Steps p.tables e below (T.setTop g) target) ∨
    (∃ (q : Addr) (vm₁ : Vm) (B : Pt), s.WarmedH vm₁ ∧ Stand p l e R s m args below meth c B.U B.locs B.cells B.slots ∧ PostX ⟨T.setVm vm₁, locs, cells, slots⟩ (Value.ref b :: argsL).toArray q B ∧
      Steps p.tables e below (T.setTop g) ((B.U.setTop { g with stack := rest }).pushFrame (.throwing q))) := by
  obtain ⟨mk, methM, hnamed, hmethM, hstM, habM⟩ := Cond.instanceMethod_spec hinst
  obtain ⟨methM', cM, hmethM', -, -, -, -, -, -, hsigM⟩ := Cond.code_spec hnamed hcode
  cases hmethM.symm.trans hmethM'
  obtain ⟨c2, r2, m2, q1, q2, q3, q4, kP, hkP, hkPi⟩ := Cond.selects_spec hsel
  cases hcls.symm.trans q1
  cases (State.methodFound?_of_named hnamed hy).symm.trans q2
  cases hnamed.symm.trans q3
  have hselP : selectMethod e.platform s.vm cellB.cls mk = .method mk := by rw [Launch.admits_selectMethod X.admits]; exact q4
  obtain ⟨vm₁, X₁, hstep₁⟩ := X.invokevirtual hexec hown hlink hnamed hmethM hstM hkP hkPi hy (a := b) (cell := cellB) hcell
    (fun z h => by rw [h] at hobj; cases hobj) hselP hmethM habM hkP hkPi (g := g) hg (argsL := argsL) (rest := rest) (hlen _ hsigM) hstack hdg
  rcases hK m meth c ⟨T.setVm vm₁, locs, cells, slots⟩ { g with stack := rest } (.invokevirtual index) mk (Value.ref b :: argsL).toArray X₁ hg hsize hdg hW (X₁.named hnamed) (hpre vm₁ X₁.warmed) with ⟨v, B, X', hpost, hsteps⟩ | ⟨q, B, X', hpost, hsteps⟩
  · exact Or.inl ⟨v, vm₁, B, X₁.warmed, X', hpost, fun target h => hstep₁ _ fun acts => by rw [doInvoke_state]; exact hsteps.trans h⟩
  · exact Or.inr ⟨q, vm₁, B, X₁.warmed, X', hpost, hstep₁ _ fun acts => by rw [doInvoke_state]; exact hsteps⟩
theorem vx_callS (X : Stand p l e R s m args below meth c T locs cells slots) (hexec : p.tables.exec = Jvm.exec) {own : String} {index : Nat} {y : MethodName} {bytes : ByteArray} {maxL : Nat} {ret : Option FieldType}
    (hown : s.vm.findClass own = some m.cls) (hlink : (Cond.methodLink own index y).before args s = true) (hstat : (Cond.static y).before args s = true) (hinit : (Cond.initialized y.cls).before args s = true)
    (hcode : (Cond.code y bytes maxL ret).before args s = true) (hy : y.cls ≠ "java/lang/invoke/MethodHandle" ∧ y.cls ≠ "java/lang/invoke/VarHandle")
    {W9 : Nat} {Pre : Pt → Array Value → Prop} {Post : Pt → Array Value → Option Value → Pt → Prop} {PostX : Pt → Array Value → Addr → Pt → Prop} (hK : vx_Back l R p e below s args y 3 W9 Pre Post PostX)
    {g : JFrame} (hg : g.method = m) (hsize : g.locals.size = c.maxLocals) {argsL rest : List Value} (hlen : ∀ sig, parseMethodDescriptor y.desc = some sig → argsL.length = sig.parameters.length)
    (hstack : g.stack = argsL.reverse ++ rest) (hW : 2 * g.monitorRoom + (rest.map fun v => v.category).sum ≤ W9) (hdg : decode c.code g.pc = .ok (.invokestatic index, 3))
    (hpre : ∀ vm₁, s.WarmedH vm₁ → Pre ⟨T.setVm vm₁, locs, cells, slots⟩ argsL.toArray) :
    (∃ (v : Option Value) (vm₁ : Vm) (B : Pt), s.WarmedH vm₁ ∧ Stand p l e R s m args below meth c B.U B.locs B.cells B.slots ∧ Post ⟨T.setVm vm₁, locs, cells, slots⟩ argsL.toArray v B ∧
      ∀ target, Steps p.tables e below (B.U.setTop { g with pc := g.pc + 3, stack := v.toList ++ rest }) target → Steps p.tables e below (T.setTop g) target) ∨
    (∃ (q : Addr) (vm₁ : Vm) (B : Pt), s.WarmedH vm₁ ∧ Stand p l e R s m args below meth c B.U B.locs B.cells B.slots ∧ PostX ⟨T.setVm vm₁, locs, cells, slots⟩ argsL.toArray q B ∧
      Steps p.tables e below (T.setTop g) ((B.U.setTop { g with stack := rest }).pushFrame (.throwing q))) := by
  obtain ⟨mk, hnamed⟩ := Cond.code_named hcode
  obtain ⟨methM, cM, hmethM, -, -, -, -, -, -, hsigM⟩ := Cond.code_spec hnamed hcode
  have hstatic : methM.isStatic = true := Cond.static_spec hnamed hmethM hstat
  obtain ⟨kP, hkP, -⟩ := className_of_methodNamed hnamed
  have hinitP : kP.init = .initialized := Cond.initialized_spec (findClass_of_methodNamed hnamed) hkP hinit
  obtain ⟨vm₁, X₁, hstep₁⟩ := X.invokestatic hexec hown hlink hnamed hmethM hstatic hkP hinitP hy (g := g) hg (argsL := argsL) (rest := rest) (hlen _ hsigM) hstack hdg
  rcases hK m meth c ⟨T.setVm vm₁, locs, cells, slots⟩ { g with stack := rest } (.invokestatic index) mk argsL.toArray X₁ hg hsize hdg hW (X₁.named hnamed) (hpre vm₁ X₁.warmed) with ⟨v, B, X', hpost, hsteps⟩ | ⟨q, B, X', hpost, hsteps⟩
  · exact Or.inl ⟨v, vm₁, B, X₁.warmed, X', hpost, fun target h => hstep₁ _ fun acts => by rw [doInvoke_state]; exact hsteps.trans h⟩
  · exact Or.inr ⟨q, vm₁, B, X₁.warmed, X', hpost, hstep₁ _ fun acts => by rw [doInvoke_state]; exact hsteps⟩
end Calls
theorem vx_cls {s : State} {T : State} {vm₁ : Vm} {E : String} {k : ClassId} (hW : s.WarmedH vm₁) (h : (T.setVm vm₁).vm.findClass E = some k) : s.vm.findClass E = some k := by
  have h1 : vm₁.findClass E = some k := h
  rw [hW.alike.findClass] at h1
  exact h1
/-- the method's frame g, with q thrown over it -/
def vx_W (p : Program) (l : Launch) (e : Env) (R : Room) (s : State) (m : MethodId) (args : Array Value) (below : List Frame) (meth : Method) (c : Code) (H : Heap) (locs : List Loc) (cells slots : Nat) (Q : State → Prop) (g : JFrame) (q : Addr) : Prop :=
  ∀ T : State, T.heap = H → Stand p l e R s m args below meth c T locs cells slots → ∃ t, Steps p.tables e below ((T.setTop g).pushFrame (.throwing q)) t ∧ Q t
def vx_Run (p : Program) (l : Launch) (e : Env) (R : Room) (s : State) (m : MethodId) (args : Array Value) (below : List Frame) (meth : Method) (c : Code) (H : Heap) (locs : List Loc) (cells slots mc ms : Nat) (g : JFrame) (rest : List Value) (Qa : State → Outcome → State → Prop) (XC : String → State → State → Prop) (free : Addr → Prop) : Prop :=
  ∀ T : State, T.heap = H → Stand p l e R s m args below meth c T locs cells slots →
    (∃ (v : Option Value) (st₀ t T' : State) (L : List Loc), st₀.heap = H ∧ Stand p l e R s m args below meth c T' (locs ++ L) (cells + mc) (slots + ms) ∧ (∀ q ∈ L, free q.base) ∧ T'.heap = t.heap ∧ T'.vm = t.vm ∧ Qa st₀ (.returned v) t ∧
      Goes p e below T g T' { g with pc := g.pc + 3, stack := v.toList ++ rest }) ∨
    (∃ (q : Addr) (st₀ t T' : State) (L : List Loc) (E : String) (ce : Cell), st₀.heap = H ∧ Stand p l e R s m args below meth c T' (locs ++ L) (cells + mc) (slots + ms) ∧ (∀ z ∈ L, free z.base) ∧ T'.heap = t.heap ∧ T'.vm = t.vm ∧ XC E st₀ t ∧ t.heap[q]? = some ce ∧ ce.vm = .none ∧ s.vm.findClass E = some ce.cls ∧
      Steps p.tables e below (T.setTop g) ((T'.setTop { g with stack := rest }).pushFrame (.throwing q)))
def vx_X {S : Type} (px : S → Prop) (B : String → S → State → Prop) (A : Nat → Prop) : String → State → State → Prop := fun E st t => ∃ u : S, px u ∧ B E u t ∧ va_F A st t
section Runs
variable {p : Program} {l : Launch} {e : Env} {R : Room} {s : State} {m : MethodId} {args : Array Value} {below : List Frame} {meth : Method} {c : Code} {H : Heap} {locs : List Loc} {cells slots : Nat}
variable {y : MethodName} {bytes cc : ByteArray} {maxL nL mc ms n index : Nat} {ret : Option FieldType} {ws : List Cond} {rm : Room} {Pc : Array Value → State → Prop} {Qc : Array Value → State → Outcome → State → Prop} {XC : String → State → State → Prop} {free : Addr → Prop} {Ts : List Cond} {own C : String} {b : Addr} {As rest : List Value} {g : JFrame}
theorem vx_callBack (cb : CallB R s args own index y bytes maxL ret ws rm mc ms n) (hM : vx_Met l y ws rm Pc Qc XC mc ms free) (hbl : FrameBlind Pc) : vx_Back l R p e below s args y 3 8 (PreOf R mc ms Pc) (PostOf Qc mc ms free) (vx_Post XC mc ms free) := by
  obtain ⟨hrc, hrs, hfr, hlo, hws, hcw, -, hini, -⟩ := cb
  exact vx_back (bytes := bytes) (maxL := maxL) (ret := ret) hM hbl hrc hrs hfr hlo hws hcw (fun a' U hW => word_at hW (Or.inl (by first | rfl | simp [Cond.onTables, Cond.keeps, Cond.steady])) hini)
theorem vx_runV (S : CallFix p m c cc nL s args Ts own) (hM : vx_Met l y ws rm Pc Qc XC mc ms free) (cw : CallW R s args own C index y bytes maxL ret ws rm mc ms n) (hp : PreV s H C b Pc As)
    (hg : g.method = m) (hn : As.length = n) (hsize : g.locals.size = nL) (hstack : g.stack = As.reverse ++ .ref b :: rest) (hW : 2 * g.monitorRoom + (rest.map fun v => v.category).sum ≤ 8) (hdg : decode cc g.pc = .ok (.invokevirtual index, 3)) (hf : cells + mc ≤ R.cells ∧ slots + ms ≤ R.slots) :
    vx_Run p l e R s m args below meth c H locs cells slots mc ms g rest (Qc (Value.ref b :: As).toArray) XC free := by
  have hK : vx_Back l R p e below s args y 3 8 (PreOf R mc ms Pc) (PostOf Qc mc ms free) (vx_Post XC mc ms free) := vx_callBack cw.1 hM hp.1
  obtain ⟨⟨-, -, -, -, -, -, hcode, -, hy, hlen, hl⟩, hin, hse⟩ := cw
  obtain ⟨hx, hb, hml, ho, -⟩ := S
  obtain ⟨-, ⟨cellB, hcB, hoB, hclB⟩, hPc⟩ := hp
  intro T hT X
  rcases vx_callV X hx (C := C) (bytes := bytes) (maxL := maxL) (ret := ret) ho hl hin hse hcode hy hK (by rw [hT]; exact hcB) hoB hclB hg (hsize.trans hml.symm) (argsL := As) (rest := rest) (fun sig h => hn.trans (hlen sig h)) hstack hW (by rw [hb]; exact hdg)
    (fun vm₁ hW₁ => ⟨hf.1, hf.2, hPc (T.setVm vm₁) hT hW₁⟩) with ⟨v, vm₁, ⟨U', l2, c2, s2⟩, hW₁, X', ⟨g', mk, t, L, e1, e2, hq, h1, hL, h2, h3⟩, st⟩ | ⟨q, vm₁, ⟨U', l2, c2, s2⟩, hW₁, X', ⟨g', mk, t, L, E, ce, e1, e2, hq, hce, hcv, hcl, h1, hL, h2, h3⟩, st⟩
  · dsimp only [Pt.U, Pt.locs, Pt.cells, Pt.slots] at X' e1 e2 h1 h2 h3 st
    subst h1; subst h2; subst h3
    exact Or.inl ⟨v, (T.setVm vm₁).calling g' mk (Value.ref b :: As).toArray, t, U', L, hT, X', hL, e1, e2, hq, st⟩
  · dsimp only [Pt.U, Pt.locs, Pt.cells, Pt.slots] at X' e1 e2 h1 h2 h3 st hcl
    subst h1; subst h2; subst h3
    exact Or.inr ⟨q, (T.setVm vm₁).calling g' mk (Value.ref b :: As).toArray, t, U', L, E, ce, hT, X', hL, e1, e2, hq, hce, hcv, vx_cls hW₁ hcl, st⟩
theorem vx_runS (S : CallFix p m c cc nL s args Ts own) (hM : vx_Met l y ws rm Pc Qc XC mc ms free) (cw : CallB R s args own index y bytes maxL ret ws rm mc ms n ∧ (Cond.static y).before args s = true) (hp : PreS s H Pc As)
    (hg : g.method = m) (hn : As.length = n) (hsize : g.locals.size = nL) (hstack : g.stack = As.reverse ++ rest) (hW : 2 * g.monitorRoom + (rest.map fun v => v.category).sum ≤ 8) (hdg : decode cc g.pc = .ok (.invokestatic index, 3)) (hf : cells + mc ≤ R.cells ∧ slots + ms ≤ R.slots) :
    vx_Run p l e R s m args below meth c H locs cells slots mc ms g rest (Qc As.toArray) XC free := by
  have hK : vx_Back l R p e below s args y 3 8 (PreOf R mc ms Pc) (PostOf Qc mc ms free) (vx_Post XC mc ms free) := vx_callBack cw.1 hM hp.1
  obtain ⟨⟨-, -, -, -, -, -, hcode, hini, hy, hlen, hl⟩, hstt⟩ := cw
  obtain ⟨hx, hb, hml, ho, -⟩ := S
  intro T hT X
  rcases vx_callS X hx (bytes := bytes) (maxL := maxL) (ret := ret) ho hl hstt hini hcode hy hK hg (hsize.trans hml.symm) (argsL := As) (rest := rest) (fun sig h => hn.trans (hlen sig h)) hstack hW (by rw [hb]; exact hdg)
    (fun vm₁ hW₁ => ⟨hf.1, hf.2, hp.2 (T.setVm vm₁) hT hW₁⟩) with ⟨v, vm₁, ⟨U', l2, c2, s2⟩, hW₁, X', ⟨g', mk, t, L, e1, e2, hq, h1, hL, h2, h3⟩, st⟩ | ⟨q, vm₁, ⟨U', l2, c2, s2⟩, hW₁, X', ⟨g', mk, t, L, E, ce, e1, e2, hq, hce, hcv, hcl, h1, hL, h2, h3⟩, st⟩
  · dsimp only [Pt.U, Pt.locs, Pt.cells, Pt.slots] at X' e1 e2 h1 h2 h3 st
    subst h1; subst h2; subst h3
    exact Or.inl ⟨v, (T.setVm vm₁).calling g' mk As.toArray, t, U', L, hT, X', hL, e1, e2, hq, st⟩
  · dsimp only [Pt.U, Pt.locs, Pt.cells, Pt.slots] at X' e1 e2 h1 h2 h3 st hcl
    subst h1; subst h2; subst h3
    exact Or.inr ⟨q, (T.setVm vm₁).calling g' mk As.toArray, t, U', L, E, ce, hT, X', hL, e1, e2, hq, hce, hcv, vx_cls hW₁ hcl, st⟩
end Runs
section Rows
variable {p : Program} {l : Launch} {e : Env} {R : Room} {s : State} {m : MethodId} {args : Array Value} {below : List Frame} {meth : Method} {c : Code} {H : Heap} {locs : List Loc} {cells slots : Nat} {Q : State → Prop}
variable {mc ms : Nat} {free : Addr → Prop} {A0 A1 : Nat → Prop} {H0 : Heap} {a : Array Value} {pc : Nat} {ls : Array Slot} {st0 rest : List Value}
theorem vx_keep {st₀ t T' : State} {L : List Loc} (h0 : st₀.heap = H) (e1 : T'.heap = t.heap) (hS : va_S A0 H0 H locs) (hA : ∀ q, q < H.size → A1 q → A0 q) (hf : ∀ q, free q → A0 q) (hL : ∀ q ∈ L, free q.base) (hF : va_F A1 st₀ t) :
    H.size ≤ T'.heap.size ∧ (∀ q : Nat, q < H.size → ¬ A1 q → T'.heap[q]? = H[q]?) ∧ va_S A0 H0 T'.heap (locs ++ L) := by
  obtain ⟨hz, hk⟩ := hF
  rw [h0] at hz hk
  exact ⟨by rw [e1]; exact hz, fun q h1 h2 => by rw [e1]; exact hk q h1 h2,
    ⟨Nat.le_trans hS.1 (by rw [e1]; exact hz), fun q h1 h2 => by rw [e1, hk q (Nat.lt_of_lt_of_le h1 hS.1) (fun z => h2 (hA q (Nat.lt_of_lt_of_le h1 hS.1) z))]; exact hS.2.1 q h1 h2, fun q hq => by
      rcases List.mem_append.mp hq with h | h
      · exact hS.2.2 q h
      · exact hf _ (hL q h)⟩⟩
theorem vx_calli {S SX : Type} {post : Int32 → S → Prop} {px : SX → Prop} {B : S → State → Prop} {BX : String → SX → State → Prop} {AX : Nat → Prop} (hr : vx_Run p l e R s m args below meth c H locs cells slots mc ms (F0 m pc ls st0) rest (va_Qi post B A1 a) (vx_X px BX AX) free) (hS : va_S A0 H0 H locs) (hA : ∀ q, q < H.size → A1 q → A0 q) (hf : ∀ q, free q → A0 q) (hAX : ∀ q, q < H.size → AX q → A0 q)
    (kx : ∀ (E : String) (ce : Cell) (q9 : Addr) (u : SX) (t : State) (H1 : Heap) (locs1 : List Loc), t.heap = H1 → s.vm.Alike t.vm → px u → BX E u t → H.size ≤ H1.size → (∀ q : Nat, q < H.size → ¬ AX q → H1[q]? = H[q]?) → va_S A0 H0 H1 locs1 → H1[q9]? = some ce → ce.vm = .none → s.vm.findClass E = some ce.cls → vx_W p l e R s m args below meth c H1 locs1 (cells + mc) (slots + ms) Q (F0 m pc ls rest) q9)
    (kk : ∀ (r : Int32) (u : S) (t : State) (H1 : Heap) (locs1 : List Loc), t.heap = H1 → s.vm.Alike t.vm → post r u → B u t → H.size ≤ H1.size → (∀ q : Nat, q < H.size → ¬ A1 q → H1[q]? = H[q]?) → va_S A0 H0 H1 locs1 → W p l e R s m args below meth c H1 locs1 (cells + mc) (slots + ms) Q (F0 m (pc + 3) ls (.int r :: rest))) : W p l e R s m args below meth c H locs cells slots Q (F0 m pc ls st0) := by
  intro T hT X
  rcases hr T hT X with ⟨v, st₀, t, T', L, h0, X', hL, e1, e2, ⟨⟨r, u, hv, hp, hb⟩, hF⟩, st⟩ | ⟨q, st₀, t, T', L, E, ce, h0, X', hL, e1, e2, ⟨u, hp, hb, hF⟩, hce, hcv, hcl, st⟩
  · cases hv
    obtain ⟨k1, k2, k3⟩ := vx_keep h0 e1 hS hA hf hL hF
    obtain ⟨t2, a1, b1⟩ := kk r u t T'.heap (locs ++ L) e1.symm (by rw [← e2]; exact X'.warmed.alike) hp hb k1 k2 k3 T' rfl X'
    exact ⟨t2, st t2 a1, b1⟩
  · obtain ⟨k1, k2, k3⟩ := vx_keep h0 e1 hS hAX hf hL hF
    obtain ⟨t2, a1, b1⟩ := kx E ce q u t T'.heap (locs ++ L) e1.symm (by rw [← e2]; exact X'.warmed.alike) hp hb k1 k2 k3 (by rw [e1]; exact hce) hcv hcl T' rfl X'
    exact ⟨t2, st.trans a1, b1⟩
theorem vx_calll {S SX : Type} {post : Int64 → S → Prop} {px : SX → Prop} {B : S → State → Prop} {BX : String → SX → State → Prop} {AX : Nat → Prop} (hr : vx_Run p l e R s m args below meth c H locs cells slots mc ms (F0 m pc ls st0) rest (va_Ql post B A1 a) (vx_X px BX AX) free) (hS : va_S A0 H0 H locs) (hA : ∀ q, q < H.size → A1 q → A0 q) (hf : ∀ q, free q → A0 q) (hAX : ∀ q, q < H.size → AX q → A0 q)
    (kx : ∀ (E : String) (ce : Cell) (q9 : Addr) (u : SX) (t : State) (H1 : Heap) (locs1 : List Loc), t.heap = H1 → s.vm.Alike t.vm → px u → BX E u t → H.size ≤ H1.size → (∀ q : Nat, q < H.size → ¬ AX q → H1[q]? = H[q]?) → va_S A0 H0 H1 locs1 → H1[q9]? = some ce → ce.vm = .none → s.vm.findClass E = some ce.cls → vx_W p l e R s m args below meth c H1 locs1 (cells + mc) (slots + ms) Q (F0 m pc ls rest) q9)
    (kk : ∀ (r : Int64) (u : S) (t : State) (H1 : Heap) (locs1 : List Loc), t.heap = H1 → s.vm.Alike t.vm → post r u → B u t → H.size ≤ H1.size → (∀ q : Nat, q < H.size → ¬ A1 q → H1[q]? = H[q]?) → va_S A0 H0 H1 locs1 → W p l e R s m args below meth c H1 locs1 (cells + mc) (slots + ms) Q (F0 m (pc + 3) ls (.long r :: rest))) : W p l e R s m args below meth c H locs cells slots Q (F0 m pc ls st0) := by
  intro T hT X
  rcases hr T hT X with ⟨v, st₀, t, T', L, h0, X', hL, e1, e2, ⟨⟨r, u, hv, hp, hb⟩, hF⟩, st⟩ | ⟨q, st₀, t, T', L, E, ce, h0, X', hL, e1, e2, ⟨u, hp, hb, hF⟩, hce, hcv, hcl, st⟩
  · cases hv
    obtain ⟨k1, k2, k3⟩ := vx_keep h0 e1 hS hA hf hL hF
    obtain ⟨t2, a1, b1⟩ := kk r u t T'.heap (locs ++ L) e1.symm (by rw [← e2]; exact X'.warmed.alike) hp hb k1 k2 k3 T' rfl X'
    exact ⟨t2, st t2 a1, b1⟩
  · obtain ⟨k1, k2, k3⟩ := vx_keep h0 e1 hS hAX hf hL hF
    obtain ⟨t2, a1, b1⟩ := kx E ce q u t T'.heap (locs ++ L) e1.symm (by rw [← e2]; exact X'.warmed.alike) hp hb k1 k2 k3 (by rw [e1]; exact hce) hcv hcl T' rfl X'
    exact ⟨t2, st.trans a1, b1⟩
theorem vx_callf {S SX : Type} {post : UInt32 → S → Prop} {px : SX → Prop} {B : S → State → Prop} {BX : String → SX → State → Prop} {AX : Nat → Prop} (hr : vx_Run p l e R s m args below meth c H locs cells slots mc ms (F0 m pc ls st0) rest (va_Qf post B A1 a) (vx_X px BX AX) free) (hS : va_S A0 H0 H locs) (hA : ∀ q, q < H.size → A1 q → A0 q) (hf : ∀ q, free q → A0 q) (hAX : ∀ q, q < H.size → AX q → A0 q)
    (kx : ∀ (E : String) (ce : Cell) (q9 : Addr) (u : SX) (t : State) (H1 : Heap) (locs1 : List Loc), t.heap = H1 → s.vm.Alike t.vm → px u → BX E u t → H.size ≤ H1.size → (∀ q : Nat, q < H.size → ¬ AX q → H1[q]? = H[q]?) → va_S A0 H0 H1 locs1 → H1[q9]? = some ce → ce.vm = .none → s.vm.findClass E = some ce.cls → vx_W p l e R s m args below meth c H1 locs1 (cells + mc) (slots + ms) Q (F0 m pc ls rest) q9)
    (kk : ∀ (r : UInt32) (u : S) (t : State) (H1 : Heap) (locs1 : List Loc), t.heap = H1 → s.vm.Alike t.vm → post r u → B u t → H.size ≤ H1.size → (∀ q : Nat, q < H.size → ¬ A1 q → H1[q]? = H[q]?) → va_S A0 H0 H1 locs1 → W p l e R s m args below meth c H1 locs1 (cells + mc) (slots + ms) Q (F0 m (pc + 3) ls (.float r :: rest))) : W p l e R s m args below meth c H locs cells slots Q (F0 m pc ls st0) := by
  intro T hT X
  rcases hr T hT X with ⟨v, st₀, t, T', L, h0, X', hL, e1, e2, ⟨⟨r, u, hv, hp, hb⟩, hF⟩, st⟩ | ⟨q, st₀, t, T', L, E, ce, h0, X', hL, e1, e2, ⟨u, hp, hb, hF⟩, hce, hcv, hcl, st⟩
  · cases hv
    obtain ⟨k1, k2, k3⟩ := vx_keep h0 e1 hS hA hf hL hF
    obtain ⟨t2, a1, b1⟩ := kk r u t T'.heap (locs ++ L) e1.symm (by rw [← e2]; exact X'.warmed.alike) hp hb k1 k2 k3 T' rfl X'
    exact ⟨t2, st t2 a1, b1⟩
  · obtain ⟨k1, k2, k3⟩ := vx_keep h0 e1 hS hAX hf hL hF
    obtain ⟨t2, a1, b1⟩ := kx E ce q u t T'.heap (locs ++ L) e1.symm (by rw [← e2]; exact X'.warmed.alike) hp hb k1 k2 k3 (by rw [e1]; exact hce) hcv hcl T' rfl X'
    exact ⟨t2, st.trans a1, b1⟩
theorem vx_calld {S SX : Type} {post : UInt64 → S → Prop} {px : SX → Prop} {B : S → State → Prop} {BX : String → SX → State → Prop} {AX : Nat → Prop} (hr : vx_Run p l e R s m args below meth c H locs cells slots mc ms (F0 m pc ls st0) rest (va_Qd post B A1 a) (vx_X px BX AX) free) (hS : va_S A0 H0 H locs) (hA : ∀ q, q < H.size → A1 q → A0 q) (hf : ∀ q, free q → A0 q) (hAX : ∀ q, q < H.size → AX q → A0 q)
    (kx : ∀ (E : String) (ce : Cell) (q9 : Addr) (u : SX) (t : State) (H1 : Heap) (locs1 : List Loc), t.heap = H1 → s.vm.Alike t.vm → px u → BX E u t → H.size ≤ H1.size → (∀ q : Nat, q < H.size → ¬ AX q → H1[q]? = H[q]?) → va_S A0 H0 H1 locs1 → H1[q9]? = some ce → ce.vm = .none → s.vm.findClass E = some ce.cls → vx_W p l e R s m args below meth c H1 locs1 (cells + mc) (slots + ms) Q (F0 m pc ls rest) q9)
    (kk : ∀ (r : UInt64) (u : S) (t : State) (H1 : Heap) (locs1 : List Loc), t.heap = H1 → s.vm.Alike t.vm → post r u → B u t → H.size ≤ H1.size → (∀ q : Nat, q < H.size → ¬ A1 q → H1[q]? = H[q]?) → va_S A0 H0 H1 locs1 → W p l e R s m args below meth c H1 locs1 (cells + mc) (slots + ms) Q (F0 m (pc + 3) ls (.double r :: rest))) : W p l e R s m args below meth c H locs cells slots Q (F0 m pc ls st0) := by
  intro T hT X
  rcases hr T hT X with ⟨v, st₀, t, T', L, h0, X', hL, e1, e2, ⟨⟨r, u, hv, hp, hb⟩, hF⟩, st⟩ | ⟨q, st₀, t, T', L, E, ce, h0, X', hL, e1, e2, ⟨u, hp, hb, hF⟩, hce, hcv, hcl, st⟩
  · cases hv
    obtain ⟨k1, k2, k3⟩ := vx_keep h0 e1 hS hA hf hL hF
    obtain ⟨t2, a1, b1⟩ := kk r u t T'.heap (locs ++ L) e1.symm (by rw [← e2]; exact X'.warmed.alike) hp hb k1 k2 k3 T' rfl X'
    exact ⟨t2, st t2 a1, b1⟩
  · obtain ⟨k1, k2, k3⟩ := vx_keep h0 e1 hS hAX hf hL hF
    obtain ⟨t2, a1, b1⟩ := kx E ce q u t T'.heap (locs ++ L) e1.symm (by rw [← e2]; exact X'.warmed.alike) hp hb k1 k2 k3 (by rw [e1]; exact hce) hcv hcl T' rfl X'
    exact ⟨t2, st.trans a1, b1⟩
theorem vx_callv {S SX : Type} {post : S → Prop} {px : SX → Prop} {B : S → State → Prop} {BX : String → SX → State → Prop} {AX : Nat → Prop} (hr : vx_Run p l e R s m args below meth c H locs cells slots mc ms (F0 m pc ls st0) rest (va_Qv post B A1 a) (vx_X px BX AX) free) (hS : va_S A0 H0 H locs) (hA : ∀ q, q < H.size → A1 q → A0 q) (hf : ∀ q, free q → A0 q) (hAX : ∀ q, q < H.size → AX q → A0 q)
    (kx : ∀ (E : String) (ce : Cell) (q9 : Addr) (u : SX) (t : State) (H1 : Heap) (locs1 : List Loc), t.heap = H1 → s.vm.Alike t.vm → px u → BX E u t → H.size ≤ H1.size → (∀ q : Nat, q < H.size → ¬ AX q → H1[q]? = H[q]?) → va_S A0 H0 H1 locs1 → H1[q9]? = some ce → ce.vm = .none → s.vm.findClass E = some ce.cls → vx_W p l e R s m args below meth c H1 locs1 (cells + mc) (slots + ms) Q (F0 m pc ls rest) q9)
    (kk : ∀ (u : S) (t : State) (H1 : Heap) (locs1 : List Loc), t.heap = H1 → s.vm.Alike t.vm → post u → B u t → H.size ≤ H1.size → (∀ q : Nat, q < H.size → ¬ A1 q → H1[q]? = H[q]?) → va_S A0 H0 H1 locs1 → W p l e R s m args below meth c H1 locs1 (cells + mc) (slots + ms) Q (F0 m (pc + 3) ls (rest))) : W p l e R s m args below meth c H locs cells slots Q (F0 m pc ls st0) := by
  intro T hT X
  rcases hr T hT X with ⟨v, st₀, t, T', L, h0, X', hL, e1, e2, ⟨⟨u, hv, hp, hb⟩, hF⟩, st⟩ | ⟨q, st₀, t, T', L, E, ce, h0, X', hL, e1, e2, ⟨u, hp, hb, hF⟩, hce, hcv, hcl, st⟩
  · cases hv
    obtain ⟨k1, k2, k3⟩ := vx_keep h0 e1 hS hA hf hL hF
    obtain ⟨t2, a1, b1⟩ := kk u t T'.heap (locs ++ L) e1.symm (by rw [← e2]; exact X'.warmed.alike) hp hb k1 k2 k3 T' rfl X'
    exact ⟨t2, st t2 a1, b1⟩
  · obtain ⟨k1, k2, k3⟩ := vx_keep h0 e1 hS hAX hf hL hF
    obtain ⟨t2, a1, b1⟩ := kx E ce q u t T'.heap (locs ++ L) e1.symm (by rw [← e2]; exact X'.warmed.alike) hp hb k1 k2 k3 (by rw [e1]; exact hce) hcv hcl T' rfl X'
    exact ⟨t2, st.trans a1, b1⟩
/-- caught by the row x of this method's table; the rows ahead don't take it -/
theorem vx_catch {own name : String} {E : String} {ce : Cell} {q : Addr} (hown : s.vm.findClass own = some m.cls) (pre : List ExceptionTableEntry) (x : ExceptionTableEntry) (suf : List ExceptionTableEntry) (hsplit : c.exceptionTable.toList = pre ++ x :: suf)
    (hpass : ∀ z ∈ pre, covers z pc = false ∨ (z.catchType ≠ 0 ∧ ∃ nm : String, (Cond.classLink own z.catchType nm).before args s = true ∧ va_Nc E nm s)) (hx : covers x pc = true) (h0 : x.catchType ≠ 0)
    (hlink : (Cond.classLink own x.catchType name).before args s = true) (hcast : (Cond.castable E name).before args s = true) (hcell : H[q]? = some ce) (hv : ce.vm = .none) (hcl : s.vm.findClass E = some ce.cls)
    (kk : W p l e R s m args below meth c H locs cells slots Q (F0 m x.handlerPc ls [.ref q])) : vx_W p l e R s m args below meth c H locs cells slots Q (F0 m pc ls rest) q := by
  intro T hT X
  have hpl : e.platform.magicAccessors = ({} : Platform).magicAccessors := by rw [X.admits.platform]
  obtain ⟨c3, c4, hc3, hc4, hasg⟩ := Cond.castable_spec hcast
  cases Option.some.inj (hc3.symm.trans hcl)
  obtain ⟨c5, hc5, hcl5⟩ := Cond.classLink_spec hown hlink e.platform hpl
  cases Option.some.inj (hc4.symm.trans hc5)
  obtain ⟨vm', X', st⟩ := X.thenCaughtThrough q (g := F0 m pc ls rest) rfl (Steps.refl _) (by rw [hT]; exact hcell) (by rw [hv]; rfl) (by obtain ⟨k9, h9, -⟩ := Vm.findClass_spec hcl; exact ⟨k9, h9⟩) pre x suf hsplit
    (fun z hz => by
      rcases hpass z hz with h | ⟨hz0, nm, hl1, hn1⟩
      · exact Or.inl h
      · obtain ⟨c6, hc6, hcl6⟩ := Cond.classLink_spec hown hl1 e.platform hpl
        obtain ⟨a8, b8, h1, h2, h3⟩ := hn1
        cases Option.some.inj (h1.symm.trans hcl)
        cases Option.some.inj (h2.symm.trans hc6)
        exact Or.inr ⟨hz0, _, hcl6, h3⟩) hx (Or.inr ⟨h0, c4, hcl5, hasg⟩)
  obtain ⟨t, a1, b1⟩ := kk (T.setVm vm') hT X'
  exact ⟨t, st.trans a1, b1⟩
end Rows
section Ends
variable {p : Program} {l : Launch} {e : Env} {R : Room} {s : State} {m : MethodId} {args : Array Value} {below : List Frame} {meth : Method} {c : Code} {H : Heap} {locs : List Loc} {cells slots : Nat} {Q : State → Prop}
variable {mc ms : Nat} {free : Addr → Prop} {A0 A1 : Nat → Prop} {H0 : Heap} {a : Array Value} {ls : Array Slot} {st0 rest : List Value}
variable {Qc : Array Value → State → Outcome → State → Prop} {XC : String → State → State → Prop}
/-- what a body that may throw owes at its end -/
def vx_MQ (below : List Frame) (Qc : Array Value → State → Outcome → State → Prop) (XC : String → State → State → Prop) (a : Array Value) (s : State) (mc ms : Nat) (free : Addr → Prop) : State → Prop := fun t =>
  ∃ o, t.status = .running ∧ Ended t below o ∧ vx_Q Qc XC mc ms free a s o t
theorem vx_ret {g : JFrame} {mc ms : Nat} (k : W p l e R s m args below meth c H locs cells slots (MQ below Qc args s mc ms free) g) : W p l e R s m args below meth c H locs cells slots (vx_MQ below Qc XC args s mc ms free) g := by
  intro T hT X
  obtain ⟨t, a1, o, b1, b2, b3, b4⟩ := k T hT X
  exact ⟨t, a1, o, b1, b2, Or.inl ⟨b3, b4⟩⟩
/-- not caught here: it goes on to the caller -/
theorem vx_widen {g : JFrame} {q : Addr} {k n : Nat} (h1 : cells ≤ k) (h2 : slots ≤ n) (kk : vx_W p l e R s m args below meth c H locs k n Q g q) : vx_W p l e R s m args below meth c H locs cells slots Q g q := fun T hT X => kk T hT (stand_widen X h1 h2)
theorem vx_out {pc : Nat} {E : String} {ce : Cell} {q : Addr} {mc ms : Nat} (hout : ∀ x ∈ c.exceptionTable.toList, covers x pc = false) (hlocks : meth.locks = false) (hcell : H[q]? = some ce) (hv : ce.vm = .none) (hcl : s.vm.findClass E = some ce.cls)
    (hx : ∀ t : State, t.heap = H → s.vm.Alike t.vm → XC E s t) (hf : ∀ z ∈ locs, free z.base) (hc : cells ≤ mc) (hs : slots ≤ ms) :
    vx_W p l e R s m args below meth c H locs cells slots (vx_MQ below Qc XC args s mc ms free) (F0 m pc ls rest) q := by
  intro T hT X
  obtain ⟨st1, hrun, hend, hW, hsm⟩ := X.leaveThrown q (g := F0 m pc ls rest) rfl rfl rfl hout hlocks
  have hcell9 : (T.setFrames (.throwing q :: below)).heap[q]? = some ce := by
    show T.heap[q]? = some ce
    rw [hT]; exact hcell
  exact ⟨_, st1, .threw q, hrun, hend, Or.inr ⟨q, rfl, E, ce, locs, hx _ hT hW.alike, hcell9, hv, hcl, hW, hsm.mono hc hs, hf⟩⟩
theorem vx_frame {U : State} {k n : Nat} (h : s.sameButNew ({ U with vm := s.vm } : State) locs k n) : s.heap.size ≤ U.heap.size ∧ ∀ q : Nat, q < s.heap.size → (∀ z ∈ locs, z.base ≠ q) → U.heap[q]? = s.heap[q]? := by
  obtain ⟨-, h2, -, -, -, h6⟩ := h
  refine ⟨h2, fun q hq hz => ?_⟩
  obtain ⟨c9, e1, e2, e3, e4⟩ := h6 q _ (Array.getElem?_eq_getElem hq)
  have hs : c9.slots = (s.heap[q]).slots := Array.ext_getElem? fun i => e4 i fun hm => hz _ hm rfl
  have h9 : c9 = s.heap[q] := by
    rw [hs] at e2
    exact e2
  have e5 : U.heap[q]? = some c9 := e1
  rw [e5, h9, Array.getElem?_eq_getElem hq]
/-- the words of a throw but the four that speak of the heap -/
def vx_no (w : Cond) : Bool := decide (w ≠ .isRef (.static Bundle.tN "UNASSIGNED_STACK" Bundle.steD)) && decide (w ≠ .isRef (.static Bundle.tN "SUPPRESSED_SENTINEL" Bundle.listD)) && decide (w ≠ .laysStatic Bundle.tN "UNASSIGNED_STACK" Bundle.steD) && decide (w ≠ .laysStatic Bundle.tN "SUPPRESSED_SENTINEL" Bundle.listD)
def vx_at0 (own : String) (ic : Nat) (X : String) (names : List String) : List Cond := (Bundle.ownAtoms0 own ic X names).filter vx_no
def vx_atS (own : String) (ic : Nat) (X : String) (names : List String) : List Cond := (Bundle.ownAtoms own ic X names).filter vx_no
/-- a word that the tables alone decide, or a good one -/
def vx_ot (w : Cond) : Bool := w.onTables || goodWord w
theorem vx_ot_at {args a' : Array Value} {s U : State} {w : Cond} (hW : s.WarmedH U.vm) (hvm : s.vm = U.vm) (hg : vx_ot w = true) (h : w.before args s = true) : w.before a' U = true := by
  simp only [vx_ot, Bool.or_eq_true] at hg
  rcases hg with hg | hg
  · exact va_tabs hg hvm h
  · exact word_at hW (good_of_word hg) h
/-- a list's words: the good ones out of the method's own list, the others by premises of their own -/
theorem vx_hat {args : Array Value} {s : State} {L B : List Cond} (h1 : ∀ w ∈ L.filter goodWord, w.before args s = true) (h2 : ∀ w ∈ L.filter (fun w => !goodWord w), w ∈ B) (h3 : ∀ w ∈ B, w.before args s = true) : ∀ w ∈ L, w.before args s = true := by
  intro w hw
  by_cases g : goodWord w = true
  · exact h1 w (List.mem_filter.mpr ⟨hw, g⟩)
  · refine h3 w (h2 w (List.mem_filter.mpr ⟨hw, ?_⟩))
    show (!goodWord w) = true
    cases hgw : goodWord w
    · rfl
    · exact absurd hgw g
theorem vx_c {args : Array Value} {s : State} {w : Cond} {B : List Cond} (h : w.before args s = true) (t : ∀ w ∈ B, w.before args s = true) : ∀ w' ∈ w :: B, w'.before args s = true := fun w' h' => (List.mem_cons.mp h').elim (fun e => by rw [e]; exact h) (t w')
theorem vx_n {args : Array Value} {s : State} : ∀ w ∈ ([] : List Cond), w.before args s = true := fun _ h => nomatch h
theorem vx_own {args : Array Value} {s : State} {L : List Cond} (h1 : ∀ w ∈ L.filter vx_no, w.before args s = true)
    (hU : (Cond.isRef (.static Bundle.tN "UNASSIGNED_STACK" Bundle.steD)).before args s = true) (hN : (Cond.isRef (.static Bundle.tN "SUPPRESSED_SENTINEL" Bundle.listD)).before args s = true)
    (lU : (Cond.laysStatic Bundle.tN "UNASSIGNED_STACK" Bundle.steD).before args s = true) (lN : (Cond.laysStatic Bundle.tN "SUPPRESSED_SENTINEL" Bundle.listD).before args s = true) : ∀ w ∈ L, w.before args s = true := by
  intro w hw
  by_cases e1 : w = .isRef (.static Bundle.tN "UNASSIGNED_STACK" Bundle.steD)
  · rw [e1]; exact hU
  · by_cases e2 : w = .isRef (.static Bundle.tN "SUPPRESSED_SENTINEL" Bundle.listD)
    · rw [e2]; exact hN
    · by_cases e3 : w = .laysStatic Bundle.tN "UNASSIGNED_STACK" Bundle.steD
      · rw [e3]; exact lU
      · by_cases e4 : w = .laysStatic Bundle.tN "SUPPRESSED_SENTINEL" Bundle.listD
        · rw [e4]; exact lN
        · exact h1 w (List.mem_filter.mpr ⟨hw, by unfold vx_no; rw [decide_eq_true e1, decide_eq_true e2, decide_eq_true e3, decide_eq_true e4]; rfl⟩)
/-- where a static field lies, its class's statics cell in H -/
def vx_L (C n d : String) (A : Nat → Prop) (U : State) (H : Heap) : Prop := ∃ (c : ClassId) (k : Class) (i : Nat) (f : Field) (a : Nat) (cell : Cell), U.vm.findClass C = some c ∧ U.fieldFound? C n d = some (c, k, i, f) ∧ f.isStatic = true ∧ k.statics = some a ∧ H[a]? = some cell ∧ cell.vm.isStatics = true ∧ cell.cls = c ∧ f.slot < cell.slots.size ∧ k.staticTypes[f.slot]? = some f.type ∧ ¬ A a
theorem vx_L.moved {C n d : String} {A : Nat → Prop} {u U : State} {H : Heap} (hvm : u.vm.Alike U.vm) (h : vx_L C n d A u H) : vx_L C n d A U H := by
  obtain ⟨c, k, i, f, a, cell, h1, h2, h3, h4, h5, h6, h7, h8, h9, h10⟩ := h
  obtain ⟨k', hi', he⟩ := State.fieldFound?_setVm hvm h2
  exact ⟨c, k', i, f, a, cell, by rw [hvm.findClass]; exact h1, hi', h3, by rw [he]; exact h4, h5, h6, h7, h8, by rw [he]; exact h9, h10⟩
theorem vx_L.kept {C n d : String} {A : Nat → Prop} {U : State} {H H1 : Heap} (h : vx_L C n d A U H) (hq : ∀ a : Nat, a < H.size → ¬ A a → H1[a]? = H[a]?) : vx_L C n d A U H1 := by
  obtain ⟨c, k, i, f, a, cell, h1, h2, h3, h4, h5, h6, h7, h8, h9, h10⟩ := h
  exact ⟨c, k, i, f, a, cell, h1, h2, h3, h4, by rw [hq a (Array.getElem?_eq_some_iff.mp h5).1 h10]; exact h5, h6, h7, h8, h9, h10⟩
theorem vx_L.narrow {C n d : String} {A B : Nat → Prop} {U : State} {H : Heap} (h : vx_L C n d A U H) (hAB : ∀ q, B q → A q) : vx_L C n d B U H := by
  obtain ⟨c, k, i, f, a, cell, h1, h2, h3, h4, h5, h6, h7, h8, h9, h10⟩ := h
  exact ⟨c, k, i, f, a, cell, h1, h2, h3, h4, h5, h6, h7, h8, h9, fun z => h10 (hAB _ z)⟩
theorem vx_L.word {C n d : String} {A : Nat → Prop} {s : State} {args : Array Value} (h : vx_L C n d A s s.heap) : (Cond.laysStatic C n d).before args s = true := by
  obtain ⟨c, k, i, f, a, cell, h1, h2, h3, h4, h5, h6, h7, h8, h9, -⟩ := h
  show (Cond.laysStatic C n d).holds args s none s [] = true
  exact Cond.laysStatic_of h1 h2 h3 h4 h5 h6 h7 h8 h9
/-- .. and what it holds: null or some reference -/
def vx_Zq (C n d : String) (A : Nat → Prop) (U : State) (H : Heap) : Prop := va_Zq C n d A U H ∧ vx_L C n d A U H
theorem vx_Zq.moved {C n d : String} {A : Nat → Prop} {u U : State} {H : Heap} (hvm : u.vm.Alike U.vm) (h : vx_Zq C n d A u H) : vx_Zq C n d A U H := ⟨va_Zq.moved hvm h.1, vx_L.moved hvm h.2⟩
theorem vx_Zq.kept {C n d : String} {A : Nat → Prop} {U : State} {H H1 : Heap} (h : vx_Zq C n d A U H) (hq : ∀ a : Nat, a < H.size → ¬ A a → H1[a]? = H[a]?) : vx_Zq C n d A U H1 := ⟨va_Zq.kept h.1 hq, vx_L.kept h.2 hq⟩
theorem vx_Zq.narrow {C n d : String} {A B : Nat → Prop} {U : State} {H : Heap} (h : vx_Zq C n d A U H) (hAB : ∀ q, B q → A q) : vx_Zq C n d B U H := ⟨va_Zq.narrow h.1 hAB, vx_L.narrow h.2 hAB⟩
theorem vx_Zqof {args : Array Value} {s : State} {C n d : String} {A : Nat → Prop} (hl : (Cond.laysStatic C n d).before args s = true) (hini : (Cond.initialized C).before args s = true) (h : (Cond.isRef (.static C n d)).before args s = true) (hA : ∀ a : Nat, a < s.heap.size → ¬ A a) : vx_Zq C n d A s s.heap := by
  refine ⟨va_Zqof hl hini h hA, ?_⟩
  obtain ⟨c, k, i, f, a, cell, h1, h2, h3, h4, h5, h6, h7, h8, h9⟩ := Cond.laysStatic_spec hl
  exact ⟨c, k, i, f, a, cell, h1, h2, h3, h4, h5, h6, h7, h8, h9, hA a (Array.getElem?_eq_some_iff.mp h5).1⟩
theorem vx_isRef {C n d : String} {v : Value} {A : Nat → Prop} {s : State} {args : Array Value} (h : va_Z C n d v A s s.heap) (hv : v.isRef = true) : (Cond.isRef (.static C n d)).before args s = true := by
  obtain ⟨cf, kf, fi, f, a, cell, h1, h2, h3, h4, h5, h6, h7, -⟩ := h
  have he : (Term.static C n d).eval args s none [] s = some v := by
    simp [Term.eval, State.fieldNamed?, h1, h2, h4, h5, h6, h7]
  simp only [Cond.before, Cond.holds, Cond.value, he]
  cases v <;> simp_all [Value.isRef]
theorem vx_isRefq {C n d : String} {A : Nat → Prop} {s : State} {args : Array Value} (h : va_Zq C n d A s s.heap) : (Cond.isRef (.static C n d)).before args s = true := by
  rcases h with h | ⟨t, h⟩
  · exact vx_isRef h rfl
  · exact vx_isRef h rfl
/-- the same frame, seen from here: as if the method were called anew in this heap -/
theorem vx_rebase {T : State} (X : Stand p l e R s m args below meth c T locs cells slots) {R' : Room} (hf : R'.frames ≤ R.frames) (hl : R'.locals ≤ R.locals) (hc : cells + R'.cells ≤ R.cells) (hs : slots + R'.slots ≤ R.slots) :
    Stand p l e R' ((T.setVm s.vm).setFrames (.invoking m args :: below)) m args below meth c T [] 0 0 := by
  have htop : (T.setVm s.vm).topJava?.isSome := X.here.top
  have hF : ((T.setVm s.vm).setFrames (.invoking m args :: below)).frames = .invoking m args :: below := State.frames_setFrames _ (State.cur_lt_of_top htop)
  obtain ⟨g₀, hg0⟩ := Option.isSome_iff_exists.mp htop
  obtain ⟨r, hr⟩ := State.topJava?_eq_some.mp hg0
  have hl9 : e.platform.stackLimits (T.setVm s.vm).me = e.platform.stackLimits s.me := X.limits
  have hb9 : (T.setVm s.vm).me.stackBytes = s.me.stackBytes := X.bytes
  refine ⟨X.admits, X.cas, X.clock, hF, ?_, X.hears, X.method, X.code, X.here, X.tail, X.warmed, ?_, ?_, ?_⟩
  · have h := X.room
    have hU : ((T.setVm s.vm).setFrames (.invoking m args :: below)).localsInUse = s.localsInUse := by
      rw [State.localsInUse_invoking hF (meth := meth) (c := c) X.method X.code, State.localsInUse_invoking X.frames X.method X.code]
    simp only [State.hasRoom, Bool.and_eq_true, decide_eq_true_eq] at h ⊢
    obtain ⟨⟨⟨⟨h1, h2, h3, h4, h5, h6⟩, h7⟩, h8⟩, h9⟩ := h
    rw [X.frames, List.length_cons] at h2 h3
    have q1 := X.heapSize
    have q2 := X.used
    simp only [hF, hU, List.length_cons, State.stackLimits_setFrames, State.stackBytes_setFrames, hl9, hb9]
    refine ⟨⟨⟨⟨by omega, by omega, by omega, by omega, by omega, h6⟩, ?_⟩, ?_⟩, X.book⟩
    · show T.heap.size + R'.cells ≤ e.platform.maxCells
      omega
    · show T.slotsUsed + R'.slots ≤ e.platform.maxSlots
      omega
  · rw [State.stackLimits_setFrames]; rfl
  · rw [State.stackBytes_setFrames]; rfl
  · refine ⟨?_, Nat.le_refl _, Nat.le_refl _, ?_, ?_, fun a c9 h9 => ⟨c9, h9, rfl, rfl, fun _ _ => rfl⟩⟩
    · obtain ⟨t, ht, -⟩ := State.frames_cons hr
      show T.setVm s.vm = { ((T.setVm s.vm).setFrames (.invoking m args :: below)).setFrames (T.setVm s.vm).frames with heap := T.heap, slotsUsed := T.slotsUsed }
      rw [State.setFrames_setFrames, State.setFrames_self ht]
      rfl
    · show T.slotsUsed = T.slotsUsed + ((T.heap.toList.drop T.heap.size).map (·.slots.size)).sum
      rw [List.drop_eq_nil_of_le (Nat.le_of_eq Array.length_toList)]
      rfl
    · show ((T.heap.toList.drop T.heap.size).map (·.slots.size)).sum ≤ 0
      rw [List.drop_eq_nil_of_le (Nat.le_of_eq Array.length_toList)]
      exact Nat.le_refl _
/-- 'throw new E()': new; dup; invokespecial; athrow -/
theorem vx_throw0 {cc : ByteArray} {pc : Nat} (hexec : p.tables.exec = Jvm.exec) (hb : c.code = cc) (hl : l.stackTraces = false) {own cls : String} {names : List String} {ik ic mc ms : Nat} {A : Nat → Prop}
    (hown : s.vm.findClass own = some m.cls) (hcls : Bundle.fit cls = true) (hnames : ∀ n ∈ names, Bundle.fit n = true)
    (hk : (Cond.classLink own ik cls).before args s = true) (hini : (Cond.initialized cls).before args s = true) (hat : ∀ w ∈ vx_at0 own ic cls names, w.before args s = true)
    (hgood : ∀ w ∈ Cond.classLink own ik cls :: Cond.initialized cls :: vx_at0 own ic cls names, vx_ot w = true)
    (hU : vx_Zq Bundle.tN "UNASSIGNED_STACK" Bundle.steD A s s.heap) (hN : vx_Zq Bundle.tN "SUPPRESSED_SENTINEL" Bundle.listD A s s.heap) (hS : va_S A s.heap H locs) (hsize : ls.size = c.maxLocals)
    (d0 : decode cc pc = .ok (.new ik, 3)) (d3 : decode cc (pc + 3) = .ok (.dup, 1)) (d4 : decode cc (pc + 4) = .ok (.invokespecial ic, 3)) (d7 : decode cc (pc + 7) = .ok (.athrow, 1))
    (hout : ∀ x ∈ c.exceptionTable.toList, covers x (pc + 7) = false)
    (hRframes : names.length + 3 < R.frames) (hRlocals : (rest.map fun v => v.category).sum + (13 * (names.length + 1) + 42) ≤ R.locals) (hRcells : cells + 1 ≤ R.cells) (hRslots : slots + 6 ≤ R.slots) (hlocks : meth.locks = false)
    (hx : ∀ t : State, s.vm.Alike t.vm → H.size ≤ t.heap.size → (∀ q : Nat, q < H.size → t.heap[q]? = H[q]?) → XC cls s t)
    (hf : ∀ z ∈ locs, free z.base) (hc : cells + 1 ≤ mc) (hs : slots + 6 ≤ ms) :
    W p l e R s m args below meth c H locs cells slots (vx_MQ below Qc XC args s mc ms free) (F0 m pc ls rest) := by
  intro T hT X
  have htr : e.platform.stackTraces = false := (show e.platform.stackTraces = l.stackTraces by rw [X.admits.platform]).trans hl
  have Y := vx_rebase X (R' := { frames := R.frames, locals := R.locals, cells := 1, slots := 6 }) (Nat.le_refl _) (Nat.le_refl _) hRcells hRslots
  obtain ⟨s', hA⟩ : ∃ z, z = (T.setVm s.vm).setFrames (.invoking m args :: below) := ⟨_, rfl⟩
  rw [← hA] at Y
  have hvm : s'.vm = s.vm := by rw [hA]; rfl
  have hhp : s'.heap = H := by rw [hA]; exact hT
  have hW0 : s.WarmedH s'.vm := by rw [hvm]; exact State.WarmedH.refl s
  have hat' : ∀ w ∈ vx_at0 own ic cls names, w.before args s' = true := fun w hw => vx_ot_at hW0 hvm.symm (hgood w (List.mem_cons_of_mem _ (List.mem_cons_of_mem _ hw))) (hat w hw)
  have hk' : (Cond.classLink own ik cls).before args s' = true := vx_ot_at hW0 hvm.symm (hgood _ List.mem_cons_self) hk
  have hini' : (Cond.initialized cls).before args s' = true := vx_ot_at hW0 hvm.symm (hgood _ (List.mem_cons_of_mem _ List.mem_cons_self)) hini
  have hU' : vx_Zq Bundle.tN "UNASSIGNED_STACK" Bundle.steD A s' s'.heap := by rw [hhp]; exact vx_Zq.moved hW0.alike (hU.kept hS.2.1)
  have hN' : vx_Zq Bundle.tN "SUPPRESSED_SENTINEL" Bundle.listD A s' s'.heap := by rw [hhp]; exact vx_Zq.moved hW0.alike (hN.kept hS.2.1)
  have h : ∀ w ∈ Bundle.ownAtoms0 own ic cls names, w.before args s' = true := vx_own hat' (vx_isRefq hU'.1) (vx_isRefq hN'.1) hU'.2.word hN'.2.word
  have hown' : s'.vm.findClass own = some m.cls := by rw [hvm]; exact hown
  have hins : (Cond.instantiable cls 6).before args s' = true := h _ (by simp [Bundle.ownAtoms0])
  obtain ⟨vm₁, cX, kX, hfX, hkX, -, -, X₁, st1⟩ := Y.newCold hexec (own := own) (C := cls) (index := ik) (n := 6) hown' hk' hins hini'
    (g := F0 m pc ls rest) rfl (by rw [hb]; exact d0) (Nat.le_refl _) (Nat.le_refl _)
  generalize hT1 : (T.setVm vm₁).pushCell { cls := cX, slots := kX.instanceTypes.map defaultValue, vm := .none } = T1 at X₁ st1
  have hcat : (Value.ref T.heap.size).category = 1 := rfl
  have hcellA : T1.heap[T.heap.size]? = some (freshCell cX kX) := by rw [← hT1]; exact State.heap_pushCell_size _ _
  have d3' : decode c.code (pc + 3) = .ok (.dup, 1) := by rw [hb]; exact d3
  obtain ⟨U, hsteps, hrun, hend, hW, hsame, ce, hce, hO⟩ := X₁.ctorThrow0 hexec htr (own := own) (cls := cls) (names := names) (ic := ic) hown' hcls hnames h (fun x hx => nomatch hx) hfX hkX hcellA (by rw [hhp, hT]; exact Nat.le_refl _)
    (g := { method := m, pc := pc + 4, locals := ls, stack := .ref T.heap.size :: .ref T.heap.size :: rest, locked := none }) rfl hsize rfl rfl (rest := rest) rfl
    (by rw [hb]; exact d4) (by rw [hb]; exact d7) hout hRframes (by simp only [List.map_cons, List.sum_cons, hcat]; omega) hlocks
  obtain ⟨f1, f2⟩ := vx_frame hsame
  rw [hhp] at f1 f2
  have hWs : s.WarmedH U.vm := State.WarmedH.trans hW0 hW
  have hcl : s.vm.findClass cls = some ce.cls := by
    have h9 := hO.cls
    rw [hvm] at h9
    exact h9
  have hall : s.sameButNew ({ U with vm := s.vm } : State) locs mc ms := by
    subst hA
    obtain ⟨e1, e2⟩ := hsame
    rw [State.setFrames_setFrames] at e1
    have h2 : (T.setVm s.vm).sameButNew ({ U with vm := s.vm } : State) [] (0 + 1) (0 + 6) := ⟨e1, e2⟩
    have h3 := X.same.trans h2
    rw [List.append_nil] at h3
    exact h3.mono hc hs
  refine ⟨U, ?_, .threw T.heap.size, hrun, hend, Or.inr ⟨T.heap.size, rfl, cls, ce, locs, hx U hWs.alike f1 (fun q hq => f2 q hq (fun z hz => nomatch hz)), hce, hO.vm, hcl, hWs, hall, hf⟩⟩
  refine st1 _ ?_
  show Steps p.tables e below (T1.setTop { method := m, pc := pc + 3, locals := ls, stack := .ref T.heap.size :: rest, locked := none }) _
  jvm_step X₁.here [X₁.here.top, hexec, d3', Value.category]
  exact hsteps
/-- 'throw new E("text")': new; dup; ldc; invokespecial; athrow -/
theorem vx_throwS {cc : ByteArray} {pc : Nat} (hexec : p.tables.exec = Jvm.exec) (hb : c.code = cc) (hl : l.stackTraces = false) {own cls text : String} {names : List String} {ik is ic mc ms sa : Nat} {A : Nat → Prop}
    (hown : s.vm.findClass own = some m.cls) (hcls : Bundle.fit cls = true) (hnames : ∀ n ∈ names, Bundle.fit n = true)
    (hk : (Cond.classLink own ik cls).before args s = true) (hini : (Cond.initialized cls).before args s = true) (hstr : vk_R own is text sa s) (hat : ∀ w ∈ vx_atS own ic cls names, w.before args s = true)
    (hgood : ∀ w ∈ Cond.classLink own ik cls :: Cond.initialized cls :: vx_atS own ic cls names, vx_ot w = true)
    (hU : vx_Zq Bundle.tN "UNASSIGNED_STACK" Bundle.steD A s s.heap) (hN : vx_Zq Bundle.tN "SUPPRESSED_SENTINEL" Bundle.listD A s s.heap) (hS : va_S A s.heap H locs) (hsize : ls.size = c.maxLocals)
    (d0 : decode cc pc = .ok (.new ik, 3)) (d3 : decode cc (pc + 3) = .ok (.dup, 1)) (d4 : decode cc (pc + 4) = .ok (.ldc is, 2)) (d6 : decode cc (pc + 6) = .ok (.invokespecial ic, 3)) (d9 : decode cc (pc + 9) = .ok (.athrow, 1))
    (hout : ∀ x ∈ c.exceptionTable.toList, covers x (pc + 9) = false)
    (hRframes : names.length + 3 < R.frames) (hRlocals : (rest.map fun v => v.category).sum + (13 * (names.length + 1) + 43) ≤ R.locals) (hRcells : cells + 1 ≤ R.cells) (hRslots : slots + 6 ≤ R.slots) (hlocks : meth.locks = false)
    (hx : ∀ t : State, s.vm.Alike t.vm → H.size ≤ t.heap.size → (∀ q : Nat, q < H.size → t.heap[q]? = H[q]?) → XC cls s t)
    (hf : ∀ z ∈ locs, free z.base) (hc : cells + 1 ≤ mc) (hs : slots + 6 ≤ ms) :
    W p l e R s m args below meth c H locs cells slots (vx_MQ below Qc XC args s mc ms free) (F0 m pc ls rest) := by
  intro T hT X
  have htr : e.platform.stackTraces = false := (show e.platform.stackTraces = l.stackTraces by rw [X.admits.platform]).trans hl
  have Y := vx_rebase X (R' := { frames := R.frames, locals := R.locals, cells := 1, slots := 6 }) (Nat.le_refl _) (Nat.le_refl _) hRcells hRslots
  obtain ⟨s', hA⟩ : ∃ z, z = (T.setVm s.vm).setFrames (.invoking m args :: below) := ⟨_, rfl⟩
  rw [← hA] at Y
  have hvm : s'.vm = s.vm := by rw [hA]; rfl
  have hhp : s'.heap = H := by rw [hA]; exact hT
  have hW0 : s.WarmedH s'.vm := by rw [hvm]; exact State.WarmedH.refl s
  have hat' : ∀ w ∈ vx_atS own ic cls names, w.before args s' = true := fun w hw => vx_ot_at hW0 hvm.symm (hgood w (List.mem_cons_of_mem _ (List.mem_cons_of_mem _ hw))) (hat w hw)
  have hk' : (Cond.classLink own ik cls).before args s' = true := vx_ot_at hW0 hvm.symm (hgood _ List.mem_cons_self) hk
  have hini' : (Cond.initialized cls).before args s' = true := vx_ot_at hW0 hvm.symm (hgood _ (List.mem_cons_of_mem _ List.mem_cons_self)) hini
  have hU' : vx_Zq Bundle.tN "UNASSIGNED_STACK" Bundle.steD A s' s'.heap := by rw [hhp]; exact vx_Zq.moved hW0.alike (hU.kept hS.2.1)
  have hN' : vx_Zq Bundle.tN "SUPPRESSED_SENTINEL" Bundle.listD A s' s'.heap := by rw [hhp]; exact vx_Zq.moved hW0.alike (hN.kept hS.2.1)
  have h : ∀ w ∈ Bundle.ownAtoms own ic cls names, w.before args s' = true := vx_own hat' (vx_isRefq hU'.1) (vx_isRefq hN'.1) hU'.2.word hN'.2.word
  have hown' : s'.vm.findClass own = some m.cls := by rw [hvm]; exact hown
  have hins : (Cond.instantiable cls 6).before args s' = true := h _ (by simp [Bundle.ownAtoms])
  obtain ⟨vm₁, cX, kX, hfX, hkX, -, -, X₁, st1⟩ := Y.newCold hexec (own := own) (C := cls) (index := ik) (n := 6) hown' hk' hins hini'
    (g := F0 m pc ls rest) rfl (by rw [hb]; exact d0) (Nat.le_refl _) (Nat.le_refl _)
  generalize hT1 : (T.setVm vm₁).pushCell { cls := cX, slots := kX.instanceTypes.map defaultValue, vm := .none } = T1 at X₁ st1
  have hcat : (Value.ref T.heap.size).category = 1 := rfl
  have hcellA : T1.heap[T.heap.size]? = some (freshCell cX kX) := by rw [← hT1]; exact State.heap_pushCell_size _ _
  have d3' : decode c.code (pc + 3) = .ok (.dup, 1) := by rw [hb]; exact d3
  have d4' : decode c.code (pc + 4) = .ok (.ldc is, 2) := by rw [hb]; exact d4
  have hstr' : vk_R own is text sa s' := vk_R.warm hW0 hstr
  obtain ⟨U, hsteps, hrun, hend, hW, hsame, ce, hce, hO⟩ := X₁.ctorThrowS hexec htr (own := own) (cls := cls) (names := names) (ic := ic) hown' hcls hnames h (fun x hx => nomatch hx) hfX hkX hcellA (by rw [hhp, hT]; exact Nat.le_refl _) (msg := .ref sa) rfl
    (g := { method := m, pc := pc + 6, locals := ls, stack := .ref sa :: .ref T.heap.size :: .ref T.heap.size :: rest, locked := none }) rfl hsize rfl rfl (rest := rest) rfl
    (by rw [hb]; exact d6) (by rw [hb]; exact d9) hout hRframes (by simp only [List.map_cons, List.sum_cons, hcat]; omega) hlocks
  obtain ⟨f1, f2⟩ := vx_frame hsame
  rw [hhp] at f1 f2
  have hWs : s.WarmedH U.vm := State.WarmedH.trans hW0 hW
  have hcl : s.vm.findClass cls = some ce.cls := by
    have h9 := hO.cls
    rw [hvm] at h9
    exact h9
  have hall : s.sameButNew ({ U with vm := s.vm } : State) locs mc ms := by
    subst hA
    obtain ⟨e1, e2⟩ := hsame
    rw [State.setFrames_setFrames] at e1
    have h2 : (T.setVm s.vm).sameButNew ({ U with vm := s.vm } : State) [] (0 + 1) (0 + 6) := ⟨e1, e2⟩
    have h3 := X.same.trans h2
    rw [List.append_nil] at h3
    exact h3.mono hc hs
  refine ⟨U, ?_, .threw T.heap.size, hrun, hend, Or.inr ⟨T.heap.size, rfl, cls, ce, locs, hx U hWs.alike f1 (fun q hq => f2 q hq (fun z hz => nomatch hz)), hce, hO.vm, hcl, hWs, hall, hf⟩⟩
  refine st1 _ ?_
  show Steps p.tables e below (T1.setTop { method := m, pc := pc + 3, locals := ls, stack := .ref T.heap.size :: rest, locked := none }) _
  jvm_step X₁.here [X₁.here.top, hexec, d3', Value.category]
  exact X₁.ldcString hexec (own := own) (text := text) (index := is) (a := sa) hown' hstr'.1 hstr'.2
    (g := { method := m, pc := pc + 4, locals := ls, stack := .ref T.heap.size :: .ref T.heap.size :: rest, locked := none }) rfl d4' _ hsteps
/-- 'throw new E("text")', the text by a wide index -/
theorem vx_throwSW {cc : ByteArray} {pc : Nat} (hexec : p.tables.exec = Jvm.exec) (hb : c.code = cc) (hl : l.stackTraces = false) {own cls text : String} {names : List String} {ik is ic mc ms sa : Nat} {A : Nat → Prop}
    (hown : s.vm.findClass own = some m.cls) (hcls : Bundle.fit cls = true) (hnames : ∀ n ∈ names, Bundle.fit n = true)
    (hk : (Cond.classLink own ik cls).before args s = true) (hini : (Cond.initialized cls).before args s = true) (hstr : vk_R own is text sa s) (hat : ∀ w ∈ vx_atS own ic cls names, w.before args s = true)
    (hgood : ∀ w ∈ Cond.classLink own ik cls :: Cond.initialized cls :: vx_atS own ic cls names, vx_ot w = true)
    (hU : vx_Zq Bundle.tN "UNASSIGNED_STACK" Bundle.steD A s s.heap) (hN : vx_Zq Bundle.tN "SUPPRESSED_SENTINEL" Bundle.listD A s s.heap) (hS : va_S A s.heap H locs) (hsize : ls.size = c.maxLocals)
    (d0 : decode cc pc = .ok (.new ik, 3)) (d3 : decode cc (pc + 3) = .ok (.dup, 1)) (d4 : decode cc (pc + 4) = .ok (.ldc_w is, 3)) (d7 : decode cc (pc + 7) = .ok (.invokespecial ic, 3)) (d10 : decode cc (pc + 10) = .ok (.athrow, 1))
    (hout : ∀ x ∈ c.exceptionTable.toList, covers x (pc + 10) = false)
    (hRframes : names.length + 3 < R.frames) (hRlocals : (rest.map fun v => v.category).sum + (13 * (names.length + 1) + 43) ≤ R.locals) (hRcells : cells + 1 ≤ R.cells) (hRslots : slots + 6 ≤ R.slots) (hlocks : meth.locks = false)
    (hx : ∀ t : State, s.vm.Alike t.vm → H.size ≤ t.heap.size → (∀ q : Nat, q < H.size → t.heap[q]? = H[q]?) → XC cls s t)
    (hf : ∀ z ∈ locs, free z.base) (hc : cells + 1 ≤ mc) (hs : slots + 6 ≤ ms) :
    W p l e R s m args below meth c H locs cells slots (vx_MQ below Qc XC args s mc ms free) (F0 m pc ls rest) := by
  intro T hT X
  have htr : e.platform.stackTraces = false := (show e.platform.stackTraces = l.stackTraces by rw [X.admits.platform]).trans hl
  have Y := vx_rebase X (R' := { frames := R.frames, locals := R.locals, cells := 1, slots := 6 }) (Nat.le_refl _) (Nat.le_refl _) hRcells hRslots
  obtain ⟨s', hA⟩ : ∃ z, z = (T.setVm s.vm).setFrames (.invoking m args :: below) := ⟨_, rfl⟩
  rw [← hA] at Y
  have hvm : s'.vm = s.vm := by rw [hA]; rfl
  have hhp : s'.heap = H := by rw [hA]; exact hT
  have hW0 : s.WarmedH s'.vm := by rw [hvm]; exact State.WarmedH.refl s
  have hat' : ∀ w ∈ vx_atS own ic cls names, w.before args s' = true := fun w hw => vx_ot_at hW0 hvm.symm (hgood w (List.mem_cons_of_mem _ (List.mem_cons_of_mem _ hw))) (hat w hw)
  have hk' : (Cond.classLink own ik cls).before args s' = true := vx_ot_at hW0 hvm.symm (hgood _ List.mem_cons_self) hk
  have hini' : (Cond.initialized cls).before args s' = true := vx_ot_at hW0 hvm.symm (hgood _ (List.mem_cons_of_mem _ List.mem_cons_self)) hini
  have hU' : vx_Zq Bundle.tN "UNASSIGNED_STACK" Bundle.steD A s' s'.heap := by rw [hhp]; exact vx_Zq.moved hW0.alike (hU.kept hS.2.1)
  have hN' : vx_Zq Bundle.tN "SUPPRESSED_SENTINEL" Bundle.listD A s' s'.heap := by rw [hhp]; exact vx_Zq.moved hW0.alike (hN.kept hS.2.1)
  have h : ∀ w ∈ Bundle.ownAtoms own ic cls names, w.before args s' = true := vx_own hat' (vx_isRefq hU'.1) (vx_isRefq hN'.1) hU'.2.word hN'.2.word
  have hown' : s'.vm.findClass own = some m.cls := by rw [hvm]; exact hown
  have hins : (Cond.instantiable cls 6).before args s' = true := h _ (by simp [Bundle.ownAtoms])
  obtain ⟨vm₁, cX, kX, hfX, hkX, -, -, X₁, st1⟩ := Y.newCold hexec (own := own) (C := cls) (index := ik) (n := 6) hown' hk' hins hini'
    (g := F0 m pc ls rest) rfl (by rw [hb]; exact d0) (Nat.le_refl _) (Nat.le_refl _)
  generalize hT1 : (T.setVm vm₁).pushCell { cls := cX, slots := kX.instanceTypes.map defaultValue, vm := .none } = T1 at X₁ st1
  have hcat : (Value.ref T.heap.size).category = 1 := rfl
  have hcellA : T1.heap[T.heap.size]? = some (freshCell cX kX) := by rw [← hT1]; exact State.heap_pushCell_size _ _
  have d3' : decode c.code (pc + 3) = .ok (.dup, 1) := by rw [hb]; exact d3
  have d4' : decode c.code (pc + 4) = .ok (.ldc_w is, 3) := by rw [hb]; exact d4
  have hstr' : vk_R own is text sa s' := vk_R.warm hW0 hstr
  obtain ⟨U, hsteps, hrun, hend, hW, hsame, ce, hce, hO⟩ := X₁.ctorThrowS hexec htr (own := own) (cls := cls) (names := names) (ic := ic) hown' hcls hnames h (fun x hx => nomatch hx) hfX hkX hcellA (by rw [hhp, hT]; exact Nat.le_refl _) (msg := .ref sa) rfl
    (g := { method := m, pc := pc + 7, locals := ls, stack := .ref sa :: .ref T.heap.size :: .ref T.heap.size :: rest, locked := none }) rfl hsize rfl rfl (rest := rest) rfl
    (by rw [hb]; exact d7) (by rw [hb]; exact d10) hout hRframes (by simp only [List.map_cons, List.sum_cons, hcat]; omega) hlocks
  obtain ⟨f1, f2⟩ := vx_frame hsame
  rw [hhp] at f1 f2
  have hWs : s.WarmedH U.vm := State.WarmedH.trans hW0 hW
  have hcl : s.vm.findClass cls = some ce.cls := by
    have h9 := hO.cls
    rw [hvm] at h9
    exact h9
  have hall : s.sameButNew ({ U with vm := s.vm } : State) locs mc ms := by
    subst hA
    obtain ⟨e1, e2⟩ := hsame
    rw [State.setFrames_setFrames] at e1
    have h2 : (T.setVm s.vm).sameButNew ({ U with vm := s.vm } : State) [] (0 + 1) (0 + 6) := ⟨e1, e2⟩
    have h3 := X.same.trans h2
    rw [List.append_nil] at h3
    exact h3.mono hc hs
  refine ⟨U, ?_, .threw T.heap.size, hrun, hend, Or.inr ⟨T.heap.size, rfl, cls, ce, locs, hx U hWs.alike f1 (fun q hq => f2 q hq (fun z hz => nomatch hz)), hce, hO.vm, hcl, hWs, hall, hf⟩⟩
  refine st1 _ ?_
  show Steps p.tables e below (T1.setTop { method := m, pc := pc + 3, locals := ls, stack := .ref T.heap.size :: rest, locked := none }) _
  jvm_step X₁.here [X₁.here.top, hexec, d3', Value.category]
  exact X₁.ldcStringW hexec (own := own) (text := text) (index := is) (a := sa) hown' hstr'.1 hstr'.2
    (g := { method := m, pc := pc + 4, locals := ls, stack := .ref T.heap.size :: .ref T.heap.size :: rest, locked := none }) rfl d4' _ hsteps
end Ends
section Bodies
variable {l : Launch}
theorem vx_ofW {y : MethodName} {ws ws' : List Cond} {rm : Room} {Pc : Array Value → State → Prop} {Qc : Array Value → State → Outcome → State → Prop} {XC : String → State → State → Prop} {mc ms : Nat} {free : Addr → Prop} {cc : ByteArray} {maxL : Nat} {ret : Option FieldType}
    (hy : plainName y.cls = true) (hw : ws = Cond.code y cc maxL ret :: ws')
    (body : ∀ p e s m args below meth c s₁, BodyLoose p l y (headSpec ws rm) cc maxL ret e s m args below meth c s₁ → c.maxLocals = maxL → (∀ x ∈ c.exceptionTable.toList, False) → Pc args s →
      W p l e (headSpec ws rm).room s m args below meth c s.heap [] 0 0 (vx_MQ below Qc XC args s mc ms free) (entryFrame m args maxL)) : vx_Met l y ws rm Pc Qc XC mc ms free := by
  refine MetFree.of_bodyS (code := cc) (maxLocals := maxL) (ret := ret) hy ?_ ?_
  · intro args s m h hn
    obtain ⟨meth, c, h1, h2, h3, h4, h5, h6, -, -⟩ := Cond.code_spec hn (atoms_spec (ws := ws) h _ (by rw [hw]; exact List.mem_cons_self))
    exact ⟨meth, c, h1, h2, h3, h4, h5, h6⟩
  · intro p e s m args below meth c s₁ B hml hP _
    have hh0 : s₁.heap = s.heap := by rw [B.state]; rfl
    have ht : ∀ x ∈ c.exceptionTable.toList, False := by
      obtain ⟨meth9, c9, h1, h2, -, -, -, -, h7, -⟩ := Cond.code_spec B.named (atoms_spec (ws := ws) B.pre _ (by rw [hw]; exact List.mem_cons_self))
      cases Option.some.inj (h1.symm.trans B.method)
      cases Option.some.inj (h2.symm.trans (Stand.of_body B).code)
      intro x hx
      rw [Array.isEmpty_iff.mp h7] at hx
      cases hx
    obtain ⟨t, a1, o, b1, b2, b3⟩ := body p e s m args below meth c s₁ B hml ht hP s₁ hh0 (Stand.of_body B)
    exact ⟨t, o, a1, b1, b2, b3⟩
/-- the table of a body with handlers -/
theorem vx_table {p : Program} {x y : MethodName} {S : Spec} {cc bytes : ByteArray} {maxL maxL' : Nat} {ret ret' : Option FieldType} {e : Env} {s s₁ : State} {m : MethodId} {args : Array Value} {below : List Frame} {meth : Method} {c : Code} {hh : List (Nat × Nat × Nat × Nat)}
    (B : BodyLoose p l y S cc maxL ret e s m args below meth c s₁) (h : (Cond.codeWith y bytes maxL' ret' hh).before args s = true) : c.exceptionTable.toList = tableOf hh := by
  obtain ⟨m9, meth9, c9, hn9, h1, h2, -, -, h6, -⟩ := Cond.codeWith_spec h
  cases Option.some.inj (hn9.symm.trans B.named)
  cases Option.some.inj (h1.symm.trans B.method)
  cases Option.some.inj (h2.symm.trans (Stand.of_body B).code)
  rw [← h6, table_eq]
end Bodies
end VXA
/-! ===== END ===== -/
/-! ===== BEGIN a static call of a method with an exception table ===== -/
section VXS
variable {p : Program} {l : Launch} {e : Env} {R : Room} {s : State} {m : MethodId} {args : Array Value} {below : List Frame} {meth : Method} {c : Code} {T : State} {H : Heap} {locs : List Loc} {cells slots : Nat}
abbrev vx_CSW (R : Room) (s : State) (args : Array Value) (own : String) (index : Nat) (y : MethodName) (bytes : ByteArray) (maxL : Nat) (ret : Option FieldType) (hh : List (Nat × Nat × Nat × Nat)) (ws : List Cond) (rm : Room) (mc ms n : Nat) : Prop :=
  (rm.cells = mc ∧ rm.slots = ms ∧ rm.frames + 1 ≤ R.frames ∧ 8 + (maxL + 11) + rm.locals ≤ R.locals ∧ (∀ w ∈ ws, ∀ (a' : Array Value) (U : State), s.WarmedH U.vm → w.before a' U = true) ∧ Cond.codeWith y bytes maxL ret hh ∈ ws) ∧
  (Cond.codeWith y bytes maxL ret hh).before args s = true ∧ (Cond.initialized y.cls).before args s = true ∧ (y.cls ≠ "java/lang/invoke/MethodHandle" ∧ y.cls ≠ "java/lang/invoke/VarHandle") ∧
  (∀ sig, parseMethodDescriptor y.desc = some sig → n = sig.parameters.length) ∧ (Cond.methodLink own index y).before args s = true ∧ (Cond.static y).before args s = true
theorem vx_cwSW {own : String} {index maxL mc ms : Nat} {y : MethodName} {bytes : ByteArray} {ret : Option FieldType} {hh : List (Nat × Nat × Nat × Nat)} {Ts ws ws' : List Cond} {rm : Room} (n : Nat) (ht : ∀ w ∈ Ts, w.before args s = true) (hT : GoodIn Ts (va_wsS own index y ws)) (hw : ws = Cond.codeWith y bytes maxL ret hh :: ws') (hrc : rm.cells = mc) (hrs : rm.slots = ms)
    (hd : y.cls ≠ "java/lang/invoke/MethodHandle" ∧ y.cls ≠ "java/lang/invoke/VarHandle" ∧ (parseMethodDescriptor y.desc).map (fun d => d.parameters.length) = some n) (hR : rm.frames + 1 ≤ R.frames ∧ 8 + (maxL + 11) + rm.locals ≤ R.locals) :
    vx_CSW R s args own index y bytes maxL ret hh ws rm mc ms n := by
  have ok : ∀ w ∈ va_wsS own index y ws, w.before args s = true := fun w h => ht w (hT w h).1
  have hG : GoodIn Ts ws := fun w h => hT w (by unfold va_wsS; exact List.mem_append_right _ h)
  have hc : Cond.codeWith y bytes maxL ret hh ∈ ws := by rw [hw]; exact List.mem_cons_self
  refine ⟨⟨hrc, hrs, hR.1, hR.2, pay_in ht hG, hc⟩, ht _ (hG _ hc).1, ok _ (by simp [va_wsS]), ⟨hd.1, hd.2.1⟩, fun sig h => ?_, ok _ (by simp [va_wsS]), ok _ (by simp [va_wsS])⟩
  have h2 := hd.2.2
  rw [h] at h2
  exact (Option.some.inj h2).symm
theorem vx_callSW (X : Stand p l e R s m args below meth c T locs cells slots) (hexec : p.tables.exec = Jvm.exec) {own : String} {index : Nat} {y : MethodName} {bytes : ByteArray} {maxL : Nat} {ret : Option FieldType} {hh : List (Nat × Nat × Nat × Nat)}
    (hown : s.vm.findClass own = some m.cls) (hlink : (Cond.methodLink own index y).before args s = true) (hstat : (Cond.static y).before args s = true) (hinit : (Cond.initialized y.cls).before args s = true)
    (hcode : (Cond.codeWith y bytes maxL ret hh).before args s = true) (hy : y.cls ≠ "java/lang/invoke/MethodHandle" ∧ y.cls ≠ "java/lang/invoke/VarHandle")
    {W9 : Nat} {Pre : Pt → Array Value → Prop} {Post : Pt → Array Value → Option Value → Pt → Prop} (hK : Back l R p e below s args y 3 W9 Pre Post)
    {g : JFrame} (hg : g.method = m) (hsize : g.locals.size = c.maxLocals) {argsL rest : List Value} (hlen : ∀ sig, parseMethodDescriptor y.desc = some sig → argsL.length = sig.parameters.length)
    (hstack : g.stack = argsL.reverse ++ rest) (hW : 2 * g.monitorRoom + (rest.map fun v => v.category).sum ≤ W9) (hdg : decode c.code g.pc = .ok (.invokestatic index, 3))
    (hpre : ∀ vm₁, s.WarmedH vm₁ → Pre ⟨T.setVm vm₁, locs, cells, slots⟩ argsL.toArray) :
    ∃ (v : Option Value) (vm₁ : Vm) (B : Pt), s.WarmedH vm₁ ∧ Stand p l e R s m args below meth c B.U B.locs B.cells B.slots ∧ Post ⟨T.setVm vm₁, locs, cells, slots⟩ argsL.toArray v B ∧
      ∀ target, Steps p.tables e below (B.U.setTop { g with pc := g.pc + 3, stack := v.toList ++ rest }) target → Steps p.tables e below (T.setTop g) target := by
  obtain ⟨mk, methM, cM, hnamed, hmethM, -, -, -, -, -, -, hsigM⟩ := Cond.codeWith_spec hcode
  have hstatic : methM.isStatic = true := Cond.static_spec hnamed hmethM hstat
  obtain ⟨kP, hkP, -⟩ := className_of_methodNamed hnamed
  have hinitP : kP.init = .initialized := Cond.initialized_spec (findClass_of_methodNamed hnamed) hkP hinit
  obtain ⟨vm₁, X₁, hstep₁⟩ := X.invokestatic hexec hown hlink hnamed hmethM hstatic hkP hinitP hy (g := g) hg (argsL := argsL) (rest := rest) (hlen _ hsigM) hstack hdg
  obtain ⟨v, B, X', hpost, hsteps⟩ := hK m meth c ⟨T.setVm vm₁, locs, cells, slots⟩ { g with stack := rest } (.invokestatic index) mk argsL.toArray X₁ hg hsize hdg hW (X₁.named hnamed) (hpre vm₁ X₁.warmed)
  exact ⟨v, vm₁, B, X₁.warmed, X', hpost, fun target h => hstep₁ _ fun acts => by rw [doInvoke_state]; exact hsteps.trans h⟩
theorem vx_runSW {y : MethodName} {bytes cc : ByteArray} {maxL nL mc ms n index : Nat} {ret : Option FieldType} {hh : List (Nat × Nat × Nat × Nat)} {ws : List Cond} {rm : Room} {Pc : Array Value → State → Prop} {Qc : Array Value → State → Outcome → State → Prop} {free : Addr → Prop} {Ts : List Cond} {own : String} {As rest : List Value} {g : JFrame}
    (S : CallFix p m c cc nL s args Ts own) (hM : Met l y ws rm Pc Qc mc ms free) (cw : vx_CSW R s args own index y bytes maxL ret hh ws rm mc ms n) (hp : PreS s H Pc As)
    (hg : g.method = m) (hn : As.length = n) (hsize : g.locals.size = nL) (hstack : g.stack = As.reverse ++ rest) (hW : 2 * g.monitorRoom + (rest.map fun v => v.category).sum ≤ 8) (hdg : decode cc g.pc = .ok (.invokestatic index, 3)) (hf : cells + mc ≤ R.cells ∧ slots + ms ≤ R.slots) :
    va_Run p l e R s m args below meth c H locs cells slots mc ms g rest (Qc As.toArray) (free) := by
  obtain ⟨⟨hrc, hrs, hfr, hlo, hws, hcw⟩, hcode, hini, hy, hlen, hl, hstt⟩ := cw
  have hK : Back l R p e below s args y 3 8 (PreOf R mc ms Pc) (PostOf Qc mc ms free) := va_backW (hh := hh) (bytes := bytes) (maxL := maxL) (ret := ret) hM hp.1 hrc hrs hfr hlo hws hcw (fun a' U hW => word_at hW (Or.inl (by first | rfl | simp [Cond.onTables, Cond.keeps, Cond.steady])) hini)
  obtain ⟨hx, hb, hml, ho, -⟩ := S
  intro T hT X
  obtain ⟨v, vm₁, ⟨U', l2, c2, s2⟩, hW₁, X', ⟨g', mk, t, L, e1, e2, hq, h1, hL, h2, h3⟩, st⟩ := vx_callSW X hx (hh := hh) (bytes := bytes) (maxL := maxL) (ret := ret) ho hl hstt hini hcode hy hK hg (hsize.trans hml.symm) (argsL := As) (rest := rest) (fun sig h => hn.trans (hlen sig h)) hstack hW (by rw [hb]; exact hdg)
    (fun vm₁ hW₁ => ⟨hf.1, hf.2, hp.2 (T.setVm vm₁) hT hW₁⟩)
  dsimp only [Pt.U, Pt.locs, Pt.cells, Pt.slots] at X' e1 e2 h1 h2 h3 st
  subst h1; subst h2; subst h3
  exact ⟨v, (T.setVm vm₁).calling g' mk As.toArray, t, U', L, hT, X', hL, e1, e2, hq, st⟩
/-- not caught here, past rows that name other classes: it goes on to the caller -/
theorem vx_outP {p : Program} {l : Launch} {e : Env} {R : Room} {s : State} {m : MethodId} {args : Array Value} {below : List Frame} {meth : Method} {c : Code} {H : Heap} {locs : List Loc} {cells slots : Nat} {free : Addr → Prop} {ls : Array Slot} {rest : List Value} {Qc : Array Value → State → Outcome → State → Prop} {XC : String → State → State → Prop}
    {pc : Nat} {own E : String} {ce : Cell} {q : Addr} {mc ms : Nat} (hown : s.vm.findClass own = some m.cls) (hlocks : meth.locks = false)
    (hpass : ∀ z ∈ c.exceptionTable.toList, covers z pc = false ∨ (z.catchType ≠ 0 ∧ ∃ nm : String, (Cond.classLink own z.catchType nm).before args s = true ∧ va_Nc E nm s)) (hcell : H[q]? = some ce) (hv : ce.vm = .none) (hcl : s.vm.findClass E = some ce.cls)
    (hx : ∀ t : State, t.heap = H → s.vm.Alike t.vm → XC E s t) (hf : ∀ z ∈ locs, free z.base) (hc : cells ≤ mc) (hs : slots ≤ ms) :
    vx_W p l e R s m args below meth c H locs cells slots (vx_MQ below Qc XC args s mc ms free) (F0 m pc ls rest) q := by
  intro T hT X
  have hpl : e.platform.magicAccessors = ({} : Platform).magicAccessors := by rw [X.admits.platform]
  obtain ⟨vm', hW', X', st⟩ := X.outThrough hlocks q (g := F0 m pc ls rest) rfl rfl rfl (cell := ce) (by rw [hT]; exact hcell) (by rw [hv]; rfl)
    (by obtain ⟨k9, h9, -⟩ := Vm.findClass_spec hcl; exact ⟨k9, h9⟩) (fun z hz => by
      rcases hpass z hz with h | ⟨hz0, nm, hl1, hn1⟩
      · exact Or.inl h
      · obtain ⟨c6, hc6, hcl6⟩ := Cond.classLink_spec hown hl1 e.platform hpl
        obtain ⟨a8, b8, h1, h2, h3⟩ := hn1
        cases Option.some.inj (h1.symm.trans hcl)
        cases Option.some.inj (h2.symm.trans hc6)
        exact Or.inr ⟨hz0, _, hcl6, h3⟩)
  obtain ⟨g₀, hfr⟩ := X'.frames_eq
  have hcell9 : ((T.setVm vm').setFrames (.throwing q :: below)).heap[q]? = some ce := by
    show T.heap[q]? = some ce
    rw [hT]; exact hcell
  have hend : Ended ((T.setVm vm').setFrames (.throwing q :: below)) below (.threw q) := State.frames_setFrames _ (State.cur_lt_of_frames hfr)
  refine ⟨(T.setVm vm').setFrames (.throwing q :: below), ?_, .threw q, X'.here.running, hend, Or.inr ⟨q, rfl, E, ce, locs, hx _ hT (X'.ends _).1.alike, hcell9, hv, hcl, (X'.ends _).1, (X'.ends _).2.mono hc hs, hf⟩⟩
  rw [X.pushThrowing_eq]
  exact st
/-- a thing of a world lies in the heap -/
theorem vx_lt {D : va_G} {cl : List vw_C} {ws : va_W} {H1 : Heap} (h : va_P D cl ws H1) {k : Nat} {q : Nat × va_E} (hk : ws[k]? = some q) : q.1 < H1.size := (h k q hk).lt
end VXS
/-! ===== END ===== -/
/-! ===== BEGIN methods with a table of their own: called by a name, returning or throwing ===== -/
section VXH
/-! vx_backW, vx_callVX, vx_callSX, vx_callVW, vx_runVW, vx_runVX, vx_runSX, vx_ofWH follow the same proofs as their sisters above (Free/Laws.lean, Shelf42/LK1.lean); vx_outP calls Shelf42/NT130.lean (outThrough). -/
section
variable {l : Launch} {R : Room} {p : Program} {e : Env} {below : List Frame} {s : State} {sargs : Array Value} {y : MethodName} {len W9 : Nat}
theorem vx_backW {ws : List Cond} {rm : Room} {Pc : Array Value → State → Prop} {Qc : Array Value → State → Outcome → State → Prop} {XC : String → State → State → Prop} {mc ms : Nat} {free : Addr → Prop} {bytes : ByteArray} {maxL : Nat} {ret : Option FieldType} {hh : List (Nat × Nat × Nat × Nat)}
    (hM : vx_Met l y ws rm Pc Qc XC mc ms free) (hblind : FrameBlind Pc) (hrc : rm.cells = mc) (hrs : rm.slots = ms)
    (hframes : rm.frames + 1 ≤ R.frames) (hlocals : W9 + (maxL + 11) + rm.locals ≤ R.locals)
    (hws : ∀ w ∈ ws, ∀ a' U, s.WarmedH U.vm → w.before a' U = true) (hcode : Cond.codeWith y bytes maxL ret hh ∈ ws) (hinit : ∀ a' U, s.WarmedH U.vm → (Cond.initialized y.cls).before a' U = true) :
    vx_Back l R p e below s sargs y len W9 (PreOf R mc ms Pc) (PostOf Qc mc ms free) (vx_Post XC mc ms free) := by
  intro m meth c A g ig mk a X hg hsize hdg hW hn hp
  have h1 : (headSpec ws rm).pre.before a A.U = true := atoms_intro fun w hw => hws w hw _ _ X.warmed
  have h2 : (Cond.codeWith y bytes maxL ret hh).before a A.U = true := hws _ hcode _ _ X.warmed
  have h3 : (Cond.initialized y.cls).before a A.U = true := hinit _ _ X.warmed
  have h4 : A.cells + (headSpec ws rm).room.cells ≤ R.cells := by rw [show (headSpec ws rm).room.cells = mc from hrc]; exact hp.1
  have h5 : A.slots + (headSpec ws rm).room.slots ≤ R.slots := by rw [show (headSpec ws rm).room.slots = ms from hrs]; exact hp.2.1
  have hPc : Pc a (A.U.calling g mk a) := hblind _ _ _ _ hp.2.2
  obtain ⟨U, Ls, c0, s0⟩ := A
  dsimp only [Pt.U, Pt.locs, Pt.cells, Pt.slots] at h1 h2 h3 h4 h5 X hn hPc ⊢
  obtain ⟨m9, methY, cY, hn9, hmY, hcY, -, hlY, -⟩ := Cond.codeWith_spec h2
  cases Option.some.inj (hn9.symm.trans hn)
  obtain ⟨kY, hkY, -⟩ := className_of_methodNamed hn
  have hinitY : kY.init = .initialized := Cond.initialized_spec (findClass_of_methodNamed hn) hkY h3
  have h : At U g.method c below := by rw [hg]; exact X.here
  have hlocals9 : W9 + (maxL + 11) + (headSpec ws rm).room.locals ≤ R.locals := hlocals
  have happ : (headSpec ws rm).appliesLoose y e.platform (U.calling g mk a) = true :=
    Spec.appliesLoose_calling (g := g) h hdg hn hkY hinitY
      (X.room_calling (g := g) (R' := (headSpec ws rm).room) hsize hmY hcY hframes (by rw [hlY]; omega) h4 h5) h1
  obtain ⟨mid, hmid⟩ := h.above
  have hfr : (U.setTop g).frames = (.java g :: mid) ++ below := by rw [State.frames_setTop' g h.top, hmid]; rfl
  obtain ⟨o, s₂, hsteps, -, hend, hq⟩ := Steps.callFree hM p X.admits X.cas X.clock (acts := []) hfr happ hPc trivial
  have hq' : vx_Q Qc XC mc ms free a (U.calling g mk a) o s₂ := hq
  rw [State.frames_setTop' g h.top] at hend
  obtain ⟨g₀, hg0⟩ := Option.isSome_iff_exists.mp h.top
  obtain ⟨r, hr⟩ := State.topJava?_eq_some.mp hg0
  have hr' : (({ U with heap := s₂.heap, slotsUsed := s₂.slotsUsed } : State).setVm s₂.vm).frames = .java g₀ :: r := hr
  rcases hq' with ⟨hqc, L, hfe, hL⟩ | ⟨q, rfl, E, ce, L, hx, hce, hcv, hcl, hW₂, hsm, hL⟩
  · obtain ⟨⟨v, rfl⟩, hW₂, e2, q2, q3, q4, q5, q6⟩ := id hfe
    have e3 : s₂ = ({ (U.calling g mk a).setFrames s₂.frames with heap := s₂.heap, slotsUsed := s₂.slotsUsed } : State).setVm s₂.vm := by
      have : s₂ = ({ s₂ with vm := (U.calling g mk a).vm } : State).setVm s₂.vm := rfl
      rw [e2] at this
      exact this
    obtain ⟨c₂, i₂, len₂, hc₂, hd₂, hf₂⟩ := hend
    have hW' : U.WarmedH s₂.vm := hW₂
    have hcc : c₂ = c := by
      have h1 : s₂.code? g.method = U.code? g.method := by
        rw [State.code?_eq, State.code?_eq, hW'.alike.method?]
      exact Option.some.inj (hc₂.symm.trans (h1.trans h.code))
    subst hcc
    have hlen : len₂ = len := by rw [hdg] at hd₂; cases hd₂; rfl
    subst hlen
    have hs₂ : s₂ = (({ U with heap := s₂.heap, slotsUsed := s₂.slotsUsed } : State).setVm s₂.vm).setTop { g with pc := g.pc + len₂, stack := v.toList ++ g.stack } := by
      refine e3.trans ?_
      rw [hf₂, State.calling_eq h.top, State.setFrames_setFrames, State.setTop_of_frames _ hr', hr]
      rfl
    have hsame : U.sameButNew ({ U with heap := s₂.heap, slotsUsed := s₂.slotsUsed } : State) L mc ms := by
      refine ⟨?_, q2, q3, q4, q5, q6⟩
      obtain ⟨t, ht, -⟩ := State.frames_cons hr
      show ({ U with heap := s₂.heap, slotsUsed := s₂.slotsUsed } : State) = { U.setFrames U.frames with heap := s₂.heap, slotsUsed := s₂.slotsUsed }
      rw [State.setFrames_self ht]
    subst hg
    refine Or.inl ⟨v, ⟨(({ U with heap := s₂.heap, slotsUsed := s₂.slotsUsed } : State).setVm s₂.vm), Ls ++ L, c0 + mc, s0 + ms⟩,
      ⟨X.admits, X.cas, X.clock, X.frames, X.room, X.hears, X.method, X.code, (X.here.setHeapUsed s₂.heap s₂.slotsUsed).setVm hW'.alike, X.tail, State.WarmedH.trans X.warmed hW', X.limits, X.bytes, X.same.trans (hsame.setVm s.vm)⟩,
      ⟨g, mk, s₂, L, rfl, rfl, hqc, rfl, hL, rfl, rfl⟩, ?_⟩
    show Steps p.tables e below _ ((({ U with heap := s₂.heap, slotsUsed := s₂.slotsUsed } : State).setVm s₂.vm).setTop { g with pc := g.pc + len₂, stack := v.toList ++ g.stack })
    rw [← hs₂]
    exact hsteps
  · obtain ⟨e2, q2, q3, q4, q5, q6⟩ := id hsm
    have e3 : s₂ = ({ (U.calling g mk a).setFrames s₂.frames with heap := s₂.heap, slotsUsed := s₂.slotsUsed } : State).setVm s₂.vm := by
      have : s₂ = ({ s₂ with vm := (U.calling g mk a).vm } : State).setVm s₂.vm := rfl
      rw [e2] at this
      exact this
    have hf₂ : s₂.frames = .throwing q :: .java g :: U.frames.tail := hend
    have hW' : U.WarmedH s₂.vm := hW₂
    have hs₂ : s₂ = ((({ U with heap := s₂.heap, slotsUsed := s₂.slotsUsed } : State).setVm s₂.vm).setTop g).pushFrame (.throwing q) := by
      refine e3.trans ?_
      rw [hf₂, State.calling_eq h.top, State.setFrames_setFrames, State.pushFrame, State.frames_setTop _ hr', State.setTop_of_frames _ hr', State.setFrames_setFrames, hr]
      rfl
    have hsame : U.sameButNew ({ U with heap := s₂.heap, slotsUsed := s₂.slotsUsed } : State) L mc ms := by
      refine ⟨?_, q2, q3, q4, q5, q6⟩
      obtain ⟨t, ht, -⟩ := State.frames_cons hr
      show ({ U with heap := s₂.heap, slotsUsed := s₂.slotsUsed } : State) = { U.setFrames U.frames with heap := s₂.heap, slotsUsed := s₂.slotsUsed }
      rw [State.setFrames_self ht]
    subst hg
    refine Or.inr ⟨q, ⟨(({ U with heap := s₂.heap, slotsUsed := s₂.slotsUsed } : State).setVm s₂.vm), Ls ++ L, c0 + mc, s0 + ms⟩,
      ⟨X.admits, X.cas, X.clock, X.frames, X.room, X.hears, X.method, X.code, (X.here.setHeapUsed s₂.heap s₂.slotsUsed).setVm hW'.alike, X.tail, State.WarmedH.trans X.warmed hW', X.limits, X.bytes, X.same.trans (hsame.setVm s.vm)⟩,
      ⟨g, mk, s₂, L, E, ce, rfl, rfl, hx, hce, hcv, hcl, rfl, hL, rfl, rfl⟩, ?_⟩
    show Steps p.tables e below _ (((({ U with heap := s₂.heap, slotsUsed := s₂.slotsUsed } : State).setVm s₂.vm).setTop g).pushFrame (.throwing q))
    rw [← hs₂]
    exact hsteps
end
variable {p : Program} {l : Launch} {e : Env} {R : Room} {s : State} {m : MethodId} {args : Array Value} {below : List Frame} {meth : Method} {c : Code} {T : State} {H : Heap} {locs : List Loc} {cells slots : Nat}
theorem vx_callVX (X : Stand p l e R s m args below meth c T locs cells slots) (hexec : p.tables.exec = Jvm.exec) {own C : String} {index : Nat} {y : MethodName} {bytes : ByteArray} {maxL : Nat} {ret : Option FieldType} {hh : List (Nat × Nat × Nat × Nat)}
    (hown : s.vm.findClass own = some m.cls) (hlink : (Cond.methodLink own index y).before args s = true) (hinst : (Cond.instanceMethod y).before args s = true) (hsel : (Cond.selects C y y).before args s = true)
    (hcode : (Cond.codeWith y bytes maxL ret hh).before args s = true) (hy : y.cls ≠ "java/lang/invoke/MethodHandle" ∧ y.cls ≠ "java/lang/invoke/VarHandle")
    {W9 : Nat} {Pre : Pt → Array Value → Prop} {Post : Pt → Array Value → Option Value → Pt → Prop} {PostX : Pt → Array Value → Addr → Pt → Prop} (hK : vx_Back l R p e below s args y 3 W9 Pre Post PostX)
    {b : Addr} {cellB : Cell} (hcell : T.heap[b]? = some cellB) (hobj : cellB.vm.isStatics = false) (hcls : s.vm.findClass C = some cellB.cls)
    {g : JFrame} (hg : g.method = m) (hsize : g.locals.size = c.maxLocals) {argsL rest : List Value} (hlen : ∀ sig, parseMethodDescriptor y.desc = some sig → argsL.length = sig.parameters.length)
    (hstack : g.stack = argsL.reverse ++ .ref b :: rest) (hW : 2 * g.monitorRoom + (rest.map fun v => v.category).sum ≤ W9) (hdg : decode c.code g.pc = .ok (.invokevirtual index, 3))
    (hpre : ∀ vm₁, s.WarmedH vm₁ → Pre ⟨T.setVm vm₁, locs, cells, slots⟩ (Value.ref b :: argsL).toArray) :
    (∃ (v : Option Value) (vm₁ : Vm) (B : Pt), s.WarmedH vm₁ ∧ Stand p l e R s m args below meth c B.U B.locs B.cells B.slots ∧ Post ⟨T.setVm vm₁, locs, cells, slots⟩ (Value.ref b :: argsL).toArray v B ∧
      ∀ target, Steps p.tables e below (B.U.setTop { g with pc := g.pc + 3, stack := v.toList ++ rest }) target → Steps p.tables e below (T.setTop g) target) ∨
    (∃ (q : Addr) (vm₁ : Vm) (B : Pt), s.WarmedH vm₁ ∧ Stand p l e R s m args below meth c B.U B.locs B.cells B.slots ∧ PostX ⟨T.setVm vm₁, locs, cells, slots⟩ (Value.ref b :: argsL).toArray q B ∧
      Steps p.tables e below (T.setTop g) ((B.U.setTop { g with stack := rest }).pushFrame (.throwing q))) := by
  obtain ⟨mk, methM, hnamed, hmethM, hstM, habM⟩ := Cond.instanceMethod_spec hinst
  obtain ⟨m8, methM', cM, hn8, hmethM', -, -, -, -, -, -, hsigM⟩ := Cond.codeWith_spec hcode
  cases Option.some.inj (hn8.symm.trans hnamed)
  cases hmethM.symm.trans hmethM'
  obtain ⟨c2, r2, m2, q1, q2, q3, q4, kP, hkP, hkPi⟩ := Cond.selects_spec hsel
  cases hcls.symm.trans q1
  cases (State.methodFound?_of_named hnamed hy).symm.trans q2
  cases hnamed.symm.trans q3
  have hselP : selectMethod e.platform s.vm cellB.cls mk = .method mk := by rw [Launch.admits_selectMethod X.admits]; exact q4
  obtain ⟨vm₁, X₁, hstep₁⟩ := X.invokevirtual hexec hown hlink hnamed hmethM hstM hkP hkPi hy (a := b) (cell := cellB) hcell
    (fun z h => by rw [h] at hobj; cases hobj) hselP hmethM habM hkP hkPi (g := g) hg (argsL := argsL) (rest := rest) (hlen _ hsigM) hstack hdg
  rcases hK m meth c ⟨T.setVm vm₁, locs, cells, slots⟩ { g with stack := rest } (.invokevirtual index) mk (Value.ref b :: argsL).toArray X₁ hg hsize hdg hW (X₁.named hnamed) (hpre vm₁ X₁.warmed) with ⟨v, B, X', hpost, hsteps⟩ | ⟨q, B, X', hpost, hsteps⟩
  · exact Or.inl ⟨v, vm₁, B, X₁.warmed, X', hpost, fun target h => hstep₁ _ fun acts => by rw [doInvoke_state]; exact hsteps.trans h⟩
  · exact Or.inr ⟨q, vm₁, B, X₁.warmed, X', hpost, hstep₁ _ fun acts => by rw [doInvoke_state]; exact hsteps⟩
theorem vx_callSX (X : Stand p l e R s m args below meth c T locs cells slots) (hexec : p.tables.exec = Jvm.exec) {own : String} {index : Nat} {y : MethodName} {bytes : ByteArray} {maxL : Nat} {ret : Option FieldType} {hh : List (Nat × Nat × Nat × Nat)}
    (hown : s.vm.findClass own = some m.cls) (hlink : (Cond.methodLink own index y).before args s = true) (hstat : (Cond.static y).before args s = true) (hinit : (Cond.initialized y.cls).before args s = true)
    (hcode : (Cond.codeWith y bytes maxL ret hh).before args s = true) (hy : y.cls ≠ "java/lang/invoke/MethodHandle" ∧ y.cls ≠ "java/lang/invoke/VarHandle")
    {W9 : Nat} {Pre : Pt → Array Value → Prop} {Post : Pt → Array Value → Option Value → Pt → Prop} {PostX : Pt → Array Value → Addr → Pt → Prop} (hK : vx_Back l R p e below s args y 3 W9 Pre Post PostX)
    {g : JFrame} (hg : g.method = m) (hsize : g.locals.size = c.maxLocals) {argsL rest : List Value} (hlen : ∀ sig, parseMethodDescriptor y.desc = some sig → argsL.length = sig.parameters.length)
    (hstack : g.stack = argsL.reverse ++ rest) (hW : 2 * g.monitorRoom + (rest.map fun v => v.category).sum ≤ W9) (hdg : decode c.code g.pc = .ok (.invokestatic index, 3))
    (hpre : ∀ vm₁, s.WarmedH vm₁ → Pre ⟨T.setVm vm₁, locs, cells, slots⟩ argsL.toArray) :
    (∃ (v : Option Value) (vm₁ : Vm) (B : Pt), s.WarmedH vm₁ ∧ Stand p l e R s m args below meth c B.U B.locs B.cells B.slots ∧ Post ⟨T.setVm vm₁, locs, cells, slots⟩ argsL.toArray v B ∧
      ∀ target, Steps p.tables e below (B.U.setTop { g with pc := g.pc + 3, stack := v.toList ++ rest }) target → Steps p.tables e below (T.setTop g) target) ∨
    (∃ (q : Addr) (vm₁ : Vm) (B : Pt), s.WarmedH vm₁ ∧ Stand p l e R s m args below meth c B.U B.locs B.cells B.slots ∧ PostX ⟨T.setVm vm₁, locs, cells, slots⟩ argsL.toArray q B ∧
      Steps p.tables e below (T.setTop g) ((B.U.setTop { g with stack := rest }).pushFrame (.throwing q))) := by
  obtain ⟨mk, methM, cM, hnamed, hmethM, -, -, -, -, -, -, hsigM⟩ := Cond.codeWith_spec hcode
  have hstatic : methM.isStatic = true := Cond.static_spec hnamed hmethM hstat
  obtain ⟨kP, hkP, -⟩ := className_of_methodNamed hnamed
  have hinitP : kP.init = .initialized := Cond.initialized_spec (findClass_of_methodNamed hnamed) hkP hinit
  obtain ⟨vm₁, X₁, hstep₁⟩ := X.invokestatic hexec hown hlink hnamed hmethM hstatic hkP hinitP hy (g := g) hg (argsL := argsL) (rest := rest) (hlen _ hsigM) hstack hdg
  rcases hK m meth c ⟨T.setVm vm₁, locs, cells, slots⟩ { g with stack := rest } (.invokestatic index) mk argsL.toArray X₁ hg hsize hdg hW (X₁.named hnamed) (hpre vm₁ X₁.warmed) with ⟨v, B, X', hpost, hsteps⟩ | ⟨q, B, X', hpost, hsteps⟩
  · exact Or.inl ⟨v, vm₁, B, X₁.warmed, X', hpost, fun target h => hstep₁ _ fun acts => by rw [doInvoke_state]; exact hsteps.trans h⟩
  · exact Or.inr ⟨q, vm₁, B, X₁.warmed, X', hpost, hstep₁ _ fun acts => by rw [doInvoke_state]; exact hsteps⟩
theorem vx_callVW (X : Stand p l e R s m args below meth c T locs cells slots) (hexec : p.tables.exec = Jvm.exec) {own C : String} {index : Nat} {y : MethodName} {bytes : ByteArray} {maxL : Nat} {ret : Option FieldType} {hh : List (Nat × Nat × Nat × Nat)}
    (hown : s.vm.findClass own = some m.cls) (hlink : (Cond.methodLink own index y).before args s = true) (hinst : (Cond.instanceMethod y).before args s = true) (hsel : (Cond.selects C y y).before args s = true)
    (hcode : (Cond.codeWith y bytes maxL ret hh).before args s = true) (hy : y.cls ≠ "java/lang/invoke/MethodHandle" ∧ y.cls ≠ "java/lang/invoke/VarHandle")
    {W9 : Nat} {Pre : Pt → Array Value → Prop} {Post : Pt → Array Value → Option Value → Pt → Prop} (hK : Back l R p e below s args y 3 W9 Pre Post)
    {b : Addr} {cellB : Cell} (hcell : T.heap[b]? = some cellB) (hobj : cellB.vm.isStatics = false) (hcls : s.vm.findClass C = some cellB.cls)
    {g : JFrame} (hg : g.method = m) (hsize : g.locals.size = c.maxLocals) {argsL rest : List Value} (hlen : ∀ sig, parseMethodDescriptor y.desc = some sig → argsL.length = sig.parameters.length)
    (hstack : g.stack = argsL.reverse ++ .ref b :: rest) (hW : 2 * g.monitorRoom + (rest.map fun v => v.category).sum ≤ W9) (hdg : decode c.code g.pc = .ok (.invokevirtual index, 3))
    (hpre : ∀ vm₁, s.WarmedH vm₁ → Pre ⟨T.setVm vm₁, locs, cells, slots⟩ (Value.ref b :: argsL).toArray) :
    ∃ (v : Option Value) (vm₁ : Vm) (B : Pt), s.WarmedH vm₁ ∧ Stand p l e R s m args below meth c B.U B.locs B.cells B.slots ∧ Post ⟨T.setVm vm₁, locs, cells, slots⟩ (Value.ref b :: argsL).toArray v B ∧
      ∀ target, Steps p.tables e below (B.U.setTop { g with pc := g.pc + 3, stack := v.toList ++ rest }) target → Steps p.tables e below (T.setTop g) target := by
  obtain ⟨mk, methM, hnamed, hmethM, hstM, habM⟩ := Cond.instanceMethod_spec hinst
  obtain ⟨m8, methM', cM, hn8, hmethM', -, -, -, -, -, -, hsigM⟩ := Cond.codeWith_spec hcode
  cases Option.some.inj (hn8.symm.trans hnamed)
  cases hmethM.symm.trans hmethM'
  obtain ⟨c2, r2, m2, q1, q2, q3, q4, kP, hkP, hkPi⟩ := Cond.selects_spec hsel
  cases hcls.symm.trans q1
  cases (State.methodFound?_of_named hnamed hy).symm.trans q2
  cases hnamed.symm.trans q3
  have hselP : selectMethod e.platform s.vm cellB.cls mk = .method mk := by rw [Launch.admits_selectMethod X.admits]; exact q4
  obtain ⟨vm₁, X₁, hstep₁⟩ := X.invokevirtual hexec hown hlink hnamed hmethM hstM hkP hkPi hy (a := b) (cell := cellB) hcell
    (fun z h => by rw [h] at hobj; cases hobj) hselP hmethM habM hkP hkPi (g := g) hg (argsL := argsL) (rest := rest) (hlen _ hsigM) hstack hdg
  obtain ⟨v, B, X', hpost, hsteps⟩ := hK m meth c ⟨T.setVm vm₁, locs, cells, slots⟩ { g with stack := rest } (.invokevirtual index) mk (Value.ref b :: argsL).toArray X₁ hg hsize hdg hW (X₁.named hnamed) (hpre vm₁ X₁.warmed)
  exact ⟨v, vm₁, B, X₁.warmed, X', hpost, fun target h => hstep₁ _ fun acts => by rw [doInvoke_state]; exact hsteps.trans h⟩
abbrev vx_CVW (R : Room) (s : State) (args : Array Value) (own C : String) (index : Nat) (y : MethodName) (bytes : ByteArray) (maxL : Nat) (ret : Option FieldType) (hh : List (Nat × Nat × Nat × Nat)) (ws : List Cond) (rm : Room) (mc ms n : Nat) : Prop :=
  (rm.cells = mc ∧ rm.slots = ms ∧ rm.frames + 1 ≤ R.frames ∧ 8 + (maxL + 11) + rm.locals ≤ R.locals ∧ (∀ w ∈ ws, ∀ (a' : Array Value) (U : State), s.WarmedH U.vm → w.before a' U = true) ∧ Cond.codeWith y bytes maxL ret hh ∈ ws) ∧
  (Cond.codeWith y bytes maxL ret hh).before args s = true ∧ (Cond.initialized y.cls).before args s = true ∧ (y.cls ≠ "java/lang/invoke/MethodHandle" ∧ y.cls ≠ "java/lang/invoke/VarHandle") ∧
  (∀ sig, parseMethodDescriptor y.desc = some sig → n = sig.parameters.length) ∧ (Cond.methodLink own index y).before args s = true ∧ (Cond.instanceMethod y).before args s = true ∧ (Cond.selects C y y).before args s = true
theorem vx_cwVW {own C : String} {index maxL mc ms : Nat} {y : MethodName} {bytes : ByteArray} {ret : Option FieldType} {hh : List (Nat × Nat × Nat × Nat)} {Ts ws ws' : List Cond} {rm : Room} (n : Nat) (ht : ∀ w ∈ Ts, w.before args s = true) (hT : GoodIn Ts (wsV own index C y ws)) (hw : ws = Cond.codeWith y bytes maxL ret hh :: ws') (hrc : rm.cells = mc) (hrs : rm.slots = ms)
    (hd : y.cls = C ∧ y.cls ≠ "java/lang/invoke/MethodHandle" ∧ y.cls ≠ "java/lang/invoke/VarHandle" ∧ (parseMethodDescriptor y.desc).map (fun d => d.parameters.length) = some n) (hR : rm.frames + 1 ≤ R.frames ∧ 8 + (maxL + 11) + rm.locals ≤ R.locals) :
    vx_CVW R s args own C index y bytes maxL ret hh ws rm mc ms n := by
  obtain ⟨hC, hd⟩ := hd
  subst hC
  have ok : ∀ w ∈ wsV own index y.cls y ws, w.before args s = true := fun w h => ht w (hT w h).1
  have hG : GoodIn Ts ws := fun w h => hT w (by unfold wsV; exact List.mem_append_right _ h)
  have hc : Cond.codeWith y bytes maxL ret hh ∈ ws := by rw [hw]; exact List.mem_cons_self
  refine ⟨⟨hrc, hrs, hR.1, hR.2, pay_in ht hG, hc⟩, ht _ (hG _ hc).1, ok _ (by simp [wsV]), ⟨hd.1, hd.2.1⟩, fun sig h => ?_, ok _ (by simp [wsV]), ok _ (by simp [wsV]), ok _ (by simp [wsV])⟩
  have h2 := hd.2.2
  rw [h] at h2
  exact (Option.some.inj h2).symm
theorem vx_runVW {y : MethodName} {bytes cc : ByteArray} {maxL nL mc ms n index : Nat} {ret : Option FieldType} {hh : List (Nat × Nat × Nat × Nat)} {ws : List Cond} {rm : Room} {Pc : Array Value → State → Prop} {Qc : Array Value → State → Outcome → State → Prop} {free : Addr → Prop} {Ts : List Cond} {own C : String} {b : Addr} {As rest : List Value} {g : JFrame}
    (S : CallFix p m c cc nL s args Ts own) (hM : Met l y ws rm Pc Qc mc ms free) (cw : vx_CVW R s args own C index y bytes maxL ret hh ws rm mc ms n) (hp : PreV s H C b Pc As)
    (hg : g.method = m) (hn : As.length = n) (hsize : g.locals.size = nL) (hstack : g.stack = As.reverse ++ .ref b :: rest) (hW : 2 * g.monitorRoom + (rest.map fun v => v.category).sum ≤ 8) (hdg : decode cc g.pc = .ok (.invokevirtual index, 3)) (hf : cells + mc ≤ R.cells ∧ slots + ms ≤ R.slots) :
    va_Run p l e R s m args below meth c H locs cells slots mc ms g rest (Qc (Value.ref b :: As).toArray) free := by
  obtain ⟨⟨hrc, hrs, hfr, hlo, hws, hcw⟩, hcode, hini, hy, hlen, hl, hin, hse⟩ := cw
  have hK : Back l R p e below s args y 3 8 (PreOf R mc ms Pc) (PostOf Qc mc ms free) := va_backW (hh := hh) (bytes := bytes) (maxL := maxL) (ret := ret) hM hp.1 hrc hrs hfr hlo hws hcw (fun a' U hW => word_at hW (Or.inl (by first | rfl | simp [Cond.onTables, Cond.keeps, Cond.steady])) hini)
  obtain ⟨hx, hb, hml, ho, -⟩ := S
  obtain ⟨-, ⟨cellB, hcB, hoB, hclB⟩, hPc⟩ := hp
  intro T hT X
  obtain ⟨v, vm₁, ⟨U', l2, c2, s2⟩, hW₁, X', ⟨g', mk, t, L, e1, e2, hq, h1, hL, h2, h3⟩, st⟩ := vx_callVW X hx (C := C) (hh := hh) (bytes := bytes) (maxL := maxL) (ret := ret) ho hl hin hse hcode hy hK (by rw [hT]; exact hcB) hoB hclB hg (hsize.trans hml.symm) (argsL := As) (rest := rest) (fun sig h => hn.trans (hlen sig h)) hstack hW (by rw [hb]; exact hdg)
    (fun vm₁ hW₁ => ⟨hf.1, hf.2, hPc (T.setVm vm₁) hT hW₁⟩)
  dsimp only [Pt.U, Pt.locs, Pt.cells, Pt.slots] at X' e1 e2 h1 h2 h3 st
  subst h1; subst h2; subst h3
  exact ⟨v, (T.setVm vm₁).calling g' mk (Value.ref b :: As).toArray, t, U', L, hT, X', hL, e1, e2, hq, st⟩
section
variable {y : MethodName} {bytes cc : ByteArray} {maxL nL mc ms n index : Nat} {ret : Option FieldType} {ws : List Cond} {rm : Room} {Pc : Array Value → State → Prop} {Qc : Array Value → State → Outcome → State → Prop} {XC : String → State → State → Prop} {free : Addr → Prop} {Ts : List Cond} {own C : String} {b : Addr} {As rest : List Value} {g : JFrame}
theorem vx_runVX {hh : List (Nat × Nat × Nat × Nat)} (S : CallFix p m c cc nL s args Ts own) (hM : vx_Met l y ws rm Pc Qc XC mc ms free) (cw : vx_CVW R s args own C index y bytes maxL ret hh ws rm mc ms n) (hp : PreV s H C b Pc As)
    (hg : g.method = m) (hn : As.length = n) (hsize : g.locals.size = nL) (hstack : g.stack = As.reverse ++ .ref b :: rest) (hW : 2 * g.monitorRoom + (rest.map fun v => v.category).sum ≤ 8) (hdg : decode cc g.pc = .ok (.invokevirtual index, 3)) (hf : cells + mc ≤ R.cells ∧ slots + ms ≤ R.slots) :
    vx_Run p l e R s m args below meth c H locs cells slots mc ms g rest (Qc (Value.ref b :: As).toArray) XC free := by
  obtain ⟨⟨hrc, hrs, hfr, hlo, hws, hcw⟩, hcode, hini, hy, hlen, hl, hin, hse⟩ := cw
  have hK : vx_Back l R p e below s args y 3 8 (PreOf R mc ms Pc) (PostOf Qc mc ms free) (vx_Post XC mc ms free) := vx_backW (hh := hh) (bytes := bytes) (maxL := maxL) (ret := ret) hM hp.1 hrc hrs hfr hlo hws hcw (fun a' U hW => word_at hW (Or.inl (by first | rfl | simp [Cond.onTables, Cond.keeps, Cond.steady])) hini)
  obtain ⟨hx, hb, hml, ho, -⟩ := S
  obtain ⟨-, ⟨cellB, hcB, hoB, hclB⟩, hPc⟩ := hp
  intro T hT X
  rcases vx_callVX X hx (C := C) (hh := hh) (bytes := bytes) (maxL := maxL) (ret := ret) ho hl hin hse hcode hy hK (by rw [hT]; exact hcB) hoB hclB hg (hsize.trans hml.symm) (argsL := As) (rest := rest) (fun sig h => hn.trans (hlen sig h)) hstack hW (by rw [hb]; exact hdg)
    (fun vm₁ hW₁ => ⟨hf.1, hf.2, hPc (T.setVm vm₁) hT hW₁⟩) with ⟨v, vm₁, ⟨U', l2, c2, s2⟩, hW₁, X', ⟨g', mk, t, L, e1, e2, hq, h1, hL, h2, h3⟩, st⟩ | ⟨q, vm₁, ⟨U', l2, c2, s2⟩, hW₁, X', ⟨g', mk, t, L, E, ce, e1, e2, hq, hce, hcv, hcl, h1, hL, h2, h3⟩, st⟩
  · dsimp only [Pt.U, Pt.locs, Pt.cells, Pt.slots] at X' e1 e2 h1 h2 h3 st
    subst h1; subst h2; subst h3
    exact Or.inl ⟨v, (T.setVm vm₁).calling g' mk (Value.ref b :: As).toArray, t, U', L, hT, X', hL, e1, e2, hq, st⟩
  · dsimp only [Pt.U, Pt.locs, Pt.cells, Pt.slots] at X' e1 e2 h1 h2 h3 st hcl
    subst h1; subst h2; subst h3
    exact Or.inr ⟨q, (T.setVm vm₁).calling g' mk (Value.ref b :: As).toArray, t, U', L, E, ce, hT, X', hL, e1, e2, hq, hce, hcv, vx_cls hW₁ hcl, st⟩
theorem vx_runSX {hh : List (Nat × Nat × Nat × Nat)} (S : CallFix p m c cc nL s args Ts own) (hM : vx_Met l y ws rm Pc Qc XC mc ms free) (cw : vx_CSW R s args own index y bytes maxL ret hh ws rm mc ms n) (hp : PreS s H Pc As)
    (hg : g.method = m) (hn : As.length = n) (hsize : g.locals.size = nL) (hstack : g.stack = As.reverse ++ rest) (hW : 2 * g.monitorRoom + (rest.map fun v => v.category).sum ≤ 8) (hdg : decode cc g.pc = .ok (.invokestatic index, 3)) (hf : cells + mc ≤ R.cells ∧ slots + ms ≤ R.slots) :
    vx_Run p l e R s m args below meth c H locs cells slots mc ms g rest (Qc As.toArray) XC free := by
  obtain ⟨⟨hrc, hrs, hfr, hlo, hws, hcw⟩, hcode, hini, hy, hlen, hl, hstt⟩ := cw
  have hK : vx_Back l R p e below s args y 3 8 (PreOf R mc ms Pc) (PostOf Qc mc ms free) (vx_Post XC mc ms free) := vx_backW (hh := hh) (bytes := bytes) (maxL := maxL) (ret := ret) hM hp.1 hrc hrs hfr hlo hws hcw (fun a' U hW => word_at hW (Or.inl (by first | rfl | simp [Cond.onTables, Cond.keeps, Cond.steady])) hini)
  obtain ⟨hx, hb, hml, ho, -⟩ := S
  intro T hT X
  rcases vx_callSX X hx (hh := hh) (bytes := bytes) (maxL := maxL) (ret := ret) ho hl hstt hini hcode hy hK hg (hsize.trans hml.symm) (argsL := As) (rest := rest) (fun sig h => hn.trans (hlen sig h)) hstack hW (by rw [hb]; exact hdg)
    (fun vm₁ hW₁ => ⟨hf.1, hf.2, hp.2 (T.setVm vm₁) hT hW₁⟩) with ⟨v, vm₁, ⟨U', l2, c2, s2⟩, hW₁, X', ⟨g', mk, t, L, e1, e2, hq, h1, hL, h2, h3⟩, st⟩ | ⟨q, vm₁, ⟨U', l2, c2, s2⟩, hW₁, X', ⟨g', mk, t, L, E, ce, e1, e2, hq, hce, hcv, hcl, h1, hL, h2, h3⟩, st⟩
  · dsimp only [Pt.U, Pt.locs, Pt.cells, Pt.slots] at X' e1 e2 h1 h2 h3 st
    subst h1; subst h2; subst h3
    exact Or.inl ⟨v, (T.setVm vm₁).calling g' mk As.toArray, t, U', L, hT, X', hL, e1, e2, hq, st⟩
  · dsimp only [Pt.U, Pt.locs, Pt.cells, Pt.slots] at X' e1 e2 h1 h2 h3 st hcl
    subst h1; subst h2; subst h3
    exact Or.inr ⟨q, (T.setVm vm₁).calling g' mk As.toArray, t, U', L, E, ce, hT, X', hL, e1, e2, hq, hce, hcv, vx_cls hW₁ hcl, st⟩
end
end VXH
theorem vx_ofWH {l : Launch} {y : MethodName} {ws ws' : List Cond} {rm : Room} {Pc : Array Value → State → Prop} {Qc : Array Value → State → Outcome → State → Prop} {XC : String → State → State → Prop} {mc ms : Nat} {free : Addr → Prop} {cc : ByteArray} {maxL : Nat} {ret : Option FieldType} {hh : List (Nat × Nat × Nat × Nat)}
    (hy : plainName y.cls = true) (hw : ws = Cond.codeWith y cc maxL ret hh :: ws')
    (body : ∀ p e s m args below meth c s₁, BodyLoose p l y (headSpec ws rm) cc maxL ret e s m args below meth c s₁ → c.maxLocals = maxL → Pc args s →
      W p l e (headSpec ws rm).room s m args below meth c s.heap [] 0 0 (vx_MQ below Qc XC args s mc ms free) (entryFrame m args maxL)) : vx_Met l y ws rm Pc Qc XC mc ms free := by
  refine MetFree.of_bodyS (code := cc) (maxLocals := maxL) (ret := ret) hy ?_ ?_
  · intro args s m h hn
    obtain ⟨m9, meth, c, hn9, h1, h2, h3, h4, -, h5, h6, -⟩ := Cond.codeWith_spec (atoms_spec (ws := ws) h _ (by rw [hw]; exact List.mem_cons_self))
    cases hn.symm.trans hn9
    exact ⟨meth, c, h1, h2, h3, h4, h5, h6⟩
  · intro p e s m args below meth c s₁ B hml hP _
    have hh0 : s₁.heap = s.heap := by rw [B.state]; rfl
    obtain ⟨t, a1, o, b1, b2, b3⟩ := body p e s m args below meth c s₁ B hml hP s₁ hh0 (Stand.of_body B)
    exact ⟨t, o, a1, b1, b2, b3⟩
/-! ===== END ===== -/
end
section
-- ===== PART A: goes FIRST, ahead of the names: the tables' words, and 'selects' of the private methods out of them =====
/-- a private method of a class that the tables say can be made, by its rows of tables_1 -/
def lw_okq (q : MethodName × Nat) : Prop := (q.1.cls ≠ "java/lang/invoke/MethodHandle" ∧ q.1.cls ≠ "java/lang/invoke/VarHandle") ∧ Cond.instantiable q.1.cls q.2 ∈ tables_1 ∧ Cond.privateMethod q.1 ∈ tables_1 ∧ Cond.instanceMethod q.1 ∈ tables_1
theorem lw_p0 : lw_okq (⟨"MacroWiki", "pageAt", "(I)LMacroWiki$Page;"⟩, 5) := ⟨⟨by decide +kernel, by decide +kernel⟩, List.mem_of_getElem? (i := 18) (by decide +kernel), List.mem_of_getElem? (i := 167) (by decide +kernel), List.mem_of_getElem? (i := 168) (by decide +kernel)⟩
theorem lw_p1 : lw_okq (⟨"java/lang/Throwable", "fillInStackTrace", "(I)Ljava/lang/Throwable;"⟩, 6) := ⟨⟨by decide +kernel, by decide +kernel⟩, List.mem_of_getElem? (i := 210) (by decide +kernel), List.mem_of_getElem? (i := 208) (by decide +kernel), List.mem_of_getElem? (i := 209) (by decide +kernel)⟩
theorem lw_p2 : lw_okq (⟨"MacroWiki", "countBreaches", "(LMacroWiki$Page;)I"⟩, 5) := ⟨⟨by decide +kernel, by decide +kernel⟩, List.mem_of_getElem? (i := 18) (by decide +kernel), List.mem_of_getElem? (i := 240) (by decide +kernel), List.mem_of_getElem? (i := 241) (by decide +kernel)⟩
theorem lw_p3 : lw_okq (⟨"MacroWiki", "addPiece", "(III)I"⟩, 5) := ⟨⟨by decide +kernel, by decide +kernel⟩, List.mem_of_getElem? (i := 18) (by decide +kernel), List.mem_of_getElem? (i := 283) (by decide +kernel), List.mem_of_getElem? (i := 284) (by decide +kernel)⟩
theorem lw_p4 : lw_okq (⟨"MacroWiki", "rankOfUser", "(I)I"⟩, 5) := ⟨⟨by decide +kernel, by decide +kernel⟩, List.mem_of_getElem? (i := 18) (by decide +kernel), List.mem_of_getElem? (i := 385) (by decide +kernel), List.mem_of_getElem? (i := 386) (by decide +kernel)⟩
theorem lw_p5 : lw_okq (⟨"MacroWiki", "forceOn", "(I)I"⟩, 5) := ⟨⟨by decide +kernel, by decide +kernel⟩, List.mem_of_getElem? (i := 18) (by decide +kernel), List.mem_of_getElem? (i := 393) (by decide +kernel), List.mem_of_getElem? (i := 394) (by decide +kernel)⟩
theorem lw_p6 : lw_okq (⟨"MacroWiki", "refusalOf", "(ILMacroWiki$Text;)I"⟩, 5) := ⟨⟨by decide +kernel, by decide +kernel⟩, List.mem_of_getElem? (i := 18) (by decide +kernel), List.mem_of_getElem? (i := 408) (by decide +kernel), List.mem_of_getElem? (i := 409) (by decide +kernel)⟩
theorem lw_p7 : lw_okq (⟨"MacroWiki$Net", "callsOf", "(II)I"⟩, 5) := ⟨⟨by decide +kernel, by decide +kernel⟩, List.mem_of_getElem? (i := 51) (by decide +kernel), List.mem_of_getElem? (i := 430) (by decide +kernel), List.mem_of_getElem? (i := 431) (by decide +kernel)⟩
theorem lw_p8 : lw_okq (⟨"MacroWiki$Net", "depthOverCalled", "(I)I"⟩, 5) := ⟨⟨by decide +kernel, by decide +kernel⟩, List.mem_of_getElem? (i := 51) (by decide +kernel), List.mem_of_getElem? (i := 444) (by decide +kernel), List.mem_of_getElem? (i := 445) (by decide +kernel)⟩
theorem lw_p9 : lw_okq (⟨"MacroWiki$Net", "extentOverCalled", "(I)I"⟩, 5) := ⟨⟨by decide +kernel, by decide +kernel⟩, List.mem_of_getElem? (i := 51) (by decide +kernel), List.mem_of_getElem? (i := 464) (by decide +kernel), List.mem_of_getElem? (i := 465) (by decide +kernel)⟩
theorem lw_p10 : lw_okq (⟨"MacroWiki", "hasRankBelow", "(II)Z"⟩, 5) := ⟨⟨by decide +kernel, by decide +kernel⟩, List.mem_of_getElem? (i := 18) (by decide +kernel), List.mem_of_getElem? (i := 479) (by decide +kernel), List.mem_of_getElem? (i := 480) (by decide +kernel)⟩
theorem lw_p11 : lw_okq (⟨"MacroWiki", "settle", "()V"⟩, 5) := ⟨⟨by decide +kernel, by decide +kernel⟩, List.mem_of_getElem? (i := 18) (by decide +kernel), List.mem_of_getElem? (i := 496) (by decide +kernel), List.mem_of_getElem? (i := 497) (by decide +kernel)⟩
theorem lw_p12 : lw_okq (⟨"MacroWiki", "spreadPage", "(I)V"⟩, 5) := ⟨⟨by decide +kernel, by decide +kernel⟩, List.mem_of_getElem? (i := 18) (by decide +kernel), List.mem_of_getElem? (i := 501) (by decide +kernel), List.mem_of_getElem? (i := 502) (by decide +kernel)⟩
theorem lw_p13 : lw_okq (⟨"MacroWiki", "spreadPiece", "(LMacroWiki$Spread;LMacroWiki$Text;II)V"⟩, 5) := ⟨⟨by decide +kernel, by decide +kernel⟩, List.mem_of_getElem? (i := 18) (by decide +kernel), List.mem_of_getElem? (i := 509) (by decide +kernel), List.mem_of_getElem? (i := 510) (by decide +kernel)⟩
theorem lw_p14 : lw_okq (⟨"MacroWiki", "walkPage", "(LMacroWiki$Walk;III)V"⟩, 5) := ⟨⟨by decide +kernel, by decide +kernel⟩, List.mem_of_getElem? (i := 18) (by decide +kernel), List.mem_of_getElem? (i := 702) (by decide +kernel), List.mem_of_getElem? (i := 703) (by decide +kernel)⟩
theorem lw_p15 : lw_okq (⟨"MacroWiki", "walkPiece", "(LMacroWiki$Walk;LMacroWiki$Text;III)V"⟩, 5) := ⟨⟨by decide +kernel, by decide +kernel⟩, List.mem_of_getElem? (i := 18) (by decide +kernel), List.mem_of_getElem? (i := 710) (by decide +kernel), List.mem_of_getElem? (i := 711) (by decide +kernel)⟩
def lw_privs_1 : List (MethodName × Nat) := [(⟨"MacroWiki", "pageAt", "(I)LMacroWiki$Page;"⟩, 5), (⟨"java/lang/Throwable", "fillInStackTrace", "(I)Ljava/lang/Throwable;"⟩, 6), (⟨"MacroWiki", "countBreaches", "(LMacroWiki$Page;)I"⟩, 5), (⟨"MacroWiki", "addPiece", "(III)I"⟩, 5), (⟨"MacroWiki", "rankOfUser", "(I)I"⟩, 5), (⟨"MacroWiki", "forceOn", "(I)I"⟩, 5), (⟨"MacroWiki", "refusalOf", "(ILMacroWiki$Text;)I"⟩, 5), (⟨"MacroWiki$Net", "callsOf", "(II)I"⟩, 5), (⟨"MacroWiki$Net", "depthOverCalled", "(I)I"⟩, 5), (⟨"MacroWiki$Net", "extentOverCalled", "(I)I"⟩, 5), (⟨"MacroWiki", "hasRankBelow", "(II)Z"⟩, 5), (⟨"MacroWiki", "settle", "()V"⟩, 5), (⟨"MacroWiki", "spreadPage", "(I)V"⟩, 5), (⟨"MacroWiki", "spreadPiece", "(LMacroWiki$Spread;LMacroWiki$Text;II)V"⟩, 5), (⟨"MacroWiki", "walkPage", "(LMacroWiki$Walk;III)V"⟩, 5), (⟨"MacroWiki", "walkPiece", "(LMacroWiki$Walk;LMacroWiki$Text;III)V"⟩, 5)]
theorem lw_r1 : ∀ q ∈ lw_privs_1, lw_okq q := List.forall_mem_cons.mpr ⟨lw_p0, List.forall_mem_cons.mpr ⟨lw_p1, List.forall_mem_cons.mpr ⟨lw_p2, List.forall_mem_cons.mpr ⟨lw_p3, List.forall_mem_cons.mpr ⟨lw_p4, List.forall_mem_cons.mpr ⟨lw_p5, List.forall_mem_cons.mpr ⟨lw_p6, List.forall_mem_cons.mpr ⟨lw_p7, List.forall_mem_cons.mpr ⟨lw_p8, List.forall_mem_cons.mpr ⟨lw_p9, List.forall_mem_cons.mpr ⟨lw_p10, List.forall_mem_cons.mpr ⟨lw_p11, List.forall_mem_cons.mpr ⟨lw_p12, List.forall_mem_cons.mpr ⟨lw_p13, List.forall_mem_cons.mpr ⟨lw_p14, List.forall_mem_cons.mpr ⟨lw_p15, fun _ h => absurd h List.not_mem_nil⟩⟩⟩⟩⟩⟩⟩⟩⟩⟩⟩⟩⟩⟩⟩⟩
theorem lw_p16 : lw_okq (⟨"MacroWiki", "behindRedirects", "(I)I"⟩, 5) := ⟨⟨by decide +kernel, by decide +kernel⟩, List.mem_of_getElem? (i := 18) (by decide +kernel), List.mem_of_getElem? (i := 732) (by decide +kernel), List.mem_of_getElem? (i := 733) (by decide +kernel)⟩
theorem lw_p17 : lw_okq (⟨"MacroWiki", "isBroken", "(LMacroWiki$Spread;I)Z"⟩, 5) := ⟨⟨by decide +kernel, by decide +kernel⟩, List.mem_of_getElem? (i := 18) (by decide +kernel), List.mem_of_getElem? (i := 758) (by decide +kernel), List.mem_of_getElem? (i := 759) (by decide +kernel)⟩
theorem lw_p18 : lw_okq (⟨"MacroWiki", "isGood", "(I)Z"⟩, 5) := ⟨⟨by decide +kernel, by decide +kernel⟩, List.mem_of_getElem? (i := 18) (by decide +kernel), List.mem_of_getElem? (i := 762) (by decide +kernel), List.mem_of_getElem? (i := 763) (by decide +kernel)⟩
theorem lw_p19 : lw_okq (⟨"MacroWiki", "hasGoodLink", "(II)Z"⟩, 5) := ⟨⟨by decide +kernel, by decide +kernel⟩, List.mem_of_getElem? (i := 18) (by decide +kernel), List.mem_of_getElem? (i := 785) (by decide +kernel), List.mem_of_getElem? (i := 786) (by decide +kernel)⟩
theorem lw_p20 : lw_okq (⟨"MacroWiki", "leadsTo", "(II)Z"⟩, 5) := ⟨⟨by decide +kernel, by decide +kernel⟩, List.mem_of_getElem? (i := 18) (by decide +kernel), List.mem_of_getElem? (i := 789) (by decide +kernel), List.mem_of_getElem? (i := 790) (by decide +kernel)⟩
theorem lw_p21 : lw_okq (⟨"MacroWikiModel", "hasRoom", "()Z"⟩, 22) := ⟨⟨by decide +kernel, by decide +kernel⟩, List.mem_of_getElem? (i := 800) (by decide +kernel), List.mem_of_getElem? (i := 887) (by decide +kernel), List.mem_of_getElem? (i := 888) (by decide +kernel)⟩
theorem lw_p22 : lw_okq (⟨"MacroWikiModel", "goes", "(ZZZ)Z"⟩, 22) := ⟨⟨by decide +kernel, by decide +kernel⟩, List.mem_of_getElem? (i := 800) (by decide +kernel), List.mem_of_getElem? (i := 891) (by decide +kernel), List.mem_of_getElem? (i := 892) (by decide +kernel)⟩
theorem lw_p23 : lw_okq (⟨"MacroWikiModel", "adds", "(III)I"⟩, 22) := ⟨⟨by decide +kernel, by decide +kernel⟩, List.mem_of_getElem? (i := 800) (by decide +kernel), List.mem_of_getElem? (i := 895) (by decide +kernel), List.mem_of_getElem? (i := 896) (by decide +kernel)⟩
theorem lw_p24 : lw_okq (⟨"MacroWikiModel", "refusal", "(III)I"⟩, 22) := ⟨⟨by decide +kernel, by decide +kernel⟩, List.mem_of_getElem? (i := 800) (by decide +kernel), List.mem_of_getElem? (i := 941) (by decide +kernel), List.mem_of_getElem? (i := 942) (by decide +kernel)⟩
theorem lw_p25 : lw_okq (⟨"MacroWikiModel", "laysNow", "()V"⟩, 22) := ⟨⟨by decide +kernel, by decide +kernel⟩, List.mem_of_getElem? (i := 800) (by decide +kernel), List.mem_of_getElem? (i := 945) (by decide +kernel), List.mem_of_getElem? (i := 946) (by decide +kernel)⟩
theorem lw_p26 : lw_okq (⟨"MacroWikiModel", "now", "(I)I"⟩, 22) := ⟨⟨by decide +kernel, by decide +kernel⟩, List.mem_of_getElem? (i := 800) (by decide +kernel), List.mem_of_getElem? (i := 949) (by decide +kernel), List.mem_of_getElem? (i := 950) (by decide +kernel)⟩
theorem lw_p27 : lw_okq (⟨"MacroWikiModel", "laysCalls", "(II)V"⟩, 22) := ⟨⟨by decide +kernel, by decide +kernel⟩, List.mem_of_getElem? (i := 800) (by decide +kernel), List.mem_of_getElem? (i := 953) (by decide +kernel), List.mem_of_getElem? (i := 954) (by decide +kernel)⟩
theorem lw_p28 : lw_okq (⟨"MacroWikiModel", "laysReached", "()V"⟩, 22) := ⟨⟨by decide +kernel, by decide +kernel⟩, List.mem_of_getElem? (i := 800) (by decide +kernel), List.mem_of_getElem? (i := 957) (by decide +kernel), List.mem_of_getElem? (i := 958) (by decide +kernel)⟩
theorem lw_p29 : lw_okq (⟨"MacroWikiModel", "forceOf", "(I)I"⟩, 22) := ⟨⟨by decide +kernel, by decide +kernel⟩, List.mem_of_getElem? (i := 800) (by decide +kernel), List.mem_of_getElem? (i := 961) (by decide +kernel), List.mem_of_getElem? (i := 962) (by decide +kernel)⟩
theorem lw_p30 : lw_okq (⟨"MacroWikiModel", "measures", "()V"⟩, 22) := ⟨⟨by decide +kernel, by decide +kernel⟩, List.mem_of_getElem? (i := 800) (by decide +kernel), List.mem_of_getElem? (i := 968) (by decide +kernel), List.mem_of_getElem? (i := 969) (by decide +kernel)⟩
theorem lw_p31 : lw_okq (⟨"MacroWikiModel", "greatest", "(Z)I"⟩, 22) := ⟨⟨by decide +kernel, by decide +kernel⟩, List.mem_of_getElem? (i := 800) (by decide +kernel), List.mem_of_getElem? (i := 972) (by decide +kernel), List.mem_of_getElem? (i := 973) (by decide +kernel)⟩
def lw_privs_2 : List (MethodName × Nat) := [(⟨"MacroWiki", "behindRedirects", "(I)I"⟩, 5), (⟨"MacroWiki", "isBroken", "(LMacroWiki$Spread;I)Z"⟩, 5), (⟨"MacroWiki", "isGood", "(I)Z"⟩, 5), (⟨"MacroWiki", "hasGoodLink", "(II)Z"⟩, 5), (⟨"MacroWiki", "leadsTo", "(II)Z"⟩, 5), (⟨"MacroWikiModel", "hasRoom", "()Z"⟩, 22), (⟨"MacroWikiModel", "goes", "(ZZZ)Z"⟩, 22), (⟨"MacroWikiModel", "adds", "(III)I"⟩, 22), (⟨"MacroWikiModel", "refusal", "(III)I"⟩, 22), (⟨"MacroWikiModel", "laysNow", "()V"⟩, 22), (⟨"MacroWikiModel", "now", "(I)I"⟩, 22), (⟨"MacroWikiModel", "laysCalls", "(II)V"⟩, 22), (⟨"MacroWikiModel", "laysReached", "()V"⟩, 22), (⟨"MacroWikiModel", "forceOf", "(I)I"⟩, 22), (⟨"MacroWikiModel", "measures", "()V"⟩, 22), (⟨"MacroWikiModel", "greatest", "(Z)I"⟩, 22)]
theorem lw_r2 : ∀ q ∈ lw_privs_2, lw_okq q := List.forall_mem_cons.mpr ⟨lw_p16, List.forall_mem_cons.mpr ⟨lw_p17, List.forall_mem_cons.mpr ⟨lw_p18, List.forall_mem_cons.mpr ⟨lw_p19, List.forall_mem_cons.mpr ⟨lw_p20, List.forall_mem_cons.mpr ⟨lw_p21, List.forall_mem_cons.mpr ⟨lw_p22, List.forall_mem_cons.mpr ⟨lw_p23, List.forall_mem_cons.mpr ⟨lw_p24, List.forall_mem_cons.mpr ⟨lw_p25, List.forall_mem_cons.mpr ⟨lw_p26, List.forall_mem_cons.mpr ⟨lw_p27, List.forall_mem_cons.mpr ⟨lw_p28, List.forall_mem_cons.mpr ⟨lw_p29, List.forall_mem_cons.mpr ⟨lw_p30, List.forall_mem_cons.mpr ⟨lw_p31, fun _ h => absurd h List.not_mem_nil⟩⟩⟩⟩⟩⟩⟩⟩⟩⟩⟩⟩⟩⟩⟩⟩
theorem lw_p32 : lw_okq (⟨"MacroWikiModel", "lays", "(II)V"⟩, 22) := ⟨⟨by decide +kernel, by decide +kernel⟩, List.mem_of_getElem? (i := 800) (by decide +kernel), List.mem_of_getElem? (i := 1016) (by decide +kernel), List.mem_of_getElem? (i := 1017) (by decide +kernel)⟩
theorem lw_p33 : lw_okq (⟨"MacroWikiModel", "behind", "(II)I"⟩, 22) := ⟨⟨by decide +kernel, by decide +kernel⟩, List.mem_of_getElem? (i := 800) (by decide +kernel), List.mem_of_getElem? (i := 1020) (by decide +kernel), List.mem_of_getElem? (i := 1021) (by decide +kernel)⟩
theorem lw_p34 : lw_okq (⟨"MacroWikiModel", "shows", "(III)V"⟩, 22) := ⟨⟨by decide +kernel, by decide +kernel⟩, List.mem_of_getElem? (i := 800) (by decide +kernel), List.mem_of_getElem? (i := 1024) (by decide +kernel), List.mem_of_getElem? (i := 1025) (by decide +kernel)⟩
theorem lw_p35 : lw_okq (⟨"MacroWikiModel", "isShown", "(III)Z"⟩, 22) := ⟨⟨by decide +kernel, by decide +kernel⟩, List.mem_of_getElem? (i := 800) (by decide +kernel), List.mem_of_getElem? (i := 1032) (by decide +kernel), List.mem_of_getElem? (i := 1033) (by decide +kernel)⟩
theorem lw_p36 : lw_okq (⟨"MacroWikiModel", "stands", "(I)I"⟩, 22) := ⟨⟨by decide +kernel, by decide +kernel⟩, List.mem_of_getElem? (i := 800) (by decide +kernel), List.mem_of_getElem? (i := 1053) (by decide +kernel), List.mem_of_getElem? (i := 1054) (by decide +kernel)⟩
theorem lw_p37 : lw_okq (⟨"MacroWikiModel", "linkAt", "(II)I"⟩, 22) := ⟨⟨by decide +kernel, by decide +kernel⟩, List.mem_of_getElem? (i := 800) (by decide +kernel), List.mem_of_getElem? (i := 1061) (by decide +kernel), List.mem_of_getElem? (i := 1062) (by decide +kernel)⟩
theorem lw_p38 : lw_okq (⟨"MacroWikiModel", "isGood", "(I)Z"⟩, 22) := ⟨⟨by decide +kernel, by decide +kernel⟩, List.mem_of_getElem? (i := 800) (by decide +kernel), List.mem_of_getElem? (i := 1069) (by decide +kernel), List.mem_of_getElem? (i := 1070) (by decide +kernel)⟩
theorem lw_p39 : lw_okq (⟨"MacroWikiModel", "showsAnchor", "(II)Z"⟩, 22) := ⟨⟨by decide +kernel, by decide +kernel⟩, List.mem_of_getElem? (i := 800) (by decide +kernel), List.mem_of_getElem? (i := 1073) (by decide +kernel), List.mem_of_getElem? (i := 1074) (by decide +kernel)⟩
theorem lw_p40 : lw_okq (⟨"MacroWikiModel", "breachesOf", "(I)I"⟩, 22) := ⟨⟨by decide +kernel, by decide +kernel⟩, List.mem_of_getElem? (i := 800) (by decide +kernel), List.mem_of_getElem? (i := 1089) (by decide +kernel), List.mem_of_getElem? (i := 1090) (by decide +kernel)⟩
def lw_privs_3 : List (MethodName × Nat) := [(⟨"MacroWikiModel", "lays", "(II)V"⟩, 22), (⟨"MacroWikiModel", "behind", "(II)I"⟩, 22), (⟨"MacroWikiModel", "shows", "(III)V"⟩, 22), (⟨"MacroWikiModel", "isShown", "(III)Z"⟩, 22), (⟨"MacroWikiModel", "stands", "(I)I"⟩, 22), (⟨"MacroWikiModel", "linkAt", "(II)I"⟩, 22), (⟨"MacroWikiModel", "isGood", "(I)Z"⟩, 22), (⟨"MacroWikiModel", "showsAnchor", "(II)Z"⟩, 22), (⟨"MacroWikiModel", "breachesOf", "(I)I"⟩, 22)]
theorem lw_r3 : ∀ q ∈ lw_privs_3, lw_okq q := List.forall_mem_cons.mpr ⟨lw_p32, List.forall_mem_cons.mpr ⟨lw_p33, List.forall_mem_cons.mpr ⟨lw_p34, List.forall_mem_cons.mpr ⟨lw_p35, List.forall_mem_cons.mpr ⟨lw_p36, List.forall_mem_cons.mpr ⟨lw_p37, List.forall_mem_cons.mpr ⟨lw_p38, List.forall_mem_cons.mpr ⟨lw_p39, List.forall_mem_cons.mpr ⟨lw_p40, fun _ h => absurd h List.not_mem_nil⟩⟩⟩⟩⟩⟩⟩⟩⟩
def lw_privs : List (MethodName × Nat) := lw_privs_1 ++ (lw_privs_2 ++ (lw_privs_3))
def lw_tbl : List Cond := k2_sels lw_privs ++ tables_1
theorem lw_privs_ok : ∀ q ∈ lw_privs, lw_okq q := by
  show ∀ q ∈ lw_privs_1 ++ (lw_privs_2 ++ (lw_privs_3)), lw_okq q
  exact List.forall_mem_append.mpr ⟨lw_r1, List.forall_mem_append.mpr ⟨lw_r2, lw_r3⟩⟩

def RX0 : String := "MacroWiki$Net"
def TX0 : u_T := fun k => match k with
  | 0 => ("MacroWiki$Net", "calls", "[I", true)
  | 1 => ("MacroWiki$Net", "ownExtents", "[I", true)
  | 2 => ("MacroWiki$Net", "reached", "[I", true)
  | 3 => ("MacroWiki$Net", "depths", "[I", true)
  | _ => ("MacroWiki$Net", "extents", "[I", true)
def tyX0 : Nat → FieldType := fun k => match k with
  | 0 => .array .int
  | 1 => .array .int
  | 2 => .array .int
  | 3 => .array .int
  | _ => .array .int
theorem nmX0 : ∀ a, a < 5 → ∀ b, b < 5 → a ≠ b → (TX0 a).2.1 ≠ (TX0 b).2.1 := by decide +kernel
theorem tyX0_ok : ∀ k, k < 5 → parseFieldDescriptor (TX0 k).2.2.1 = some (tyX0 k) := by decide +kernel
abbrev cX0_init : ByteArray := prog_2_method_1_code
def yX0_init : MethodName := ⟨RX0, "<init>", "()V"⟩
abbrev cX0_takeCalls : ByteArray := prog_2_method_2_code
def yX0_takeCalls : MethodName := ⟨RX0, "takeCalls", "(LMacroWiki$Net;)V"⟩
abbrev cX0_setCalls : ByteArray := prog_2_method_3_code
def yX0_setCalls : MethodName := ⟨RX0, "setCalls", "(ILMacroWiki$Text;)V"⟩
abbrev cX0_findReached : ByteArray := prog_2_method_4_code
def yX0_findReached : MethodName := ⟨RX0, "findReached", "()V"⟩
abbrev cX0_findDepths : ByteArray := prog_2_method_5_code
def yX0_findDepths : MethodName := ⟨RX0, "findDepths", "()V"⟩
abbrev cX0_depthOverCalled : ByteArray := prog_2_method_6_code
def yX0_depthOverCalled : MethodName := ⟨RX0, "depthOverCalled", "(I)I"⟩
abbrev cX0_findExtents : ByteArray := prog_2_method_7_code
def yX0_findExtents : MethodName := ⟨RX0, "findExtents", "()V"⟩
abbrev cX0_extentOverCalled : ByteArray := prog_2_method_8_code
def yX0_extentOverCalled : MethodName := ⟨RX0, "extentOverCalled", "(I)I"⟩
abbrev cX0_callsOf : ByteArray := prog_2_method_9_code
def yX0_callsOf : MethodName := ⟨RX0, "callsOf", "(II)I"⟩
abbrev cX0_reachedFrom : ByteArray := prog_2_method_10_code
def yX0_reachedFrom : MethodName := ⟨RX0, "reachedFrom", "(I)I"⟩
abbrev cX0_depthOf : ByteArray := prog_2_method_11_code
def yX0_depthOf : MethodName := ⟨RX0, "depthOf", "(I)I"⟩
abbrev cX0_extentOf : ByteArray := prog_2_method_12_code
def yX0_extentOf : MethodName := ⟨RX0, "extentOf", "(I)I"⟩
abbrev cX0_greatestDepth : ByteArray := prog_2_method_13_code
def yX0_greatestDepth : MethodName := ⟨RX0, "greatestDepth", "()I"⟩
abbrev cX0_greatestExtent : ByteArray := prog_2_method_14_code
def yX0_greatestExtent : MethodName := ⟨RX0, "greatestExtent", "()I"⟩
def RX1 : String := "MacroWiki$Page"
def TX1 : u_T := fun k => match k with
  | 0 => ("MacroWiki$Page", "now", "LMacroWiki$Version;", false)
  | 1 => ("MacroWiki$Page", "lock", "I", false)
  | _ => ("MacroWiki$Page", "spread", "LMacroWiki$Spread;", true)
def tyX1 : Nat → FieldType := fun k => match k with
  | 0 => .object "MacroWiki$Version"
  | 1 => .int
  | _ => .object "MacroWiki$Spread"
theorem nmX1 : ∀ a, a < 3 → ∀ b, b < 3 → a ≠ b → (TX1 a).2.1 ≠ (TX1 b).2.1 := by decide +kernel
theorem tyX1_ok : ∀ k, k < 3 → parseFieldDescriptor (TX1 k).2.2.1 = some (tyX1 k) := by decide +kernel
abbrev cX1_init : ByteArray := prog_3_method_1_code
def yX1_init : MethodName := ⟨RX1, "<init>", "()V"⟩
def RX2 : String := "MacroWiki$Spread"
def TX2 : u_T := fun k => match k with
  | 0 => ("MacroWiki$Spread", "needs", "[I", true)
  | 1 => ("MacroWiki$Spread", "sorts", "[I", true)
  | 2 => ("MacroWiki$Spread", "values", "[I", true)
  | 3 => ("MacroWiki$Spread", "sources", "[I", true)
  | 4 => ("MacroWiki$Spread", "size", "I", false)
  | 5 => ("MacroWiki$Spread", "openNeeds", "[I", true)
  | _ => ("MacroWiki$Spread", "openWhens", "I", false)
def tyX2 : Nat → FieldType := fun k => match k with
  | 0 => .array .int
  | 1 => .array .int
  | 2 => .array .int
  | 3 => .array .int
  | 4 => .int
  | 5 => .array .int
  | _ => .int
theorem nmX2 : ∀ a, a < 7 → ∀ b, b < 7 → a ≠ b → (TX2 a).2.1 ≠ (TX2 b).2.1 := by decide +kernel
theorem tyX2_ok : ∀ k, k < 7 → parseFieldDescriptor (TX2 k).2.2.1 = some (tyX2 k) := by decide +kernel
abbrev cX2_init : ByteArray := prog_4_method_1_code
def yX2_init : MethodName := ⟨RX2, "<init>", "()V"⟩
abbrev cX2_clear : ByteArray := prog_4_method_2_code
def yX2_clear : MethodName := ⟨RX2, "clear", "()V"⟩
abbrev cX2_openWhen : ByteArray := prog_4_method_3_code
def yX2_openWhen : MethodName := ⟨RX2, "openWhen", "(I)V"⟩
abbrev cX2_closeWhen : ByteArray := prog_4_method_4_code
def yX2_closeWhen : MethodName := ⟨RX2, "closeWhen", "()V"⟩
abbrev cX2_need : ByteArray := prog_4_method_5_code
def yX2_need : MethodName := ⟨RX2, "need", "()I"⟩
abbrev cX2_together : ByteArray := prog_4_method_6_code
def yX2_together : MethodName := ⟨RX2, "together", "(II)I"⟩
abbrev cX2_add : ByteArray := prog_4_method_7_code
def yX2_add : MethodName := ⟨RX2, "add", "(IIII)V"⟩
abbrev cX2_takeCalled : ByteArray := prog_4_method_8_code
def yX2_takeCalled : MethodName := ⟨RX2, "takeCalled", "(LMacroWiki$Spread;I)V"⟩
abbrev cX2_takeCalledOn : ByteArray := prog_4_method_9_code
def yX2_takeCalledOn : MethodName := ⟨RX2, "takeCalledOn", "(LMacroWiki$Spread;)V"⟩
abbrev cX2_shows : ByteArray := prog_4_method_10_code
def yX2_shows : MethodName := ⟨RX2, "shows", "(II)Z"⟩
abbrev cX2_showsSort : ByteArray := prog_4_method_11_code
def yX2_showsSort : MethodName := ⟨RX2, "showsSort", "(II)Z"⟩
abbrev cX2_hasAnchor : ByteArray := prog_4_method_12_code
def yX2_hasAnchor : MethodName := ⟨RX2, "hasAnchor", "(I)Z"⟩
abbrev cX2_count : ByteArray := prog_4_method_13_code
def yX2_count : MethodName := ⟨RX2, "count", "(I)I"⟩
abbrev cX2_find : ByteArray := prog_4_method_14_code
def yX2_find : MethodName := ⟨RX2, "find", "(II)I"⟩
abbrev cX2_itemSort : ByteArray := prog_4_method_15_code
def yX2_itemSort : MethodName := ⟨RX2, "itemSort", "(I)I"⟩
abbrev cX2_itemWith : ByteArray := prog_4_method_16_code
def yX2_itemWith : MethodName := ⟨RX2, "itemWith", "(II)I"⟩
abbrev cX2_sourceOf : ByteArray := prog_4_method_17_code
def yX2_sourceOf : MethodName := ⟨RX2, "sourceOf", "(I)I"⟩
def RX3 : String := "MacroWiki$Text"
def TX3 : u_T := fun k => match k with
  | 0 => ("MacroWiki$Text", "sorts", "[I", true)
  | 1 => ("MacroWiki$Text", "pages", "[I", true)
  | 2 => ("MacroWiki$Text", "signs", "[I", true)
  | 3 => ("MacroWiki$Text", "size", "I", false)
  | _ => ("MacroWiki$Text", "openWhens", "I", false)
def tyX3 : Nat → FieldType := fun k => match k with
  | 0 => .array .int
  | 1 => .array .int
  | 2 => .array .int
  | 3 => .int
  | _ => .int
theorem nmX3 : ∀ a, a < 5 → ∀ b, b < 5 → a ≠ b → (TX3 a).2.1 ≠ (TX3 b).2.1 := by decide +kernel
theorem tyX3_ok : ∀ k, k < 5 → parseFieldDescriptor (TX3 k).2.2.1 = some (tyX3 k) := by decide +kernel
abbrev cX3_init : ByteArray := prog_5_method_1_code
def yX3_init : MethodName := ⟨RX3, "<init>", "()V"⟩
abbrev cX3_add : ByteArray := prog_5_method_2_code
def yX3_add : MethodName := ⟨RX3, "add", "(III)V"⟩
abbrev cX3_clear : ByteArray := prog_5_method_3_code
def yX3_clear : MethodName := ⟨RX3, "clear", "()V"⟩
abbrev cX3_addAll : ByteArray := prog_5_method_4_code
def yX3_addAll : MethodName := ⟨RX3, "addAll", "(LMacroWiki$Text;)V"⟩
abbrev cX3_hasOpenWhen : ByteArray := prog_5_method_5_code
def yX3_hasOpenWhen : MethodName := ⟨RX3, "hasOpenWhen", "()Z"⟩
abbrev cX3_isRedirectAlone : ByteArray := prog_5_method_6_code
def yX3_isRedirectAlone : MethodName := ⟨RX3, "isRedirectAlone", "()Z"⟩
abbrev cX3_sortOf : ByteArray := prog_5_method_7_code
def yX3_sortOf : MethodName := ⟨RX3, "sortOf", "(I)I"⟩
abbrev cX3_pageOf : ByteArray := prog_5_method_8_code
def yX3_pageOf : MethodName := ⟨RX3, "pageOf", "(I)I"⟩
abbrev cX3_signOf : ByteArray := prog_5_method_9_code
def yX3_signOf : MethodName := ⟨RX3, "signOf", "(I)I"⟩
abbrev cX3_itemOf : ByteArray := prog_5_method_10_code
def yX3_itemOf : MethodName := ⟨RX3, "itemOf", "(I)I"⟩
def RX4 : String := "MacroWiki$Version"
def TX4 : u_T := fun k => match k with
  | 0 => ("MacroWiki$Version", "before", "LMacroWiki$Version;", true)
  | 1 => ("MacroWiki$Version", "number", "I", true)
  | 2 => ("MacroWiki$Version", "text", "LMacroWiki$Text;", true)
  | _ => ("MacroWiki$Version", "rank", "I", false)
def tyX4 : Nat → FieldType := fun k => match k with
  | 0 => .object "MacroWiki$Version"
  | 1 => .int
  | 2 => .object "MacroWiki$Text"
  | _ => .int
theorem nmX4 : ∀ a, a < 4 → ∀ b, b < 4 → a ≠ b → (TX4 a).2.1 ≠ (TX4 b).2.1 := by decide +kernel
theorem tyX4_ok : ∀ k, k < 4 → parseFieldDescriptor (TX4 k).2.2.1 = some (tyX4 k) := by decide +kernel
abbrev cX4_init : ByteArray := prog_6_method_1_code
def yX4_init : MethodName := ⟨RX4, "<init>", "(LMacroWiki$Version;ILMacroWiki$Text;I)V"⟩
def RX5 : String := "MacroWiki$Walk"
def TX5 : u_T := fun k => match k with
  | 0 => ("MacroWiki$Walk", "toGo", "I", false)
  | _ => ("MacroWiki$Walk", "found", "I", false)
def tyX5 : Nat → FieldType := fun k => match k with
  | 0 => .int
  | _ => .int
theorem nmX5 : ∀ a, a < 2 → ∀ b, b < 2 → a ≠ b → (TX5 a).2.1 ≠ (TX5 b).2.1 := by decide +kernel
theorem tyX5_ok : ∀ k, k < 2 → parseFieldDescriptor (TX5 k).2.2.1 = some (tyX5 k) := by decide +kernel
abbrev cX5_init : ByteArray := prog_7_method_1_code
def yX5_init : MethodName := ⟨RX5, "<init>", "(I)V"⟩
abbrev cX5_isOver : ByteArray := prog_7_method_2_code
def yX5_isOver : MethodName := ⟨RX5, "isOver", "()Z"⟩
abbrev cX5_meet : ByteArray := prog_7_method_3_code
def yX5_meet : MethodName := ⟨RX5, "meet", "(I)V"⟩
def RX6 : String := "MacroWiki"
def TX6 : u_T := fun k => match k with
  | 0 => ("MacroWiki", "draft", "LMacroWiki$Text;", true)
  | 1 => ("MacroWiki", "pages", "[LMacroWiki$Page;", true)
  | 2 => ("MacroWiki", "userRanks", "[I", true)
  | 3 => ("MacroWiki", "net", "LMacroWiki$Net;", false)
  | _ => ("MacroWiki", "trial", "LMacroWiki$Net;", false)
def tyX6 : Nat → FieldType := fun k => match k with
  | 0 => .object "MacroWiki$Text"
  | 1 => .array (.object "MacroWiki$Page")
  | 2 => .array .int
  | 3 => .object "MacroWiki$Net"
  | _ => .object "MacroWiki$Net"
theorem nmX6 : ∀ a, a < 5 → ∀ b, b < 5 → a ≠ b → (TX6 a).2.1 ≠ (TX6 b).2.1 := by decide +kernel
theorem tyX6_ok : ∀ k, k < 5 → parseFieldDescriptor (TX6 k).2.2.1 = some (tyX6 k) := by decide +kernel
abbrev cX6_init : ByteArray := prog_1_method_1_code
def yX6_init : MethodName := ⟨RX6, "<init>", "()V"⟩
abbrev cX6_letter : ByteArray := prog_1_method_2_code
def yX6_letter : MethodName := ⟨RX6, "letter", "(I)I"⟩
abbrev cX6_argument : ByteArray := prog_1_method_3_code
def yX6_argument : MethodName := ⟨RX6, "argument", "()I"⟩
abbrev cX6_call : ByteArray := prog_1_method_4_code
def yX6_call : MethodName := ⟨RX6, "call", "(II)I"⟩
abbrev cX6_callOn : ByteArray := prog_1_method_5_code
def yX6_callOn : MethodName := ⟨RX6, "callOn", "(I)I"⟩
abbrev cX6_when : ByteArray := prog_1_method_6_code
def yX6_when : MethodName := ⟨RX6, "when", "(I)I"⟩
abbrev cX6_end : ByteArray := prog_1_method_7_code
def yX6_end : MethodName := ⟨RX6, "end", "()I"⟩
abbrev cX6_anchor : ByteArray := prog_1_method_8_code
def yX6_anchor : MethodName := ⟨RX6, "anchor", "(I)I"⟩
abbrev cX6_link : ByteArray := prog_1_method_9_code
def yX6_link : MethodName := ⟨RX6, "link", "(II)I"⟩
abbrev cX6_redirect : ByteArray := prog_1_method_10_code
def yX6_redirect : MethodName := ⟨RX6, "redirect", "(I)I"⟩
abbrev cX6_edit : ByteArray := prog_1_method_11_code
def yX6_edit : MethodName := ⟨RX6, "edit", "(II)I"⟩
abbrev cX6_undo : ByteArray := prog_1_method_12_code
def yX6_undo : MethodName := ⟨RX6, "undo", "(II)I"⟩
abbrev cX6_approve : ByteArray := prog_1_method_13_code
def yX6_approve : MethodName := ⟨RX6, "approve", "(II)Z"⟩
abbrev cX6_lock : ByteArray := prog_1_method_14_code
def yX6_lock : MethodName := ⟨RX6, "lock", "(III)I"⟩
abbrev cX6_setRank : ByteArray := prog_1_method_15_code
def yX6_setRank : MethodName := ⟨RX6, "setRank", "(II)I"⟩
abbrev cX6_version : ByteArray := prog_1_method_16_code
def yX6_version : MethodName := ⟨RX6, "version", "(I)I"⟩
abbrev cX6_rankOf : ByteArray := prog_1_method_17_code
def yX6_rankOf : MethodName := ⟨RX6, "rankOf", "(I)I"⟩
abbrev cX6_force : ByteArray := prog_1_method_18_code
def yX6_force : MethodName := ⟨RX6, "force", "(I)I"⟩
abbrev cX6_reaches : ByteArray := prog_1_method_19_code
def yX6_reaches : MethodName := ⟨RX6, "reaches", "(I)I"⟩
abbrev cX6_extent : ByteArray := prog_1_method_20_code
def yX6_extent : MethodName := ⟨RX6, "extent", "(I)I"⟩
abbrev cX6_items : ByteArray := prog_1_method_21_code
def yX6_items : MethodName := ⟨RX6, "items", "(II)I"⟩
abbrev cX6_sortAt : ByteArray := prog_1_method_22_code
def yX6_sortAt : MethodName := ⟨RX6, "sortAt", "(III)I"⟩
abbrev cX6_itemAt : ByteArray := prog_1_method_23_code
def yX6_itemAt : MethodName := ⟨RX6, "itemAt", "(III)I"⟩
abbrev cX6_itemAnew : ByteArray := prog_1_method_24_code
def yX6_itemAnew : MethodName := ⟨RX6, "itemAnew", "(III)I"⟩
abbrev cX6_sourceAt : ByteArray := prog_1_method_25_code
def yX6_sourceAt : MethodName := ⟨RX6, "sourceAt", "(III)I"⟩
abbrev cX6_standsFor : ByteArray := prog_1_method_26_code
def yX6_standsFor : MethodName := ⟨RX6, "standsFor", "(I)I"⟩
abbrev cX6_links : ByteArray := prog_1_method_27_code
def yX6_links : MethodName := ⟨RX6, "links", "(I)I"⟩
abbrev cX6_broken : ByteArray := prog_1_method_28_code
def yX6_broken : MethodName := ⟨RX6, "broken", "(I)I"⟩
abbrev cX6_firstBroken : ByteArray := prog_1_method_29_code
def yX6_firstBroken : MethodName := ⟨RX6, "firstBroken", "(I)I"⟩
abbrev cX6_linkedFrom : ByteArray := prog_1_method_30_code
def yX6_linkedFrom : MethodName := ⟨RX6, "linkedFrom", "(I)I"⟩
abbrev cX6_breaches : ByteArray := prog_1_method_31_code
def yX6_breaches : MethodName := ⟨RX6, "breaches", "(I)I"⟩
abbrev cX6_breached : ByteArray := prog_1_method_32_code
def yX6_breached : MethodName := ⟨RX6, "breached", "()I"⟩
abbrev cX6_requireBelow : ByteArray := prog_1_method_33_code
def yX6_requireBelow : MethodName := ⟨RX6, "requireBelow", "(II)V"⟩
abbrev cX6_requireArgument : ByteArray := prog_1_method_34_code
def yX6_requireArgument : MethodName := ⟨RX6, "requireArgument", "(I)V"⟩
abbrev cX6_requirePage : ByteArray := prog_1_method_35_code
def yX6_requirePage : MethodName := ⟨RX6, "requirePage", "(I)V"⟩
abbrev cX6_pageAt : ByteArray := prog_1_method_36_code
def yX6_pageAt : MethodName := ⟨RX6, "pageAt", "(I)LMacroWiki$Page;"⟩
abbrev cX6_rankOfUser : ByteArray := prog_1_method_37_code
def yX6_rankOfUser : MethodName := ⟨RX6, "rankOfUser", "(I)I"⟩
abbrev cX6_indexOf : ByteArray := prog_1_method_38_code
def yX6_indexOf : MethodName := ⟨RX6, "indexOf", "(LMacroWiki$Spread;II)I"⟩
abbrev cX6_addPiece : ByteArray := prog_1_method_39_code
def yX6_addPiece : MethodName := ⟨RX6, "addPiece", "(III)I"⟩
abbrev cX6_refusalOf : ByteArray := prog_1_method_40_code
def yX6_refusalOf : MethodName := ⟨RX6, "refusalOf", "(ILMacroWiki$Text;)I"⟩
abbrev cX6_hasRankBelow : ByteArray := prog_1_method_41_code
def yX6_hasRankBelow : MethodName := ⟨RX6, "hasRankBelow", "(II)Z"⟩
abbrev cX6_settle : ByteArray := prog_1_method_42_code
def yX6_settle : MethodName := ⟨RX6, "settle", "()V"⟩
abbrev cX6_forceOn : ByteArray := prog_1_method_43_code
def yX6_forceOn : MethodName := ⟨RX6, "forceOn", "(I)I"⟩
abbrev cX6_spreadPage : ByteArray := prog_1_method_44_code
def yX6_spreadPage : MethodName := ⟨RX6, "spreadPage", "(I)V"⟩
abbrev cX6_spreadPiece : ByteArray := prog_1_method_45_code
def yX6_spreadPiece : MethodName := ⟨RX6, "spreadPiece", "(LMacroWiki$Spread;LMacroWiki$Text;II)V"⟩
abbrev cX6_walkPage : ByteArray := prog_1_method_46_code
def yX6_walkPage : MethodName := ⟨RX6, "walkPage", "(LMacroWiki$Walk;III)V"⟩
abbrev cX6_walkPiece : ByteArray := prog_1_method_47_code
def yX6_walkPiece : MethodName := ⟨RX6, "walkPiece", "(LMacroWiki$Walk;LMacroWiki$Text;III)V"⟩
abbrev cX6_behindRedirects : ByteArray := prog_1_method_48_code
def yX6_behindRedirects : MethodName := ⟨RX6, "behindRedirects", "(I)I"⟩
abbrev cX6_isBroken : ByteArray := prog_1_method_49_code
def yX6_isBroken : MethodName := ⟨RX6, "isBroken", "(LMacroWiki$Spread;I)Z"⟩
abbrev cX6_isGood : ByteArray := prog_1_method_50_code
def yX6_isGood : MethodName := ⟨RX6, "isGood", "(I)Z"⟩
abbrev cX6_hasGoodLink : ByteArray := prog_1_method_51_code
def yX6_hasGoodLink : MethodName := ⟨RX6, "hasGoodLink", "(II)Z"⟩
abbrev cX6_leadsTo : ByteArray := prog_1_method_52_code
def yX6_leadsTo : MethodName := ⟨RX6, "leadsTo", "(II)Z"⟩
abbrev cX6_countBreaches : ByteArray := prog_1_method_53_code
def yX6_countBreaches : MethodName := ⟨RX6, "countBreaches", "(LMacroWiki$Page;)I"⟩
abbrev cX6_at : ByteArray := prog_1_method_54_code
def yX6_at : MethodName := ⟨RX6, "at", "([II)I"⟩
abbrev cX6_put : ByteArray := prog_1_method_55_code
def yX6_put : MethodName := ⟨RX6, "put", "([III)V"⟩
abbrev cX6_greatest : ByteArray := prog_1_method_56_code
def yX6_greatest : MethodName := ⟨RX6, "greatest", "([I)I"⟩
abbrev cX6_contains : ByteArray := prog_1_method_57_code
def yX6_contains : MethodName := ⟨RX6, "contains", "(II)Z"⟩
def RX7 : String := "MacroWikiModel"
def TX7 : u_T := fun k => match k with
  | 0 => ("MacroWikiModel", "draft", "[I", true)
  | 1 => ("MacroWikiModel", "drafted", "I", false)
  | 2 => ("MacroWikiModel", "open", "I", false)
  | 3 => ("MacroWikiModel", "texts", "[I", true)
  | 4 => ("MacroWikiModel", "sizes", "[I", true)
  | 5 => ("MacroWikiModel", "ranks", "[I", true)
  | 6 => ("MacroWikiModel", "versions", "[I", true)
  | 7 => ("MacroWikiModel", "locks", "[I", true)
  | 8 => ("MacroWikiModel", "userRanks", "[I", true)
  | 9 => ("MacroWikiModel", "calls", "[I", true)
  | 10 => ("MacroWikiModel", "own", "[I", true)
  | 11 => ("MacroWikiModel", "reached", "[I", true)
  | 12 => ("MacroWikiModel", "depths", "[I", true)
  | 13 => ("MacroWikiModel", "extents", "[I", true)
  | 14 => ("MacroWikiModel", "sorts", "[I", true)
  | 15 => ("MacroWikiModel", "values", "[I", true)
  | 16 => ("MacroWikiModel", "sources", "[I", true)
  | 17 => ("MacroWikiModel", "shown", "I", false)
  | 18 => ("MacroWikiModel", "pages", "[I", true)
  | 19 => ("MacroWikiModel", "places", "[I", true)
  | 20 => ("MacroWikiModel", "arguments", "[I", true)
  | _ => ("MacroWikiModel", "last", "I", false)
def tyX7 : Nat → FieldType := fun k => match k with
  | 0 => .array .int
  | 1 => .int
  | 2 => .int
  | 3 => .array .int
  | 4 => .array .int
  | 5 => .array .int
  | 6 => .array .int
  | 7 => .array .int
  | 8 => .array .int
  | 9 => .array .int
  | 10 => .array .int
  | 11 => .array .int
  | 12 => .array .int
  | 13 => .array .int
  | 14 => .array .int
  | 15 => .array .int
  | 16 => .array .int
  | 17 => .int
  | 18 => .array .int
  | 19 => .array .int
  | 20 => .array .int
  | _ => .int
theorem nmX7 : ∀ a, a < 22 → ∀ b, b < 22 → a ≠ b → (TX7 a).2.1 ≠ (TX7 b).2.1 := by decide +kernel
theorem tyX7_ok : ∀ k, k < 22 → parseFieldDescriptor (TX7 k).2.2.1 = some (tyX7 k) := by decide +kernel
abbrev cX7_init : ByteArray := prog_9_method_1_code
def yX7_init : MethodName := ⟨RX7, "<init>", "()V"⟩
abbrev cX7_thrown : ByteArray := prog_9_method_2_code
def yX7_thrown : MethodName := ⟨RX7, "thrown", "()I"⟩
abbrev cX7_in : ByteArray := prog_9_method_3_code
def yX7_in : MethodName := ⟨RX7, "in", "(III)Z"⟩
abbrev cX7_goes : ByteArray := prog_9_method_4_code
def yX7_goes : MethodName := ⟨RX7, "goes", "(ZZZ)Z"⟩
abbrev cX7_isPage : ByteArray := prog_9_method_5_code
def yX7_isPage : MethodName := ⟨RX7, "isPage", "(I)Z"⟩
abbrev cX7_isUser : ByteArray := prog_9_method_6_code
def yX7_isUser : MethodName := ⟨RX7, "isUser", "(I)Z"⟩
abbrev cX7_isLetter : ByteArray := prog_9_method_7_code
def yX7_isLetter : MethodName := ⟨RX7, "isLetter", "(I)Z"⟩
abbrev cX7_adds : ByteArray := prog_9_method_8_code
def yX7_adds : MethodName := ⟨RX7, "adds", "(III)I"⟩
abbrev cX7_hasRoom : ByteArray := prog_9_method_9_code
def yX7_hasRoom : MethodName := ⟨RX7, "hasRoom", "()Z"⟩
abbrev cX7_letter : ByteArray := prog_9_method_10_code
def yX7_letter : MethodName := ⟨RX7, "letter", "(I)I"⟩
abbrev cX7_argument : ByteArray := prog_9_method_11_code
def yX7_argument : MethodName := ⟨RX7, "argument", "()I"⟩
abbrev cX7_call : ByteArray := prog_9_method_12_code
def yX7_call : MethodName := ⟨RX7, "call", "(II)I"⟩
abbrev cX7_callOn : ByteArray := prog_9_method_13_code
def yX7_callOn : MethodName := ⟨RX7, "callOn", "(I)I"⟩
abbrev cX7_when : ByteArray := prog_9_method_14_code
def yX7_when : MethodName := ⟨RX7, "when", "(I)I"⟩
abbrev cX7_end : ByteArray := prog_9_method_15_code
def yX7_end : MethodName := ⟨RX7, "end", "()I"⟩
abbrev cX7_anchor : ByteArray := prog_9_method_16_code
def yX7_anchor : MethodName := ⟨RX7, "anchor", "(I)I"⟩
abbrev cX7_link : ByteArray := prog_9_method_17_code
def yX7_link : MethodName := ⟨RX7, "link", "(II)I"⟩
abbrev cX7_redirect : ByteArray := prog_9_method_18_code
def yX7_redirect : MethodName := ⟨RX7, "redirect", "(I)I"⟩
abbrev cX7_now : ByteArray := prog_9_method_19_code
def yX7_now : MethodName := ⟨RX7, "now", "(I)I"⟩
abbrev cX7_laysCalls : ByteArray := prog_9_method_20_code
def yX7_laysCalls : MethodName := ⟨RX7, "laysCalls", "(II)V"⟩
abbrev cX7_laysReached : ByteArray := prog_9_method_21_code
def yX7_laysReached : MethodName := ⟨RX7, "laysReached", "()V"⟩
abbrev cX7_laysNow : ByteArray := prog_9_method_22_code
def yX7_laysNow : MethodName := ⟨RX7, "laysNow", "()V"⟩
abbrev cX7_measures : ByteArray := prog_9_method_23_code
def yX7_measures : MethodName := ⟨RX7, "measures", "()V"⟩
abbrev cX7_has : ByteArray := prog_9_method_24_code
def yX7_has : MethodName := ⟨RX7, "has", "(II)Z"⟩
abbrev cX7_forceOf : ByteArray := prog_9_method_25_code
def yX7_forceOf : MethodName := ⟨RX7, "forceOf", "(I)I"⟩
abbrev cX7_greatest : ByteArray := prog_9_method_26_code
def yX7_greatest : MethodName := ⟨RX7, "greatest", "(Z)I"⟩
abbrev cX7_refusal : ByteArray := prog_9_method_27_code
def yX7_refusal : MethodName := ⟨RX7, "refusal", "(III)I"⟩
abbrev cX7_edit : ByteArray := prog_9_method_28_code
def yX7_edit : MethodName := ⟨RX7, "edit", "(II)I"⟩
abbrev cX7_undo : ByteArray := prog_9_method_29_code
def yX7_undo : MethodName := ⟨RX7, "undo", "(II)I"⟩
abbrev cX7_approve : ByteArray := prog_9_method_30_code
def yX7_approve : MethodName := ⟨RX7, "approve", "(II)Z"⟩
abbrev cX7_lock : ByteArray := prog_9_method_31_code
def yX7_lock : MethodName := ⟨RX7, "lock", "(III)I"⟩
abbrev cX7_setRank : ByteArray := prog_9_method_32_code
def yX7_setRank : MethodName := ⟨RX7, "setRank", "(II)I"⟩
abbrev cX7_version : ByteArray := prog_9_method_33_code
def yX7_version : MethodName := ⟨RX7, "version", "(I)I"⟩
abbrev cX7_rankOf : ByteArray := prog_9_method_34_code
def yX7_rankOf : MethodName := ⟨RX7, "rankOf", "(I)I"⟩
abbrev cX7_force : ByteArray := prog_9_method_35_code
def yX7_force : MethodName := ⟨RX7, "force", "(I)I"⟩
abbrev cX7_reaches : ByteArray := prog_9_method_36_code
def yX7_reaches : MethodName := ⟨RX7, "reaches", "(I)I"⟩
abbrev cX7_extent : ByteArray := prog_9_method_37_code
def yX7_extent : MethodName := ⟨RX7, "extent", "(I)I"⟩
abbrev cX7_shows : ByteArray := prog_9_method_38_code
def yX7_shows : MethodName := ⟨RX7, "shows", "(III)V"⟩
abbrev cX7_behind : ByteArray := prog_9_method_39_code
def yX7_behind : MethodName := ⟨RX7, "behind", "(II)I"⟩
abbrev cX7_lays : ByteArray := prog_9_method_40_code
def yX7_lays : MethodName := ⟨RX7, "lays", "(II)V"⟩
abbrev cX7_isShown : ByteArray := prog_9_method_41_code
def yX7_isShown : MethodName := ⟨RX7, "isShown", "(III)Z"⟩
abbrev cX7_items : ByteArray := prog_9_method_42_code
def yX7_items : MethodName := ⟨RX7, "items", "(II)I"⟩
abbrev cX7_sortAt : ByteArray := prog_9_method_43_code
def yX7_sortAt : MethodName := ⟨RX7, "sortAt", "(III)I"⟩
abbrev cX7_itemAt : ByteArray := prog_9_method_44_code
def yX7_itemAt : MethodName := ⟨RX7, "itemAt", "(III)I"⟩
abbrev cX7_itemAnew : ByteArray := prog_9_method_45_code
def yX7_itemAnew : MethodName := ⟨RX7, "itemAnew", "(III)I"⟩
abbrev cX7_sourceAt : ByteArray := prog_9_method_46_code
def yX7_sourceAt : MethodName := ⟨RX7, "sourceAt", "(III)I"⟩
abbrev cX7_stands : ByteArray := prog_9_method_47_code
def yX7_stands : MethodName := ⟨RX7, "stands", "(I)I"⟩
abbrev cX7_standsFor : ByteArray := prog_9_method_48_code
def yX7_standsFor : MethodName := ⟨RX7, "standsFor", "(I)I"⟩
abbrev cX7_showsAnchor : ByteArray := prog_9_method_49_code
def yX7_showsAnchor : MethodName := ⟨RX7, "showsAnchor", "(II)Z"⟩
abbrev cX7_isGood : ByteArray := prog_9_method_50_code
def yX7_isGood : MethodName := ⟨RX7, "isGood", "(I)Z"⟩
abbrev cX7_linkAt : ByteArray := prog_9_method_51_code
def yX7_linkAt : MethodName := ⟨RX7, "linkAt", "(II)I"⟩
abbrev cX7_links : ByteArray := prog_9_method_52_code
def yX7_links : MethodName := ⟨RX7, "links", "(I)I"⟩
abbrev cX7_broken : ByteArray := prog_9_method_53_code
def yX7_broken : MethodName := ⟨RX7, "broken", "(I)I"⟩
abbrev cX7_firstBroken : ByteArray := prog_9_method_54_code
def yX7_firstBroken : MethodName := ⟨RX7, "firstBroken", "(I)I"⟩
abbrev cX7_linkedFrom : ByteArray := prog_9_method_55_code
def yX7_linkedFrom : MethodName := ⟨RX7, "linkedFrom", "(I)I"⟩
abbrev cX7_breachesOf : ByteArray := prog_9_method_56_code
def yX7_breachesOf : MethodName := ⟨RX7, "breachesOf", "(I)I"⟩
abbrev cX7_breaches : ByteArray := prog_9_method_57_code
def yX7_breaches : MethodName := ⟨RX7, "breaches", "(I)I"⟩
abbrev cX7_breached : ByteArray := prog_9_method_58_code
def yX7_breached : MethodName := ⟨RX7, "breached", "()I"⟩
def RJx145de : String := "java/io/Serializable"
def TJx145de : u_T := fun k => match k with
  | _ => ("", "", "", false)
def tyJx145de : Nat → FieldType := fun k => match k with
  | _ => .int
def RJ9 : String := "java/lang/Math"
def TJ9 : u_T := fun k => match k with
  | _ => ("", "", "", false)
def tyJ9 : Nat → FieldType := fun k => match k with
  | _ => .int
abbrev cJ9_max_7cf53 : ByteArray := prog_15_method_65_code
def yJ9_max_7cf53 : MethodName := ⟨RJ9, "max", "(II)I"⟩
abbrev cJ9_min_7cf53 : ByteArray := prog_15_method_69_code
def yJ9_min_7cf53 : MethodName := ⟨RJ9, "min", "(II)I"⟩
def RJ0 : String := "java/lang/String"
def TJ0 : u_T := fun k => match k with
  | _ => ("", "", "", false)
def tyJ0 : Nat → FieldType := fun k => match k with
  | _ => .int
def RL : String := "MacroWikiLaw"
abbrev cL_letter : ByteArray := method_3_code
def yL_letter : MethodName := ⟨RL, "letter", "(LMacroWiki;I[J)I"⟩
abbrev cL_argument : ByteArray := method_4_code
def yL_argument : MethodName := ⟨RL, "argument", "(LMacroWiki;[J)I"⟩
abbrev cL_call : ByteArray := method_5_code
def yL_call : MethodName := ⟨RL, "call", "(LMacroWiki;II[J)I"⟩
abbrev cL_callOn : ByteArray := method_6_code
def yL_callOn : MethodName := ⟨RL, "callOn", "(LMacroWiki;I[J)I"⟩
abbrev cL_when : ByteArray := method_7_code
def yL_when : MethodName := ⟨RL, "when", "(LMacroWiki;I[J)I"⟩
abbrev cL_end : ByteArray := method_8_code
def yL_end : MethodName := ⟨RL, "end", "(LMacroWiki;[J)I"⟩
abbrev cL_anchor : ByteArray := method_9_code
def yL_anchor : MethodName := ⟨RL, "anchor", "(LMacroWiki;I[J)I"⟩
abbrev cL_link : ByteArray := method_10_code
def yL_link : MethodName := ⟨RL, "link", "(LMacroWiki;II[J)I"⟩
abbrev cL_redirect : ByteArray := method_11_code
def yL_redirect : MethodName := ⟨RL, "redirect", "(LMacroWiki;I[J)I"⟩
abbrev cL_edit : ByteArray := method_12_code
def yL_edit : MethodName := ⟨RL, "edit", "(LMacroWiki;II[J)I"⟩
abbrev cL_undo : ByteArray := method_13_code
def yL_undo : MethodName := ⟨RL, "undo", "(LMacroWiki;II[J)I"⟩
abbrev cL_approve : ByteArray := method_14_code
def yL_approve : MethodName := ⟨RL, "approve", "(LMacroWiki;II[J)I"⟩
abbrev cL_lock : ByteArray := method_15_code
def yL_lock : MethodName := ⟨RL, "lock", "(LMacroWiki;III[J)I"⟩
abbrev cL_setRank : ByteArray := method_16_code
def yL_setRank : MethodName := ⟨RL, "setRank", "(LMacroWiki;II[J)I"⟩
abbrev cL_version : ByteArray := method_17_code
def yL_version : MethodName := ⟨RL, "version", "(LMacroWiki;I[J)I"⟩
abbrev cL_rankOf : ByteArray := method_18_code
def yL_rankOf : MethodName := ⟨RL, "rankOf", "(LMacroWiki;I[J)I"⟩
abbrev cL_force : ByteArray := method_19_code
def yL_force : MethodName := ⟨RL, "force", "(LMacroWiki;I[J)I"⟩
abbrev cL_reaches : ByteArray := method_20_code
def yL_reaches : MethodName := ⟨RL, "reaches", "(LMacroWiki;I[J)I"⟩
abbrev cL_extent : ByteArray := method_21_code
def yL_extent : MethodName := ⟨RL, "extent", "(LMacroWiki;I[J)I"⟩
abbrev cL_items : ByteArray := method_22_code
def yL_items : MethodName := ⟨RL, "items", "(LMacroWiki;II[J)I"⟩
abbrev cL_sortAt : ByteArray := method_23_code
def yL_sortAt : MethodName := ⟨RL, "sortAt", "(LMacroWiki;III[J)I"⟩
abbrev cL_itemAt : ByteArray := method_24_code
def yL_itemAt : MethodName := ⟨RL, "itemAt", "(LMacroWiki;III[J)I"⟩
abbrev cL_itemAnew : ByteArray := method_25_code
def yL_itemAnew : MethodName := ⟨RL, "itemAnew", "(LMacroWiki;III[J)I"⟩
abbrev cL_sourceAt : ByteArray := method_26_code
def yL_sourceAt : MethodName := ⟨RL, "sourceAt", "(LMacroWiki;III[J)I"⟩
abbrev cL_standsFor : ByteArray := method_27_code
def yL_standsFor : MethodName := ⟨RL, "standsFor", "(LMacroWiki;I[J)I"⟩
abbrev cL_links : ByteArray := method_28_code
def yL_links : MethodName := ⟨RL, "links", "(LMacroWiki;I[J)I"⟩
abbrev cL_broken : ByteArray := method_29_code
def yL_broken : MethodName := ⟨RL, "broken", "(LMacroWiki;I[J)I"⟩
abbrev cL_firstBroken : ByteArray := method_30_code
def yL_firstBroken : MethodName := ⟨RL, "firstBroken", "(LMacroWiki;I[J)I"⟩
abbrev cL_linkedFrom : ByteArray := method_31_code
def yL_linkedFrom : MethodName := ⟨RL, "linkedFrom", "(LMacroWiki;I[J)I"⟩
abbrev cL_breaches : ByteArray := method_32_code
def yL_breaches : MethodName := ⟨RL, "breaches", "(LMacroWiki;I[J)I"⟩
abbrev cL_law : ByteArray := code
def yL_law : MethodName := ⟨RL, "law", "([I)Z"⟩
abbrev vwCl : List vw_C := [(RX0, TX0, 5), (RX1, TX1, 3), (RX2, TX2, 7), (RX3, TX3, 5), (RX4, TX4, 4), (RX5, TX5, 2), (RX6, TX6, 5), (RX7, TX7, 22)]
end
section
theorem dX0_init_0 : decode cX0_init 0 = .ok (.aload_n 0, 1) := by decide +kernel
theorem dX0_init_1 : decode cX0_init 1 = .ok (.invokespecial 3, 3) := by decide +kernel
theorem dX0_init_4 : decode cX0_init 4 = .ok (.aload_n 0, 1) := by decide +kernel
theorem dX0_init_5 : decode cX0_init 5 = .ok (.sipush 144, 3) := by decide +kernel
theorem dX0_init_8 : decode cX0_init 8 = .ok (.newarray .int, 2) := by decide +kernel
theorem dX0_init_10 : decode cX0_init 10 = .ok (.putfield 9, 3) := by decide +kernel
theorem dX0_init_13 : decode cX0_init 13 = .ok (.aload_n 0, 1) := by decide +kernel
theorem dX0_init_14 : decode cX0_init 14 = .ok (.bipush 12, 2) := by decide +kernel
theorem dX0_init_16 : decode cX0_init 16 = .ok (.newarray .int, 2) := by decide +kernel
theorem dX0_init_18 : decode cX0_init 18 = .ok (.putfield 15, 3) := by decide +kernel
theorem dX0_init_21 : decode cX0_init 21 = .ok (.aload_n 0, 1) := by decide +kernel
theorem dX0_init_22 : decode cX0_init 22 = .ok (.bipush 12, 2) := by decide +kernel
theorem dX0_init_24 : decode cX0_init 24 = .ok (.newarray .int, 2) := by decide +kernel
theorem dX0_init_26 : decode cX0_init 26 = .ok (.putfield 18, 3) := by decide +kernel
theorem dX0_init_29 : decode cX0_init 29 = .ok (.aload_n 0, 1) := by decide +kernel
theorem dX0_init_30 : decode cX0_init 30 = .ok (.bipush 12, 2) := by decide +kernel
theorem dX0_init_32 : decode cX0_init 32 = .ok (.newarray .int, 2) := by decide +kernel
theorem dX0_init_34 : decode cX0_init 34 = .ok (.putfield 21, 3) := by decide +kernel
theorem dX0_init_37 : decode cX0_init 37 = .ok (.aload_n 0, 1) := by decide +kernel
theorem dX0_init_38 : decode cX0_init 38 = .ok (.bipush 12, 2) := by decide +kernel
theorem dX0_init_40 : decode cX0_init 40 = .ok (.newarray .int, 2) := by decide +kernel
theorem dX0_init_42 : decode cX0_init 42 = .ok (.putfield 24, 3) := by decide +kernel
theorem dX0_init_45 : decode cX0_init 45 = .ok (.return_, 1) := by decide +kernel
theorem dX0_takeCalls_0 : decode cX0_takeCalls 0 = .ok (.iconst 0, 1) := by decide +kernel
theorem dX0_takeCalls_1 : decode cX0_takeCalls 1 = .ok (.istore_n 2, 1) := by decide +kernel
theorem dX0_takeCalls_2 : decode cX0_takeCalls 2 = .ok (.iload_n 2, 1) := by decide +kernel
theorem dX0_takeCalls_3 : decode cX0_takeCalls 3 = .ok (.aload_n 0, 1) := by decide +kernel
theorem dX0_takeCalls_4 : decode cX0_takeCalls 4 = .ok (.getfield 9, 3) := by decide +kernel
theorem dX0_takeCalls_7 : decode cX0_takeCalls 7 = .ok (.arraylength, 1) := by decide +kernel
theorem dX0_takeCalls_8 : decode cX0_takeCalls 8 = .ok (.if_icmp .ge 23, 3) := by decide +kernel
theorem dX0_takeCalls_11 : decode cX0_takeCalls 11 = .ok (.aload_n 0, 1) := by decide +kernel
theorem dX0_takeCalls_12 : decode cX0_takeCalls 12 = .ok (.getfield 9, 3) := by decide +kernel
theorem dX0_takeCalls_15 : decode cX0_takeCalls 15 = .ok (.iload_n 2, 1) := by decide +kernel
theorem dX0_takeCalls_16 : decode cX0_takeCalls 16 = .ok (.aload_n 1, 1) := by decide +kernel
theorem dX0_takeCalls_17 : decode cX0_takeCalls 17 = .ok (.getfield 9, 3) := by decide +kernel
theorem dX0_takeCalls_20 : decode cX0_takeCalls 20 = .ok (.iload_n 2, 1) := by decide +kernel
theorem dX0_takeCalls_21 : decode cX0_takeCalls 21 = .ok (.invokestatic 27, 3) := by decide +kernel
theorem dX0_takeCalls_24 : decode cX0_takeCalls 24 = .ok (.iastore, 1) := by decide +kernel
theorem dX0_takeCalls_25 : decode cX0_takeCalls 25 = .ok (.iinc 2 1, 3) := by decide +kernel
theorem dX0_takeCalls_28 : decode cX0_takeCalls 28 = .ok (.goto (-26), 3) := by decide +kernel
theorem dX0_takeCalls_31 : decode cX0_takeCalls 31 = .ok (.iconst 0, 1) := by decide +kernel
theorem dX0_takeCalls_32 : decode cX0_takeCalls 32 = .ok (.istore_n 2, 1) := by decide +kernel
theorem dX0_takeCalls_33 : decode cX0_takeCalls 33 = .ok (.iload_n 2, 1) := by decide +kernel
theorem dX0_takeCalls_34 : decode cX0_takeCalls 34 = .ok (.bipush 12, 2) := by decide +kernel
theorem dX0_takeCalls_36 : decode cX0_takeCalls 36 = .ok (.if_icmp .ge 25, 3) := by decide +kernel
theorem dX0_takeCalls_39 : decode cX0_takeCalls 39 = .ok (.aload_n 0, 1) := by decide +kernel
theorem dX0_takeCalls_40 : decode cX0_takeCalls 40 = .ok (.getfield 15, 3) := by decide +kernel
theorem dX0_takeCalls_43 : decode cX0_takeCalls 43 = .ok (.iload_n 2, 1) := by decide +kernel
theorem dX0_takeCalls_44 : decode cX0_takeCalls 44 = .ok (.aload_n 1, 1) := by decide +kernel
theorem dX0_takeCalls_45 : decode cX0_takeCalls 45 = .ok (.getfield 15, 3) := by decide +kernel
theorem dX0_takeCalls_48 : decode cX0_takeCalls 48 = .ok (.iload_n 2, 1) := by decide +kernel
theorem dX0_takeCalls_49 : decode cX0_takeCalls 49 = .ok (.invokestatic 27, 3) := by decide +kernel
theorem dX0_takeCalls_52 : decode cX0_takeCalls 52 = .ok (.invokestatic 31, 3) := by decide +kernel
theorem dX0_takeCalls_55 : decode cX0_takeCalls 55 = .ok (.iinc 2 1, 3) := by decide +kernel
theorem dX0_takeCalls_58 : decode cX0_takeCalls 58 = .ok (.goto (-25), 3) := by decide +kernel
theorem dX0_takeCalls_61 : decode cX0_takeCalls 61 = .ok (.return_, 1) := by decide +kernel
theorem dX0_setCalls_0 : decode cX0_setCalls 0 = .ok (.iconst 0, 1) := by decide +kernel
theorem dX0_setCalls_1 : decode cX0_setCalls 1 = .ok (.istore_n 3, 1) := by decide +kernel
theorem dX0_setCalls_2 : decode cX0_setCalls 2 = .ok (.iload_n 3, 1) := by decide +kernel
theorem dX0_setCalls_3 : decode cX0_setCalls 3 = .ok (.bipush 12, 2) := by decide +kernel
theorem dX0_setCalls_5 : decode cX0_setCalls 5 = .ok (.if_icmp .ge 23, 3) := by decide +kernel
theorem dX0_setCalls_8 : decode cX0_setCalls 8 = .ok (.aload_n 0, 1) := by decide +kernel
theorem dX0_setCalls_9 : decode cX0_setCalls 9 = .ok (.getfield 9, 3) := by decide +kernel
theorem dX0_setCalls_12 : decode cX0_setCalls 12 = .ok (.iload_n 1, 1) := by decide +kernel
theorem dX0_setCalls_13 : decode cX0_setCalls 13 = .ok (.bipush 12, 2) := by decide +kernel
theorem dX0_setCalls_15 : decode cX0_setCalls 15 = .ok (.imul, 1) := by decide +kernel
theorem dX0_setCalls_16 : decode cX0_setCalls 16 = .ok (.iload_n 3, 1) := by decide +kernel
theorem dX0_setCalls_17 : decode cX0_setCalls 17 = .ok (.iadd, 1) := by decide +kernel
theorem dX0_setCalls_18 : decode cX0_setCalls 18 = .ok (.iconst 0, 1) := by decide +kernel
theorem dX0_setCalls_19 : decode cX0_setCalls 19 = .ok (.invokestatic 31, 3) := by decide +kernel
theorem dX0_setCalls_22 : decode cX0_setCalls 22 = .ok (.iinc 3 1, 3) := by decide +kernel
theorem dX0_setCalls_25 : decode cX0_setCalls 25 = .ok (.goto (-23), 3) := by decide +kernel
theorem dX0_setCalls_28 : decode cX0_setCalls 28 = .ok (.iconst 0, 1) := by decide +kernel
theorem dX0_setCalls_29 : decode cX0_setCalls 29 = .ok (.istore_n 3, 1) := by decide +kernel
theorem dX0_setCalls_30 : decode cX0_setCalls 30 = .ok (.iconst 0, 1) := by decide +kernel
theorem dX0_setCalls_31 : decode cX0_setCalls 31 = .ok (.istore 4, 2) := by decide +kernel
theorem dX0_setCalls_33 : decode cX0_setCalls 33 = .ok (.iload 4, 2) := by decide +kernel
theorem dX0_setCalls_35 : decode cX0_setCalls 35 = .ok (.aload_n 2, 1) := by decide +kernel
theorem dX0_setCalls_36 : decode cX0_setCalls 36 = .ok (.getfield 35, 3) := by decide +kernel
theorem dX0_setCalls_39 : decode cX0_setCalls 39 = .ok (.if_icmp .ge 95, 3) := by decide +kernel
theorem dX0_setCalls_42 : decode cX0_setCalls 42 = .ok (.aload_n 2, 1) := by decide +kernel
theorem dX0_setCalls_43 : decode cX0_setCalls 43 = .ok (.iload 4, 2) := by decide +kernel
theorem dX0_setCalls_45 : decode cX0_setCalls 45 = .ok (.invokevirtual 41, 3) := by decide +kernel
theorem dX0_setCalls_48 : decode cX0_setCalls 48 = .ok (.tableswitch 80 0 5 #[74, 74, 74, 74, 40, 40], 40) := by decide +kernel
theorem dX0_setCalls_88 : decode cX0_setCalls 88 = .ok (.aload_n 2, 1) := by decide +kernel
theorem dX0_setCalls_89 : decode cX0_setCalls 89 = .ok (.iload 4, 2) := by decide +kernel
theorem dX0_setCalls_91 : decode cX0_setCalls 91 = .ok (.invokevirtual 45, 3) := by decide +kernel
theorem dX0_setCalls_94 : decode cX0_setCalls 94 = .ok (.istore 5, 2) := by decide +kernel
theorem dX0_setCalls_96 : decode cX0_setCalls 96 = .ok (.aload_n 0, 1) := by decide +kernel
theorem dX0_setCalls_97 : decode cX0_setCalls 97 = .ok (.getfield 9, 3) := by decide +kernel
theorem dX0_setCalls_100 : decode cX0_setCalls 100 = .ok (.iload_n 1, 1) := by decide +kernel
theorem dX0_setCalls_101 : decode cX0_setCalls 101 = .ok (.bipush 12, 2) := by decide +kernel
theorem dX0_setCalls_103 : decode cX0_setCalls 103 = .ok (.imul, 1) := by decide +kernel
theorem dX0_setCalls_104 : decode cX0_setCalls 104 = .ok (.iload 5, 2) := by decide +kernel
theorem dX0_setCalls_106 : decode cX0_setCalls 106 = .ok (.iadd, 1) := by decide +kernel
theorem dX0_setCalls_107 : decode cX0_setCalls 107 = .ok (.aload_n 0, 1) := by decide +kernel
theorem dX0_setCalls_108 : decode cX0_setCalls 108 = .ok (.iload_n 1, 1) := by decide +kernel
theorem dX0_setCalls_109 : decode cX0_setCalls 109 = .ok (.iload 5, 2) := by decide +kernel
theorem dX0_setCalls_111 : decode cX0_setCalls 111 = .ok (.invokevirtual 48, 3) := by decide +kernel
theorem dX0_setCalls_114 : decode cX0_setCalls 114 = .ok (.iconst 1, 1) := by decide +kernel
theorem dX0_setCalls_115 : decode cX0_setCalls 115 = .ok (.iadd, 1) := by decide +kernel
theorem dX0_setCalls_116 : decode cX0_setCalls 116 = .ok (.invokestatic 31, 3) := by decide +kernel
theorem dX0_setCalls_119 : decode cX0_setCalls 119 = .ok (.goto 9, 3) := by decide +kernel
theorem dX0_setCalls_122 : decode cX0_setCalls 122 = .ok (.iinc 3 1, 3) := by decide +kernel
theorem dX0_setCalls_125 : decode cX0_setCalls 125 = .ok (.goto 3, 3) := by decide +kernel
theorem dX0_setCalls_128 : decode cX0_setCalls 128 = .ok (.iinc 4 1, 3) := by decide +kernel
theorem dX0_setCalls_131 : decode cX0_setCalls 131 = .ok (.goto (-98), 3) := by decide +kernel
theorem dX0_setCalls_134 : decode cX0_setCalls 134 = .ok (.aload_n 0, 1) := by decide +kernel
theorem dX0_setCalls_135 : decode cX0_setCalls 135 = .ok (.getfield 15, 3) := by decide +kernel
theorem dX0_setCalls_138 : decode cX0_setCalls 138 = .ok (.iload_n 1, 1) := by decide +kernel
theorem dX0_setCalls_139 : decode cX0_setCalls 139 = .ok (.iload_n 3, 1) := by decide +kernel
theorem dX0_setCalls_140 : decode cX0_setCalls 140 = .ok (.invokestatic 31, 3) := by decide +kernel
theorem dX0_setCalls_143 : decode cX0_setCalls 143 = .ok (.return_, 1) := by decide +kernel
theorem dX0_findReached_0 : decode cX0_findReached 0 = .ok (.iconst 0, 1) := by decide +kernel
theorem dX0_findReached_1 : decode cX0_findReached 1 = .ok (.istore_n 1, 1) := by decide +kernel
theorem dX0_findReached_2 : decode cX0_findReached 2 = .ok (.iload_n 1, 1) := by decide +kernel
theorem dX0_findReached_3 : decode cX0_findReached 3 = .ok (.bipush 12, 2) := by decide +kernel
theorem dX0_findReached_5 : decode cX0_findReached 5 = .ok (.if_icmp .ge 53, 3) := by decide +kernel
theorem dX0_findReached_8 : decode cX0_findReached 8 = .ok (.iconst 0, 1) := by decide +kernel
theorem dX0_findReached_9 : decode cX0_findReached 9 = .ok (.istore_n 2, 1) := by decide +kernel
theorem dX0_findReached_10 : decode cX0_findReached 10 = .ok (.iconst 0, 1) := by decide +kernel
theorem dX0_findReached_11 : decode cX0_findReached 11 = .ok (.istore_n 3, 1) := by decide +kernel
theorem dX0_findReached_12 : decode cX0_findReached 12 = .ok (.iload_n 3, 1) := by decide +kernel
theorem dX0_findReached_13 : decode cX0_findReached 13 = .ok (.bipush 12, 2) := by decide +kernel
theorem dX0_findReached_15 : decode cX0_findReached 15 = .ok (.if_icmp .ge 28, 3) := by decide +kernel
theorem dX0_findReached_18 : decode cX0_findReached 18 = .ok (.iload_n 2, 1) := by decide +kernel
theorem dX0_findReached_19 : decode cX0_findReached 19 = .ok (.aload_n 0, 1) := by decide +kernel
theorem dX0_findReached_20 : decode cX0_findReached 20 = .ok (.iload_n 1, 1) := by decide +kernel
theorem dX0_findReached_21 : decode cX0_findReached 21 = .ok (.iload_n 3, 1) := by decide +kernel
theorem dX0_findReached_22 : decode cX0_findReached 22 = .ok (.invokevirtual 48, 3) := by decide +kernel
theorem dX0_findReached_25 : decode cX0_findReached 25 = .ok (.ifCond .le 9, 3) := by decide +kernel
theorem dX0_findReached_28 : decode cX0_findReached 28 = .ok (.iconst 1, 1) := by decide +kernel
theorem dX0_findReached_29 : decode cX0_findReached 29 = .ok (.iload_n 3, 1) := by decide +kernel
theorem dX0_findReached_30 : decode cX0_findReached 30 = .ok (.ishl, 1) := by decide +kernel
theorem dX0_findReached_31 : decode cX0_findReached 31 = .ok (.goto 4, 3) := by decide +kernel
theorem dX0_findReached_34 : decode cX0_findReached 34 = .ok (.iconst 0, 1) := by decide +kernel
theorem dX0_findReached_35 : decode cX0_findReached 35 = .ok (.ior, 1) := by decide +kernel
theorem dX0_findReached_36 : decode cX0_findReached 36 = .ok (.istore_n 2, 1) := by decide +kernel
theorem dX0_findReached_37 : decode cX0_findReached 37 = .ok (.iinc 3 1, 3) := by decide +kernel
theorem dX0_findReached_40 : decode cX0_findReached 40 = .ok (.goto (-28), 3) := by decide +kernel
theorem dX0_findReached_43 : decode cX0_findReached 43 = .ok (.aload_n 0, 1) := by decide +kernel
theorem dX0_findReached_44 : decode cX0_findReached 44 = .ok (.getfield 18, 3) := by decide +kernel
theorem dX0_findReached_47 : decode cX0_findReached 47 = .ok (.iload_n 1, 1) := by decide +kernel
theorem dX0_findReached_48 : decode cX0_findReached 48 = .ok (.iload_n 2, 1) := by decide +kernel
theorem dX0_findReached_49 : decode cX0_findReached 49 = .ok (.invokestatic 31, 3) := by decide +kernel
theorem dX0_findReached_52 : decode cX0_findReached 52 = .ok (.iinc 1 1, 3) := by decide +kernel
theorem dX0_findReached_55 : decode cX0_findReached 55 = .ok (.goto (-53), 3) := by decide +kernel
theorem dX0_findReached_58 : decode cX0_findReached 58 = .ok (.iconst 0, 1) := by decide +kernel
theorem dX0_findReached_59 : decode cX0_findReached 59 = .ok (.istore_n 1, 1) := by decide +kernel
theorem dX0_findReached_60 : decode cX0_findReached 60 = .ok (.iload_n 1, 1) := by decide +kernel
theorem dX0_findReached_61 : decode cX0_findReached 61 = .ok (.bipush 12, 2) := by decide +kernel
theorem dX0_findReached_63 : decode cX0_findReached 63 = .ok (.if_icmp .ge 54, 3) := by decide +kernel
theorem dX0_findReached_66 : decode cX0_findReached 66 = .ok (.iconst 0, 1) := by decide +kernel
theorem dX0_findReached_67 : decode cX0_findReached 67 = .ok (.istore_n 2, 1) := by decide +kernel
theorem dX0_findReached_68 : decode cX0_findReached 68 = .ok (.iload_n 2, 1) := by decide +kernel
theorem dX0_findReached_69 : decode cX0_findReached 69 = .ok (.bipush 12, 2) := by decide +kernel
theorem dX0_findReached_71 : decode cX0_findReached 71 = .ok (.if_icmp .ge 40, 3) := by decide +kernel
theorem dX0_findReached_74 : decode cX0_findReached 74 = .ok (.aload_n 0, 1) := by decide +kernel
theorem dX0_findReached_75 : decode cX0_findReached 75 = .ok (.iload_n 2, 1) := by decide +kernel
theorem dX0_findReached_76 : decode cX0_findReached 76 = .ok (.invokevirtual 52, 3) := by decide +kernel
theorem dX0_findReached_79 : decode cX0_findReached 79 = .ok (.iload_n 1, 1) := by decide +kernel
theorem dX0_findReached_80 : decode cX0_findReached 80 = .ok (.invokestatic 55, 3) := by decide +kernel
theorem dX0_findReached_83 : decode cX0_findReached 83 = .ok (.ifCond .eq 22, 3) := by decide +kernel
theorem dX0_findReached_86 : decode cX0_findReached 86 = .ok (.aload_n 0, 1) := by decide +kernel
theorem dX0_findReached_87 : decode cX0_findReached 87 = .ok (.getfield 18, 3) := by decide +kernel
theorem dX0_findReached_90 : decode cX0_findReached 90 = .ok (.iload_n 2, 1) := by decide +kernel
theorem dX0_findReached_91 : decode cX0_findReached 91 = .ok (.aload_n 0, 1) := by decide +kernel
theorem dX0_findReached_92 : decode cX0_findReached 92 = .ok (.iload_n 2, 1) := by decide +kernel
theorem dX0_findReached_93 : decode cX0_findReached 93 = .ok (.invokevirtual 52, 3) := by decide +kernel
theorem dX0_findReached_96 : decode cX0_findReached 96 = .ok (.aload_n 0, 1) := by decide +kernel
theorem dX0_findReached_97 : decode cX0_findReached 97 = .ok (.iload_n 1, 1) := by decide +kernel
theorem dX0_findReached_98 : decode cX0_findReached 98 = .ok (.invokevirtual 52, 3) := by decide +kernel
theorem dX0_findReached_101 : decode cX0_findReached 101 = .ok (.ior, 1) := by decide +kernel
theorem dX0_findReached_102 : decode cX0_findReached 102 = .ok (.invokestatic 31, 3) := by decide +kernel
theorem dX0_findReached_105 : decode cX0_findReached 105 = .ok (.iinc 2 1, 3) := by decide +kernel
theorem dX0_findReached_108 : decode cX0_findReached 108 = .ok (.goto (-40), 3) := by decide +kernel
theorem dX0_findReached_111 : decode cX0_findReached 111 = .ok (.iinc 1 1, 3) := by decide +kernel
theorem dX0_findReached_114 : decode cX0_findReached 114 = .ok (.goto (-54), 3) := by decide +kernel
theorem dX0_findReached_117 : decode cX0_findReached 117 = .ok (.return_, 1) := by decide +kernel
theorem dX0_findDepths_0 : decode cX0_findDepths 0 = .ok (.iconst 0, 1) := by decide +kernel
theorem dX0_findDepths_1 : decode cX0_findDepths 1 = .ok (.istore_n 1, 1) := by decide +kernel
theorem dX0_findDepths_2 : decode cX0_findDepths 2 = .ok (.iload_n 1, 1) := by decide +kernel
theorem dX0_findDepths_3 : decode cX0_findDepths 3 = .ok (.bipush 12, 2) := by decide +kernel
theorem dX0_findDepths_5 : decode cX0_findDepths 5 = .ok (.if_icmp .ge 18, 3) := by decide +kernel
theorem dX0_findDepths_8 : decode cX0_findDepths 8 = .ok (.aload_n 0, 1) := by decide +kernel
theorem dX0_findDepths_9 : decode cX0_findDepths 9 = .ok (.getfield 21, 3) := by decide +kernel
theorem dX0_findDepths_12 : decode cX0_findDepths 12 = .ok (.iload_n 1, 1) := by decide +kernel
theorem dX0_findDepths_13 : decode cX0_findDepths 13 = .ok (.iconst 0, 1) := by decide +kernel
theorem dX0_findDepths_14 : decode cX0_findDepths 14 = .ok (.invokestatic 31, 3) := by decide +kernel
theorem dX0_findDepths_17 : decode cX0_findDepths 17 = .ok (.iinc 1 1, 3) := by decide +kernel
theorem dX0_findDepths_20 : decode cX0_findDepths 20 = .ok (.goto (-18), 3) := by decide +kernel
theorem dX0_findDepths_23 : decode cX0_findDepths 23 = .ok (.iconst 1, 1) := by decide +kernel
theorem dX0_findDepths_24 : decode cX0_findDepths 24 = .ok (.istore_n 1, 1) := by decide +kernel
theorem dX0_findDepths_25 : decode cX0_findDepths 25 = .ok (.iload_n 1, 1) := by decide +kernel
theorem dX0_findDepths_26 : decode cX0_findDepths 26 = .ok (.bipush 12, 2) := by decide +kernel
theorem dX0_findDepths_28 : decode cX0_findDepths 28 = .ok (.if_icmp .ge 36, 3) := by decide +kernel
theorem dX0_findDepths_31 : decode cX0_findDepths 31 = .ok (.iconst 0, 1) := by decide +kernel
theorem dX0_findDepths_32 : decode cX0_findDepths 32 = .ok (.istore_n 2, 1) := by decide +kernel
theorem dX0_findDepths_33 : decode cX0_findDepths 33 = .ok (.iload_n 2, 1) := by decide +kernel
theorem dX0_findDepths_34 : decode cX0_findDepths 34 = .ok (.bipush 12, 2) := by decide +kernel
theorem dX0_findDepths_36 : decode cX0_findDepths 36 = .ok (.if_icmp .ge 22, 3) := by decide +kernel
theorem dX0_findDepths_39 : decode cX0_findDepths 39 = .ok (.aload_n 0, 1) := by decide +kernel
theorem dX0_findDepths_40 : decode cX0_findDepths 40 = .ok (.getfield 21, 3) := by decide +kernel
theorem dX0_findDepths_43 : decode cX0_findDepths 43 = .ok (.iload_n 2, 1) := by decide +kernel
theorem dX0_findDepths_44 : decode cX0_findDepths 44 = .ok (.aload_n 0, 1) := by decide +kernel
theorem dX0_findDepths_45 : decode cX0_findDepths 45 = .ok (.iload_n 2, 1) := by decide +kernel
theorem dX0_findDepths_46 : decode cX0_findDepths 46 = .ok (.invokevirtual 59, 3) := by decide +kernel
theorem dX0_findDepths_49 : decode cX0_findDepths 49 = .ok (.invokestatic 31, 3) := by decide +kernel
theorem dX0_findDepths_52 : decode cX0_findDepths 52 = .ok (.iinc 2 1, 3) := by decide +kernel
theorem dX0_findDepths_55 : decode cX0_findDepths 55 = .ok (.goto (-22), 3) := by decide +kernel
theorem dX0_findDepths_58 : decode cX0_findDepths 58 = .ok (.iinc 1 1, 3) := by decide +kernel
theorem dX0_findDepths_61 : decode cX0_findDepths 61 = .ok (.goto (-36), 3) := by decide +kernel
theorem dX0_findDepths_64 : decode cX0_findDepths 64 = .ok (.return_, 1) := by decide +kernel
theorem dX0_depthOverCalled_0 : decode cX0_depthOverCalled 0 = .ok (.iconst 0, 1) := by decide +kernel
theorem dX0_depthOverCalled_1 : decode cX0_depthOverCalled 1 = .ok (.istore_n 2, 1) := by decide +kernel
theorem dX0_depthOverCalled_2 : decode cX0_depthOverCalled 2 = .ok (.iconst 0, 1) := by decide +kernel
theorem dX0_depthOverCalled_3 : decode cX0_depthOverCalled 3 = .ok (.istore_n 3, 1) := by decide +kernel
theorem dX0_depthOverCalled_4 : decode cX0_depthOverCalled 4 = .ok (.iload_n 3, 1) := by decide +kernel
theorem dX0_depthOverCalled_5 : decode cX0_depthOverCalled 5 = .ok (.bipush 12, 2) := by decide +kernel
theorem dX0_depthOverCalled_7 : decode cX0_depthOverCalled 7 = .ok (.if_icmp .ge 30, 3) := by decide +kernel
theorem dX0_depthOverCalled_10 : decode cX0_depthOverCalled 10 = .ok (.aload_n 0, 1) := by decide +kernel
theorem dX0_depthOverCalled_11 : decode cX0_depthOverCalled 11 = .ok (.iload_n 1, 1) := by decide +kernel
theorem dX0_depthOverCalled_12 : decode cX0_depthOverCalled 12 = .ok (.iload_n 3, 1) := by decide +kernel
theorem dX0_depthOverCalled_13 : decode cX0_depthOverCalled 13 = .ok (.invokevirtual 48, 3) := by decide +kernel
theorem dX0_depthOverCalled_16 : decode cX0_depthOverCalled 16 = .ok (.ifCond .le 15, 3) := by decide +kernel
theorem dX0_depthOverCalled_19 : decode cX0_depthOverCalled 19 = .ok (.iload_n 2, 1) := by decide +kernel
theorem dX0_depthOverCalled_20 : decode cX0_depthOverCalled 20 = .ok (.aload_n 0, 1) := by decide +kernel
theorem dX0_depthOverCalled_21 : decode cX0_depthOverCalled 21 = .ok (.iload_n 3, 1) := by decide +kernel
theorem dX0_depthOverCalled_22 : decode cX0_depthOverCalled 22 = .ok (.invokevirtual 62, 3) := by decide +kernel
theorem dX0_depthOverCalled_25 : decode cX0_depthOverCalled 25 = .ok (.iconst 1, 1) := by decide +kernel
theorem dX0_depthOverCalled_26 : decode cX0_depthOverCalled 26 = .ok (.iadd, 1) := by decide +kernel
theorem dX0_depthOverCalled_27 : decode cX0_depthOverCalled 27 = .ok (.invokestatic 65, 3) := by decide +kernel
theorem dX0_depthOverCalled_30 : decode cX0_depthOverCalled 30 = .ok (.istore_n 2, 1) := by decide +kernel
theorem dX0_depthOverCalled_31 : decode cX0_depthOverCalled 31 = .ok (.iinc 3 1, 3) := by decide +kernel
theorem dX0_depthOverCalled_34 : decode cX0_depthOverCalled 34 = .ok (.goto (-30), 3) := by decide +kernel
theorem dX0_depthOverCalled_37 : decode cX0_depthOverCalled 37 = .ok (.iload_n 2, 1) := by decide +kernel
theorem dX0_depthOverCalled_38 : decode cX0_depthOverCalled 38 = .ok (.ireturn, 1) := by decide +kernel
theorem dX0_findExtents_0 : decode cX0_findExtents 0 = .ok (.iconst 0, 1) := by decide +kernel
theorem dX0_findExtents_1 : decode cX0_findExtents 1 = .ok (.istore_n 1, 1) := by decide +kernel
theorem dX0_findExtents_2 : decode cX0_findExtents 2 = .ok (.iload_n 1, 1) := by decide +kernel
theorem dX0_findExtents_3 : decode cX0_findExtents 3 = .ok (.iconst 5, 1) := by decide +kernel
theorem dX0_findExtents_4 : decode cX0_findExtents 4 = .ok (.if_icmp .gt 45, 3) := by decide +kernel
theorem dX0_findExtents_7 : decode cX0_findExtents 7 = .ok (.iconst 0, 1) := by decide +kernel
theorem dX0_findExtents_8 : decode cX0_findExtents 8 = .ok (.istore_n 2, 1) := by decide +kernel
theorem dX0_findExtents_9 : decode cX0_findExtents 9 = .ok (.iload_n 2, 1) := by decide +kernel
theorem dX0_findExtents_10 : decode cX0_findExtents 10 = .ok (.bipush 12, 2) := by decide +kernel
theorem dX0_findExtents_12 : decode cX0_findExtents 12 = .ok (.if_icmp .ge 31, 3) := by decide +kernel
theorem dX0_findExtents_15 : decode cX0_findExtents 15 = .ok (.aload_n 0, 1) := by decide +kernel
theorem dX0_findExtents_16 : decode cX0_findExtents 16 = .ok (.iload_n 2, 1) := by decide +kernel
theorem dX0_findExtents_17 : decode cX0_findExtents 17 = .ok (.invokevirtual 62, 3) := by decide +kernel
theorem dX0_findExtents_20 : decode cX0_findExtents 20 = .ok (.iload_n 1, 1) := by decide +kernel
theorem dX0_findExtents_21 : decode cX0_findExtents 21 = .ok (.if_icmp .ne 16, 3) := by decide +kernel
theorem dX0_findExtents_24 : decode cX0_findExtents 24 = .ok (.aload_n 0, 1) := by decide +kernel
theorem dX0_findExtents_25 : decode cX0_findExtents 25 = .ok (.getfield 24, 3) := by decide +kernel
theorem dX0_findExtents_28 : decode cX0_findExtents 28 = .ok (.iload_n 2, 1) := by decide +kernel
theorem dX0_findExtents_29 : decode cX0_findExtents 29 = .ok (.aload_n 0, 1) := by decide +kernel
theorem dX0_findExtents_30 : decode cX0_findExtents 30 = .ok (.iload_n 2, 1) := by decide +kernel
theorem dX0_findExtents_31 : decode cX0_findExtents 31 = .ok (.invokevirtual 70, 3) := by decide +kernel
theorem dX0_findExtents_34 : decode cX0_findExtents 34 = .ok (.invokestatic 31, 3) := by decide +kernel
theorem dX0_findExtents_37 : decode cX0_findExtents 37 = .ok (.iinc 2 1, 3) := by decide +kernel
theorem dX0_findExtents_40 : decode cX0_findExtents 40 = .ok (.goto (-31), 3) := by decide +kernel
theorem dX0_findExtents_43 : decode cX0_findExtents 43 = .ok (.iinc 1 1, 3) := by decide +kernel
theorem dX0_findExtents_46 : decode cX0_findExtents 46 = .ok (.goto (-44), 3) := by decide +kernel
theorem dX0_findExtents_49 : decode cX0_findExtents 49 = .ok (.return_, 1) := by decide +kernel
theorem dX0_extentOverCalled_0 : decode cX0_extentOverCalled 0 = .ok (.aload_n 0, 1) := by decide +kernel
theorem dX0_extentOverCalled_1 : decode cX0_extentOverCalled 1 = .ok (.getfield 15, 3) := by decide +kernel
theorem dX0_extentOverCalled_4 : decode cX0_extentOverCalled 4 = .ok (.iload_n 1, 1) := by decide +kernel
theorem dX0_extentOverCalled_5 : decode cX0_extentOverCalled 5 = .ok (.invokestatic 27, 3) := by decide +kernel
theorem dX0_extentOverCalled_8 : decode cX0_extentOverCalled 8 = .ok (.istore_n 2, 1) := by decide +kernel
theorem dX0_extentOverCalled_9 : decode cX0_extentOverCalled 9 = .ok (.iconst 0, 1) := by decide +kernel
theorem dX0_extentOverCalled_10 : decode cX0_extentOverCalled 10 = .ok (.istore_n 3, 1) := by decide +kernel
theorem dX0_extentOverCalled_11 : decode cX0_extentOverCalled 11 = .ok (.iload_n 3, 1) := by decide +kernel
theorem dX0_extentOverCalled_12 : decode cX0_extentOverCalled 12 = .ok (.bipush 12, 2) := by decide +kernel
theorem dX0_extentOverCalled_14 : decode cX0_extentOverCalled 14 = .ok (.if_icmp .ge 33, 3) := by decide +kernel
theorem dX0_extentOverCalled_17 : decode cX0_extentOverCalled 17 = .ok (.aload_n 0, 1) := by decide +kernel
theorem dX0_extentOverCalled_18 : decode cX0_extentOverCalled 18 = .ok (.iload_n 1, 1) := by decide +kernel
theorem dX0_extentOverCalled_19 : decode cX0_extentOverCalled 19 = .ok (.iload_n 3, 1) := by decide +kernel
theorem dX0_extentOverCalled_20 : decode cX0_extentOverCalled 20 = .ok (.invokevirtual 48, 3) := by decide +kernel
theorem dX0_extentOverCalled_23 : decode cX0_extentOverCalled 23 = .ok (.ifCond .le 18, 3) := by decide +kernel
theorem dX0_extentOverCalled_26 : decode cX0_extentOverCalled 26 = .ok (.iload_n 2, 1) := by decide +kernel
theorem dX0_extentOverCalled_27 : decode cX0_extentOverCalled 27 = .ok (.aload_n 0, 1) := by decide +kernel
theorem dX0_extentOverCalled_28 : decode cX0_extentOverCalled 28 = .ok (.iload_n 1, 1) := by decide +kernel
theorem dX0_extentOverCalled_29 : decode cX0_extentOverCalled 29 = .ok (.iload_n 3, 1) := by decide +kernel
theorem dX0_extentOverCalled_30 : decode cX0_extentOverCalled 30 = .ok (.invokevirtual 48, 3) := by decide +kernel
theorem dX0_extentOverCalled_33 : decode cX0_extentOverCalled 33 = .ok (.aload_n 0, 1) := by decide +kernel
theorem dX0_extentOverCalled_34 : decode cX0_extentOverCalled 34 = .ok (.iload_n 3, 1) := by decide +kernel
theorem dX0_extentOverCalled_35 : decode cX0_extentOverCalled 35 = .ok (.invokevirtual 73, 3) := by decide +kernel
theorem dX0_extentOverCalled_38 : decode cX0_extentOverCalled 38 = .ok (.imul, 1) := by decide +kernel
theorem dX0_extentOverCalled_39 : decode cX0_extentOverCalled 39 = .ok (.iadd, 1) := by decide +kernel
theorem dX0_extentOverCalled_40 : decode cX0_extentOverCalled 40 = .ok (.istore_n 2, 1) := by decide +kernel
theorem dX0_extentOverCalled_41 : decode cX0_extentOverCalled 41 = .ok (.iinc 3 1, 3) := by decide +kernel
theorem dX0_extentOverCalled_44 : decode cX0_extentOverCalled 44 = .ok (.goto (-33), 3) := by decide +kernel
theorem dX0_extentOverCalled_47 : decode cX0_extentOverCalled 47 = .ok (.iload_n 2, 1) := by decide +kernel
theorem dX0_extentOverCalled_48 : decode cX0_extentOverCalled 48 = .ok (.bipush 101, 2) := by decide +kernel
theorem dX0_extentOverCalled_50 : decode cX0_extentOverCalled 50 = .ok (.invokestatic 76, 3) := by decide +kernel
theorem dX0_extentOverCalled_53 : decode cX0_extentOverCalled 53 = .ok (.ireturn, 1) := by decide +kernel
theorem dX0_callsOf_0 : decode cX0_callsOf 0 = .ok (.aload_n 0, 1) := by decide +kernel
theorem dX0_callsOf_1 : decode cX0_callsOf 1 = .ok (.getfield 9, 3) := by decide +kernel
theorem dX0_callsOf_4 : decode cX0_callsOf 4 = .ok (.iload_n 1, 1) := by decide +kernel
theorem dX0_callsOf_5 : decode cX0_callsOf 5 = .ok (.bipush 12, 2) := by decide +kernel
theorem dX0_callsOf_7 : decode cX0_callsOf 7 = .ok (.imul, 1) := by decide +kernel
theorem dX0_callsOf_8 : decode cX0_callsOf 8 = .ok (.iload_n 2, 1) := by decide +kernel
theorem dX0_callsOf_9 : decode cX0_callsOf 9 = .ok (.iadd, 1) := by decide +kernel
theorem dX0_callsOf_10 : decode cX0_callsOf 10 = .ok (.invokestatic 27, 3) := by decide +kernel
theorem dX0_callsOf_13 : decode cX0_callsOf 13 = .ok (.ireturn, 1) := by decide +kernel
theorem dX0_reachedFrom_0 : decode cX0_reachedFrom 0 = .ok (.aload_n 0, 1) := by decide +kernel
theorem dX0_reachedFrom_1 : decode cX0_reachedFrom 1 = .ok (.getfield 18, 3) := by decide +kernel
theorem dX0_reachedFrom_4 : decode cX0_reachedFrom 4 = .ok (.iload_n 1, 1) := by decide +kernel
theorem dX0_reachedFrom_5 : decode cX0_reachedFrom 5 = .ok (.invokestatic 27, 3) := by decide +kernel
theorem dX0_reachedFrom_8 : decode cX0_reachedFrom 8 = .ok (.ireturn, 1) := by decide +kernel
theorem dX0_depthOf_0 : decode cX0_depthOf 0 = .ok (.aload_n 0, 1) := by decide +kernel
theorem dX0_depthOf_1 : decode cX0_depthOf 1 = .ok (.getfield 21, 3) := by decide +kernel
theorem dX0_depthOf_4 : decode cX0_depthOf 4 = .ok (.iload_n 1, 1) := by decide +kernel
theorem dX0_depthOf_5 : decode cX0_depthOf 5 = .ok (.invokestatic 27, 3) := by decide +kernel
theorem dX0_depthOf_8 : decode cX0_depthOf 8 = .ok (.ireturn, 1) := by decide +kernel
theorem dX0_extentOf_0 : decode cX0_extentOf 0 = .ok (.aload_n 0, 1) := by decide +kernel
theorem dX0_extentOf_1 : decode cX0_extentOf 1 = .ok (.getfield 24, 3) := by decide +kernel
theorem dX0_extentOf_4 : decode cX0_extentOf 4 = .ok (.iload_n 1, 1) := by decide +kernel
theorem dX0_extentOf_5 : decode cX0_extentOf 5 = .ok (.invokestatic 27, 3) := by decide +kernel
theorem dX0_extentOf_8 : decode cX0_extentOf 8 = .ok (.ireturn, 1) := by decide +kernel
theorem dX0_greatestDepth_0 : decode cX0_greatestDepth 0 = .ok (.aload_n 0, 1) := by decide +kernel
theorem dX0_greatestDepth_1 : decode cX0_greatestDepth 1 = .ok (.getfield 21, 3) := by decide +kernel
theorem dX0_greatestDepth_4 : decode cX0_greatestDepth 4 = .ok (.invokestatic 79, 3) := by decide +kernel
theorem dX0_greatestDepth_7 : decode cX0_greatestDepth 7 = .ok (.ireturn, 1) := by decide +kernel
theorem dX0_greatestExtent_0 : decode cX0_greatestExtent 0 = .ok (.aload_n 0, 1) := by decide +kernel
theorem dX0_greatestExtent_1 : decode cX0_greatestExtent 1 = .ok (.getfield 24, 3) := by decide +kernel
theorem dX0_greatestExtent_4 : decode cX0_greatestExtent 4 = .ok (.invokestatic 79, 3) := by decide +kernel
theorem dX0_greatestExtent_7 : decode cX0_greatestExtent 7 = .ok (.ireturn, 1) := by decide +kernel
theorem dX1_init_0 : decode cX1_init 0 = .ok (.aload_n 0, 1) := by decide +kernel
theorem dX1_init_1 : decode cX1_init 1 = .ok (.invokespecial 3, 3) := by decide +kernel
theorem dX1_init_4 : decode cX1_init 4 = .ok (.aload_n 0, 1) := by decide +kernel
theorem dX1_init_5 : decode cX1_init 5 = .ok (.new 9, 3) := by decide +kernel
theorem dX1_init_8 : decode cX1_init 8 = .ok (.dup, 1) := by decide +kernel
theorem dX1_init_9 : decode cX1_init 9 = .ok (.aconst_null, 1) := by decide +kernel
theorem dX1_init_10 : decode cX1_init 10 = .ok (.iconst 0, 1) := by decide +kernel
theorem dX1_init_11 : decode cX1_init 11 = .ok (.new 11, 3) := by decide +kernel
theorem dX1_init_14 : decode cX1_init 14 = .ok (.dup, 1) := by decide +kernel
theorem dX1_init_15 : decode cX1_init 15 = .ok (.invokespecial 13, 3) := by decide +kernel
theorem dX1_init_18 : decode cX1_init 18 = .ok (.iconst 3, 1) := by decide +kernel
theorem dX1_init_19 : decode cX1_init 19 = .ok (.invokespecial 14, 3) := by decide +kernel
theorem dX1_init_22 : decode cX1_init 22 = .ok (.putfield 17, 3) := by decide +kernel
theorem dX1_init_25 : decode cX1_init 25 = .ok (.aload_n 0, 1) := by decide +kernel
theorem dX1_init_26 : decode cX1_init 26 = .ok (.iconst 0, 1) := by decide +kernel
theorem dX1_init_27 : decode cX1_init 27 = .ok (.putfield 23, 3) := by decide +kernel
theorem dX1_init_30 : decode cX1_init 30 = .ok (.aload_n 0, 1) := by decide +kernel
theorem dX1_init_31 : decode cX1_init 31 = .ok (.new 27, 3) := by decide +kernel
theorem dX1_init_34 : decode cX1_init 34 = .ok (.dup, 1) := by decide +kernel
theorem dX1_init_35 : decode cX1_init 35 = .ok (.invokespecial 29, 3) := by decide +kernel
theorem dX1_init_38 : decode cX1_init 38 = .ok (.putfield 30, 3) := by decide +kernel
theorem dX1_init_41 : decode cX1_init 41 = .ok (.return_, 1) := by decide +kernel
theorem dX2_init_0 : decode cX2_init 0 = .ok (.aload_n 0, 1) := by decide +kernel
theorem dX2_init_1 : decode cX2_init 1 = .ok (.invokespecial 3, 3) := by decide +kernel
theorem dX2_init_4 : decode cX2_init 4 = .ok (.aload_n 0, 1) := by decide +kernel
theorem dX2_init_5 : decode cX2_init 5 = .ok (.bipush 100, 2) := by decide +kernel
theorem dX2_init_7 : decode cX2_init 7 = .ok (.newarray .int, 2) := by decide +kernel
theorem dX2_init_9 : decode cX2_init 9 = .ok (.putfield 9, 3) := by decide +kernel
theorem dX2_init_12 : decode cX2_init 12 = .ok (.aload_n 0, 1) := by decide +kernel
theorem dX2_init_13 : decode cX2_init 13 = .ok (.bipush 100, 2) := by decide +kernel
theorem dX2_init_15 : decode cX2_init 15 = .ok (.newarray .int, 2) := by decide +kernel
theorem dX2_init_17 : decode cX2_init 17 = .ok (.putfield 15, 3) := by decide +kernel
theorem dX2_init_20 : decode cX2_init 20 = .ok (.aload_n 0, 1) := by decide +kernel
theorem dX2_init_21 : decode cX2_init 21 = .ok (.bipush 100, 2) := by decide +kernel
theorem dX2_init_23 : decode cX2_init 23 = .ok (.newarray .int, 2) := by decide +kernel
theorem dX2_init_25 : decode cX2_init 25 = .ok (.putfield 18, 3) := by decide +kernel
theorem dX2_init_28 : decode cX2_init 28 = .ok (.aload_n 0, 1) := by decide +kernel
theorem dX2_init_29 : decode cX2_init 29 = .ok (.bipush 100, 2) := by decide +kernel
theorem dX2_init_31 : decode cX2_init 31 = .ok (.newarray .int, 2) := by decide +kernel
theorem dX2_init_33 : decode cX2_init 33 = .ok (.putfield 21, 3) := by decide +kernel
theorem dX2_init_36 : decode cX2_init 36 = .ok (.aload_n 0, 1) := by decide +kernel
theorem dX2_init_37 : decode cX2_init 37 = .ok (.iconst 0, 1) := by decide +kernel
theorem dX2_init_38 : decode cX2_init 38 = .ok (.putfield 24, 3) := by decide +kernel
theorem dX2_init_41 : decode cX2_init 41 = .ok (.aload_n 0, 1) := by decide +kernel
theorem dX2_init_42 : decode cX2_init 42 = .ok (.bipush 30, 2) := by decide +kernel
theorem dX2_init_44 : decode cX2_init 44 = .ok (.newarray .int, 2) := by decide +kernel
theorem dX2_init_46 : decode cX2_init 46 = .ok (.putfield 28, 3) := by decide +kernel
theorem dX2_init_49 : decode cX2_init 49 = .ok (.aload_n 0, 1) := by decide +kernel
theorem dX2_init_50 : decode cX2_init 50 = .ok (.iconst 0, 1) := by decide +kernel
theorem dX2_init_51 : decode cX2_init 51 = .ok (.putfield 31, 3) := by decide +kernel
theorem dX2_init_54 : decode cX2_init 54 = .ok (.return_, 1) := by decide +kernel
theorem dX2_clear_0 : decode cX2_clear 0 = .ok (.aload_n 0, 1) := by decide +kernel
theorem dX2_clear_1 : decode cX2_clear 1 = .ok (.iconst 0, 1) := by decide +kernel
theorem dX2_clear_2 : decode cX2_clear 2 = .ok (.putfield 24, 3) := by decide +kernel
theorem dX2_clear_5 : decode cX2_clear 5 = .ok (.aload_n 0, 1) := by decide +kernel
theorem dX2_clear_6 : decode cX2_clear 6 = .ok (.iconst 0, 1) := by decide +kernel
theorem dX2_clear_7 : decode cX2_clear 7 = .ok (.putfield 31, 3) := by decide +kernel
theorem dX2_clear_10 : decode cX2_clear 10 = .ok (.return_, 1) := by decide +kernel
theorem dX2_openWhen_0 : decode cX2_openWhen 0 = .ok (.aload_n 0, 1) := by decide +kernel
theorem dX2_openWhen_1 : decode cX2_openWhen 1 = .ok (.getfield 31, 3) := by decide +kernel
theorem dX2_openWhen_4 : decode cX2_openWhen 4 = .ok (.bipush 30, 2) := by decide +kernel
theorem dX2_openWhen_6 : decode cX2_openWhen 6 = .ok (.if_icmp .ge 32, 3) := by decide +kernel
theorem dX2_openWhen_9 : decode cX2_openWhen 9 = .ok (.aload_n 0, 1) := by decide +kernel
theorem dX2_openWhen_10 : decode cX2_openWhen 10 = .ok (.getfield 28, 3) := by decide +kernel
theorem dX2_openWhen_13 : decode cX2_openWhen 13 = .ok (.aload_n 0, 1) := by decide +kernel
theorem dX2_openWhen_14 : decode cX2_openWhen 14 = .ok (.getfield 31, 3) := by decide +kernel
theorem dX2_openWhen_17 : decode cX2_openWhen 17 = .ok (.aload_n 0, 1) := by decide +kernel
theorem dX2_openWhen_18 : decode cX2_openWhen 18 = .ok (.invokevirtual 34, 3) := by decide +kernel
theorem dX2_openWhen_21 : decode cX2_openWhen 21 = .ok (.iload_n 1, 1) := by decide +kernel
theorem dX2_openWhen_22 : decode cX2_openWhen 22 = .ok (.invokestatic 38, 3) := by decide +kernel
theorem dX2_openWhen_25 : decode cX2_openWhen 25 = .ok (.invokestatic 42, 3) := by decide +kernel
theorem dX2_openWhen_28 : decode cX2_openWhen 28 = .ok (.aload_n 0, 1) := by decide +kernel
theorem dX2_openWhen_29 : decode cX2_openWhen 29 = .ok (.dup, 1) := by decide +kernel
theorem dX2_openWhen_30 : decode cX2_openWhen 30 = .ok (.getfield 31, 3) := by decide +kernel
theorem dX2_openWhen_33 : decode cX2_openWhen 33 = .ok (.iconst 1, 1) := by decide +kernel
theorem dX2_openWhen_34 : decode cX2_openWhen 34 = .ok (.iadd, 1) := by decide +kernel
theorem dX2_openWhen_35 : decode cX2_openWhen 35 = .ok (.putfield 31, 3) := by decide +kernel
theorem dX2_openWhen_38 : decode cX2_openWhen 38 = .ok (.return_, 1) := by decide +kernel
theorem dX2_closeWhen_0 : decode cX2_closeWhen 0 = .ok (.aload_n 0, 1) := by decide +kernel
theorem dX2_closeWhen_1 : decode cX2_closeWhen 1 = .ok (.getfield 31, 3) := by decide +kernel
theorem dX2_closeWhen_4 : decode cX2_closeWhen 4 = .ok (.ifCond .le 13, 3) := by decide +kernel
theorem dX2_closeWhen_7 : decode cX2_closeWhen 7 = .ok (.aload_n 0, 1) := by decide +kernel
theorem dX2_closeWhen_8 : decode cX2_closeWhen 8 = .ok (.dup, 1) := by decide +kernel
theorem dX2_closeWhen_9 : decode cX2_closeWhen 9 = .ok (.getfield 31, 3) := by decide +kernel
theorem dX2_closeWhen_12 : decode cX2_closeWhen 12 = .ok (.iconst 1, 1) := by decide +kernel
theorem dX2_closeWhen_13 : decode cX2_closeWhen 13 = .ok (.isub, 1) := by decide +kernel
theorem dX2_closeWhen_14 : decode cX2_closeWhen 14 = .ok (.putfield 31, 3) := by decide +kernel
theorem dX2_closeWhen_17 : decode cX2_closeWhen 17 = .ok (.return_, 1) := by decide +kernel
theorem dX2_need_0 : decode cX2_need 0 = .ok (.aload_n 0, 1) := by decide +kernel
theorem dX2_need_1 : decode cX2_need 1 = .ok (.getfield 31, 3) := by decide +kernel
theorem dX2_need_4 : decode cX2_need 4 = .ok (.ifCond .ne 7, 3) := by decide +kernel
theorem dX2_need_7 : decode cX2_need 7 = .ok (.iconst (-1), 1) := by decide +kernel
theorem dX2_need_8 : decode cX2_need 8 = .ok (.goto 16, 3) := by decide +kernel
theorem dX2_need_11 : decode cX2_need 11 = .ok (.aload_n 0, 1) := by decide +kernel
theorem dX2_need_12 : decode cX2_need 12 = .ok (.getfield 28, 3) := by decide +kernel
theorem dX2_need_15 : decode cX2_need 15 = .ok (.aload_n 0, 1) := by decide +kernel
theorem dX2_need_16 : decode cX2_need 16 = .ok (.getfield 31, 3) := by decide +kernel
theorem dX2_need_19 : decode cX2_need 19 = .ok (.iconst 1, 1) := by decide +kernel
theorem dX2_need_20 : decode cX2_need 20 = .ok (.isub, 1) := by decide +kernel
theorem dX2_need_21 : decode cX2_need 21 = .ok (.invokestatic 46, 3) := by decide +kernel
theorem dX2_need_24 : decode cX2_need 24 = .ok (.ireturn, 1) := by decide +kernel
theorem dX2_together_0 : decode cX2_together 0 = .ok (.iload_n 0, 1) := by decide +kernel
theorem dX2_together_1 : decode cX2_together 1 = .ok (.iconst (-1), 1) := by decide +kernel
theorem dX2_together_2 : decode cX2_together 2 = .ok (.if_icmp .eq 8, 3) := by decide +kernel
theorem dX2_together_5 : decode cX2_together 5 = .ok (.iload_n 0, 1) := by decide +kernel
theorem dX2_together_6 : decode cX2_together 6 = .ok (.iload_n 1, 1) := by decide +kernel
theorem dX2_together_7 : decode cX2_together 7 = .ok (.if_icmp .ne 5, 3) := by decide +kernel
theorem dX2_together_10 : decode cX2_together 10 = .ok (.iload_n 1, 1) := by decide +kernel
theorem dX2_together_11 : decode cX2_together 11 = .ok (.ireturn, 1) := by decide +kernel
theorem dX2_together_12 : decode cX2_together 12 = .ok (.iload_n 1, 1) := by decide +kernel
theorem dX2_together_13 : decode cX2_together 13 = .ok (.iconst (-1), 1) := by decide +kernel
theorem dX2_together_14 : decode cX2_together 14 = .ok (.if_icmp .ne 7, 3) := by decide +kernel
theorem dX2_together_17 : decode cX2_together 17 = .ok (.iload_n 0, 1) := by decide +kernel
theorem dX2_together_18 : decode cX2_together 18 = .ok (.goto 5, 3) := by decide +kernel
theorem dX2_together_21 : decode cX2_together 21 = .ok (.bipush (-2), 2) := by decide +kernel
theorem dX2_together_23 : decode cX2_together 23 = .ok (.ireturn, 1) := by decide +kernel
theorem dX2_add_0 : decode cX2_add 0 = .ok (.iload_n 1, 1) := by decide +kernel
theorem dX2_add_1 : decode cX2_add 1 = .ok (.bipush (-2), 2) := by decide +kernel
theorem dX2_add_3 : decode cX2_add 3 = .ok (.if_icmp .eq 12, 3) := by decide +kernel
theorem dX2_add_6 : decode cX2_add 6 = .ok (.aload_n 0, 1) := by decide +kernel
theorem dX2_add_7 : decode cX2_add 7 = .ok (.getfield 24, 3) := by decide +kernel
theorem dX2_add_10 : decode cX2_add 10 = .ok (.bipush 100, 2) := by decide +kernel
theorem dX2_add_12 : decode cX2_add 12 = .ok (.if_icmp .lt 4, 3) := by decide +kernel
theorem dX2_add_15 : decode cX2_add 15 = .ok (.return_, 1) := by decide +kernel
theorem dX2_add_16 : decode cX2_add 16 = .ok (.aload_n 0, 1) := by decide +kernel
theorem dX2_add_17 : decode cX2_add 17 = .ok (.getfield 9, 3) := by decide +kernel
theorem dX2_add_20 : decode cX2_add 20 = .ok (.aload_n 0, 1) := by decide +kernel
theorem dX2_add_21 : decode cX2_add 21 = .ok (.getfield 24, 3) := by decide +kernel
theorem dX2_add_24 : decode cX2_add 24 = .ok (.iload_n 1, 1) := by decide +kernel
theorem dX2_add_25 : decode cX2_add 25 = .ok (.invokestatic 42, 3) := by decide +kernel
theorem dX2_add_28 : decode cX2_add 28 = .ok (.aload_n 0, 1) := by decide +kernel
theorem dX2_add_29 : decode cX2_add 29 = .ok (.getfield 15, 3) := by decide +kernel
theorem dX2_add_32 : decode cX2_add 32 = .ok (.aload_n 0, 1) := by decide +kernel
theorem dX2_add_33 : decode cX2_add 33 = .ok (.getfield 24, 3) := by decide +kernel
theorem dX2_add_36 : decode cX2_add 36 = .ok (.iload_n 2, 1) := by decide +kernel
theorem dX2_add_37 : decode cX2_add 37 = .ok (.invokestatic 42, 3) := by decide +kernel
theorem dX2_add_40 : decode cX2_add 40 = .ok (.aload_n 0, 1) := by decide +kernel
theorem dX2_add_41 : decode cX2_add 41 = .ok (.getfield 18, 3) := by decide +kernel
theorem dX2_add_44 : decode cX2_add 44 = .ok (.aload_n 0, 1) := by decide +kernel
theorem dX2_add_45 : decode cX2_add 45 = .ok (.getfield 24, 3) := by decide +kernel
theorem dX2_add_48 : decode cX2_add 48 = .ok (.iload_n 3, 1) := by decide +kernel
theorem dX2_add_49 : decode cX2_add 49 = .ok (.invokestatic 42, 3) := by decide +kernel
theorem dX2_add_52 : decode cX2_add 52 = .ok (.aload_n 0, 1) := by decide +kernel
theorem dX2_add_53 : decode cX2_add 53 = .ok (.getfield 21, 3) := by decide +kernel
theorem dX2_add_56 : decode cX2_add 56 = .ok (.aload_n 0, 1) := by decide +kernel
theorem dX2_add_57 : decode cX2_add 57 = .ok (.getfield 24, 3) := by decide +kernel
theorem dX2_add_60 : decode cX2_add 60 = .ok (.iload 4, 2) := by decide +kernel
theorem dX2_add_62 : decode cX2_add 62 = .ok (.invokestatic 42, 3) := by decide +kernel
theorem dX2_add_65 : decode cX2_add 65 = .ok (.aload_n 0, 1) := by decide +kernel
theorem dX2_add_66 : decode cX2_add 66 = .ok (.dup, 1) := by decide +kernel
theorem dX2_add_67 : decode cX2_add 67 = .ok (.getfield 24, 3) := by decide +kernel
theorem dX2_add_70 : decode cX2_add 70 = .ok (.iconst 1, 1) := by decide +kernel
theorem dX2_add_71 : decode cX2_add 71 = .ok (.iadd, 1) := by decide +kernel
theorem dX2_add_72 : decode cX2_add 72 = .ok (.putfield 24, 3) := by decide +kernel
theorem dX2_add_75 : decode cX2_add 75 = .ok (.return_, 1) := by decide +kernel
theorem dX2_takeCalled_0 : decode cX2_takeCalled 0 = .ok (.iconst 0, 1) := by decide +kernel
theorem dX2_takeCalled_1 : decode cX2_takeCalled 1 = .ok (.istore_n 3, 1) := by decide +kernel
theorem dX2_takeCalled_2 : decode cX2_takeCalled 2 = .ok (.iload_n 3, 1) := by decide +kernel
theorem dX2_takeCalled_3 : decode cX2_takeCalled 3 = .ok (.aload_n 1, 1) := by decide +kernel
theorem dX2_takeCalled_4 : decode cX2_takeCalled 4 = .ok (.getfield 24, 3) := by decide +kernel
theorem dX2_takeCalled_7 : decode cX2_takeCalled 7 = .ok (.if_icmp .ge 42, 3) := by decide +kernel
theorem dX2_takeCalled_10 : decode cX2_takeCalled 10 = .ok (.aload_n 1, 1) := by decide +kernel
theorem dX2_takeCalled_11 : decode cX2_takeCalled 11 = .ok (.iload_n 3, 1) := by decide +kernel
theorem dX2_takeCalled_12 : decode cX2_takeCalled 12 = .ok (.iload_n 2, 1) := by decide +kernel
theorem dX2_takeCalled_13 : decode cX2_takeCalled 13 = .ok (.invokevirtual 50, 3) := by decide +kernel
theorem dX2_takeCalled_16 : decode cX2_takeCalled 16 = .ok (.ifCond .eq 27, 3) := by decide +kernel
theorem dX2_takeCalled_19 : decode cX2_takeCalled 19 = .ok (.aload_n 0, 1) := by decide +kernel
theorem dX2_takeCalled_20 : decode cX2_takeCalled 20 = .ok (.aload_n 0, 1) := by decide +kernel
theorem dX2_takeCalled_21 : decode cX2_takeCalled 21 = .ok (.invokevirtual 34, 3) := by decide +kernel
theorem dX2_takeCalled_24 : decode cX2_takeCalled 24 = .ok (.aload_n 1, 1) := by decide +kernel
theorem dX2_takeCalled_25 : decode cX2_takeCalled 25 = .ok (.iload_n 3, 1) := by decide +kernel
theorem dX2_takeCalled_26 : decode cX2_takeCalled 26 = .ok (.invokevirtual 54, 3) := by decide +kernel
theorem dX2_takeCalled_29 : decode cX2_takeCalled 29 = .ok (.aload_n 1, 1) := by decide +kernel
theorem dX2_takeCalled_30 : decode cX2_takeCalled 30 = .ok (.iload_n 3, 1) := by decide +kernel
theorem dX2_takeCalled_31 : decode cX2_takeCalled 31 = .ok (.iload_n 2, 1) := by decide +kernel
theorem dX2_takeCalled_32 : decode cX2_takeCalled 32 = .ok (.invokevirtual 58, 3) := by decide +kernel
theorem dX2_takeCalled_35 : decode cX2_takeCalled 35 = .ok (.aload_n 1, 1) := by decide +kernel
theorem dX2_takeCalled_36 : decode cX2_takeCalled 36 = .ok (.iload_n 3, 1) := by decide +kernel
theorem dX2_takeCalled_37 : decode cX2_takeCalled 37 = .ok (.invokevirtual 61, 3) := by decide +kernel
theorem dX2_takeCalled_40 : decode cX2_takeCalled 40 = .ok (.invokevirtual 64, 3) := by decide +kernel
theorem dX2_takeCalled_43 : decode cX2_takeCalled 43 = .ok (.iinc 3 1, 3) := by decide +kernel
theorem dX2_takeCalled_46 : decode cX2_takeCalled 46 = .ok (.goto (-44), 3) := by decide +kernel
theorem dX2_takeCalled_49 : decode cX2_takeCalled 49 = .ok (.return_, 1) := by decide +kernel
theorem dX2_takeCalledOn_0 : decode cX2_takeCalledOn 0 = .ok (.iconst 0, 1) := by decide +kernel
theorem dX2_takeCalledOn_1 : decode cX2_takeCalledOn 1 = .ok (.istore_n 2, 1) := by decide +kernel
theorem dX2_takeCalledOn_2 : decode cX2_takeCalledOn 2 = .ok (.iload_n 2, 1) := by decide +kernel
theorem dX2_takeCalledOn_3 : decode cX2_takeCalledOn 3 = .ok (.aload_n 1, 1) := by decide +kernel
theorem dX2_takeCalledOn_4 : decode cX2_takeCalledOn 4 = .ok (.getfield 24, 3) := by decide +kernel
theorem dX2_takeCalledOn_7 : decode cX2_takeCalledOn 7 = .ok (.if_icmp .ge 51, 3) := by decide +kernel
theorem dX2_takeCalledOn_10 : decode cX2_takeCalledOn 10 = .ok (.aload_n 0, 1) := by decide +kernel
theorem dX2_takeCalledOn_11 : decode cX2_takeCalledOn 11 = .ok (.invokevirtual 34, 3) := by decide +kernel
theorem dX2_takeCalledOn_14 : decode cX2_takeCalledOn 14 = .ok (.aload_n 1, 1) := by decide +kernel
theorem dX2_takeCalledOn_15 : decode cX2_takeCalledOn 15 = .ok (.getfield 9, 3) := by decide +kernel
theorem dX2_takeCalledOn_18 : decode cX2_takeCalledOn 18 = .ok (.iload_n 2, 1) := by decide +kernel
theorem dX2_takeCalledOn_19 : decode cX2_takeCalledOn 19 = .ok (.invokestatic 46, 3) := by decide +kernel
theorem dX2_takeCalledOn_22 : decode cX2_takeCalledOn 22 = .ok (.invokestatic 38, 3) := by decide +kernel
theorem dX2_takeCalledOn_25 : decode cX2_takeCalledOn 25 = .ok (.istore_n 3, 1) := by decide +kernel
theorem dX2_takeCalledOn_26 : decode cX2_takeCalledOn 26 = .ok (.aload_n 0, 1) := by decide +kernel
theorem dX2_takeCalledOn_27 : decode cX2_takeCalledOn 27 = .ok (.iload_n 3, 1) := by decide +kernel
theorem dX2_takeCalledOn_28 : decode cX2_takeCalledOn 28 = .ok (.aload_n 1, 1) := by decide +kernel
theorem dX2_takeCalledOn_29 : decode cX2_takeCalledOn 29 = .ok (.getfield 15, 3) := by decide +kernel
theorem dX2_takeCalledOn_32 : decode cX2_takeCalledOn 32 = .ok (.iload_n 2, 1) := by decide +kernel
theorem dX2_takeCalledOn_33 : decode cX2_takeCalledOn 33 = .ok (.invokestatic 46, 3) := by decide +kernel
theorem dX2_takeCalledOn_36 : decode cX2_takeCalledOn 36 = .ok (.aload_n 1, 1) := by decide +kernel
theorem dX2_takeCalledOn_37 : decode cX2_takeCalledOn 37 = .ok (.getfield 18, 3) := by decide +kernel
theorem dX2_takeCalledOn_40 : decode cX2_takeCalledOn 40 = .ok (.iload_n 2, 1) := by decide +kernel
theorem dX2_takeCalledOn_41 : decode cX2_takeCalledOn 41 = .ok (.invokestatic 46, 3) := by decide +kernel
theorem dX2_takeCalledOn_44 : decode cX2_takeCalledOn 44 = .ok (.aload_n 1, 1) := by decide +kernel
theorem dX2_takeCalledOn_45 : decode cX2_takeCalledOn 45 = .ok (.iload_n 2, 1) := by decide +kernel
theorem dX2_takeCalledOn_46 : decode cX2_takeCalledOn 46 = .ok (.invokevirtual 61, 3) := by decide +kernel
theorem dX2_takeCalledOn_49 : decode cX2_takeCalledOn 49 = .ok (.invokevirtual 64, 3) := by decide +kernel
theorem dX2_takeCalledOn_52 : decode cX2_takeCalledOn 52 = .ok (.iinc 2 1, 3) := by decide +kernel
theorem dX2_takeCalledOn_55 : decode cX2_takeCalledOn 55 = .ok (.goto (-53), 3) := by decide +kernel
theorem dX2_takeCalledOn_58 : decode cX2_takeCalledOn 58 = .ok (.return_, 1) := by decide +kernel
theorem dX2_shows_0 : decode cX2_shows 0 = .ok (.aload_n 0, 1) := by decide +kernel
theorem dX2_shows_1 : decode cX2_shows 1 = .ok (.getfield 9, 3) := by decide +kernel
theorem dX2_shows_4 : decode cX2_shows 4 = .ok (.iload_n 1, 1) := by decide +kernel
theorem dX2_shows_5 : decode cX2_shows 5 = .ok (.invokestatic 46, 3) := by decide +kernel
theorem dX2_shows_8 : decode cX2_shows 8 = .ok (.istore_n 3, 1) := by decide +kernel
theorem dX2_shows_9 : decode cX2_shows 9 = .ok (.iload_n 3, 1) := by decide +kernel
theorem dX2_shows_10 : decode cX2_shows 10 = .ok (.iconst (-1), 1) := by decide +kernel
theorem dX2_shows_11 : decode cX2_shows 11 = .ok (.if_icmp .eq 8, 3) := by decide +kernel
theorem dX2_shows_14 : decode cX2_shows 14 = .ok (.iload_n 3, 1) := by decide +kernel
theorem dX2_shows_15 : decode cX2_shows 15 = .ok (.iload_n 2, 1) := by decide +kernel
theorem dX2_shows_16 : decode cX2_shows 16 = .ok (.if_icmp .ne 24, 3) := by decide +kernel
theorem dX2_shows_19 : decode cX2_shows 19 = .ok (.iload_n 2, 1) := by decide +kernel
theorem dX2_shows_20 : decode cX2_shows 20 = .ok (.iconst (-1), 1) := by decide +kernel
theorem dX2_shows_21 : decode cX2_shows 21 = .ok (.if_icmp .ne 15, 3) := by decide +kernel
theorem dX2_shows_24 : decode cX2_shows 24 = .ok (.aload_n 0, 1) := by decide +kernel
theorem dX2_shows_25 : decode cX2_shows 25 = .ok (.getfield 15, 3) := by decide +kernel
theorem dX2_shows_28 : decode cX2_shows 28 = .ok (.iload_n 1, 1) := by decide +kernel
theorem dX2_shows_29 : decode cX2_shows 29 = .ok (.invokestatic 46, 3) := by decide +kernel
theorem dX2_shows_32 : decode cX2_shows 32 = .ok (.iconst 3, 1) := by decide +kernel
theorem dX2_shows_33 : decode cX2_shows 33 = .ok (.if_icmp .eq 7, 3) := by decide +kernel
theorem dX2_shows_36 : decode cX2_shows 36 = .ok (.iconst 1, 1) := by decide +kernel
theorem dX2_shows_37 : decode cX2_shows 37 = .ok (.goto 4, 3) := by decide +kernel
theorem dX2_shows_40 : decode cX2_shows 40 = .ok (.iconst 0, 1) := by decide +kernel
theorem dX2_shows_41 : decode cX2_shows 41 = .ok (.ireturn, 1) := by decide +kernel
theorem dX2_showsSort_0 : decode cX2_showsSort 0 = .ok (.aload_n 0, 1) := by decide +kernel
theorem dX2_showsSort_1 : decode cX2_showsSort 1 = .ok (.iload_n 1, 1) := by decide +kernel
theorem dX2_showsSort_2 : decode cX2_showsSort 2 = .ok (.iconst (-1), 1) := by decide +kernel
theorem dX2_showsSort_3 : decode cX2_showsSort 3 = .ok (.invokevirtual 50, 3) := by decide +kernel
theorem dX2_showsSort_6 : decode cX2_showsSort 6 = .ok (.ifCond .eq 16, 3) := by decide +kernel
theorem dX2_showsSort_9 : decode cX2_showsSort 9 = .ok (.aload_n 0, 1) := by decide +kernel
theorem dX2_showsSort_10 : decode cX2_showsSort 10 = .ok (.iload_n 1, 1) := by decide +kernel
theorem dX2_showsSort_11 : decode cX2_showsSort 11 = .ok (.invokevirtual 54, 3) := by decide +kernel
theorem dX2_showsSort_14 : decode cX2_showsSort 14 = .ok (.iload_n 2, 1) := by decide +kernel
theorem dX2_showsSort_15 : decode cX2_showsSort 15 = .ok (.if_icmp .ne 7, 3) := by decide +kernel
theorem dX2_showsSort_18 : decode cX2_showsSort 18 = .ok (.iconst 1, 1) := by decide +kernel
theorem dX2_showsSort_19 : decode cX2_showsSort 19 = .ok (.goto 4, 3) := by decide +kernel
theorem dX2_showsSort_22 : decode cX2_showsSort 22 = .ok (.iconst 0, 1) := by decide +kernel
theorem dX2_showsSort_23 : decode cX2_showsSort 23 = .ok (.ireturn, 1) := by decide +kernel
theorem dX2_hasAnchor_0 : decode cX2_hasAnchor 0 = .ok (.iconst 0, 1) := by decide +kernel
theorem dX2_hasAnchor_1 : decode cX2_hasAnchor 1 = .ok (.istore_n 2, 1) := by decide +kernel
theorem dX2_hasAnchor_2 : decode cX2_hasAnchor 2 = .ok (.iload_n 2, 1) := by decide +kernel
theorem dX2_hasAnchor_3 : decode cX2_hasAnchor 3 = .ok (.aload_n 0, 1) := by decide +kernel
theorem dX2_hasAnchor_4 : decode cX2_hasAnchor 4 = .ok (.getfield 24, 3) := by decide +kernel
theorem dX2_hasAnchor_7 : decode cX2_hasAnchor 7 = .ok (.if_icmp .ge 30, 3) := by decide +kernel
theorem dX2_hasAnchor_10 : decode cX2_hasAnchor 10 = .ok (.aload_n 0, 1) := by decide +kernel
theorem dX2_hasAnchor_11 : decode cX2_hasAnchor 11 = .ok (.iload_n 2, 1) := by decide +kernel
theorem dX2_hasAnchor_12 : decode cX2_hasAnchor 12 = .ok (.iconst 1, 1) := by decide +kernel
theorem dX2_hasAnchor_13 : decode cX2_hasAnchor 13 = .ok (.invokevirtual 68, 3) := by decide +kernel
theorem dX2_hasAnchor_16 : decode cX2_hasAnchor 16 = .ok (.ifCond .eq 15, 3) := by decide +kernel
theorem dX2_hasAnchor_19 : decode cX2_hasAnchor 19 = .ok (.aload_n 0, 1) := by decide +kernel
theorem dX2_hasAnchor_20 : decode cX2_hasAnchor 20 = .ok (.iload_n 2, 1) := by decide +kernel
theorem dX2_hasAnchor_21 : decode cX2_hasAnchor 21 = .ok (.iconst (-1), 1) := by decide +kernel
theorem dX2_hasAnchor_22 : decode cX2_hasAnchor 22 = .ok (.invokevirtual 58, 3) := by decide +kernel
theorem dX2_hasAnchor_25 : decode cX2_hasAnchor 25 = .ok (.iload_n 1, 1) := by decide +kernel
theorem dX2_hasAnchor_26 : decode cX2_hasAnchor 26 = .ok (.if_icmp .ne 5, 3) := by decide +kernel
theorem dX2_hasAnchor_29 : decode cX2_hasAnchor 29 = .ok (.iconst 1, 1) := by decide +kernel
theorem dX2_hasAnchor_30 : decode cX2_hasAnchor 30 = .ok (.ireturn, 1) := by decide +kernel
theorem dX2_hasAnchor_31 : decode cX2_hasAnchor 31 = .ok (.iinc 2 1, 3) := by decide +kernel
theorem dX2_hasAnchor_34 : decode cX2_hasAnchor 34 = .ok (.goto (-32), 3) := by decide +kernel
theorem dX2_hasAnchor_37 : decode cX2_hasAnchor 37 = .ok (.iconst 0, 1) := by decide +kernel
theorem dX2_hasAnchor_38 : decode cX2_hasAnchor 38 = .ok (.ireturn, 1) := by decide +kernel
theorem dX2_count_0 : decode cX2_count 0 = .ok (.iconst 0, 1) := by decide +kernel
theorem dX2_count_1 : decode cX2_count 1 = .ok (.istore_n 2, 1) := by decide +kernel
theorem dX2_count_2 : decode cX2_count 2 = .ok (.iconst 0, 1) := by decide +kernel
theorem dX2_count_3 : decode cX2_count 3 = .ok (.istore_n 3, 1) := by decide +kernel
theorem dX2_count_4 : decode cX2_count 4 = .ok (.iload_n 3, 1) := by decide +kernel
theorem dX2_count_5 : decode cX2_count 5 = .ok (.aload_n 0, 1) := by decide +kernel
theorem dX2_count_6 : decode cX2_count 6 = .ok (.getfield 24, 3) := by decide +kernel
theorem dX2_count_9 : decode cX2_count 9 = .ok (.if_icmp .ge 21, 3) := by decide +kernel
theorem dX2_count_12 : decode cX2_count 12 = .ok (.aload_n 0, 1) := by decide +kernel
theorem dX2_count_13 : decode cX2_count 13 = .ok (.iload_n 3, 1) := by decide +kernel
theorem dX2_count_14 : decode cX2_count 14 = .ok (.iload_n 1, 1) := by decide +kernel
theorem dX2_count_15 : decode cX2_count 15 = .ok (.invokevirtual 50, 3) := by decide +kernel
theorem dX2_count_18 : decode cX2_count 18 = .ok (.ifCond .eq 6, 3) := by decide +kernel
theorem dX2_count_21 : decode cX2_count 21 = .ok (.iinc 2 1, 3) := by decide +kernel
theorem dX2_count_24 : decode cX2_count 24 = .ok (.iinc 3 1, 3) := by decide +kernel
theorem dX2_count_27 : decode cX2_count 27 = .ok (.goto (-23), 3) := by decide +kernel
theorem dX2_count_30 : decode cX2_count 30 = .ok (.iload_n 2, 1) := by decide +kernel
theorem dX2_count_31 : decode cX2_count 31 = .ok (.ireturn, 1) := by decide +kernel
theorem dX2_find_0 : decode cX2_find 0 = .ok (.iconst 0, 1) := by decide +kernel
theorem dX2_find_1 : decode cX2_find 1 = .ok (.istore_n 3, 1) := by decide +kernel
theorem dX2_find_2 : decode cX2_find 2 = .ok (.iconst 0, 1) := by decide +kernel
theorem dX2_find_3 : decode cX2_find 3 = .ok (.istore 4, 2) := by decide +kernel
theorem dX2_find_5 : decode cX2_find 5 = .ok (.iload 4, 2) := by decide +kernel
theorem dX2_find_7 : decode cX2_find 7 = .ok (.aload_n 0, 1) := by decide +kernel
theorem dX2_find_8 : decode cX2_find 8 = .ok (.getfield 24, 3) := by decide +kernel
theorem dX2_find_11 : decode cX2_find 11 = .ok (.if_icmp .ge 30, 3) := by decide +kernel
theorem dX2_find_14 : decode cX2_find 14 = .ok (.aload_n 0, 1) := by decide +kernel
theorem dX2_find_15 : decode cX2_find 15 = .ok (.iload 4, 2) := by decide +kernel
theorem dX2_find_17 : decode cX2_find 17 = .ok (.iload_n 1, 1) := by decide +kernel
theorem dX2_find_18 : decode cX2_find 18 = .ok (.invokevirtual 50, 3) := by decide +kernel
theorem dX2_find_21 : decode cX2_find 21 = .ok (.ifCond .eq 14, 3) := by decide +kernel
theorem dX2_find_24 : decode cX2_find 24 = .ok (.iload_n 3, 1) := by decide +kernel
theorem dX2_find_25 : decode cX2_find 25 = .ok (.iload_n 2, 1) := by decide +kernel
theorem dX2_find_26 : decode cX2_find 26 = .ok (.if_icmp .ne 6, 3) := by decide +kernel
theorem dX2_find_29 : decode cX2_find 29 = .ok (.iload 4, 2) := by decide +kernel
theorem dX2_find_31 : decode cX2_find 31 = .ok (.ireturn, 1) := by decide +kernel
theorem dX2_find_32 : decode cX2_find 32 = .ok (.iinc 3 1, 3) := by decide +kernel
theorem dX2_find_35 : decode cX2_find 35 = .ok (.iinc 4 1, 3) := by decide +kernel
theorem dX2_find_38 : decode cX2_find 38 = .ok (.goto (-33), 3) := by decide +kernel
theorem dX2_find_41 : decode cX2_find 41 = .ok (.iconst (-1), 1) := by decide +kernel
theorem dX2_find_42 : decode cX2_find 42 = .ok (.ireturn, 1) := by decide +kernel
theorem dX2_itemSort_0 : decode cX2_itemSort 0 = .ok (.aload_n 0, 1) := by decide +kernel
theorem dX2_itemSort_1 : decode cX2_itemSort 1 = .ok (.getfield 15, 3) := by decide +kernel
theorem dX2_itemSort_4 : decode cX2_itemSort 4 = .ok (.iload_n 1, 1) := by decide +kernel
theorem dX2_itemSort_5 : decode cX2_itemSort 5 = .ok (.invokestatic 46, 3) := by decide +kernel
theorem dX2_itemSort_8 : decode cX2_itemSort 8 = .ok (.istore_n 2, 1) := by decide +kernel
theorem dX2_itemSort_9 : decode cX2_itemSort 9 = .ok (.iload_n 2, 1) := by decide +kernel
theorem dX2_itemSort_10 : decode cX2_itemSort 10 = .ok (.iconst 3, 1) := by decide +kernel
theorem dX2_itemSort_11 : decode cX2_itemSort 11 = .ok (.if_icmp .ne 7, 3) := by decide +kernel
theorem dX2_itemSort_14 : decode cX2_itemSort 14 = .ok (.iconst 0, 1) := by decide +kernel
theorem dX2_itemSort_15 : decode cX2_itemSort 15 = .ok (.goto 4, 3) := by decide +kernel
theorem dX2_itemSort_18 : decode cX2_itemSort 18 = .ok (.iload_n 2, 1) := by decide +kernel
theorem dX2_itemSort_19 : decode cX2_itemSort 19 = .ok (.ireturn, 1) := by decide +kernel
theorem dX2_itemWith_0 : decode cX2_itemWith 0 = .ok (.aload_n 0, 1) := by decide +kernel
theorem dX2_itemWith_1 : decode cX2_itemWith 1 = .ok (.getfield 15, 3) := by decide +kernel
theorem dX2_itemWith_4 : decode cX2_itemWith 4 = .ok (.iload_n 1, 1) := by decide +kernel
theorem dX2_itemWith_5 : decode cX2_itemWith 5 = .ok (.invokestatic 46, 3) := by decide +kernel
theorem dX2_itemWith_8 : decode cX2_itemWith 8 = .ok (.iconst 3, 1) := by decide +kernel
theorem dX2_itemWith_9 : decode cX2_itemWith 9 = .ok (.if_icmp .ne 7, 3) := by decide +kernel
theorem dX2_itemWith_12 : decode cX2_itemWith 12 = .ok (.iload_n 2, 1) := by decide +kernel
theorem dX2_itemWith_13 : decode cX2_itemWith 13 = .ok (.goto 11, 3) := by decide +kernel
theorem dX2_itemWith_16 : decode cX2_itemWith 16 = .ok (.aload_n 0, 1) := by decide +kernel
theorem dX2_itemWith_17 : decode cX2_itemWith 17 = .ok (.getfield 18, 3) := by decide +kernel
theorem dX2_itemWith_20 : decode cX2_itemWith 20 = .ok (.iload_n 1, 1) := by decide +kernel
theorem dX2_itemWith_21 : decode cX2_itemWith 21 = .ok (.invokestatic 46, 3) := by decide +kernel
theorem dX2_itemWith_24 : decode cX2_itemWith 24 = .ok (.ireturn, 1) := by decide +kernel
theorem dX2_sourceOf_0 : decode cX2_sourceOf 0 = .ok (.aload_n 0, 1) := by decide +kernel
theorem dX2_sourceOf_1 : decode cX2_sourceOf 1 = .ok (.getfield 21, 3) := by decide +kernel
theorem dX2_sourceOf_4 : decode cX2_sourceOf 4 = .ok (.iload_n 1, 1) := by decide +kernel
theorem dX2_sourceOf_5 : decode cX2_sourceOf 5 = .ok (.invokestatic 46, 3) := by decide +kernel
theorem dX2_sourceOf_8 : decode cX2_sourceOf 8 = .ok (.ireturn, 1) := by decide +kernel
theorem dX3_init_0 : decode cX3_init 0 = .ok (.aload_n 0, 1) := by decide +kernel
theorem dX3_init_1 : decode cX3_init 1 = .ok (.invokespecial 3, 3) := by decide +kernel
theorem dX3_init_4 : decode cX3_init 4 = .ok (.aload_n 0, 1) := by decide +kernel
theorem dX3_init_5 : decode cX3_init 5 = .ok (.bipush 30, 2) := by decide +kernel
theorem dX3_init_7 : decode cX3_init 7 = .ok (.newarray .int, 2) := by decide +kernel
theorem dX3_init_9 : decode cX3_init 9 = .ok (.putfield 9, 3) := by decide +kernel
theorem dX3_init_12 : decode cX3_init 12 = .ok (.aload_n 0, 1) := by decide +kernel
theorem dX3_init_13 : decode cX3_init 13 = .ok (.bipush 30, 2) := by decide +kernel
theorem dX3_init_15 : decode cX3_init 15 = .ok (.newarray .int, 2) := by decide +kernel
theorem dX3_init_17 : decode cX3_init 17 = .ok (.putfield 15, 3) := by decide +kernel
theorem dX3_init_20 : decode cX3_init 20 = .ok (.aload_n 0, 1) := by decide +kernel
theorem dX3_init_21 : decode cX3_init 21 = .ok (.bipush 30, 2) := by decide +kernel
theorem dX3_init_23 : decode cX3_init 23 = .ok (.newarray .int, 2) := by decide +kernel
theorem dX3_init_25 : decode cX3_init 25 = .ok (.putfield 18, 3) := by decide +kernel
theorem dX3_init_28 : decode cX3_init 28 = .ok (.aload_n 0, 1) := by decide +kernel
theorem dX3_init_29 : decode cX3_init 29 = .ok (.iconst 0, 1) := by decide +kernel
theorem dX3_init_30 : decode cX3_init 30 = .ok (.putfield 21, 3) := by decide +kernel
theorem dX3_init_33 : decode cX3_init 33 = .ok (.aload_n 0, 1) := by decide +kernel
theorem dX3_init_34 : decode cX3_init 34 = .ok (.iconst 0, 1) := by decide +kernel
theorem dX3_init_35 : decode cX3_init 35 = .ok (.putfield 25, 3) := by decide +kernel
theorem dX3_init_38 : decode cX3_init 38 = .ok (.return_, 1) := by decide +kernel
theorem dX3_add_0 : decode cX3_add 0 = .ok (.aload_n 0, 1) := by decide +kernel
theorem dX3_add_1 : decode cX3_add 1 = .ok (.getfield 21, 3) := by decide +kernel
theorem dX3_add_4 : decode cX3_add 4 = .ok (.bipush 30, 2) := by decide +kernel
theorem dX3_add_6 : decode cX3_add 6 = .ok (.if_icmp .lt 4, 3) := by decide +kernel
theorem dX3_add_9 : decode cX3_add 9 = .ok (.return_, 1) := by decide +kernel
theorem dX3_add_10 : decode cX3_add 10 = .ok (.aload_n 0, 1) := by decide +kernel
theorem dX3_add_11 : decode cX3_add 11 = .ok (.getfield 9, 3) := by decide +kernel
theorem dX3_add_14 : decode cX3_add 14 = .ok (.aload_n 0, 1) := by decide +kernel
theorem dX3_add_15 : decode cX3_add 15 = .ok (.getfield 21, 3) := by decide +kernel
theorem dX3_add_18 : decode cX3_add 18 = .ok (.iload_n 1, 1) := by decide +kernel
theorem dX3_add_19 : decode cX3_add 19 = .ok (.invokestatic 28, 3) := by decide +kernel
theorem dX3_add_22 : decode cX3_add 22 = .ok (.aload_n 0, 1) := by decide +kernel
theorem dX3_add_23 : decode cX3_add 23 = .ok (.getfield 15, 3) := by decide +kernel
theorem dX3_add_26 : decode cX3_add 26 = .ok (.aload_n 0, 1) := by decide +kernel
theorem dX3_add_27 : decode cX3_add 27 = .ok (.getfield 21, 3) := by decide +kernel
theorem dX3_add_30 : decode cX3_add 30 = .ok (.iload_n 2, 1) := by decide +kernel
theorem dX3_add_31 : decode cX3_add 31 = .ok (.invokestatic 28, 3) := by decide +kernel
theorem dX3_add_34 : decode cX3_add 34 = .ok (.aload_n 0, 1) := by decide +kernel
theorem dX3_add_35 : decode cX3_add 35 = .ok (.getfield 18, 3) := by decide +kernel
theorem dX3_add_38 : decode cX3_add 38 = .ok (.aload_n 0, 1) := by decide +kernel
theorem dX3_add_39 : decode cX3_add 39 = .ok (.getfield 21, 3) := by decide +kernel
theorem dX3_add_42 : decode cX3_add 42 = .ok (.iload_n 3, 1) := by decide +kernel
theorem dX3_add_43 : decode cX3_add 43 = .ok (.invokestatic 28, 3) := by decide +kernel
theorem dX3_add_46 : decode cX3_add 46 = .ok (.aload_n 0, 1) := by decide +kernel
theorem dX3_add_47 : decode cX3_add 47 = .ok (.dup, 1) := by decide +kernel
theorem dX3_add_48 : decode cX3_add 48 = .ok (.getfield 21, 3) := by decide +kernel
theorem dX3_add_51 : decode cX3_add 51 = .ok (.iconst 1, 1) := by decide +kernel
theorem dX3_add_52 : decode cX3_add 52 = .ok (.iadd, 1) := by decide +kernel
theorem dX3_add_53 : decode cX3_add 53 = .ok (.putfield 21, 3) := by decide +kernel
theorem dX3_add_56 : decode cX3_add 56 = .ok (.iload_n 1, 1) := by decide +kernel
theorem dX3_add_57 : decode cX3_add 57 = .ok (.bipush 6, 2) := by decide +kernel
theorem dX3_add_59 : decode cX3_add 59 = .ok (.if_icmp .ne 16, 3) := by decide +kernel
theorem dX3_add_62 : decode cX3_add 62 = .ok (.aload_n 0, 1) := by decide +kernel
theorem dX3_add_63 : decode cX3_add 63 = .ok (.dup, 1) := by decide +kernel
theorem dX3_add_64 : decode cX3_add 64 = .ok (.getfield 25, 3) := by decide +kernel
theorem dX3_add_67 : decode cX3_add 67 = .ok (.iconst 1, 1) := by decide +kernel
theorem dX3_add_68 : decode cX3_add 68 = .ok (.iadd, 1) := by decide +kernel
theorem dX3_add_69 : decode cX3_add 69 = .ok (.putfield 25, 3) := by decide +kernel
theorem dX3_add_72 : decode cX3_add 72 = .ok (.goto 19, 3) := by decide +kernel
theorem dX3_add_75 : decode cX3_add 75 = .ok (.iload_n 1, 1) := by decide +kernel
theorem dX3_add_76 : decode cX3_add 76 = .ok (.bipush 7, 2) := by decide +kernel
theorem dX3_add_78 : decode cX3_add 78 = .ok (.if_icmp .ne 13, 3) := by decide +kernel
theorem dX3_add_81 : decode cX3_add 81 = .ok (.aload_n 0, 1) := by decide +kernel
theorem dX3_add_82 : decode cX3_add 82 = .ok (.dup, 1) := by decide +kernel
theorem dX3_add_83 : decode cX3_add 83 = .ok (.getfield 25, 3) := by decide +kernel
theorem dX3_add_86 : decode cX3_add 86 = .ok (.iconst 1, 1) := by decide +kernel
theorem dX3_add_87 : decode cX3_add 87 = .ok (.isub, 1) := by decide +kernel
theorem dX3_add_88 : decode cX3_add 88 = .ok (.putfield 25, 3) := by decide +kernel
theorem dX3_add_91 : decode cX3_add 91 = .ok (.return_, 1) := by decide +kernel
theorem dX3_clear_0 : decode cX3_clear 0 = .ok (.aload_n 0, 1) := by decide +kernel
theorem dX3_clear_1 : decode cX3_clear 1 = .ok (.iconst 0, 1) := by decide +kernel
theorem dX3_clear_2 : decode cX3_clear 2 = .ok (.putfield 21, 3) := by decide +kernel
theorem dX3_clear_5 : decode cX3_clear 5 = .ok (.aload_n 0, 1) := by decide +kernel
theorem dX3_clear_6 : decode cX3_clear 6 = .ok (.iconst 0, 1) := by decide +kernel
theorem dX3_clear_7 : decode cX3_clear 7 = .ok (.putfield 25, 3) := by decide +kernel
theorem dX3_clear_10 : decode cX3_clear 10 = .ok (.return_, 1) := by decide +kernel
theorem dX3_addAll_0 : decode cX3_addAll 0 = .ok (.iconst 0, 1) := by decide +kernel
theorem dX3_addAll_1 : decode cX3_addAll 1 = .ok (.istore_n 2, 1) := by decide +kernel
theorem dX3_addAll_2 : decode cX3_addAll 2 = .ok (.iload_n 2, 1) := by decide +kernel
theorem dX3_addAll_3 : decode cX3_addAll 3 = .ok (.aload_n 1, 1) := by decide +kernel
theorem dX3_addAll_4 : decode cX3_addAll 4 = .ok (.getfield 21, 3) := by decide +kernel
theorem dX3_addAll_7 : decode cX3_addAll 7 = .ok (.if_icmp .ge 28, 3) := by decide +kernel
theorem dX3_addAll_10 : decode cX3_addAll 10 = .ok (.aload_n 0, 1) := by decide +kernel
theorem dX3_addAll_11 : decode cX3_addAll 11 = .ok (.aload_n 1, 1) := by decide +kernel
theorem dX3_addAll_12 : decode cX3_addAll 12 = .ok (.iload_n 2, 1) := by decide +kernel
theorem dX3_addAll_13 : decode cX3_addAll 13 = .ok (.invokevirtual 32, 3) := by decide +kernel
theorem dX3_addAll_16 : decode cX3_addAll 16 = .ok (.aload_n 1, 1) := by decide +kernel
theorem dX3_addAll_17 : decode cX3_addAll 17 = .ok (.iload_n 2, 1) := by decide +kernel
theorem dX3_addAll_18 : decode cX3_addAll 18 = .ok (.invokevirtual 36, 3) := by decide +kernel
theorem dX3_addAll_21 : decode cX3_addAll 21 = .ok (.aload_n 1, 1) := by decide +kernel
theorem dX3_addAll_22 : decode cX3_addAll 22 = .ok (.iload_n 2, 1) := by decide +kernel
theorem dX3_addAll_23 : decode cX3_addAll 23 = .ok (.invokevirtual 39, 3) := by decide +kernel
theorem dX3_addAll_26 : decode cX3_addAll 26 = .ok (.invokevirtual 42, 3) := by decide +kernel
theorem dX3_addAll_29 : decode cX3_addAll 29 = .ok (.iinc 2 1, 3) := by decide +kernel
theorem dX3_addAll_32 : decode cX3_addAll 32 = .ok (.goto (-30), 3) := by decide +kernel
theorem dX3_addAll_35 : decode cX3_addAll 35 = .ok (.return_, 1) := by decide +kernel
theorem dX3_hasOpenWhen_0 : decode cX3_hasOpenWhen 0 = .ok (.aload_n 0, 1) := by decide +kernel
theorem dX3_hasOpenWhen_1 : decode cX3_hasOpenWhen 1 = .ok (.getfield 25, 3) := by decide +kernel
theorem dX3_hasOpenWhen_4 : decode cX3_hasOpenWhen 4 = .ok (.ifCond .le 7, 3) := by decide +kernel
theorem dX3_hasOpenWhen_7 : decode cX3_hasOpenWhen 7 = .ok (.iconst 1, 1) := by decide +kernel
theorem dX3_hasOpenWhen_8 : decode cX3_hasOpenWhen 8 = .ok (.goto 4, 3) := by decide +kernel
theorem dX3_hasOpenWhen_11 : decode cX3_hasOpenWhen 11 = .ok (.iconst 0, 1) := by decide +kernel
theorem dX3_hasOpenWhen_12 : decode cX3_hasOpenWhen 12 = .ok (.ireturn, 1) := by decide +kernel
theorem dX3_isRedirectAlone_0 : decode cX3_isRedirectAlone 0 = .ok (.aload_n 0, 1) := by decide +kernel
theorem dX3_isRedirectAlone_1 : decode cX3_isRedirectAlone 1 = .ok (.getfield 21, 3) := by decide +kernel
theorem dX3_isRedirectAlone_4 : decode cX3_isRedirectAlone 4 = .ok (.iconst 1, 1) := by decide +kernel
theorem dX3_isRedirectAlone_5 : decode cX3_isRedirectAlone 5 = .ok (.if_icmp .ne 17, 3) := by decide +kernel
theorem dX3_isRedirectAlone_8 : decode cX3_isRedirectAlone 8 = .ok (.aload_n 0, 1) := by decide +kernel
theorem dX3_isRedirectAlone_9 : decode cX3_isRedirectAlone 9 = .ok (.iconst 0, 1) := by decide +kernel
theorem dX3_isRedirectAlone_10 : decode cX3_isRedirectAlone 10 = .ok (.invokevirtual 32, 3) := by decide +kernel
theorem dX3_isRedirectAlone_13 : decode cX3_isRedirectAlone 13 = .ok (.bipush 8, 2) := by decide +kernel
theorem dX3_isRedirectAlone_15 : decode cX3_isRedirectAlone 15 = .ok (.if_icmp .ne 7, 3) := by decide +kernel
theorem dX3_isRedirectAlone_18 : decode cX3_isRedirectAlone 18 = .ok (.iconst 1, 1) := by decide +kernel
theorem dX3_isRedirectAlone_19 : decode cX3_isRedirectAlone 19 = .ok (.goto 4, 3) := by decide +kernel
theorem dX3_isRedirectAlone_22 : decode cX3_isRedirectAlone 22 = .ok (.iconst 0, 1) := by decide +kernel
theorem dX3_isRedirectAlone_23 : decode cX3_isRedirectAlone 23 = .ok (.ireturn, 1) := by decide +kernel
theorem dX3_sortOf_0 : decode cX3_sortOf 0 = .ok (.aload_n 0, 1) := by decide +kernel
theorem dX3_sortOf_1 : decode cX3_sortOf 1 = .ok (.getfield 9, 3) := by decide +kernel
theorem dX3_sortOf_4 : decode cX3_sortOf 4 = .ok (.iload_n 1, 1) := by decide +kernel
theorem dX3_sortOf_5 : decode cX3_sortOf 5 = .ok (.invokestatic 46, 3) := by decide +kernel
theorem dX3_sortOf_8 : decode cX3_sortOf 8 = .ok (.ireturn, 1) := by decide +kernel
theorem dX3_pageOf_0 : decode cX3_pageOf 0 = .ok (.aload_n 0, 1) := by decide +kernel
theorem dX3_pageOf_1 : decode cX3_pageOf 1 = .ok (.getfield 15, 3) := by decide +kernel
theorem dX3_pageOf_4 : decode cX3_pageOf 4 = .ok (.iload_n 1, 1) := by decide +kernel
theorem dX3_pageOf_5 : decode cX3_pageOf 5 = .ok (.invokestatic 46, 3) := by decide +kernel
theorem dX3_pageOf_8 : decode cX3_pageOf 8 = .ok (.ireturn, 1) := by decide +kernel
theorem dX3_signOf_0 : decode cX3_signOf 0 = .ok (.aload_n 0, 1) := by decide +kernel
theorem dX3_signOf_1 : decode cX3_signOf 1 = .ok (.getfield 18, 3) := by decide +kernel
theorem dX3_signOf_4 : decode cX3_signOf 4 = .ok (.iload_n 1, 1) := by decide +kernel
theorem dX3_signOf_5 : decode cX3_signOf 5 = .ok (.invokestatic 46, 3) := by decide +kernel
theorem dX3_signOf_8 : decode cX3_signOf 8 = .ok (.ireturn, 1) := by decide +kernel
theorem dX3_itemOf_0 : decode cX3_itemOf 0 = .ok (.aload_n 0, 1) := by decide +kernel
theorem dX3_itemOf_1 : decode cX3_itemOf 1 = .ok (.iload_n 1, 1) := by decide +kernel
theorem dX3_itemOf_2 : decode cX3_itemOf 2 = .ok (.invokevirtual 32, 3) := by decide +kernel
theorem dX3_itemOf_5 : decode cX3_itemOf 5 = .ok (.iconst 2, 1) := by decide +kernel
theorem dX3_itemOf_6 : decode cX3_itemOf 6 = .ok (.if_icmp .ne 20, 3) := by decide +kernel
theorem dX3_itemOf_9 : decode cX3_itemOf 9 = .ok (.bipush 10, 2) := by decide +kernel
theorem dX3_itemOf_11 : decode cX3_itemOf 11 = .ok (.aload_n 0, 1) := by decide +kernel
theorem dX3_itemOf_12 : decode cX3_itemOf 12 = .ok (.iload_n 1, 1) := by decide +kernel
theorem dX3_itemOf_13 : decode cX3_itemOf 13 = .ok (.invokevirtual 36, 3) := by decide +kernel
theorem dX3_itemOf_16 : decode cX3_itemOf 16 = .ok (.imul, 1) := by decide +kernel
theorem dX3_itemOf_17 : decode cX3_itemOf 17 = .ok (.aload_n 0, 1) := by decide +kernel
theorem dX3_itemOf_18 : decode cX3_itemOf 18 = .ok (.iload_n 1, 1) := by decide +kernel
theorem dX3_itemOf_19 : decode cX3_itemOf 19 = .ok (.invokevirtual 39, 3) := by decide +kernel
theorem dX3_itemOf_22 : decode cX3_itemOf 22 = .ok (.iadd, 1) := by decide +kernel
theorem dX3_itemOf_23 : decode cX3_itemOf 23 = .ok (.goto 8, 3) := by decide +kernel
theorem dX3_itemOf_26 : decode cX3_itemOf 26 = .ok (.aload_n 0, 1) := by decide +kernel
theorem dX3_itemOf_27 : decode cX3_itemOf 27 = .ok (.iload_n 1, 1) := by decide +kernel
theorem dX3_itemOf_28 : decode cX3_itemOf 28 = .ok (.invokevirtual 39, 3) := by decide +kernel
theorem dX3_itemOf_31 : decode cX3_itemOf 31 = .ok (.ireturn, 1) := by decide +kernel
theorem dX4_init_0 : decode cX4_init 0 = .ok (.aload_n 0, 1) := by decide +kernel
theorem dX4_init_1 : decode cX4_init 1 = .ok (.invokespecial 1, 3) := by decide +kernel
theorem dX4_init_4 : decode cX4_init 4 = .ok (.aload_n 0, 1) := by decide +kernel
theorem dX4_init_5 : decode cX4_init 5 = .ok (.aload_n 1, 1) := by decide +kernel
theorem dX4_init_6 : decode cX4_init 6 = .ok (.putfield 7, 3) := by decide +kernel
theorem dX4_init_9 : decode cX4_init 9 = .ok (.aload_n 0, 1) := by decide +kernel
theorem dX4_init_10 : decode cX4_init 10 = .ok (.iload_n 2, 1) := by decide +kernel
theorem dX4_init_11 : decode cX4_init 11 = .ok (.putfield 13, 3) := by decide +kernel
theorem dX4_init_14 : decode cX4_init 14 = .ok (.aload_n 0, 1) := by decide +kernel
theorem dX4_init_15 : decode cX4_init 15 = .ok (.aload_n 3, 1) := by decide +kernel
theorem dX4_init_16 : decode cX4_init 16 = .ok (.putfield 17, 3) := by decide +kernel
theorem dX4_init_19 : decode cX4_init 19 = .ok (.aload_n 0, 1) := by decide +kernel
theorem dX4_init_20 : decode cX4_init 20 = .ok (.iload 4, 2) := by decide +kernel
theorem dX4_init_22 : decode cX4_init 22 = .ok (.putfield 21, 3) := by decide +kernel
theorem dX4_init_25 : decode cX4_init 25 = .ok (.return_, 1) := by decide +kernel
theorem dX5_init_0 : decode cX5_init 0 = .ok (.aload_n 0, 1) := by decide +kernel
theorem dX5_init_1 : decode cX5_init 1 = .ok (.invokespecial 3, 3) := by decide +kernel
theorem dX5_init_4 : decode cX5_init 4 = .ok (.aload_n 0, 1) := by decide +kernel
theorem dX5_init_5 : decode cX5_init 5 = .ok (.iconst (-1), 1) := by decide +kernel
theorem dX5_init_6 : decode cX5_init 6 = .ok (.putfield 9, 3) := by decide +kernel
theorem dX5_init_9 : decode cX5_init 9 = .ok (.aload_n 0, 1) := by decide +kernel
theorem dX5_init_10 : decode cX5_init 10 = .ok (.iload_n 1, 1) := by decide +kernel
theorem dX5_init_11 : decode cX5_init 11 = .ok (.putfield 15, 3) := by decide +kernel
theorem dX5_init_14 : decode cX5_init 14 = .ok (.return_, 1) := by decide +kernel
theorem dX5_isOver_0 : decode cX5_isOver 0 = .ok (.aload_n 0, 1) := by decide +kernel
theorem dX5_isOver_1 : decode cX5_isOver 1 = .ok (.getfield 15, 3) := by decide +kernel
theorem dX5_isOver_4 : decode cX5_isOver 4 = .ok (.ifCond .ge 7, 3) := by decide +kernel
theorem dX5_isOver_7 : decode cX5_isOver 7 = .ok (.iconst 1, 1) := by decide +kernel
theorem dX5_isOver_8 : decode cX5_isOver 8 = .ok (.goto 4, 3) := by decide +kernel
theorem dX5_isOver_11 : decode cX5_isOver 11 = .ok (.iconst 0, 1) := by decide +kernel
theorem dX5_isOver_12 : decode cX5_isOver 12 = .ok (.ireturn, 1) := by decide +kernel
theorem dX5_meet_0 : decode cX5_meet 0 = .ok (.aload_n 0, 1) := by decide +kernel
theorem dX5_meet_1 : decode cX5_meet 1 = .ok (.getfield 15, 3) := by decide +kernel
theorem dX5_meet_4 : decode cX5_meet 4 = .ok (.ifCond .ne 8, 3) := by decide +kernel
theorem dX5_meet_7 : decode cX5_meet 7 = .ok (.aload_n 0, 1) := by decide +kernel
theorem dX5_meet_8 : decode cX5_meet 8 = .ok (.iload_n 1, 1) := by decide +kernel
theorem dX5_meet_9 : decode cX5_meet 9 = .ok (.putfield 9, 3) := by decide +kernel
theorem dX5_meet_12 : decode cX5_meet 12 = .ok (.aload_n 0, 1) := by decide +kernel
theorem dX5_meet_13 : decode cX5_meet 13 = .ok (.dup, 1) := by decide +kernel
theorem dX5_meet_14 : decode cX5_meet 14 = .ok (.getfield 15, 3) := by decide +kernel
theorem dX5_meet_17 : decode cX5_meet 17 = .ok (.iconst 1, 1) := by decide +kernel
theorem dX5_meet_18 : decode cX5_meet 18 = .ok (.isub, 1) := by decide +kernel
theorem dX5_meet_19 : decode cX5_meet 19 = .ok (.putfield 15, 3) := by decide +kernel
theorem dX5_meet_22 : decode cX5_meet 22 = .ok (.return_, 1) := by decide +kernel
end
section
theorem dX6_init_0 : decode cX6_init 0 = .ok (.aload_n 0, 1) := by decide +kernel
theorem dX6_init_1 : decode cX6_init 1 = .ok (.invokespecial 3, 3) := by decide +kernel
theorem dX6_init_4 : decode cX6_init 4 = .ok (.aload_n 0, 1) := by decide +kernel
theorem dX6_init_5 : decode cX6_init 5 = .ok (.new 9, 3) := by decide +kernel
theorem dX6_init_8 : decode cX6_init 8 = .ok (.dup, 1) := by decide +kernel
theorem dX6_init_9 : decode cX6_init 9 = .ok (.invokespecial 11, 3) := by decide +kernel
theorem dX6_init_12 : decode cX6_init 12 = .ok (.putfield 12, 3) := by decide +kernel
theorem dX6_init_15 : decode cX6_init 15 = .ok (.aload_n 0, 1) := by decide +kernel
theorem dX6_init_16 : decode cX6_init 16 = .ok (.bipush 6, 2) := by decide +kernel
theorem dX6_init_18 : decode cX6_init 18 = .ok (.newarray .int, 2) := by decide +kernel
theorem dX6_init_20 : decode cX6_init 20 = .ok (.putfield 16, 3) := by decide +kernel
theorem dX6_init_23 : decode cX6_init 23 = .ok (.aload_n 0, 1) := by decide +kernel
theorem dX6_init_24 : decode cX6_init 24 = .ok (.new 20, 3) := by decide +kernel
theorem dX6_init_27 : decode cX6_init 27 = .ok (.dup, 1) := by decide +kernel
theorem dX6_init_28 : decode cX6_init 28 = .ok (.invokespecial 22, 3) := by decide +kernel
theorem dX6_init_31 : decode cX6_init 31 = .ok (.putfield 23, 3) := by decide +kernel
theorem dX6_init_34 : decode cX6_init 34 = .ok (.aload_n 0, 1) := by decide +kernel
theorem dX6_init_35 : decode cX6_init 35 = .ok (.new 20, 3) := by decide +kernel
theorem dX6_init_38 : decode cX6_init 38 = .ok (.dup, 1) := by decide +kernel
theorem dX6_init_39 : decode cX6_init 39 = .ok (.invokespecial 22, 3) := by decide +kernel
theorem dX6_init_42 : decode cX6_init 42 = .ok (.putfield 27, 3) := by decide +kernel
theorem dX6_init_45 : decode cX6_init 45 = .ok (.aload_n 0, 1) := by decide +kernel
theorem dX6_init_46 : decode cX6_init 46 = .ok (.bipush 12, 2) := by decide +kernel
theorem dX6_init_48 : decode cX6_init 48 = .ok (.anewarray 30, 3) := by decide +kernel
theorem dX6_init_51 : decode cX6_init 51 = .ok (.putfield 32, 3) := by decide +kernel
theorem dX6_init_54 : decode cX6_init 54 = .ok (.iconst 0, 1) := by decide +kernel
theorem dX6_init_55 : decode cX6_init 55 = .ok (.istore_n 1, 1) := by decide +kernel
theorem dX6_init_56 : decode cX6_init 56 = .ok (.iload_n 1, 1) := by decide +kernel
theorem dX6_init_57 : decode cX6_init 57 = .ok (.aload_n 0, 1) := by decide +kernel
theorem dX6_init_58 : decode cX6_init 58 = .ok (.getfield 32, 3) := by decide +kernel
theorem dX6_init_61 : decode cX6_init 61 = .ok (.arraylength, 1) := by decide +kernel
theorem dX6_init_62 : decode cX6_init 62 = .ok (.if_icmp .ge 22, 3) := by decide +kernel
theorem dX6_init_65 : decode cX6_init 65 = .ok (.aload_n 0, 1) := by decide +kernel
theorem dX6_init_66 : decode cX6_init 66 = .ok (.getfield 32, 3) := by decide +kernel
theorem dX6_init_69 : decode cX6_init 69 = .ok (.iload_n 1, 1) := by decide +kernel
theorem dX6_init_70 : decode cX6_init 70 = .ok (.new 30, 3) := by decide +kernel
theorem dX6_init_73 : decode cX6_init 73 = .ok (.dup, 1) := by decide +kernel
theorem dX6_init_74 : decode cX6_init 74 = .ok (.invokespecial 36, 3) := by decide +kernel
theorem dX6_init_77 : decode cX6_init 77 = .ok (.aastore, 1) := by decide +kernel
theorem dX6_init_78 : decode cX6_init 78 = .ok (.iinc 1 1, 3) := by decide +kernel
theorem dX6_init_81 : decode cX6_init 81 = .ok (.goto (-25), 3) := by decide +kernel
theorem dX6_init_84 : decode cX6_init 84 = .ok (.return_, 1) := by decide +kernel
theorem dX6_letter_0 : decode cX6_letter 0 = .ok (.iload_n 1, 1) := by decide +kernel
theorem dX6_letter_1 : decode cX6_letter 1 = .ok (.bipush 26, 2) := by decide +kernel
theorem dX6_letter_3 : decode cX6_letter 3 = .ok (.invokestatic 37, 3) := by decide +kernel
theorem dX6_letter_6 : decode cX6_letter 6 = .ok (.aload_n 0, 1) := by decide +kernel
theorem dX6_letter_7 : decode cX6_letter 7 = .ok (.iconst 0, 1) := by decide +kernel
theorem dX6_letter_8 : decode cX6_letter 8 = .ok (.iconst (-1), 1) := by decide +kernel
theorem dX6_letter_9 : decode cX6_letter 9 = .ok (.iload_n 1, 1) := by decide +kernel
theorem dX6_letter_10 : decode cX6_letter 10 = .ok (.invokevirtual 41, 3) := by decide +kernel
theorem dX6_letter_13 : decode cX6_letter 13 = .ok (.ireturn, 1) := by decide +kernel
theorem dX6_argument_0 : decode cX6_argument 0 = .ok (.aload_n 0, 1) := by decide +kernel
theorem dX6_argument_1 : decode cX6_argument 1 = .ok (.iconst 3, 1) := by decide +kernel
theorem dX6_argument_2 : decode cX6_argument 2 = .ok (.iconst (-1), 1) := by decide +kernel
theorem dX6_argument_3 : decode cX6_argument 3 = .ok (.iconst (-1), 1) := by decide +kernel
theorem dX6_argument_4 : decode cX6_argument 4 = .ok (.invokevirtual 41, 3) := by decide +kernel
theorem dX6_argument_7 : decode cX6_argument 7 = .ok (.ireturn, 1) := by decide +kernel
theorem dX6_call_0 : decode cX6_call 0 = .ok (.iload_n 1, 1) := by decide +kernel
theorem dX6_call_1 : decode cX6_call 1 = .ok (.invokestatic 45, 3) := by decide +kernel
theorem dX6_call_4 : decode cX6_call 4 = .ok (.iload_n 2, 1) := by decide +kernel
theorem dX6_call_5 : decode cX6_call 5 = .ok (.invokestatic 49, 3) := by decide +kernel
theorem dX6_call_8 : decode cX6_call 8 = .ok (.aload_n 0, 1) := by decide +kernel
theorem dX6_call_9 : decode cX6_call 9 = .ok (.iconst 4, 1) := by decide +kernel
theorem dX6_call_10 : decode cX6_call 10 = .ok (.iload_n 1, 1) := by decide +kernel
theorem dX6_call_11 : decode cX6_call 11 = .ok (.iload_n 2, 1) := by decide +kernel
theorem dX6_call_12 : decode cX6_call 12 = .ok (.invokevirtual 41, 3) := by decide +kernel
theorem dX6_call_15 : decode cX6_call 15 = .ok (.ireturn, 1) := by decide +kernel
theorem dX6_callOn_0 : decode cX6_callOn 0 = .ok (.iload_n 1, 1) := by decide +kernel
theorem dX6_callOn_1 : decode cX6_callOn 1 = .ok (.invokestatic 45, 3) := by decide +kernel
theorem dX6_callOn_4 : decode cX6_callOn 4 = .ok (.aload_n 0, 1) := by decide +kernel
theorem dX6_callOn_5 : decode cX6_callOn 5 = .ok (.iconst 5, 1) := by decide +kernel
theorem dX6_callOn_6 : decode cX6_callOn 6 = .ok (.iload_n 1, 1) := by decide +kernel
theorem dX6_callOn_7 : decode cX6_callOn 7 = .ok (.iconst (-1), 1) := by decide +kernel
theorem dX6_callOn_8 : decode cX6_callOn 8 = .ok (.invokevirtual 41, 3) := by decide +kernel
theorem dX6_callOn_11 : decode cX6_callOn 11 = .ok (.ireturn, 1) := by decide +kernel
theorem dX6_when_0 : decode cX6_when 0 = .ok (.iload_n 1, 1) := by decide +kernel
theorem dX6_when_1 : decode cX6_when 1 = .ok (.bipush 26, 2) := by decide +kernel
theorem dX6_when_3 : decode cX6_when 3 = .ok (.invokestatic 37, 3) := by decide +kernel
theorem dX6_when_6 : decode cX6_when 6 = .ok (.aload_n 0, 1) := by decide +kernel
theorem dX6_when_7 : decode cX6_when 7 = .ok (.bipush 6, 2) := by decide +kernel
theorem dX6_when_9 : decode cX6_when 9 = .ok (.iconst (-1), 1) := by decide +kernel
theorem dX6_when_10 : decode cX6_when 10 = .ok (.iload_n 1, 1) := by decide +kernel
theorem dX6_when_11 : decode cX6_when 11 = .ok (.invokevirtual 41, 3) := by decide +kernel
theorem dX6_when_14 : decode cX6_when 14 = .ok (.ireturn, 1) := by decide +kernel
theorem dX6_end_0 : decode cX6_end 0 = .ok (.aload_n 0, 1) := by decide +kernel
theorem dX6_end_1 : decode cX6_end 1 = .ok (.getfield 12, 3) := by decide +kernel
theorem dX6_end_4 : decode cX6_end 4 = .ok (.invokevirtual 52, 3) := by decide +kernel
theorem dX6_end_7 : decode cX6_end 7 = .ok (.ifCond .ne 13, 3) := by decide +kernel
theorem dX6_end_10 : decode cX6_end 10 = .ok (.new 56, 3) := by decide +kernel
theorem dX6_end_13 : decode cX6_end 13 = .ok (.dup, 1) := by decide +kernel
theorem dX6_end_14 : decode cX6_end 14 = .ok (.ldc 58, 2) := by decide +kernel
theorem dX6_end_16 : decode cX6_end 16 = .ok (.invokespecial 60, 3) := by decide +kernel
theorem dX6_end_19 : decode cX6_end 19 = .ok (.athrow, 1) := by decide +kernel
theorem dX6_end_20 : decode cX6_end 20 = .ok (.aload_n 0, 1) := by decide +kernel
theorem dX6_end_21 : decode cX6_end 21 = .ok (.bipush 7, 2) := by decide +kernel
theorem dX6_end_23 : decode cX6_end 23 = .ok (.iconst (-1), 1) := by decide +kernel
theorem dX6_end_24 : decode cX6_end 24 = .ok (.iconst (-1), 1) := by decide +kernel
theorem dX6_end_25 : decode cX6_end 25 = .ok (.invokevirtual 41, 3) := by decide +kernel
theorem dX6_end_28 : decode cX6_end 28 = .ok (.ireturn, 1) := by decide +kernel
theorem dX6_anchor_0 : decode cX6_anchor 0 = .ok (.iload_n 1, 1) := by decide +kernel
theorem dX6_anchor_1 : decode cX6_anchor 1 = .ok (.bipush 10, 2) := by decide +kernel
theorem dX6_anchor_3 : decode cX6_anchor 3 = .ok (.invokestatic 37, 3) := by decide +kernel
theorem dX6_anchor_6 : decode cX6_anchor 6 = .ok (.aload_n 0, 1) := by decide +kernel
theorem dX6_anchor_7 : decode cX6_anchor 7 = .ok (.iconst 1, 1) := by decide +kernel
theorem dX6_anchor_8 : decode cX6_anchor 8 = .ok (.iconst (-1), 1) := by decide +kernel
theorem dX6_anchor_9 : decode cX6_anchor 9 = .ok (.iload_n 1, 1) := by decide +kernel
theorem dX6_anchor_10 : decode cX6_anchor 10 = .ok (.invokevirtual 41, 3) := by decide +kernel
theorem dX6_anchor_13 : decode cX6_anchor 13 = .ok (.ireturn, 1) := by decide +kernel
theorem dX6_link_0 : decode cX6_link 0 = .ok (.iload_n 1, 1) := by decide +kernel
theorem dX6_link_1 : decode cX6_link 1 = .ok (.invokestatic 45, 3) := by decide +kernel
theorem dX6_link_4 : decode cX6_link 4 = .ok (.iload_n 2, 1) := by decide +kernel
theorem dX6_link_5 : decode cX6_link 5 = .ok (.bipush 10, 2) := by decide +kernel
theorem dX6_link_7 : decode cX6_link 7 = .ok (.invokestatic 37, 3) := by decide +kernel
theorem dX6_link_10 : decode cX6_link 10 = .ok (.aload_n 0, 1) := by decide +kernel
theorem dX6_link_11 : decode cX6_link 11 = .ok (.iconst 2, 1) := by decide +kernel
theorem dX6_link_12 : decode cX6_link 12 = .ok (.iload_n 1, 1) := by decide +kernel
theorem dX6_link_13 : decode cX6_link 13 = .ok (.iload_n 2, 1) := by decide +kernel
theorem dX6_link_14 : decode cX6_link 14 = .ok (.invokevirtual 41, 3) := by decide +kernel
theorem dX6_link_17 : decode cX6_link 17 = .ok (.ireturn, 1) := by decide +kernel
theorem dX6_redirect_0 : decode cX6_redirect 0 = .ok (.iload_n 1, 1) := by decide +kernel
theorem dX6_redirect_1 : decode cX6_redirect 1 = .ok (.invokestatic 45, 3) := by decide +kernel
theorem dX6_redirect_4 : decode cX6_redirect 4 = .ok (.aload_n 0, 1) := by decide +kernel
theorem dX6_redirect_5 : decode cX6_redirect 5 = .ok (.bipush 8, 2) := by decide +kernel
theorem dX6_redirect_7 : decode cX6_redirect 7 = .ok (.iload_n 1, 1) := by decide +kernel
theorem dX6_redirect_8 : decode cX6_redirect 8 = .ok (.iconst (-1), 1) := by decide +kernel
theorem dX6_redirect_9 : decode cX6_redirect 9 = .ok (.invokevirtual 41, 3) := by decide +kernel
theorem dX6_redirect_12 : decode cX6_redirect 12 = .ok (.ireturn, 1) := by decide +kernel
theorem dX6_edit_0 : decode cX6_edit 0 = .ok (.aload_n 0, 1) := by decide +kernel
theorem dX6_edit_1 : decode cX6_edit 1 = .ok (.iload_n 1, 1) := by decide +kernel
theorem dX6_edit_2 : decode cX6_edit 2 = .ok (.invokevirtual 63, 3) := by decide +kernel
theorem dX6_edit_5 : decode cX6_edit 5 = .ok (.istore_n 3, 1) := by decide +kernel
theorem dX6_edit_6 : decode cX6_edit 6 = .ok (.aload_n 0, 1) := by decide +kernel
theorem dX6_edit_7 : decode cX6_edit 7 = .ok (.iload_n 2, 1) := by decide +kernel
theorem dX6_edit_8 : decode cX6_edit 8 = .ok (.invokevirtual 67, 3) := by decide +kernel
theorem dX6_edit_11 : decode cX6_edit 11 = .ok (.astore 4, 2) := by decide +kernel
theorem dX6_edit_13 : decode cX6_edit 13 = .ok (.aload_n 0, 1) := by decide +kernel
theorem dX6_edit_14 : decode cX6_edit 14 = .ok (.getfield 12, 3) := by decide +kernel
theorem dX6_edit_17 : decode cX6_edit 17 = .ok (.invokevirtual 52, 3) := by decide +kernel
theorem dX6_edit_20 : decode cX6_edit 20 = .ok (.ifCond .eq 13, 3) := by decide +kernel
theorem dX6_edit_23 : decode cX6_edit 23 = .ok (.new 56, 3) := by decide +kernel
theorem dX6_edit_26 : decode cX6_edit 26 = .ok (.dup, 1) := by decide +kernel
theorem dX6_edit_27 : decode cX6_edit 27 = .ok (.ldc 71, 2) := by decide +kernel
theorem dX6_edit_29 : decode cX6_edit 29 = .ok (.invokespecial 60, 3) := by decide +kernel
theorem dX6_edit_32 : decode cX6_edit 32 = .ok (.athrow, 1) := by decide +kernel
theorem dX6_edit_33 : decode cX6_edit 33 = .ok (.aload 4, 2) := by decide +kernel
theorem dX6_edit_35 : decode cX6_edit 35 = .ok (.getfield 73, 3) := by decide +kernel
theorem dX6_edit_38 : decode cX6_edit 38 = .ok (.getfield 77, 3) := by decide +kernel
theorem dX6_edit_41 : decode cX6_edit 41 = .ok (.bipush 20, 2) := by decide +kernel
theorem dX6_edit_43 : decode cX6_edit 43 = .ok (.if_icmp .lt 13, 3) := by decide +kernel
theorem dX6_edit_46 : decode cX6_edit 46 = .ok (.new 56, 3) := by decide +kernel
theorem dX6_edit_49 : decode cX6_edit 49 = .ok (.dup, 1) := by decide +kernel
theorem dX6_edit_50 : decode cX6_edit 50 = .ok (.ldc 83, 2) := by decide +kernel
theorem dX6_edit_52 : decode cX6_edit 52 = .ok (.invokespecial 60, 3) := by decide +kernel
theorem dX6_edit_55 : decode cX6_edit 55 = .ok (.athrow, 1) := by decide +kernel
theorem dX6_edit_56 : decode cX6_edit 56 = .ok (.iload_n 3, 1) := by decide +kernel
theorem dX6_edit_57 : decode cX6_edit 57 = .ok (.aload_n 0, 1) := by decide +kernel
theorem dX6_edit_58 : decode cX6_edit 58 = .ok (.iload_n 2, 1) := by decide +kernel
theorem dX6_edit_59 : decode cX6_edit 59 = .ok (.invokevirtual 85, 3) := by decide +kernel
theorem dX6_edit_62 : decode cX6_edit 62 = .ok (.if_icmp .ge 8, 3) := by decide +kernel
theorem dX6_edit_65 : decode cX6_edit 65 = .ok (.bipush (-2), 2) := by decide +kernel
theorem dX6_edit_67 : decode cX6_edit 67 = .ok (.goto 12, 3) := by decide +kernel
theorem dX6_edit_70 : decode cX6_edit 70 = .ok (.aload_n 0, 1) := by decide +kernel
theorem dX6_edit_71 : decode cX6_edit 71 = .ok (.iload_n 2, 1) := by decide +kernel
theorem dX6_edit_72 : decode cX6_edit 72 = .ok (.aload_n 0, 1) := by decide +kernel
theorem dX6_edit_73 : decode cX6_edit 73 = .ok (.getfield 12, 3) := by decide +kernel
theorem dX6_edit_76 : decode cX6_edit 76 = .ok (.invokevirtual 88, 3) := by decide +kernel
theorem dX6_edit_79 : decode cX6_edit 79 = .ok (.istore 5, 2) := by decide +kernel
theorem dX6_edit_81 : decode cX6_edit 81 = .ok (.iload 5, 2) := by decide +kernel
theorem dX6_edit_83 : decode cX6_edit 83 = .ok (.iconst (-1), 1) := by decide +kernel
theorem dX6_edit_84 : decode cX6_edit 84 = .ok (.if_icmp .ne 55, 3) := by decide +kernel
theorem dX6_edit_87 : decode cX6_edit 87 = .ok (.new 9, 3) := by decide +kernel
theorem dX6_edit_90 : decode cX6_edit 90 = .ok (.dup, 1) := by decide +kernel
theorem dX6_edit_91 : decode cX6_edit 91 = .ok (.invokespecial 11, 3) := by decide +kernel
theorem dX6_edit_94 : decode cX6_edit 94 = .ok (.astore 6, 2) := by decide +kernel
theorem dX6_edit_96 : decode cX6_edit 96 = .ok (.aload 6, 2) := by decide +kernel
theorem dX6_edit_98 : decode cX6_edit 98 = .ok (.aload_n 0, 1) := by decide +kernel
theorem dX6_edit_99 : decode cX6_edit 99 = .ok (.getfield 12, 3) := by decide +kernel
theorem dX6_edit_102 : decode cX6_edit 102 = .ok (.invokevirtual 92, 3) := by decide +kernel
theorem dX6_edit_105 : decode cX6_edit 105 = .ok (.aload 4, 2) := by decide +kernel
theorem dX6_edit_107 : decode cX6_edit 107 = .ok (.new 78, 3) := by decide +kernel
theorem dX6_edit_110 : decode cX6_edit 110 = .ok (.dup, 1) := by decide +kernel
theorem dX6_edit_111 : decode cX6_edit 111 = .ok (.aload 4, 2) := by decide +kernel
theorem dX6_edit_113 : decode cX6_edit 113 = .ok (.getfield 73, 3) := by decide +kernel
theorem dX6_edit_116 : decode cX6_edit 116 = .ok (.aload 4, 2) := by decide +kernel
theorem dX6_edit_118 : decode cX6_edit 118 = .ok (.getfield 73, 3) := by decide +kernel
theorem dX6_edit_121 : decode cX6_edit 121 = .ok (.getfield 77, 3) := by decide +kernel
theorem dX6_edit_124 : decode cX6_edit 124 = .ok (.iconst 1, 1) := by decide +kernel
theorem dX6_edit_125 : decode cX6_edit 125 = .ok (.iadd, 1) := by decide +kernel
theorem dX6_edit_126 : decode cX6_edit 126 = .ok (.aload 6, 2) := by decide +kernel
theorem dX6_edit_128 : decode cX6_edit 128 = .ok (.iload_n 3, 1) := by decide +kernel
theorem dX6_edit_129 : decode cX6_edit 129 = .ok (.invokespecial 96, 3) := by decide +kernel
theorem dX6_edit_132 : decode cX6_edit 132 = .ok (.putfield 73, 3) := by decide +kernel
theorem dX6_edit_135 : decode cX6_edit 135 = .ok (.aload_n 0, 1) := by decide +kernel
theorem dX6_edit_136 : decode cX6_edit 136 = .ok (.invokevirtual 99, 3) := by decide +kernel
theorem dX6_edit_139 : decode cX6_edit 139 = .ok (.aload_n 0, 1) := by decide +kernel
theorem dX6_edit_140 : decode cX6_edit 140 = .ok (.getfield 12, 3) := by decide +kernel
theorem dX6_edit_143 : decode cX6_edit 143 = .ok (.invokevirtual 102, 3) := by decide +kernel
theorem dX6_edit_146 : decode cX6_edit 146 = .ok (.iload 5, 2) := by decide +kernel
theorem dX6_edit_148 : decode cX6_edit 148 = .ok (.iconst (-1), 1) := by decide +kernel
theorem dX6_edit_149 : decode cX6_edit 149 = .ok (.if_icmp .ne 14, 3) := by decide +kernel
theorem dX6_edit_152 : decode cX6_edit 152 = .ok (.aload 4, 2) := by decide +kernel
theorem dX6_edit_154 : decode cX6_edit 154 = .ok (.getfield 73, 3) := by decide +kernel
theorem dX6_edit_157 : decode cX6_edit 157 = .ok (.getfield 77, 3) := by decide +kernel
theorem dX6_edit_160 : decode cX6_edit 160 = .ok (.goto 5, 3) := by decide +kernel
theorem dX6_edit_163 : decode cX6_edit 163 = .ok (.iload 5, 2) := by decide +kernel
theorem dX6_edit_165 : decode cX6_edit 165 = .ok (.ireturn, 1) := by decide +kernel
theorem dX6_undo_0 : decode cX6_undo 0 = .ok (.aload_n 0, 1) := by decide +kernel
theorem dX6_undo_1 : decode cX6_undo 1 = .ok (.iload_n 1, 1) := by decide +kernel
theorem dX6_undo_2 : decode cX6_undo 2 = .ok (.invokevirtual 63, 3) := by decide +kernel
theorem dX6_undo_5 : decode cX6_undo 5 = .ok (.istore_n 3, 1) := by decide +kernel
theorem dX6_undo_6 : decode cX6_undo 6 = .ok (.aload_n 0, 1) := by decide +kernel
theorem dX6_undo_7 : decode cX6_undo 7 = .ok (.iload_n 2, 1) := by decide +kernel
theorem dX6_undo_8 : decode cX6_undo 8 = .ok (.invokevirtual 67, 3) := by decide +kernel
theorem dX6_undo_11 : decode cX6_undo 11 = .ok (.astore 4, 2) := by decide +kernel
theorem dX6_undo_13 : decode cX6_undo 13 = .ok (.aload 4, 2) := by decide +kernel
theorem dX6_undo_15 : decode cX6_undo 15 = .ok (.getfield 73, 3) := by decide +kernel
theorem dX6_undo_18 : decode cX6_undo 18 = .ok (.getfield 105, 3) := by decide +kernel
theorem dX6_undo_21 : decode cX6_undo 21 = .ok (.astore 5, 2) := by decide +kernel
theorem dX6_undo_23 : decode cX6_undo 23 = .ok (.aload 5, 2) := by decide +kernel
theorem dX6_undo_25 : decode cX6_undo 25 = .ok (.ifnonnull 13, 3) := by decide +kernel
theorem dX6_undo_28 : decode cX6_undo 28 = .ok (.new 56, 3) := by decide +kernel
theorem dX6_undo_31 : decode cX6_undo 31 = .ok (.dup, 1) := by decide +kernel
theorem dX6_undo_32 : decode cX6_undo 32 = .ok (.ldc 108, 2) := by decide +kernel
theorem dX6_undo_34 : decode cX6_undo 34 = .ok (.invokespecial 60, 3) := by decide +kernel
theorem dX6_undo_37 : decode cX6_undo 37 = .ok (.athrow, 1) := by decide +kernel
theorem dX6_undo_38 : decode cX6_undo 38 = .ok (.aload_n 0, 1) := by decide +kernel
theorem dX6_undo_39 : decode cX6_undo 39 = .ok (.iload_n 2, 1) := by decide +kernel
theorem dX6_undo_40 : decode cX6_undo 40 = .ok (.invokevirtual 85, 3) := by decide +kernel
theorem dX6_undo_43 : decode cX6_undo 43 = .ok (.istore 6, 2) := by decide +kernel
theorem dX6_undo_45 : decode cX6_undo 45 = .ok (.iload_n 3, 1) := by decide +kernel
theorem dX6_undo_46 : decode cX6_undo 46 = .ok (.iload 6, 2) := by decide +kernel
theorem dX6_undo_48 : decode cX6_undo 48 = .ok (.if_icmp .lt 13, 3) := by decide +kernel
theorem dX6_undo_51 : decode cX6_undo 51 = .ok (.aload 5, 2) := by decide +kernel
theorem dX6_undo_53 : decode cX6_undo 53 = .ok (.getfield 110, 3) := by decide +kernel
theorem dX6_undo_56 : decode cX6_undo 56 = .ok (.iload 6, 2) := by decide +kernel
theorem dX6_undo_58 : decode cX6_undo 58 = .ok (.if_icmp .ge 8, 3) := by decide +kernel
theorem dX6_undo_61 : decode cX6_undo 61 = .ok (.bipush (-2), 2) := by decide +kernel
theorem dX6_undo_63 : decode cX6_undo 63 = .ok (.goto 13, 3) := by decide +kernel
theorem dX6_undo_66 : decode cX6_undo 66 = .ok (.aload_n 0, 1) := by decide +kernel
theorem dX6_undo_67 : decode cX6_undo 67 = .ok (.iload_n 2, 1) := by decide +kernel
theorem dX6_undo_68 : decode cX6_undo 68 = .ok (.aload 5, 2) := by decide +kernel
theorem dX6_undo_70 : decode cX6_undo 70 = .ok (.getfield 113, 3) := by decide +kernel
theorem dX6_undo_73 : decode cX6_undo 73 = .ok (.invokevirtual 88, 3) := by decide +kernel
theorem dX6_undo_76 : decode cX6_undo 76 = .ok (.istore 7, 2) := by decide +kernel
theorem dX6_undo_78 : decode cX6_undo 78 = .ok (.iload 7, 2) := by decide +kernel
theorem dX6_undo_80 : decode cX6_undo 80 = .ok (.iconst (-1), 1) := by decide +kernel
theorem dX6_undo_81 : decode cX6_undo 81 = .ok (.if_icmp .eq 6, 3) := by decide +kernel
theorem dX6_undo_84 : decode cX6_undo 84 = .ok (.iload 7, 2) := by decide +kernel
theorem dX6_undo_86 : decode cX6_undo 86 = .ok (.ireturn, 1) := by decide +kernel
theorem dX6_undo_87 : decode cX6_undo 87 = .ok (.aload 4, 2) := by decide +kernel
theorem dX6_undo_89 : decode cX6_undo 89 = .ok (.aload 5, 2) := by decide +kernel
theorem dX6_undo_91 : decode cX6_undo 91 = .ok (.putfield 73, 3) := by decide +kernel
theorem dX6_undo_94 : decode cX6_undo 94 = .ok (.aload_n 0, 1) := by decide +kernel
theorem dX6_undo_95 : decode cX6_undo 95 = .ok (.invokevirtual 99, 3) := by decide +kernel
theorem dX6_undo_98 : decode cX6_undo 98 = .ok (.aload 5, 2) := by decide +kernel
theorem dX6_undo_100 : decode cX6_undo 100 = .ok (.getfield 77, 3) := by decide +kernel
theorem dX6_undo_103 : decode cX6_undo 103 = .ok (.ireturn, 1) := by decide +kernel
theorem dX6_approve_0 : decode cX6_approve 0 = .ok (.aload_n 0, 1) := by decide +kernel
theorem dX6_approve_1 : decode cX6_approve 1 = .ok (.iload_n 1, 1) := by decide +kernel
theorem dX6_approve_2 : decode cX6_approve 2 = .ok (.invokevirtual 63, 3) := by decide +kernel
theorem dX6_approve_5 : decode cX6_approve 5 = .ok (.istore_n 3, 1) := by decide +kernel
theorem dX6_approve_6 : decode cX6_approve 6 = .ok (.aload_n 0, 1) := by decide +kernel
theorem dX6_approve_7 : decode cX6_approve 7 = .ok (.iload_n 2, 1) := by decide +kernel
theorem dX6_approve_8 : decode cX6_approve 8 = .ok (.invokevirtual 67, 3) := by decide +kernel
theorem dX6_approve_11 : decode cX6_approve 11 = .ok (.getfield 73, 3) := by decide +kernel
theorem dX6_approve_14 : decode cX6_approve 14 = .ok (.astore 4, 2) := by decide +kernel
theorem dX6_approve_16 : decode cX6_approve 16 = .ok (.iload_n 3, 1) := by decide +kernel
theorem dX6_approve_17 : decode cX6_approve 17 = .ok (.aload_n 0, 1) := by decide +kernel
theorem dX6_approve_18 : decode cX6_approve 18 = .ok (.iload_n 2, 1) := by decide +kernel
theorem dX6_approve_19 : decode cX6_approve 19 = .ok (.invokevirtual 85, 3) := by decide +kernel
theorem dX6_approve_22 : decode cX6_approve 22 = .ok (.if_icmp .lt 12, 3) := by decide +kernel
theorem dX6_approve_25 : decode cX6_approve 25 = .ok (.iload_n 3, 1) := by decide +kernel
theorem dX6_approve_26 : decode cX6_approve 26 = .ok (.aload 4, 2) := by decide +kernel
theorem dX6_approve_28 : decode cX6_approve 28 = .ok (.getfield 110, 3) := by decide +kernel
theorem dX6_approve_31 : decode cX6_approve 31 = .ok (.if_icmp .gt 5, 3) := by decide +kernel
theorem dX6_approve_34 : decode cX6_approve 34 = .ok (.iconst 0, 1) := by decide +kernel
theorem dX6_approve_35 : decode cX6_approve 35 = .ok (.ireturn, 1) := by decide +kernel
theorem dX6_approve_36 : decode cX6_approve 36 = .ok (.aload 4, 2) := by decide +kernel
theorem dX6_approve_38 : decode cX6_approve 38 = .ok (.iload_n 3, 1) := by decide +kernel
theorem dX6_approve_39 : decode cX6_approve 39 = .ok (.putfield 110, 3) := by decide +kernel
theorem dX6_approve_42 : decode cX6_approve 42 = .ok (.iconst 1, 1) := by decide +kernel
theorem dX6_approve_43 : decode cX6_approve 43 = .ok (.ireturn, 1) := by decide +kernel
theorem dX6_lock_0 : decode cX6_lock 0 = .ok (.aload_n 0, 1) := by decide +kernel
theorem dX6_lock_1 : decode cX6_lock 1 = .ok (.iload_n 1, 1) := by decide +kernel
theorem dX6_lock_2 : decode cX6_lock 2 = .ok (.invokevirtual 63, 3) := by decide +kernel
theorem dX6_lock_5 : decode cX6_lock 5 = .ok (.istore 4, 2) := by decide +kernel
theorem dX6_lock_7 : decode cX6_lock 7 = .ok (.aload_n 0, 1) := by decide +kernel
theorem dX6_lock_8 : decode cX6_lock 8 = .ok (.iload_n 2, 1) := by decide +kernel
theorem dX6_lock_9 : decode cX6_lock 9 = .ok (.invokevirtual 67, 3) := by decide +kernel
theorem dX6_lock_12 : decode cX6_lock 12 = .ok (.astore 5, 2) := by decide +kernel
theorem dX6_lock_14 : decode cX6_lock 14 = .ok (.iload_n 3, 1) := by decide +kernel
theorem dX6_lock_15 : decode cX6_lock 15 = .ok (.iconst 4, 1) := by decide +kernel
theorem dX6_lock_16 : decode cX6_lock 16 = .ok (.invokestatic 37, 3) := by decide +kernel
theorem dX6_lock_19 : decode cX6_lock 19 = .ok (.aload 5, 2) := by decide +kernel
theorem dX6_lock_21 : decode cX6_lock 21 = .ok (.getfield 116, 3) := by decide +kernel
theorem dX6_lock_24 : decode cX6_lock 24 = .ok (.istore 6, 2) := by decide +kernel
theorem dX6_lock_26 : decode cX6_lock 26 = .ok (.iload 4, 2) := by decide +kernel
theorem dX6_lock_28 : decode cX6_lock 28 = .ok (.iload 6, 2) := by decide +kernel
theorem dX6_lock_30 : decode cX6_lock 30 = .ok (.if_icmp .lt 9, 3) := by decide +kernel
theorem dX6_lock_33 : decode cX6_lock 33 = .ok (.iload 4, 2) := by decide +kernel
theorem dX6_lock_35 : decode cX6_lock 35 = .ok (.iload_n 3, 1) := by decide +kernel
theorem dX6_lock_36 : decode cX6_lock 36 = .ok (.if_icmp .ge 6, 3) := by decide +kernel
theorem dX6_lock_39 : decode cX6_lock 39 = .ok (.bipush (-2), 2) := by decide +kernel
theorem dX6_lock_41 : decode cX6_lock 41 = .ok (.ireturn, 1) := by decide +kernel
theorem dX6_lock_42 : decode cX6_lock 42 = .ok (.aload 5, 2) := by decide +kernel
theorem dX6_lock_44 : decode cX6_lock 44 = .ok (.iload_n 3, 1) := by decide +kernel
theorem dX6_lock_45 : decode cX6_lock 45 = .ok (.putfield 116, 3) := by decide +kernel
theorem dX6_lock_48 : decode cX6_lock 48 = .ok (.iload 6, 2) := by decide +kernel
theorem dX6_lock_50 : decode cX6_lock 50 = .ok (.ireturn, 1) := by decide +kernel
theorem dX6_setRank_0 : decode cX6_setRank 0 = .ok (.aload_n 0, 1) := by decide +kernel
theorem dX6_setRank_1 : decode cX6_setRank 1 = .ok (.iload_n 1, 1) := by decide +kernel
theorem dX6_setRank_2 : decode cX6_setRank 2 = .ok (.invokevirtual 63, 3) := by decide +kernel
theorem dX6_setRank_5 : decode cX6_setRank 5 = .ok (.istore_n 3, 1) := by decide +kernel
theorem dX6_setRank_6 : decode cX6_setRank 6 = .ok (.iload_n 2, 1) := by decide +kernel
theorem dX6_setRank_7 : decode cX6_setRank 7 = .ok (.iconst 4, 1) := by decide +kernel
theorem dX6_setRank_8 : decode cX6_setRank 8 = .ok (.invokestatic 37, 3) := by decide +kernel
theorem dX6_setRank_11 : decode cX6_setRank 11 = .ok (.aload_n 0, 1) := by decide +kernel
theorem dX6_setRank_12 : decode cX6_setRank 12 = .ok (.getfield 16, 3) := by decide +kernel
theorem dX6_setRank_15 : decode cX6_setRank 15 = .ok (.iload_n 1, 1) := by decide +kernel
theorem dX6_setRank_16 : decode cX6_setRank 16 = .ok (.iload_n 2, 1) := by decide +kernel
theorem dX6_setRank_17 : decode cX6_setRank 17 = .ok (.invokestatic 119, 3) := by decide +kernel
theorem dX6_setRank_20 : decode cX6_setRank 20 = .ok (.iload_n 3, 1) := by decide +kernel
theorem dX6_setRank_21 : decode cX6_setRank 21 = .ok (.ireturn, 1) := by decide +kernel
theorem dX6_version_0 : decode cX6_version 0 = .ok (.aload_n 0, 1) := by decide +kernel
theorem dX6_version_1 : decode cX6_version 1 = .ok (.iload_n 1, 1) := by decide +kernel
theorem dX6_version_2 : decode cX6_version 2 = .ok (.invokevirtual 67, 3) := by decide +kernel
theorem dX6_version_5 : decode cX6_version 5 = .ok (.getfield 73, 3) := by decide +kernel
theorem dX6_version_8 : decode cX6_version 8 = .ok (.getfield 77, 3) := by decide +kernel
theorem dX6_version_11 : decode cX6_version 11 = .ok (.ireturn, 1) := by decide +kernel
theorem dX6_rankOf_0 : decode cX6_rankOf 0 = .ok (.aload_n 0, 1) := by decide +kernel
theorem dX6_rankOf_1 : decode cX6_rankOf 1 = .ok (.iload_n 1, 1) := by decide +kernel
theorem dX6_rankOf_2 : decode cX6_rankOf 2 = .ok (.invokevirtual 67, 3) := by decide +kernel
theorem dX6_rankOf_5 : decode cX6_rankOf 5 = .ok (.getfield 73, 3) := by decide +kernel
theorem dX6_rankOf_8 : decode cX6_rankOf 8 = .ok (.getfield 110, 3) := by decide +kernel
theorem dX6_rankOf_11 : decode cX6_rankOf 11 = .ok (.ireturn, 1) := by decide +kernel
theorem dX6_force_0 : decode cX6_force 0 = .ok (.iload_n 1, 1) := by decide +kernel
theorem dX6_force_1 : decode cX6_force 1 = .ok (.invokestatic 45, 3) := by decide +kernel
theorem dX6_force_4 : decode cX6_force 4 = .ok (.aload_n 0, 1) := by decide +kernel
theorem dX6_force_5 : decode cX6_force 5 = .ok (.iload_n 1, 1) := by decide +kernel
theorem dX6_force_6 : decode cX6_force 6 = .ok (.invokevirtual 85, 3) := by decide +kernel
theorem dX6_force_9 : decode cX6_force 9 = .ok (.ireturn, 1) := by decide +kernel
theorem dX6_reaches_0 : decode cX6_reaches 0 = .ok (.iload_n 1, 1) := by decide +kernel
theorem dX6_reaches_1 : decode cX6_reaches 1 = .ok (.invokestatic 45, 3) := by decide +kernel
theorem dX6_reaches_4 : decode cX6_reaches 4 = .ok (.aload_n 0, 1) := by decide +kernel
theorem dX6_reaches_5 : decode cX6_reaches 5 = .ok (.getfield 23, 3) := by decide +kernel
theorem dX6_reaches_8 : decode cX6_reaches 8 = .ok (.iload_n 1, 1) := by decide +kernel
theorem dX6_reaches_9 : decode cX6_reaches 9 = .ok (.invokevirtual 123, 3) := by decide +kernel
theorem dX6_reaches_12 : decode cX6_reaches 12 = .ok (.ireturn, 1) := by decide +kernel
theorem dX6_extent_0 : decode cX6_extent 0 = .ok (.iload_n 1, 1) := by decide +kernel
theorem dX6_extent_1 : decode cX6_extent 1 = .ok (.invokestatic 45, 3) := by decide +kernel
theorem dX6_extent_4 : decode cX6_extent 4 = .ok (.aload_n 0, 1) := by decide +kernel
theorem dX6_extent_5 : decode cX6_extent 5 = .ok (.getfield 23, 3) := by decide +kernel
theorem dX6_extent_8 : decode cX6_extent 8 = .ok (.iload_n 1, 1) := by decide +kernel
theorem dX6_extent_9 : decode cX6_extent 9 = .ok (.invokevirtual 126, 3) := by decide +kernel
theorem dX6_extent_12 : decode cX6_extent 12 = .ok (.ireturn, 1) := by decide +kernel
theorem dX6_items_0 : decode cX6_items 0 = .ok (.aload_n 0, 1) := by decide +kernel
theorem dX6_items_1 : decode cX6_items 1 = .ok (.iload_n 1, 1) := by decide +kernel
theorem dX6_items_2 : decode cX6_items 2 = .ok (.invokevirtual 67, 3) := by decide +kernel
theorem dX6_items_5 : decode cX6_items 5 = .ok (.getfield 129, 3) := by decide +kernel
theorem dX6_items_8 : decode cX6_items 8 = .ok (.astore_n 3, 1) := by decide +kernel
theorem dX6_items_9 : decode cX6_items 9 = .ok (.iload_n 2, 1) := by decide +kernel
theorem dX6_items_10 : decode cX6_items 10 = .ok (.invokestatic 49, 3) := by decide +kernel
theorem dX6_items_13 : decode cX6_items 13 = .ok (.aload_n 3, 1) := by decide +kernel
theorem dX6_items_14 : decode cX6_items 14 = .ok (.iload_n 2, 1) := by decide +kernel
theorem dX6_items_15 : decode cX6_items 15 = .ok (.invokevirtual 133, 3) := by decide +kernel
theorem dX6_items_18 : decode cX6_items 18 = .ok (.ireturn, 1) := by decide +kernel
theorem dX6_sortAt_0 : decode cX6_sortAt 0 = .ok (.aload_n 0, 1) := by decide +kernel
theorem dX6_sortAt_1 : decode cX6_sortAt 1 = .ok (.iload_n 1, 1) := by decide +kernel
theorem dX6_sortAt_2 : decode cX6_sortAt 2 = .ok (.invokevirtual 67, 3) := by decide +kernel
theorem dX6_sortAt_5 : decode cX6_sortAt 5 = .ok (.getfield 129, 3) := by decide +kernel
theorem dX6_sortAt_8 : decode cX6_sortAt 8 = .ok (.astore 4, 2) := by decide +kernel
theorem dX6_sortAt_10 : decode cX6_sortAt 10 = .ok (.aload 4, 2) := by decide +kernel
theorem dX6_sortAt_12 : decode cX6_sortAt 12 = .ok (.aload 4, 2) := by decide +kernel
theorem dX6_sortAt_14 : decode cX6_sortAt 14 = .ok (.iload_n 2, 1) := by decide +kernel
theorem dX6_sortAt_15 : decode cX6_sortAt 15 = .ok (.iload_n 3, 1) := by decide +kernel
theorem dX6_sortAt_16 : decode cX6_sortAt 16 = .ok (.invokestatic 138, 3) := by decide +kernel
theorem dX6_sortAt_19 : decode cX6_sortAt 19 = .ok (.invokevirtual 142, 3) := by decide +kernel
theorem dX6_sortAt_22 : decode cX6_sortAt 22 = .ok (.ireturn, 1) := by decide +kernel
theorem dX6_itemAt_0 : decode cX6_itemAt 0 = .ok (.aload_n 0, 1) := by decide +kernel
theorem dX6_itemAt_1 : decode cX6_itemAt 1 = .ok (.iload_n 1, 1) := by decide +kernel
theorem dX6_itemAt_2 : decode cX6_itemAt 2 = .ok (.invokevirtual 67, 3) := by decide +kernel
theorem dX6_itemAt_5 : decode cX6_itemAt 5 = .ok (.getfield 129, 3) := by decide +kernel
theorem dX6_itemAt_8 : decode cX6_itemAt 8 = .ok (.astore 4, 2) := by decide +kernel
theorem dX6_itemAt_10 : decode cX6_itemAt 10 = .ok (.aload 4, 2) := by decide +kernel
theorem dX6_itemAt_12 : decode cX6_itemAt 12 = .ok (.aload 4, 2) := by decide +kernel
theorem dX6_itemAt_14 : decode cX6_itemAt 14 = .ok (.iload_n 2, 1) := by decide +kernel
theorem dX6_itemAt_15 : decode cX6_itemAt 15 = .ok (.iload_n 3, 1) := by decide +kernel
theorem dX6_itemAt_16 : decode cX6_itemAt 16 = .ok (.invokestatic 138, 3) := by decide +kernel
theorem dX6_itemAt_19 : decode cX6_itemAt 19 = .ok (.iload_n 2, 1) := by decide +kernel
theorem dX6_itemAt_20 : decode cX6_itemAt 20 = .ok (.invokevirtual 145, 3) := by decide +kernel
theorem dX6_itemAt_23 : decode cX6_itemAt 23 = .ok (.ireturn, 1) := by decide +kernel
theorem dX6_itemAnew_0 : decode cX6_itemAnew 0 = .ok (.iload_n 1, 1) := by decide +kernel
theorem dX6_itemAnew_1 : decode cX6_itemAnew 1 = .ok (.invokestatic 45, 3) := by decide +kernel
theorem dX6_itemAnew_4 : decode cX6_itemAnew 4 = .ok (.iload_n 2, 1) := by decide +kernel
theorem dX6_itemAnew_5 : decode cX6_itemAnew 5 = .ok (.invokestatic 49, 3) := by decide +kernel
theorem dX6_itemAnew_8 : decode cX6_itemAnew 8 = .ok (.new 149, 3) := by decide +kernel
theorem dX6_itemAnew_11 : decode cX6_itemAnew 11 = .ok (.dup, 1) := by decide +kernel
theorem dX6_itemAnew_12 : decode cX6_itemAnew 12 = .ok (.iload_n 3, 1) := by decide +kernel
theorem dX6_itemAnew_13 : decode cX6_itemAnew 13 = .ok (.invokespecial 151, 3) := by decide +kernel
theorem dX6_itemAnew_16 : decode cX6_itemAnew 16 = .ok (.astore 4, 2) := by decide +kernel
theorem dX6_itemAnew_18 : decode cX6_itemAnew 18 = .ok (.aload_n 0, 1) := by decide +kernel
theorem dX6_itemAnew_19 : decode cX6_itemAnew 19 = .ok (.aload 4, 2) := by decide +kernel
theorem dX6_itemAnew_21 : decode cX6_itemAnew 21 = .ok (.iload_n 1, 1) := by decide +kernel
theorem dX6_itemAnew_22 : decode cX6_itemAnew 22 = .ok (.iload_n 2, 1) := by decide +kernel
theorem dX6_itemAnew_23 : decode cX6_itemAnew 23 = .ok (.iconst 0, 1) := by decide +kernel
theorem dX6_itemAnew_24 : decode cX6_itemAnew 24 = .ok (.invokevirtual 153, 3) := by decide +kernel
theorem dX6_itemAnew_27 : decode cX6_itemAnew 27 = .ok (.aload 4, 2) := by decide +kernel
theorem dX6_itemAnew_29 : decode cX6_itemAnew 29 = .ok (.getfield 157, 3) := by decide +kernel
theorem dX6_itemAnew_32 : decode cX6_itemAnew 32 = .ok (.iconst (-1), 1) := by decide +kernel
theorem dX6_itemAnew_33 : decode cX6_itemAnew 33 = .ok (.if_icmp .ne 13, 3) := by decide +kernel
theorem dX6_itemAnew_36 : decode cX6_itemAnew 36 = .ok (.new 160, 3) := by decide +kernel
theorem dX6_itemAnew_39 : decode cX6_itemAnew 39 = .ok (.dup, 1) := by decide +kernel
theorem dX6_itemAnew_40 : decode cX6_itemAnew 40 = .ok (.ldc 162, 2) := by decide +kernel
theorem dX6_itemAnew_42 : decode cX6_itemAnew 42 = .ok (.invokespecial 164, 3) := by decide +kernel
theorem dX6_itemAnew_45 : decode cX6_itemAnew 45 = .ok (.athrow, 1) := by decide +kernel
theorem dX6_itemAnew_46 : decode cX6_itemAnew 46 = .ok (.aload 4, 2) := by decide +kernel
theorem dX6_itemAnew_48 : decode cX6_itemAnew 48 = .ok (.getfield 157, 3) := by decide +kernel
theorem dX6_itemAnew_51 : decode cX6_itemAnew 51 = .ok (.ireturn, 1) := by decide +kernel
theorem dX6_sourceAt_0 : decode cX6_sourceAt 0 = .ok (.aload_n 0, 1) := by decide +kernel
theorem dX6_sourceAt_1 : decode cX6_sourceAt 1 = .ok (.iload_n 1, 1) := by decide +kernel
theorem dX6_sourceAt_2 : decode cX6_sourceAt 2 = .ok (.invokevirtual 67, 3) := by decide +kernel
theorem dX6_sourceAt_5 : decode cX6_sourceAt 5 = .ok (.getfield 129, 3) := by decide +kernel
theorem dX6_sourceAt_8 : decode cX6_sourceAt 8 = .ok (.astore 4, 2) := by decide +kernel
theorem dX6_sourceAt_10 : decode cX6_sourceAt 10 = .ok (.aload 4, 2) := by decide +kernel
theorem dX6_sourceAt_12 : decode cX6_sourceAt 12 = .ok (.aload 4, 2) := by decide +kernel
theorem dX6_sourceAt_14 : decode cX6_sourceAt 14 = .ok (.iload_n 2, 1) := by decide +kernel
theorem dX6_sourceAt_15 : decode cX6_sourceAt 15 = .ok (.iload_n 3, 1) := by decide +kernel
theorem dX6_sourceAt_16 : decode cX6_sourceAt 16 = .ok (.invokestatic 138, 3) := by decide +kernel
theorem dX6_sourceAt_19 : decode cX6_sourceAt 19 = .ok (.invokevirtual 165, 3) := by decide +kernel
theorem dX6_sourceAt_22 : decode cX6_sourceAt 22 = .ok (.ireturn, 1) := by decide +kernel
theorem dX6_standsFor_0 : decode cX6_standsFor 0 = .ok (.iload_n 1, 1) := by decide +kernel
theorem dX6_standsFor_1 : decode cX6_standsFor 1 = .ok (.invokestatic 45, 3) := by decide +kernel
theorem dX6_standsFor_4 : decode cX6_standsFor 4 = .ok (.aload_n 0, 1) := by decide +kernel
theorem dX6_standsFor_5 : decode cX6_standsFor 5 = .ok (.iload_n 1, 1) := by decide +kernel
theorem dX6_standsFor_6 : decode cX6_standsFor 6 = .ok (.invokevirtual 168, 3) := by decide +kernel
theorem dX6_standsFor_9 : decode cX6_standsFor 9 = .ok (.ireturn, 1) := by decide +kernel
theorem dX6_links_0 : decode cX6_links 0 = .ok (.aload_n 0, 1) := by decide +kernel
theorem dX6_links_1 : decode cX6_links 1 = .ok (.iload_n 1, 1) := by decide +kernel
theorem dX6_links_2 : decode cX6_links 2 = .ok (.invokevirtual 67, 3) := by decide +kernel
theorem dX6_links_5 : decode cX6_links 5 = .ok (.getfield 129, 3) := by decide +kernel
theorem dX6_links_8 : decode cX6_links 8 = .ok (.astore_n 2, 1) := by decide +kernel
theorem dX6_links_9 : decode cX6_links 9 = .ok (.iconst 0, 1) := by decide +kernel
theorem dX6_links_10 : decode cX6_links 10 = .ok (.istore_n 3, 1) := by decide +kernel
theorem dX6_links_11 : decode cX6_links 11 = .ok (.iconst 0, 1) := by decide +kernel
theorem dX6_links_12 : decode cX6_links 12 = .ok (.istore 4, 2) := by decide +kernel
theorem dX6_links_14 : decode cX6_links 14 = .ok (.iload 4, 2) := by decide +kernel
theorem dX6_links_16 : decode cX6_links 16 = .ok (.aload_n 2, 1) := by decide +kernel
theorem dX6_links_17 : decode cX6_links 17 = .ok (.getfield 171, 3) := by decide +kernel
theorem dX6_links_20 : decode cX6_links 20 = .ok (.if_icmp .ge 22, 3) := by decide +kernel
theorem dX6_links_23 : decode cX6_links 23 = .ok (.aload_n 2, 1) := by decide +kernel
theorem dX6_links_24 : decode cX6_links 24 = .ok (.iload 4, 2) := by decide +kernel
theorem dX6_links_26 : decode cX6_links 26 = .ok (.iconst 2, 1) := by decide +kernel
theorem dX6_links_27 : decode cX6_links 27 = .ok (.invokevirtual 174, 3) := by decide +kernel
theorem dX6_links_30 : decode cX6_links 30 = .ok (.ifCond .eq 6, 3) := by decide +kernel
theorem dX6_links_33 : decode cX6_links 33 = .ok (.iinc 3 1, 3) := by decide +kernel
theorem dX6_links_36 : decode cX6_links 36 = .ok (.iinc 4 1, 3) := by decide +kernel
theorem dX6_links_39 : decode cX6_links 39 = .ok (.goto (-25), 3) := by decide +kernel
theorem dX6_links_42 : decode cX6_links 42 = .ok (.iload_n 3, 1) := by decide +kernel
theorem dX6_links_43 : decode cX6_links 43 = .ok (.ireturn, 1) := by decide +kernel
theorem dX6_broken_0 : decode cX6_broken 0 = .ok (.aload_n 0, 1) := by decide +kernel
theorem dX6_broken_1 : decode cX6_broken 1 = .ok (.iload_n 1, 1) := by decide +kernel
theorem dX6_broken_2 : decode cX6_broken 2 = .ok (.invokevirtual 67, 3) := by decide +kernel
theorem dX6_broken_5 : decode cX6_broken 5 = .ok (.getfield 129, 3) := by decide +kernel
theorem dX6_broken_8 : decode cX6_broken 8 = .ok (.astore_n 2, 1) := by decide +kernel
theorem dX6_broken_9 : decode cX6_broken 9 = .ok (.iconst 0, 1) := by decide +kernel
theorem dX6_broken_10 : decode cX6_broken 10 = .ok (.istore_n 3, 1) := by decide +kernel
theorem dX6_broken_11 : decode cX6_broken 11 = .ok (.iconst 0, 1) := by decide +kernel
theorem dX6_broken_12 : decode cX6_broken 12 = .ok (.istore 4, 2) := by decide +kernel
theorem dX6_broken_14 : decode cX6_broken 14 = .ok (.iload 4, 2) := by decide +kernel
theorem dX6_broken_16 : decode cX6_broken 16 = .ok (.aload_n 2, 1) := by decide +kernel
theorem dX6_broken_17 : decode cX6_broken 17 = .ok (.getfield 171, 3) := by decide +kernel
theorem dX6_broken_20 : decode cX6_broken 20 = .ok (.if_icmp .ge 22, 3) := by decide +kernel
theorem dX6_broken_23 : decode cX6_broken 23 = .ok (.aload_n 0, 1) := by decide +kernel
theorem dX6_broken_24 : decode cX6_broken 24 = .ok (.aload_n 2, 1) := by decide +kernel
theorem dX6_broken_25 : decode cX6_broken 25 = .ok (.iload 4, 2) := by decide +kernel
theorem dX6_broken_27 : decode cX6_broken 27 = .ok (.invokevirtual 178, 3) := by decide +kernel
theorem dX6_broken_30 : decode cX6_broken 30 = .ok (.ifCond .eq 6, 3) := by decide +kernel
theorem dX6_broken_33 : decode cX6_broken 33 = .ok (.iinc 3 1, 3) := by decide +kernel
theorem dX6_broken_36 : decode cX6_broken 36 = .ok (.iinc 4 1, 3) := by decide +kernel
theorem dX6_broken_39 : decode cX6_broken 39 = .ok (.goto (-25), 3) := by decide +kernel
theorem dX6_broken_42 : decode cX6_broken 42 = .ok (.iload_n 3, 1) := by decide +kernel
theorem dX6_broken_43 : decode cX6_broken 43 = .ok (.ireturn, 1) := by decide +kernel
theorem dX6_firstBroken_0 : decode cX6_firstBroken 0 = .ok (.aload_n 0, 1) := by decide +kernel
theorem dX6_firstBroken_1 : decode cX6_firstBroken 1 = .ok (.iload_n 1, 1) := by decide +kernel
theorem dX6_firstBroken_2 : decode cX6_firstBroken 2 = .ok (.invokevirtual 67, 3) := by decide +kernel
theorem dX6_firstBroken_5 : decode cX6_firstBroken 5 = .ok (.getfield 129, 3) := by decide +kernel
theorem dX6_firstBroken_8 : decode cX6_firstBroken 8 = .ok (.astore_n 2, 1) := by decide +kernel
theorem dX6_firstBroken_9 : decode cX6_firstBroken 9 = .ok (.iconst 0, 1) := by decide +kernel
theorem dX6_firstBroken_10 : decode cX6_firstBroken 10 = .ok (.istore_n 3, 1) := by decide +kernel
theorem dX6_firstBroken_11 : decode cX6_firstBroken 11 = .ok (.iload_n 3, 1) := by decide +kernel
theorem dX6_firstBroken_12 : decode cX6_firstBroken 12 = .ok (.aload_n 2, 1) := by decide +kernel
theorem dX6_firstBroken_13 : decode cX6_firstBroken 13 = .ok (.getfield 171, 3) := by decide +kernel
theorem dX6_firstBroken_16 : decode cX6_firstBroken 16 = .ok (.if_icmp .ge 25, 3) := by decide +kernel
theorem dX6_firstBroken_19 : decode cX6_firstBroken 19 = .ok (.aload_n 0, 1) := by decide +kernel
theorem dX6_firstBroken_20 : decode cX6_firstBroken 20 = .ok (.aload_n 2, 1) := by decide +kernel
theorem dX6_firstBroken_21 : decode cX6_firstBroken 21 = .ok (.iload_n 3, 1) := by decide +kernel
theorem dX6_firstBroken_22 : decode cX6_firstBroken 22 = .ok (.invokevirtual 178, 3) := by decide +kernel
theorem dX6_firstBroken_25 : decode cX6_firstBroken 25 = .ok (.ifCond .eq 10, 3) := by decide +kernel
theorem dX6_firstBroken_28 : decode cX6_firstBroken 28 = .ok (.aload_n 2, 1) := by decide +kernel
theorem dX6_firstBroken_29 : decode cX6_firstBroken 29 = .ok (.iload_n 3, 1) := by decide +kernel
theorem dX6_firstBroken_30 : decode cX6_firstBroken 30 = .ok (.iconst (-1), 1) := by decide +kernel
theorem dX6_firstBroken_31 : decode cX6_firstBroken 31 = .ok (.invokevirtual 145, 3) := by decide +kernel
theorem dX6_firstBroken_34 : decode cX6_firstBroken 34 = .ok (.ireturn, 1) := by decide +kernel
theorem dX6_firstBroken_35 : decode cX6_firstBroken 35 = .ok (.iinc 3 1, 3) := by decide +kernel
theorem dX6_firstBroken_38 : decode cX6_firstBroken 38 = .ok (.goto (-27), 3) := by decide +kernel
theorem dX6_firstBroken_41 : decode cX6_firstBroken 41 = .ok (.iconst (-1), 1) := by decide +kernel
theorem dX6_firstBroken_42 : decode cX6_firstBroken 42 = .ok (.ireturn, 1) := by decide +kernel
theorem dX6_linkedFrom_0 : decode cX6_linkedFrom 0 = .ok (.iload_n 1, 1) := by decide +kernel
theorem dX6_linkedFrom_1 : decode cX6_linkedFrom 1 = .ok (.invokestatic 45, 3) := by decide +kernel
theorem dX6_linkedFrom_4 : decode cX6_linkedFrom 4 = .ok (.iconst 0, 1) := by decide +kernel
theorem dX6_linkedFrom_5 : decode cX6_linkedFrom 5 = .ok (.istore_n 2, 1) := by decide +kernel
theorem dX6_linkedFrom_6 : decode cX6_linkedFrom 6 = .ok (.iconst 0, 1) := by decide +kernel
theorem dX6_linkedFrom_7 : decode cX6_linkedFrom 7 = .ok (.istore_n 3, 1) := by decide +kernel
theorem dX6_linkedFrom_8 : decode cX6_linkedFrom 8 = .ok (.iload_n 3, 1) := by decide +kernel
theorem dX6_linkedFrom_9 : decode cX6_linkedFrom 9 = .ok (.bipush 12, 2) := by decide +kernel
theorem dX6_linkedFrom_11 : decode cX6_linkedFrom 11 = .ok (.if_icmp .ge 24, 3) := by decide +kernel
theorem dX6_linkedFrom_14 : decode cX6_linkedFrom 14 = .ok (.aload_n 0, 1) := by decide +kernel
theorem dX6_linkedFrom_15 : decode cX6_linkedFrom 15 = .ok (.iload_n 3, 1) := by decide +kernel
theorem dX6_linkedFrom_16 : decode cX6_linkedFrom 16 = .ok (.iload_n 1, 1) := by decide +kernel
theorem dX6_linkedFrom_17 : decode cX6_linkedFrom 17 = .ok (.invokevirtual 182, 3) := by decide +kernel
theorem dX6_linkedFrom_20 : decode cX6_linkedFrom 20 = .ok (.ifCond .eq 9, 3) := by decide +kernel
theorem dX6_linkedFrom_23 : decode cX6_linkedFrom 23 = .ok (.iload_n 2, 1) := by decide +kernel
theorem dX6_linkedFrom_24 : decode cX6_linkedFrom 24 = .ok (.iconst 1, 1) := by decide +kernel
theorem dX6_linkedFrom_25 : decode cX6_linkedFrom 25 = .ok (.iload_n 3, 1) := by decide +kernel
theorem dX6_linkedFrom_26 : decode cX6_linkedFrom 26 = .ok (.ishl, 1) := by decide +kernel
theorem dX6_linkedFrom_27 : decode cX6_linkedFrom 27 = .ok (.ior, 1) := by decide +kernel
theorem dX6_linkedFrom_28 : decode cX6_linkedFrom 28 = .ok (.istore_n 2, 1) := by decide +kernel
theorem dX6_linkedFrom_29 : decode cX6_linkedFrom 29 = .ok (.iinc 3 1, 3) := by decide +kernel
theorem dX6_linkedFrom_32 : decode cX6_linkedFrom 32 = .ok (.goto (-24), 3) := by decide +kernel
theorem dX6_linkedFrom_35 : decode cX6_linkedFrom 35 = .ok (.iload_n 2, 1) := by decide +kernel
theorem dX6_linkedFrom_36 : decode cX6_linkedFrom 36 = .ok (.ireturn, 1) := by decide +kernel
theorem dX6_breaches_0 : decode cX6_breaches 0 = .ok (.aload_n 0, 1) := by decide +kernel
theorem dX6_breaches_1 : decode cX6_breaches 1 = .ok (.aload_n 0, 1) := by decide +kernel
theorem dX6_breaches_2 : decode cX6_breaches 2 = .ok (.iload_n 1, 1) := by decide +kernel
theorem dX6_breaches_3 : decode cX6_breaches 3 = .ok (.invokevirtual 67, 3) := by decide +kernel
theorem dX6_breaches_6 : decode cX6_breaches 6 = .ok (.invokevirtual 185, 3) := by decide +kernel
theorem dX6_breaches_9 : decode cX6_breaches 9 = .ok (.ireturn, 1) := by decide +kernel
theorem dX6_breached_0 : decode cX6_breached 0 = .ok (.iconst 0, 1) := by decide +kernel
theorem dX6_breached_1 : decode cX6_breached 1 = .ok (.istore_n 1, 1) := by decide +kernel
theorem dX6_breached_2 : decode cX6_breached 2 = .ok (.iconst 0, 1) := by decide +kernel
theorem dX6_breached_3 : decode cX6_breached 3 = .ok (.istore_n 2, 1) := by decide +kernel
theorem dX6_breached_4 : decode cX6_breached 4 = .ok (.iload_n 2, 1) := by decide +kernel
theorem dX6_breached_5 : decode cX6_breached 5 = .ok (.bipush 12, 2) := by decide +kernel
theorem dX6_breached_7 : decode cX6_breached 7 = .ok (.if_icmp .ge 24, 3) := by decide +kernel
theorem dX6_breached_10 : decode cX6_breached 10 = .ok (.aload_n 0, 1) := by decide +kernel
theorem dX6_breached_11 : decode cX6_breached 11 = .ok (.aload_n 0, 1) := by decide +kernel
theorem dX6_breached_12 : decode cX6_breached 12 = .ok (.iload_n 2, 1) := by decide +kernel
theorem dX6_breached_13 : decode cX6_breached 13 = .ok (.invokevirtual 67, 3) := by decide +kernel
theorem dX6_breached_16 : decode cX6_breached 16 = .ok (.invokevirtual 185, 3) := by decide +kernel
theorem dX6_breached_19 : decode cX6_breached 19 = .ok (.ifCond .le 6, 3) := by decide +kernel
theorem dX6_breached_22 : decode cX6_breached 22 = .ok (.iinc 1 1, 3) := by decide +kernel
theorem dX6_breached_25 : decode cX6_breached 25 = .ok (.iinc 2 1, 3) := by decide +kernel
theorem dX6_breached_28 : decode cX6_breached 28 = .ok (.goto (-24), 3) := by decide +kernel
theorem dX6_breached_31 : decode cX6_breached 31 = .ok (.iload_n 1, 1) := by decide +kernel
theorem dX6_breached_32 : decode cX6_breached 32 = .ok (.ireturn, 1) := by decide +kernel
theorem dX6_requireBelow_0 : decode cX6_requireBelow 0 = .ok (.iload_n 0, 1) := by decide +kernel
theorem dX6_requireBelow_1 : decode cX6_requireBelow 1 = .ok (.ifCond .lt 8, 3) := by decide +kernel
theorem dX6_requireBelow_4 : decode cX6_requireBelow 4 = .ok (.iload_n 0, 1) := by decide +kernel
theorem dX6_requireBelow_5 : decode cX6_requireBelow 5 = .ok (.iload_n 1, 1) := by decide +kernel
theorem dX6_requireBelow_6 : decode cX6_requireBelow 6 = .ok (.if_icmp .lt 13, 3) := by decide +kernel
theorem dX6_requireBelow_9 : decode cX6_requireBelow 9 = .ok (.new 189, 3) := by decide +kernel
theorem dX6_requireBelow_12 : decode cX6_requireBelow 12 = .ok (.dup, 1) := by decide +kernel
theorem dX6_requireBelow_13 : decode cX6_requireBelow 13 = .ok (.ldc 191, 2) := by decide +kernel
theorem dX6_requireBelow_15 : decode cX6_requireBelow 15 = .ok (.invokespecial 193, 3) := by decide +kernel
theorem dX6_requireBelow_18 : decode cX6_requireBelow 18 = .ok (.athrow, 1) := by decide +kernel
theorem dX6_requireBelow_19 : decode cX6_requireBelow 19 = .ok (.return_, 1) := by decide +kernel
theorem dX6_requireArgument_0 : decode cX6_requireArgument 0 = .ok (.iload_n 0, 1) := by decide +kernel
theorem dX6_requireArgument_1 : decode cX6_requireArgument 1 = .ok (.iconst (-1), 1) := by decide +kernel
theorem dX6_requireArgument_2 : decode cX6_requireArgument 2 = .ok (.if_icmp .eq 9, 3) := by decide +kernel
theorem dX6_requireArgument_5 : decode cX6_requireArgument 5 = .ok (.iload_n 0, 1) := by decide +kernel
theorem dX6_requireArgument_6 : decode cX6_requireArgument 6 = .ok (.bipush 26, 2) := by decide +kernel
theorem dX6_requireArgument_8 : decode cX6_requireArgument 8 = .ok (.invokestatic 37, 3) := by decide +kernel
theorem dX6_requireArgument_11 : decode cX6_requireArgument 11 = .ok (.return_, 1) := by decide +kernel
theorem dX6_requirePage_0 : decode cX6_requirePage 0 = .ok (.iload_n 0, 1) := by decide +kernel
theorem dX6_requirePage_1 : decode cX6_requirePage 1 = .ok (.ifCond .lt 9, 3) := by decide +kernel
theorem dX6_requirePage_4 : decode cX6_requirePage 4 = .ok (.iload_n 0, 1) := by decide +kernel
theorem dX6_requirePage_5 : decode cX6_requirePage 5 = .ok (.bipush 12, 2) := by decide +kernel
theorem dX6_requirePage_7 : decode cX6_requirePage 7 = .ok (.if_icmp .lt 13, 3) := by decide +kernel
theorem dX6_requirePage_10 : decode cX6_requirePage 10 = .ok (.new 194, 3) := by decide +kernel
theorem dX6_requirePage_13 : decode cX6_requirePage 13 = .ok (.dup, 1) := by decide +kernel
theorem dX6_requirePage_14 : decode cX6_requirePage 14 = .ok (.ldc 196, 2) := by decide +kernel
theorem dX6_requirePage_16 : decode cX6_requirePage 16 = .ok (.invokespecial 198, 3) := by decide +kernel
theorem dX6_requirePage_19 : decode cX6_requirePage 19 = .ok (.athrow, 1) := by decide +kernel
theorem dX6_requirePage_20 : decode cX6_requirePage 20 = .ok (.return_, 1) := by decide +kernel
theorem dX6_pageAt_0 : decode cX6_pageAt 0 = .ok (.iload_n 1, 1) := by decide +kernel
theorem dX6_pageAt_1 : decode cX6_pageAt 1 = .ok (.ifCond .lt 21, 3) := by decide +kernel
theorem dX6_pageAt_4 : decode cX6_pageAt 4 = .ok (.iload_n 1, 1) := by decide +kernel
theorem dX6_pageAt_5 : decode cX6_pageAt 5 = .ok (.aload_n 0, 1) := by decide +kernel
theorem dX6_pageAt_6 : decode cX6_pageAt 6 = .ok (.getfield 32, 3) := by decide +kernel
theorem dX6_pageAt_9 : decode cX6_pageAt 9 = .ok (.arraylength, 1) := by decide +kernel
theorem dX6_pageAt_10 : decode cX6_pageAt 10 = .ok (.if_icmp .ge 12, 3) := by decide +kernel
theorem dX6_pageAt_13 : decode cX6_pageAt 13 = .ok (.aload_n 0, 1) := by decide +kernel
theorem dX6_pageAt_14 : decode cX6_pageAt 14 = .ok (.getfield 32, 3) := by decide +kernel
theorem dX6_pageAt_17 : decode cX6_pageAt 17 = .ok (.iload_n 1, 1) := by decide +kernel
theorem dX6_pageAt_18 : decode cX6_pageAt 18 = .ok (.aaload, 1) := by decide +kernel
theorem dX6_pageAt_19 : decode cX6_pageAt 19 = .ok (.goto 4, 3) := by decide +kernel
theorem dX6_pageAt_22 : decode cX6_pageAt 22 = .ok (.aconst_null, 1) := by decide +kernel
theorem dX6_pageAt_23 : decode cX6_pageAt 23 = .ok (.astore_n 2, 1) := by decide +kernel
theorem dX6_pageAt_24 : decode cX6_pageAt 24 = .ok (.aload_n 2, 1) := by decide +kernel
theorem dX6_pageAt_25 : decode cX6_pageAt 25 = .ok (.ifnonnull 13, 3) := by decide +kernel
theorem dX6_pageAt_28 : decode cX6_pageAt 28 = .ok (.new 194, 3) := by decide +kernel
theorem dX6_pageAt_31 : decode cX6_pageAt 31 = .ok (.dup, 1) := by decide +kernel
theorem dX6_pageAt_32 : decode cX6_pageAt 32 = .ok (.ldc 196, 2) := by decide +kernel
theorem dX6_pageAt_34 : decode cX6_pageAt 34 = .ok (.invokespecial 198, 3) := by decide +kernel
theorem dX6_pageAt_37 : decode cX6_pageAt 37 = .ok (.athrow, 1) := by decide +kernel
theorem dX6_pageAt_38 : decode cX6_pageAt 38 = .ok (.aload_n 2, 1) := by decide +kernel
theorem dX6_pageAt_39 : decode cX6_pageAt 39 = .ok (.areturn, 1) := by decide +kernel
theorem dX6_rankOfUser_0 : decode cX6_rankOfUser 0 = .ok (.iload_n 1, 1) := by decide +kernel
theorem dX6_rankOfUser_1 : decode cX6_rankOfUser 1 = .ok (.ifCond .lt 9, 3) := by decide +kernel
theorem dX6_rankOfUser_4 : decode cX6_rankOfUser 4 = .ok (.iload_n 1, 1) := by decide +kernel
theorem dX6_rankOfUser_5 : decode cX6_rankOfUser 5 = .ok (.bipush 6, 2) := by decide +kernel
theorem dX6_rankOfUser_7 : decode cX6_rankOfUser 7 = .ok (.if_icmp .lt 13, 3) := by decide +kernel
theorem dX6_rankOfUser_10 : decode cX6_rankOfUser 10 = .ok (.new 194, 3) := by decide +kernel
theorem dX6_rankOfUser_13 : decode cX6_rankOfUser 13 = .ok (.dup, 1) := by decide +kernel
theorem dX6_rankOfUser_14 : decode cX6_rankOfUser 14 = .ok (.ldc 199, 2) := by decide +kernel
theorem dX6_rankOfUser_16 : decode cX6_rankOfUser 16 = .ok (.invokespecial 198, 3) := by decide +kernel
theorem dX6_rankOfUser_19 : decode cX6_rankOfUser 19 = .ok (.athrow, 1) := by decide +kernel
theorem dX6_rankOfUser_20 : decode cX6_rankOfUser 20 = .ok (.aload_n 0, 1) := by decide +kernel
theorem dX6_rankOfUser_21 : decode cX6_rankOfUser 21 = .ok (.getfield 16, 3) := by decide +kernel
theorem dX6_rankOfUser_24 : decode cX6_rankOfUser 24 = .ok (.iload_n 1, 1) := by decide +kernel
theorem dX6_rankOfUser_25 : decode cX6_rankOfUser 25 = .ok (.invokestatic 201, 3) := by decide +kernel
theorem dX6_rankOfUser_28 : decode cX6_rankOfUser 28 = .ok (.ireturn, 1) := by decide +kernel
theorem dX6_indexOf_0 : decode cX6_indexOf 0 = .ok (.iload_n 1, 1) := by decide +kernel
theorem dX6_indexOf_1 : decode cX6_indexOf 1 = .ok (.invokestatic 49, 3) := by decide +kernel
theorem dX6_indexOf_4 : decode cX6_indexOf 4 = .ok (.aload_n 0, 1) := by decide +kernel
theorem dX6_indexOf_5 : decode cX6_indexOf 5 = .ok (.iload_n 1, 1) := by decide +kernel
theorem dX6_indexOf_6 : decode cX6_indexOf 6 = .ok (.iload_n 2, 1) := by decide +kernel
theorem dX6_indexOf_7 : decode cX6_indexOf 7 = .ok (.invokevirtual 205, 3) := by decide +kernel
theorem dX6_indexOf_10 : decode cX6_indexOf 10 = .ok (.istore_n 3, 1) := by decide +kernel
theorem dX6_indexOf_11 : decode cX6_indexOf 11 = .ok (.iload_n 3, 1) := by decide +kernel
theorem dX6_indexOf_12 : decode cX6_indexOf 12 = .ok (.iconst (-1), 1) := by decide +kernel
theorem dX6_indexOf_13 : decode cX6_indexOf 13 = .ok (.if_icmp .ne 13, 3) := by decide +kernel
theorem dX6_indexOf_16 : decode cX6_indexOf 16 = .ok (.new 160, 3) := by decide +kernel
theorem dX6_indexOf_19 : decode cX6_indexOf 19 = .ok (.dup, 1) := by decide +kernel
theorem dX6_indexOf_20 : decode cX6_indexOf 20 = .ok (.ldc 162, 2) := by decide +kernel
theorem dX6_indexOf_22 : decode cX6_indexOf 22 = .ok (.invokespecial 164, 3) := by decide +kernel
theorem dX6_indexOf_25 : decode cX6_indexOf 25 = .ok (.athrow, 1) := by decide +kernel
theorem dX6_indexOf_26 : decode cX6_indexOf 26 = .ok (.iload_n 3, 1) := by decide +kernel
theorem dX6_indexOf_27 : decode cX6_indexOf 27 = .ok (.ireturn, 1) := by decide +kernel
theorem dX6_addPiece_0 : decode cX6_addPiece 0 = .ok (.aload_n 0, 1) := by decide +kernel
theorem dX6_addPiece_1 : decode cX6_addPiece 1 = .ok (.getfield 12, 3) := by decide +kernel
theorem dX6_addPiece_4 : decode cX6_addPiece 4 = .ok (.getfield 208, 3) := by decide +kernel
theorem dX6_addPiece_7 : decode cX6_addPiece 7 = .ok (.bipush 30, 2) := by decide +kernel
theorem dX6_addPiece_9 : decode cX6_addPiece 9 = .ok (.if_icmp .lt 13, 3) := by decide +kernel
theorem dX6_addPiece_12 : decode cX6_addPiece 12 = .ok (.new 56, 3) := by decide +kernel
theorem dX6_addPiece_15 : decode cX6_addPiece 15 = .ok (.dup, 1) := by decide +kernel
theorem dX6_addPiece_16 : decode cX6_addPiece 16 = .ok (.ldc 209, 2) := by decide +kernel
theorem dX6_addPiece_18 : decode cX6_addPiece 18 = .ok (.invokespecial 60, 3) := by decide +kernel
theorem dX6_addPiece_21 : decode cX6_addPiece 21 = .ok (.athrow, 1) := by decide +kernel
theorem dX6_addPiece_22 : decode cX6_addPiece 22 = .ok (.aload_n 0, 1) := by decide +kernel
theorem dX6_addPiece_23 : decode cX6_addPiece 23 = .ok (.getfield 12, 3) := by decide +kernel
theorem dX6_addPiece_26 : decode cX6_addPiece 26 = .ok (.iload_n 1, 1) := by decide +kernel
theorem dX6_addPiece_27 : decode cX6_addPiece 27 = .ok (.iload_n 2, 1) := by decide +kernel
theorem dX6_addPiece_28 : decode cX6_addPiece 28 = .ok (.iload_n 3, 1) := by decide +kernel
theorem dX6_addPiece_29 : decode cX6_addPiece 29 = .ok (.invokevirtual 211, 3) := by decide +kernel
theorem dX6_addPiece_32 : decode cX6_addPiece 32 = .ok (.aload_n 0, 1) := by decide +kernel
theorem dX6_addPiece_33 : decode cX6_addPiece 33 = .ok (.getfield 12, 3) := by decide +kernel
theorem dX6_addPiece_36 : decode cX6_addPiece 36 = .ok (.getfield 208, 3) := by decide +kernel
theorem dX6_addPiece_39 : decode cX6_addPiece 39 = .ok (.ireturn, 1) := by decide +kernel
theorem dX6_refusalOf_0 : decode cX6_refusalOf 0 = .ok (.aload_n 0, 1) := by decide +kernel
theorem dX6_refusalOf_1 : decode cX6_refusalOf 1 = .ok (.getfield 27, 3) := by decide +kernel
theorem dX6_refusalOf_4 : decode cX6_refusalOf 4 = .ok (.aload_n 0, 1) := by decide +kernel
theorem dX6_refusalOf_5 : decode cX6_refusalOf 5 = .ok (.getfield 23, 3) := by decide +kernel
theorem dX6_refusalOf_8 : decode cX6_refusalOf 8 = .ok (.invokevirtual 215, 3) := by decide +kernel
theorem dX6_refusalOf_11 : decode cX6_refusalOf 11 = .ok (.aload_n 0, 1) := by decide +kernel
theorem dX6_refusalOf_12 : decode cX6_refusalOf 12 = .ok (.getfield 27, 3) := by decide +kernel
theorem dX6_refusalOf_15 : decode cX6_refusalOf 15 = .ok (.iload_n 1, 1) := by decide +kernel
theorem dX6_refusalOf_16 : decode cX6_refusalOf 16 = .ok (.aload_n 2, 1) := by decide +kernel
theorem dX6_refusalOf_17 : decode cX6_refusalOf 17 = .ok (.invokevirtual 219, 3) := by decide +kernel
theorem dX6_refusalOf_20 : decode cX6_refusalOf 20 = .ok (.aload_n 0, 1) := by decide +kernel
theorem dX6_refusalOf_21 : decode cX6_refusalOf 21 = .ok (.getfield 27, 3) := by decide +kernel
theorem dX6_refusalOf_24 : decode cX6_refusalOf 24 = .ok (.invokevirtual 223, 3) := by decide +kernel
theorem dX6_refusalOf_27 : decode cX6_refusalOf 27 = .ok (.aload_n 0, 1) := by decide +kernel
theorem dX6_refusalOf_28 : decode cX6_refusalOf 28 = .ok (.getfield 27, 3) := by decide +kernel
theorem dX6_refusalOf_31 : decode cX6_refusalOf 31 = .ok (.iload_n 1, 1) := by decide +kernel
theorem dX6_refusalOf_32 : decode cX6_refusalOf 32 = .ok (.invokevirtual 123, 3) := by decide +kernel
theorem dX6_refusalOf_35 : decode cX6_refusalOf 35 = .ok (.iload_n 1, 1) := by decide +kernel
theorem dX6_refusalOf_36 : decode cX6_refusalOf 36 = .ok (.invokestatic 226, 3) := by decide +kernel
theorem dX6_refusalOf_39 : decode cX6_refusalOf 39 = .ok (.ifCond .eq 6, 3) := by decide +kernel
theorem dX6_refusalOf_42 : decode cX6_refusalOf 42 = .ok (.bipush (-3), 2) := by decide +kernel
theorem dX6_refusalOf_44 : decode cX6_refusalOf 44 = .ok (.ireturn, 1) := by decide +kernel
theorem dX6_refusalOf_45 : decode cX6_refusalOf 45 = .ok (.aload_n 0, 1) := by decide +kernel
theorem dX6_refusalOf_46 : decode cX6_refusalOf 46 = .ok (.getfield 27, 3) := by decide +kernel
theorem dX6_refusalOf_49 : decode cX6_refusalOf 49 = .ok (.invokevirtual 229, 3) := by decide +kernel
theorem dX6_refusalOf_52 : decode cX6_refusalOf 52 = .ok (.aload_n 0, 1) := by decide +kernel
theorem dX6_refusalOf_53 : decode cX6_refusalOf 53 = .ok (.getfield 27, 3) := by decide +kernel
theorem dX6_refusalOf_56 : decode cX6_refusalOf 56 = .ok (.invokevirtual 232, 3) := by decide +kernel
theorem dX6_refusalOf_59 : decode cX6_refusalOf 59 = .ok (.iconst 5, 1) := by decide +kernel
theorem dX6_refusalOf_60 : decode cX6_refusalOf 60 = .ok (.if_icmp .le 6, 3) := by decide +kernel
theorem dX6_refusalOf_63 : decode cX6_refusalOf 63 = .ok (.bipush (-4), 2) := by decide +kernel
theorem dX6_refusalOf_65 : decode cX6_refusalOf 65 = .ok (.ireturn, 1) := by decide +kernel
theorem dX6_refusalOf_66 : decode cX6_refusalOf 66 = .ok (.aload_n 0, 1) := by decide +kernel
theorem dX6_refusalOf_67 : decode cX6_refusalOf 67 = .ok (.getfield 27, 3) := by decide +kernel
theorem dX6_refusalOf_70 : decode cX6_refusalOf 70 = .ok (.invokevirtual 236, 3) := by decide +kernel
theorem dX6_refusalOf_73 : decode cX6_refusalOf 73 = .ok (.aload_n 0, 1) := by decide +kernel
theorem dX6_refusalOf_74 : decode cX6_refusalOf 74 = .ok (.getfield 27, 3) := by decide +kernel
theorem dX6_refusalOf_77 : decode cX6_refusalOf 77 = .ok (.invokevirtual 239, 3) := by decide +kernel
theorem dX6_refusalOf_80 : decode cX6_refusalOf 80 = .ok (.bipush 100, 2) := by decide +kernel
theorem dX6_refusalOf_82 : decode cX6_refusalOf 82 = .ok (.if_icmp .le 6, 3) := by decide +kernel
theorem dX6_refusalOf_85 : decode cX6_refusalOf 85 = .ok (.bipush (-5), 2) := by decide +kernel
theorem dX6_refusalOf_87 : decode cX6_refusalOf 87 = .ok (.ireturn, 1) := by decide +kernel
theorem dX6_refusalOf_88 : decode cX6_refusalOf 88 = .ok (.aload_n 0, 1) := by decide +kernel
theorem dX6_refusalOf_89 : decode cX6_refusalOf 89 = .ok (.getfield 27, 3) := by decide +kernel
theorem dX6_refusalOf_92 : decode cX6_refusalOf 92 = .ok (.iload_n 1, 1) := by decide +kernel
theorem dX6_refusalOf_93 : decode cX6_refusalOf 93 = .ok (.invokevirtual 123, 3) := by decide +kernel
theorem dX6_refusalOf_96 : decode cX6_refusalOf 96 = .ok (.aload_n 0, 1) := by decide +kernel
theorem dX6_refusalOf_97 : decode cX6_refusalOf 97 = .ok (.getfield 23, 3) := by decide +kernel
theorem dX6_refusalOf_100 : decode cX6_refusalOf 100 = .ok (.iload_n 1, 1) := by decide +kernel
theorem dX6_refusalOf_101 : decode cX6_refusalOf 101 = .ok (.invokevirtual 123, 3) := by decide +kernel
theorem dX6_refusalOf_104 : decode cX6_refusalOf 104 = .ok (.iconst (-1), 1) := by decide +kernel
theorem dX6_refusalOf_105 : decode cX6_refusalOf 105 = .ok (.ixor, 1) := by decide +kernel
theorem dX6_refusalOf_106 : decode cX6_refusalOf 106 = .ok (.iand, 1) := by decide +kernel
theorem dX6_refusalOf_107 : decode cX6_refusalOf 107 = .ok (.istore_n 3, 1) := by decide +kernel
theorem dX6_refusalOf_108 : decode cX6_refusalOf 108 = .ok (.aload_n 0, 1) := by decide +kernel
theorem dX6_refusalOf_109 : decode cX6_refusalOf 109 = .ok (.iload_n 3, 1) := by decide +kernel
theorem dX6_refusalOf_110 : decode cX6_refusalOf 110 = .ok (.aload_n 0, 1) := by decide +kernel
theorem dX6_refusalOf_111 : decode cX6_refusalOf 111 = .ok (.iload_n 1, 1) := by decide +kernel
theorem dX6_refusalOf_112 : decode cX6_refusalOf 112 = .ok (.invokevirtual 85, 3) := by decide +kernel
theorem dX6_refusalOf_115 : decode cX6_refusalOf 115 = .ok (.invokevirtual 242, 3) := by decide +kernel
theorem dX6_refusalOf_118 : decode cX6_refusalOf 118 = .ok (.ifCond .eq 8, 3) := by decide +kernel
theorem dX6_refusalOf_121 : decode cX6_refusalOf 121 = .ok (.bipush (-6), 2) := by decide +kernel
theorem dX6_refusalOf_123 : decode cX6_refusalOf 123 = .ok (.goto 4, 3) := by decide +kernel
theorem dX6_refusalOf_126 : decode cX6_refusalOf 126 = .ok (.iconst (-1), 1) := by decide +kernel
theorem dX6_refusalOf_127 : decode cX6_refusalOf 127 = .ok (.ireturn, 1) := by decide +kernel
theorem dX6_hasRankBelow_0 : decode cX6_hasRankBelow 0 = .ok (.iconst 0, 1) := by decide +kernel
theorem dX6_hasRankBelow_1 : decode cX6_hasRankBelow 1 = .ok (.istore_n 3, 1) := by decide +kernel
theorem dX6_hasRankBelow_2 : decode cX6_hasRankBelow 2 = .ok (.iload_n 3, 1) := by decide +kernel
theorem dX6_hasRankBelow_3 : decode cX6_hasRankBelow 3 = .ok (.bipush 12, 2) := by decide +kernel
theorem dX6_hasRankBelow_5 : decode cX6_hasRankBelow 5 = .ok (.if_icmp .ge 34, 3) := by decide +kernel
theorem dX6_hasRankBelow_8 : decode cX6_hasRankBelow 8 = .ok (.iload_n 1, 1) := by decide +kernel
theorem dX6_hasRankBelow_9 : decode cX6_hasRankBelow 9 = .ok (.iload_n 3, 1) := by decide +kernel
theorem dX6_hasRankBelow_10 : decode cX6_hasRankBelow 10 = .ok (.invokestatic 226, 3) := by decide +kernel
theorem dX6_hasRankBelow_13 : decode cX6_hasRankBelow 13 = .ok (.ifCond .eq 20, 3) := by decide +kernel
theorem dX6_hasRankBelow_16 : decode cX6_hasRankBelow 16 = .ok (.aload_n 0, 1) := by decide +kernel
theorem dX6_hasRankBelow_17 : decode cX6_hasRankBelow 17 = .ok (.iload_n 3, 1) := by decide +kernel
theorem dX6_hasRankBelow_18 : decode cX6_hasRankBelow 18 = .ok (.invokevirtual 67, 3) := by decide +kernel
theorem dX6_hasRankBelow_21 : decode cX6_hasRankBelow 21 = .ok (.getfield 73, 3) := by decide +kernel
theorem dX6_hasRankBelow_24 : decode cX6_hasRankBelow 24 = .ok (.getfield 110, 3) := by decide +kernel
theorem dX6_hasRankBelow_27 : decode cX6_hasRankBelow 27 = .ok (.iload_n 2, 1) := by decide +kernel
theorem dX6_hasRankBelow_28 : decode cX6_hasRankBelow 28 = .ok (.if_icmp .ge 5, 3) := by decide +kernel
theorem dX6_hasRankBelow_31 : decode cX6_hasRankBelow 31 = .ok (.iconst 1, 1) := by decide +kernel
theorem dX6_hasRankBelow_32 : decode cX6_hasRankBelow 32 = .ok (.ireturn, 1) := by decide +kernel
theorem dX6_hasRankBelow_33 : decode cX6_hasRankBelow 33 = .ok (.iinc 3 1, 3) := by decide +kernel
theorem dX6_hasRankBelow_36 : decode cX6_hasRankBelow 36 = .ok (.goto (-34), 3) := by decide +kernel
theorem dX6_hasRankBelow_39 : decode cX6_hasRankBelow 39 = .ok (.iconst 0, 1) := by decide +kernel
theorem dX6_hasRankBelow_40 : decode cX6_hasRankBelow 40 = .ok (.ireturn, 1) := by decide +kernel
theorem dX6_settle_0 : decode cX6_settle 0 = .ok (.aload_n 0, 1) := by decide +kernel
theorem dX6_settle_1 : decode cX6_settle 1 = .ok (.getfield 23, 3) := by decide +kernel
theorem dX6_settle_4 : decode cX6_settle 4 = .ok (.astore_n 1, 1) := by decide +kernel
theorem dX6_settle_5 : decode cX6_settle 5 = .ok (.aload_n 0, 1) := by decide +kernel
theorem dX6_settle_6 : decode cX6_settle 6 = .ok (.aload_n 0, 1) := by decide +kernel
theorem dX6_settle_7 : decode cX6_settle 7 = .ok (.getfield 27, 3) := by decide +kernel
theorem dX6_settle_10 : decode cX6_settle 10 = .ok (.putfield 23, 3) := by decide +kernel
theorem dX6_settle_13 : decode cX6_settle 13 = .ok (.aload_n 0, 1) := by decide +kernel
theorem dX6_settle_14 : decode cX6_settle 14 = .ok (.aload_n 1, 1) := by decide +kernel
theorem dX6_settle_15 : decode cX6_settle 15 = .ok (.putfield 27, 3) := by decide +kernel
theorem dX6_settle_18 : decode cX6_settle 18 = .ok (.iconst 0, 1) := by decide +kernel
theorem dX6_settle_19 : decode cX6_settle 19 = .ok (.istore_n 2, 1) := by decide +kernel
theorem dX6_settle_20 : decode cX6_settle 20 = .ok (.iload_n 2, 1) := by decide +kernel
theorem dX6_settle_21 : decode cX6_settle 21 = .ok (.iconst 5, 1) := by decide +kernel
theorem dX6_settle_22 : decode cX6_settle 22 = .ok (.if_icmp .gt 40, 3) := by decide +kernel
theorem dX6_settle_25 : decode cX6_settle 25 = .ok (.iconst 0, 1) := by decide +kernel
theorem dX6_settle_26 : decode cX6_settle 26 = .ok (.istore_n 3, 1) := by decide +kernel
theorem dX6_settle_27 : decode cX6_settle 27 = .ok (.iload_n 3, 1) := by decide +kernel
theorem dX6_settle_28 : decode cX6_settle 28 = .ok (.bipush 12, 2) := by decide +kernel
theorem dX6_settle_30 : decode cX6_settle 30 = .ok (.if_icmp .ge 26, 3) := by decide +kernel
theorem dX6_settle_33 : decode cX6_settle 33 = .ok (.aload_n 0, 1) := by decide +kernel
theorem dX6_settle_34 : decode cX6_settle 34 = .ok (.getfield 23, 3) := by decide +kernel
theorem dX6_settle_37 : decode cX6_settle 37 = .ok (.iload_n 3, 1) := by decide +kernel
theorem dX6_settle_38 : decode cX6_settle 38 = .ok (.invokevirtual 245, 3) := by decide +kernel
theorem dX6_settle_41 : decode cX6_settle 41 = .ok (.iload_n 2, 1) := by decide +kernel
theorem dX6_settle_42 : decode cX6_settle 42 = .ok (.if_icmp .ne 8, 3) := by decide +kernel
theorem dX6_settle_45 : decode cX6_settle 45 = .ok (.aload_n 0, 1) := by decide +kernel
theorem dX6_settle_46 : decode cX6_settle 46 = .ok (.iload_n 3, 1) := by decide +kernel
theorem dX6_settle_47 : decode cX6_settle 47 = .ok (.invokevirtual 248, 3) := by decide +kernel
theorem dX6_settle_50 : decode cX6_settle 50 = .ok (.iinc 3 1, 3) := by decide +kernel
theorem dX6_settle_53 : decode cX6_settle 53 = .ok (.goto (-26), 3) := by decide +kernel
theorem dX6_settle_56 : decode cX6_settle 56 = .ok (.iinc 2 1, 3) := by decide +kernel
theorem dX6_settle_59 : decode cX6_settle 59 = .ok (.goto (-39), 3) := by decide +kernel
theorem dX6_settle_62 : decode cX6_settle 62 = .ok (.return_, 1) := by decide +kernel
theorem dX6_forceOn_0 : decode cX6_forceOn 0 = .ok (.aload_n 0, 1) := by decide +kernel
theorem dX6_forceOn_1 : decode cX6_forceOn 1 = .ok (.iload_n 1, 1) := by decide +kernel
theorem dX6_forceOn_2 : decode cX6_forceOn 2 = .ok (.invokevirtual 67, 3) := by decide +kernel
theorem dX6_forceOn_5 : decode cX6_forceOn 5 = .ok (.getfield 116, 3) := by decide +kernel
theorem dX6_forceOn_8 : decode cX6_forceOn 8 = .ok (.istore_n 2, 1) := by decide +kernel
theorem dX6_forceOn_9 : decode cX6_forceOn 9 = .ok (.iconst 0, 1) := by decide +kernel
theorem dX6_forceOn_10 : decode cX6_forceOn 10 = .ok (.istore_n 3, 1) := by decide +kernel
theorem dX6_forceOn_11 : decode cX6_forceOn 11 = .ok (.iload_n 3, 1) := by decide +kernel
theorem dX6_forceOn_12 : decode cX6_forceOn 12 = .ok (.bipush 12, 2) := by decide +kernel
theorem dX6_forceOn_14 : decode cX6_forceOn 14 = .ok (.if_icmp .ge 37, 3) := by decide +kernel
theorem dX6_forceOn_17 : decode cX6_forceOn 17 = .ok (.aload_n 0, 1) := by decide +kernel
theorem dX6_forceOn_18 : decode cX6_forceOn 18 = .ok (.getfield 23, 3) := by decide +kernel
theorem dX6_forceOn_21 : decode cX6_forceOn 21 = .ok (.iload_n 3, 1) := by decide +kernel
theorem dX6_forceOn_22 : decode cX6_forceOn 22 = .ok (.invokevirtual 123, 3) := by decide +kernel
theorem dX6_forceOn_25 : decode cX6_forceOn 25 = .ok (.iload_n 1, 1) := by decide +kernel
theorem dX6_forceOn_26 : decode cX6_forceOn 26 = .ok (.invokestatic 226, 3) := by decide +kernel
theorem dX6_forceOn_29 : decode cX6_forceOn 29 = .ok (.ifCond .eq 16, 3) := by decide +kernel
theorem dX6_forceOn_32 : decode cX6_forceOn 32 = .ok (.iload_n 2, 1) := by decide +kernel
theorem dX6_forceOn_33 : decode cX6_forceOn 33 = .ok (.aload_n 0, 1) := by decide +kernel
theorem dX6_forceOn_34 : decode cX6_forceOn 34 = .ok (.iload_n 3, 1) := by decide +kernel
theorem dX6_forceOn_35 : decode cX6_forceOn 35 = .ok (.invokevirtual 67, 3) := by decide +kernel
theorem dX6_forceOn_38 : decode cX6_forceOn 38 = .ok (.getfield 116, 3) := by decide +kernel
theorem dX6_forceOn_41 : decode cX6_forceOn 41 = .ok (.invokestatic 251, 3) := by decide +kernel
theorem dX6_forceOn_44 : decode cX6_forceOn 44 = .ok (.istore_n 2, 1) := by decide +kernel
theorem dX6_forceOn_45 : decode cX6_forceOn 45 = .ok (.iinc 3 1, 3) := by decide +kernel
theorem dX6_forceOn_48 : decode cX6_forceOn 48 = .ok (.goto (-37), 3) := by decide +kernel
theorem dX6_forceOn_51 : decode cX6_forceOn 51 = .ok (.iload_n 2, 1) := by decide +kernel
theorem dX6_forceOn_52 : decode cX6_forceOn 52 = .ok (.ireturn, 1) := by decide +kernel
theorem dX6_spreadPage_0 : decode cX6_spreadPage 0 = .ok (.aload_n 0, 1) := by decide +kernel
theorem dX6_spreadPage_1 : decode cX6_spreadPage 1 = .ok (.iload_n 1, 1) := by decide +kernel
theorem dX6_spreadPage_2 : decode cX6_spreadPage 2 = .ok (.invokevirtual 67, 3) := by decide +kernel
theorem dX6_spreadPage_5 : decode cX6_spreadPage 5 = .ok (.astore_n 2, 1) := by decide +kernel
theorem dX6_spreadPage_6 : decode cX6_spreadPage 6 = .ok (.aload_n 2, 1) := by decide +kernel
theorem dX6_spreadPage_7 : decode cX6_spreadPage 7 = .ok (.getfield 73, 3) := by decide +kernel
theorem dX6_spreadPage_10 : decode cX6_spreadPage 10 = .ok (.getfield 113, 3) := by decide +kernel
theorem dX6_spreadPage_13 : decode cX6_spreadPage 13 = .ok (.astore_n 3, 1) := by decide +kernel
theorem dX6_spreadPage_14 : decode cX6_spreadPage 14 = .ok (.aload_n 2, 1) := by decide +kernel
theorem dX6_spreadPage_15 : decode cX6_spreadPage 15 = .ok (.getfield 129, 3) := by decide +kernel
theorem dX6_spreadPage_18 : decode cX6_spreadPage 18 = .ok (.astore 4, 2) := by decide +kernel
theorem dX6_spreadPage_20 : decode cX6_spreadPage 20 = .ok (.aload 4, 2) := by decide +kernel
theorem dX6_spreadPage_22 : decode cX6_spreadPage 22 = .ok (.invokevirtual 256, 3) := by decide +kernel
theorem dX6_spreadPage_25 : decode cX6_spreadPage 25 = .ok (.iconst 0, 1) := by decide +kernel
theorem dX6_spreadPage_26 : decode cX6_spreadPage 26 = .ok (.istore 5, 2) := by decide +kernel
theorem dX6_spreadPage_28 : decode cX6_spreadPage 28 = .ok (.iload 5, 2) := by decide +kernel
theorem dX6_spreadPage_30 : decode cX6_spreadPage 30 = .ok (.aload_n 3, 1) := by decide +kernel
theorem dX6_spreadPage_31 : decode cX6_spreadPage 31 = .ok (.getfield 208, 3) := by decide +kernel
theorem dX6_spreadPage_34 : decode cX6_spreadPage 34 = .ok (.if_icmp .ge 19, 3) := by decide +kernel
theorem dX6_spreadPage_37 : decode cX6_spreadPage 37 = .ok (.aload_n 0, 1) := by decide +kernel
theorem dX6_spreadPage_38 : decode cX6_spreadPage 38 = .ok (.aload 4, 2) := by decide +kernel
theorem dX6_spreadPage_40 : decode cX6_spreadPage 40 = .ok (.aload_n 3, 1) := by decide +kernel
theorem dX6_spreadPage_41 : decode cX6_spreadPage 41 = .ok (.iload 5, 2) := by decide +kernel
theorem dX6_spreadPage_43 : decode cX6_spreadPage 43 = .ok (.iload_n 1, 1) := by decide +kernel
theorem dX6_spreadPage_44 : decode cX6_spreadPage 44 = .ok (.invokevirtual 257, 3) := by decide +kernel
theorem dX6_spreadPage_47 : decode cX6_spreadPage 47 = .ok (.iinc 5 1, 3) := by decide +kernel
theorem dX6_spreadPage_50 : decode cX6_spreadPage 50 = .ok (.goto (-22), 3) := by decide +kernel
theorem dX6_spreadPage_53 : decode cX6_spreadPage 53 = .ok (.return_, 1) := by decide +kernel
theorem dX6_spreadPiece_0 : decode cX6_spreadPiece 0 = .ok (.aload_n 2, 1) := by decide +kernel
theorem dX6_spreadPiece_1 : decode cX6_spreadPiece 1 = .ok (.iload_n 3, 1) := by decide +kernel
theorem dX6_spreadPiece_2 : decode cX6_spreadPiece 2 = .ok (.invokevirtual 261, 3) := by decide +kernel
theorem dX6_spreadPiece_5 : decode cX6_spreadPiece 5 = .ok (.istore 5, 2) := by decide +kernel
theorem dX6_spreadPiece_7 : decode cX6_spreadPiece 7 = .ok (.iload 5, 2) := by decide +kernel
theorem dX6_spreadPiece_9 : decode cX6_spreadPiece 9 = .ok (.tableswitch 129 0 7 #[109, 109, 109, 109, 66, 90, 47, 59], 47) := by decide +kernel
theorem dX6_spreadPiece_56 : decode cX6_spreadPiece 56 = .ok (.aload_n 1, 1) := by decide +kernel
theorem dX6_spreadPiece_57 : decode cX6_spreadPiece 57 = .ok (.aload_n 2, 1) := by decide +kernel
theorem dX6_spreadPiece_58 : decode cX6_spreadPiece 58 = .ok (.iload_n 3, 1) := by decide +kernel
theorem dX6_spreadPiece_59 : decode cX6_spreadPiece 59 = .ok (.invokevirtual 264, 3) := by decide +kernel
theorem dX6_spreadPiece_62 : decode cX6_spreadPiece 62 = .ok (.invokevirtual 267, 3) := by decide +kernel
theorem dX6_spreadPiece_65 : decode cX6_spreadPiece 65 = .ok (.goto 73, 3) := by decide +kernel
theorem dX6_spreadPiece_68 : decode cX6_spreadPiece 68 = .ok (.aload_n 1, 1) := by decide +kernel
theorem dX6_spreadPiece_69 : decode cX6_spreadPiece 69 = .ok (.invokevirtual 270, 3) := by decide +kernel
theorem dX6_spreadPiece_72 : decode cX6_spreadPiece 72 = .ok (.goto 66, 3) := by decide +kernel
theorem dX6_spreadPiece_75 : decode cX6_spreadPiece 75 = .ok (.aload_n 1, 1) := by decide +kernel
theorem dX6_spreadPiece_76 : decode cX6_spreadPiece 76 = .ok (.aload_n 0, 1) := by decide +kernel
theorem dX6_spreadPiece_77 : decode cX6_spreadPiece 77 = .ok (.aload_n 2, 1) := by decide +kernel
theorem dX6_spreadPiece_78 : decode cX6_spreadPiece 78 = .ok (.iload_n 3, 1) := by decide +kernel
theorem dX6_spreadPiece_79 : decode cX6_spreadPiece 79 = .ok (.invokevirtual 273, 3) := by decide +kernel
theorem dX6_spreadPiece_82 : decode cX6_spreadPiece 82 = .ok (.invokevirtual 67, 3) := by decide +kernel
theorem dX6_spreadPiece_85 : decode cX6_spreadPiece 85 = .ok (.getfield 129, 3) := by decide +kernel
theorem dX6_spreadPiece_88 : decode cX6_spreadPiece 88 = .ok (.aload_n 2, 1) := by decide +kernel
theorem dX6_spreadPiece_89 : decode cX6_spreadPiece 89 = .ok (.iload_n 3, 1) := by decide +kernel
theorem dX6_spreadPiece_90 : decode cX6_spreadPiece 90 = .ok (.invokevirtual 264, 3) := by decide +kernel
theorem dX6_spreadPiece_93 : decode cX6_spreadPiece 93 = .ok (.invokevirtual 276, 3) := by decide +kernel
theorem dX6_spreadPiece_96 : decode cX6_spreadPiece 96 = .ok (.goto 42, 3) := by decide +kernel
theorem dX6_spreadPiece_99 : decode cX6_spreadPiece 99 = .ok (.aload_n 1, 1) := by decide +kernel
theorem dX6_spreadPiece_100 : decode cX6_spreadPiece 100 = .ok (.aload_n 0, 1) := by decide +kernel
theorem dX6_spreadPiece_101 : decode cX6_spreadPiece 101 = .ok (.aload_n 2, 1) := by decide +kernel
theorem dX6_spreadPiece_102 : decode cX6_spreadPiece 102 = .ok (.iload_n 3, 1) := by decide +kernel
theorem dX6_spreadPiece_103 : decode cX6_spreadPiece 103 = .ok (.invokevirtual 273, 3) := by decide +kernel
theorem dX6_spreadPiece_106 : decode cX6_spreadPiece 106 = .ok (.invokevirtual 67, 3) := by decide +kernel
theorem dX6_spreadPiece_109 : decode cX6_spreadPiece 109 = .ok (.getfield 129, 3) := by decide +kernel
theorem dX6_spreadPiece_112 : decode cX6_spreadPiece 112 = .ok (.invokevirtual 280, 3) := by decide +kernel
theorem dX6_spreadPiece_115 : decode cX6_spreadPiece 115 = .ok (.goto 23, 3) := by decide +kernel
theorem dX6_spreadPiece_118 : decode cX6_spreadPiece 118 = .ok (.aload_n 1, 1) := by decide +kernel
theorem dX6_spreadPiece_119 : decode cX6_spreadPiece 119 = .ok (.aload_n 1, 1) := by decide +kernel
theorem dX6_spreadPiece_120 : decode cX6_spreadPiece 120 = .ok (.invokevirtual 284, 3) := by decide +kernel
theorem dX6_spreadPiece_123 : decode cX6_spreadPiece 123 = .ok (.iload 5, 2) := by decide +kernel
theorem dX6_spreadPiece_125 : decode cX6_spreadPiece 125 = .ok (.aload_n 2, 1) := by decide +kernel
theorem dX6_spreadPiece_126 : decode cX6_spreadPiece 126 = .ok (.iload_n 3, 1) := by decide +kernel
theorem dX6_spreadPiece_127 : decode cX6_spreadPiece 127 = .ok (.invokevirtual 287, 3) := by decide +kernel
theorem dX6_spreadPiece_130 : decode cX6_spreadPiece 130 = .ok (.iload 4, 2) := by decide +kernel
theorem dX6_spreadPiece_132 : decode cX6_spreadPiece 132 = .ok (.invokevirtual 290, 3) := by decide +kernel
theorem dX6_spreadPiece_135 : decode cX6_spreadPiece 135 = .ok (.goto 3, 3) := by decide +kernel
theorem dX6_spreadPiece_138 : decode cX6_spreadPiece 138 = .ok (.return_, 1) := by decide +kernel
theorem dX6_walkPage_0 : decode cX6_walkPage 0 = .ok (.iload 4, 2) := by decide +kernel
theorem dX6_walkPage_2 : decode cX6_walkPage 2 = .ok (.iconst 5, 1) := by decide +kernel
theorem dX6_walkPage_3 : decode cX6_walkPage 3 = .ok (.if_icmp .gt 14, 3) := by decide +kernel
theorem dX6_walkPage_6 : decode cX6_walkPage 6 = .ok (.aload_n 0, 1) := by decide +kernel
theorem dX6_walkPage_7 : decode cX6_walkPage 7 = .ok (.getfield 23, 3) := by decide +kernel
theorem dX6_walkPage_10 : decode cX6_walkPage 10 = .ok (.iload_n 2, 1) := by decide +kernel
theorem dX6_walkPage_11 : decode cX6_walkPage 11 = .ok (.invokevirtual 126, 3) := by decide +kernel
theorem dX6_walkPage_14 : decode cX6_walkPage 14 = .ok (.ifCond .ne 4, 3) := by decide +kernel
theorem dX6_walkPage_17 : decode cX6_walkPage 17 = .ok (.return_, 1) := by decide +kernel
theorem dX6_walkPage_18 : decode cX6_walkPage 18 = .ok (.aload_n 0, 1) := by decide +kernel
theorem dX6_walkPage_19 : decode cX6_walkPage 19 = .ok (.iload_n 2, 1) := by decide +kernel
theorem dX6_walkPage_20 : decode cX6_walkPage 20 = .ok (.invokevirtual 67, 3) := by decide +kernel
theorem dX6_walkPage_23 : decode cX6_walkPage 23 = .ok (.getfield 73, 3) := by decide +kernel
theorem dX6_walkPage_26 : decode cX6_walkPage 26 = .ok (.getfield 113, 3) := by decide +kernel
theorem dX6_walkPage_29 : decode cX6_walkPage 29 = .ok (.astore 5, 2) := by decide +kernel
theorem dX6_walkPage_31 : decode cX6_walkPage 31 = .ok (.iconst 0, 1) := by decide +kernel
theorem dX6_walkPage_32 : decode cX6_walkPage 32 = .ok (.istore 6, 2) := by decide +kernel
theorem dX6_walkPage_34 : decode cX6_walkPage 34 = .ok (.iconst 0, 1) := by decide +kernel
theorem dX6_walkPage_35 : decode cX6_walkPage 35 = .ok (.istore 7, 2) := by decide +kernel
theorem dX6_walkPage_37 : decode cX6_walkPage 37 = .ok (.iload 7, 2) := by decide +kernel
theorem dX6_walkPage_39 : decode cX6_walkPage 39 = .ok (.aload 5, 2) := by decide +kernel
theorem dX6_walkPage_41 : decode cX6_walkPage 41 = .ok (.getfield 208, 3) := by decide +kernel
theorem dX6_walkPage_44 : decode cX6_walkPage 44 = .ok (.if_icmp .ge 89, 3) := by decide +kernel
theorem dX6_walkPage_47 : decode cX6_walkPage 47 = .ok (.aload_n 1, 1) := by decide +kernel
theorem dX6_walkPage_48 : decode cX6_walkPage 48 = .ok (.invokevirtual 293, 3) := by decide +kernel
theorem dX6_walkPage_51 : decode cX6_walkPage 51 = .ok (.ifCond .ne 82, 3) := by decide +kernel
theorem dX6_walkPage_54 : decode cX6_walkPage 54 = .ok (.aload 5, 2) := by decide +kernel
theorem dX6_walkPage_56 : decode cX6_walkPage 56 = .ok (.iload 7, 2) := by decide +kernel
theorem dX6_walkPage_58 : decode cX6_walkPage 58 = .ok (.invokevirtual 261, 3) := by decide +kernel
theorem dX6_walkPage_61 : decode cX6_walkPage 61 = .ok (.istore 8, 2) := by decide +kernel
theorem dX6_walkPage_63 : decode cX6_walkPage 63 = .ok (.iload 8, 2) := by decide +kernel
theorem dX6_walkPage_65 : decode cX6_walkPage 65 = .ok (.bipush 6, 2) := by decide +kernel
theorem dX6_walkPage_67 : decode cX6_walkPage 67 = .ok (.if_icmp .ne 25, 3) := by decide +kernel
theorem dX6_walkPage_70 : decode cX6_walkPage 70 = .ok (.iload 6, 2) := by decide +kernel
theorem dX6_walkPage_72 : decode cX6_walkPage 72 = .ok (.ifCond .gt 14, 3) := by decide +kernel
theorem dX6_walkPage_75 : decode cX6_walkPage 75 = .ok (.aload 5, 2) := by decide +kernel
theorem dX6_walkPage_77 : decode cX6_walkPage 77 = .ok (.iload 7, 2) := by decide +kernel
theorem dX6_walkPage_79 : decode cX6_walkPage 79 = .ok (.invokevirtual 264, 3) := by decide +kernel
theorem dX6_walkPage_82 : decode cX6_walkPage 82 = .ok (.iload_n 3, 1) := by decide +kernel
theorem dX6_walkPage_83 : decode cX6_walkPage 83 = .ok (.if_icmp .eq 9, 3) := by decide +kernel
theorem dX6_walkPage_86 : decode cX6_walkPage 86 = .ok (.iinc 6 1, 3) := by decide +kernel
theorem dX6_walkPage_89 : decode cX6_walkPage 89 = .ok (.goto 38, 3) := by decide +kernel
theorem dX6_walkPage_92 : decode cX6_walkPage 92 = .ok (.iload 8, 2) := by decide +kernel
theorem dX6_walkPage_94 : decode cX6_walkPage 94 = .ok (.bipush 7, 2) := by decide +kernel
theorem dX6_walkPage_96 : decode cX6_walkPage 96 = .ok (.if_icmp .ne 14, 3) := by decide +kernel
theorem dX6_walkPage_99 : decode cX6_walkPage 99 = .ok (.iload 6, 2) := by decide +kernel
theorem dX6_walkPage_101 : decode cX6_walkPage 101 = .ok (.ifCond .le 9, 3) := by decide +kernel
theorem dX6_walkPage_104 : decode cX6_walkPage 104 = .ok (.iinc 6 (-1), 3) := by decide +kernel
theorem dX6_walkPage_107 : decode cX6_walkPage 107 = .ok (.goto 20, 3) := by decide +kernel
theorem dX6_walkPage_110 : decode cX6_walkPage 110 = .ok (.iload 6, 2) := by decide +kernel
theorem dX6_walkPage_112 : decode cX6_walkPage 112 = .ok (.ifCond .ne 15, 3) := by decide +kernel
theorem dX6_walkPage_115 : decode cX6_walkPage 115 = .ok (.aload_n 0, 1) := by decide +kernel
theorem dX6_walkPage_116 : decode cX6_walkPage 116 = .ok (.aload_n 1, 1) := by decide +kernel
theorem dX6_walkPage_117 : decode cX6_walkPage 117 = .ok (.aload 5, 2) := by decide +kernel
theorem dX6_walkPage_119 : decode cX6_walkPage 119 = .ok (.iload 7, 2) := by decide +kernel
theorem dX6_walkPage_121 : decode cX6_walkPage 121 = .ok (.iload_n 3, 1) := by decide +kernel
theorem dX6_walkPage_122 : decode cX6_walkPage 122 = .ok (.iload 4, 2) := by decide +kernel
theorem dX6_walkPage_124 : decode cX6_walkPage 124 = .ok (.invokevirtual 296, 3) := by decide +kernel
theorem dX6_walkPage_127 : decode cX6_walkPage 127 = .ok (.iinc 7 1, 3) := by decide +kernel
theorem dX6_walkPage_130 : decode cX6_walkPage 130 = .ok (.goto (-93), 3) := by decide +kernel
theorem dX6_walkPage_133 : decode cX6_walkPage 133 = .ok (.return_, 1) := by decide +kernel
theorem dX6_walkPiece_0 : decode cX6_walkPiece 0 = .ok (.aload_n 2, 1) := by decide +kernel
theorem dX6_walkPiece_1 : decode cX6_walkPiece 1 = .ok (.iload_n 3, 1) := by decide +kernel
theorem dX6_walkPiece_2 : decode cX6_walkPiece 2 = .ok (.invokevirtual 261, 3) := by decide +kernel
theorem dX6_walkPiece_5 : decode cX6_walkPiece 5 = .ok (.tableswitch 107 0 5 #[95, 95, 95, 80, 39, 61], 39) := by decide +kernel
theorem dX6_walkPiece_44 : decode cX6_walkPiece 44 = .ok (.aload_n 0, 1) := by decide +kernel
theorem dX6_walkPiece_45 : decode cX6_walkPiece 45 = .ok (.aload_n 1, 1) := by decide +kernel
theorem dX6_walkPiece_46 : decode cX6_walkPiece 46 = .ok (.aload_n 2, 1) := by decide +kernel
theorem dX6_walkPiece_47 : decode cX6_walkPiece 47 = .ok (.iload_n 3, 1) := by decide +kernel
theorem dX6_walkPiece_48 : decode cX6_walkPiece 48 = .ok (.invokevirtual 273, 3) := by decide +kernel
theorem dX6_walkPiece_51 : decode cX6_walkPiece 51 = .ok (.aload_n 2, 1) := by decide +kernel
theorem dX6_walkPiece_52 : decode cX6_walkPiece 52 = .ok (.iload_n 3, 1) := by decide +kernel
theorem dX6_walkPiece_53 : decode cX6_walkPiece 53 = .ok (.invokevirtual 264, 3) := by decide +kernel
theorem dX6_walkPiece_56 : decode cX6_walkPiece 56 = .ok (.iload 5, 2) := by decide +kernel
theorem dX6_walkPiece_58 : decode cX6_walkPiece 58 = .ok (.iconst 1, 1) := by decide +kernel
theorem dX6_walkPiece_59 : decode cX6_walkPiece 59 = .ok (.iadd, 1) := by decide +kernel
theorem dX6_walkPiece_60 : decode cX6_walkPiece 60 = .ok (.invokevirtual 153, 3) := by decide +kernel
theorem dX6_walkPiece_63 : decode cX6_walkPiece 63 = .ok (.goto 49, 3) := by decide +kernel
theorem dX6_walkPiece_66 : decode cX6_walkPiece 66 = .ok (.aload_n 0, 1) := by decide +kernel
theorem dX6_walkPiece_67 : decode cX6_walkPiece 67 = .ok (.aload_n 1, 1) := by decide +kernel
theorem dX6_walkPiece_68 : decode cX6_walkPiece 68 = .ok (.aload_n 2, 1) := by decide +kernel
theorem dX6_walkPiece_69 : decode cX6_walkPiece 69 = .ok (.iload_n 3, 1) := by decide +kernel
theorem dX6_walkPiece_70 : decode cX6_walkPiece 70 = .ok (.invokevirtual 273, 3) := by decide +kernel
theorem dX6_walkPiece_73 : decode cX6_walkPiece 73 = .ok (.iload 4, 2) := by decide +kernel
theorem dX6_walkPiece_75 : decode cX6_walkPiece 75 = .ok (.iload 5, 2) := by decide +kernel
theorem dX6_walkPiece_77 : decode cX6_walkPiece 77 = .ok (.iconst 1, 1) := by decide +kernel
theorem dX6_walkPiece_78 : decode cX6_walkPiece 78 = .ok (.iadd, 1) := by decide +kernel
theorem dX6_walkPiece_79 : decode cX6_walkPiece 79 = .ok (.invokevirtual 153, 3) := by decide +kernel
theorem dX6_walkPiece_82 : decode cX6_walkPiece 82 = .ok (.goto 30, 3) := by decide +kernel
theorem dX6_walkPiece_85 : decode cX6_walkPiece 85 = .ok (.iload 4, 2) := by decide +kernel
theorem dX6_walkPiece_87 : decode cX6_walkPiece 87 = .ok (.iconst (-1), 1) := by decide +kernel
theorem dX6_walkPiece_88 : decode cX6_walkPiece 88 = .ok (.if_icmp .eq 24, 3) := by decide +kernel
theorem dX6_walkPiece_91 : decode cX6_walkPiece 91 = .ok (.aload_n 1, 1) := by decide +kernel
theorem dX6_walkPiece_92 : decode cX6_walkPiece 92 = .ok (.iload 4, 2) := by decide +kernel
theorem dX6_walkPiece_94 : decode cX6_walkPiece 94 = .ok (.invokevirtual 300, 3) := by decide +kernel
theorem dX6_walkPiece_97 : decode cX6_walkPiece 97 = .ok (.goto 15, 3) := by decide +kernel
theorem dX6_walkPiece_100 : decode cX6_walkPiece 100 = .ok (.aload_n 1, 1) := by decide +kernel
theorem dX6_walkPiece_101 : decode cX6_walkPiece 101 = .ok (.aload_n 2, 1) := by decide +kernel
theorem dX6_walkPiece_102 : decode cX6_walkPiece 102 = .ok (.iload_n 3, 1) := by decide +kernel
theorem dX6_walkPiece_103 : decode cX6_walkPiece 103 = .ok (.invokevirtual 287, 3) := by decide +kernel
theorem dX6_walkPiece_106 : decode cX6_walkPiece 106 = .ok (.invokevirtual 300, 3) := by decide +kernel
theorem dX6_walkPiece_109 : decode cX6_walkPiece 109 = .ok (.goto 3, 3) := by decide +kernel
theorem dX6_walkPiece_112 : decode cX6_walkPiece 112 = .ok (.return_, 1) := by decide +kernel
theorem dX6_behindRedirects_0 : decode cX6_behindRedirects 0 = .ok (.iload_n 1, 1) := by decide +kernel
theorem dX6_behindRedirects_1 : decode cX6_behindRedirects 1 = .ok (.istore_n 2, 1) := by decide +kernel
theorem dX6_behindRedirects_2 : decode cX6_behindRedirects 2 = .ok (.iconst 0, 1) := by decide +kernel
theorem dX6_behindRedirects_3 : decode cX6_behindRedirects 3 = .ok (.istore_n 3, 1) := by decide +kernel
theorem dX6_behindRedirects_4 : decode cX6_behindRedirects 4 = .ok (.iload_n 3, 1) := by decide +kernel
theorem dX6_behindRedirects_5 : decode cX6_behindRedirects 5 = .ok (.iconst 3, 1) := by decide +kernel
theorem dX6_behindRedirects_6 : decode cX6_behindRedirects 6 = .ok (.if_icmp .gt 39, 3) := by decide +kernel
theorem dX6_behindRedirects_9 : decode cX6_behindRedirects 9 = .ok (.aload_n 0, 1) := by decide +kernel
theorem dX6_behindRedirects_10 : decode cX6_behindRedirects 10 = .ok (.iload_n 2, 1) := by decide +kernel
theorem dX6_behindRedirects_11 : decode cX6_behindRedirects 11 = .ok (.invokevirtual 67, 3) := by decide +kernel
theorem dX6_behindRedirects_14 : decode cX6_behindRedirects 14 = .ok (.getfield 73, 3) := by decide +kernel
theorem dX6_behindRedirects_17 : decode cX6_behindRedirects 17 = .ok (.getfield 113, 3) := by decide +kernel
theorem dX6_behindRedirects_20 : decode cX6_behindRedirects 20 = .ok (.astore 4, 2) := by decide +kernel
theorem dX6_behindRedirects_22 : decode cX6_behindRedirects 22 = .ok (.aload 4, 2) := by decide +kernel
theorem dX6_behindRedirects_24 : decode cX6_behindRedirects 24 = .ok (.invokevirtual 303, 3) := by decide +kernel
theorem dX6_behindRedirects_27 : decode cX6_behindRedirects 27 = .ok (.ifCond .ne 5, 3) := by decide +kernel
theorem dX6_behindRedirects_30 : decode cX6_behindRedirects 30 = .ok (.iload_n 2, 1) := by decide +kernel
theorem dX6_behindRedirects_31 : decode cX6_behindRedirects 31 = .ok (.ireturn, 1) := by decide +kernel
theorem dX6_behindRedirects_32 : decode cX6_behindRedirects 32 = .ok (.aload 4, 2) := by decide +kernel
theorem dX6_behindRedirects_34 : decode cX6_behindRedirects 34 = .ok (.iconst 0, 1) := by decide +kernel
theorem dX6_behindRedirects_35 : decode cX6_behindRedirects 35 = .ok (.invokevirtual 273, 3) := by decide +kernel
theorem dX6_behindRedirects_38 : decode cX6_behindRedirects 38 = .ok (.istore_n 2, 1) := by decide +kernel
theorem dX6_behindRedirects_39 : decode cX6_behindRedirects 39 = .ok (.iinc 3 1, 3) := by decide +kernel
theorem dX6_behindRedirects_42 : decode cX6_behindRedirects 42 = .ok (.goto (-38), 3) := by decide +kernel
theorem dX6_behindRedirects_45 : decode cX6_behindRedirects 45 = .ok (.iconst (-1), 1) := by decide +kernel
theorem dX6_behindRedirects_46 : decode cX6_behindRedirects 46 = .ok (.ireturn, 1) := by decide +kernel
theorem dX6_isBroken_0 : decode cX6_isBroken 0 = .ok (.aload_n 1, 1) := by decide +kernel
theorem dX6_isBroken_1 : decode cX6_isBroken 1 = .ok (.iload_n 2, 1) := by decide +kernel
theorem dX6_isBroken_2 : decode cX6_isBroken 2 = .ok (.iconst 2, 1) := by decide +kernel
theorem dX6_isBroken_3 : decode cX6_isBroken 3 = .ok (.invokevirtual 174, 3) := by decide +kernel
theorem dX6_isBroken_6 : decode cX6_isBroken 6 = .ok (.ifCond .eq 20, 3) := by decide +kernel
theorem dX6_isBroken_9 : decode cX6_isBroken 9 = .ok (.aload_n 0, 1) := by decide +kernel
theorem dX6_isBroken_10 : decode cX6_isBroken 10 = .ok (.aload_n 1, 1) := by decide +kernel
theorem dX6_isBroken_11 : decode cX6_isBroken 11 = .ok (.iload_n 2, 1) := by decide +kernel
theorem dX6_isBroken_12 : decode cX6_isBroken 12 = .ok (.iconst (-1), 1) := by decide +kernel
theorem dX6_isBroken_13 : decode cX6_isBroken 13 = .ok (.invokevirtual 145, 3) := by decide +kernel
theorem dX6_isBroken_16 : decode cX6_isBroken 16 = .ok (.invokevirtual 306, 3) := by decide +kernel
theorem dX6_isBroken_19 : decode cX6_isBroken 19 = .ok (.ifCond .ne 7, 3) := by decide +kernel
theorem dX6_isBroken_22 : decode cX6_isBroken 22 = .ok (.iconst 1, 1) := by decide +kernel
theorem dX6_isBroken_23 : decode cX6_isBroken 23 = .ok (.goto 4, 3) := by decide +kernel
theorem dX6_isBroken_26 : decode cX6_isBroken 26 = .ok (.iconst 0, 1) := by decide +kernel
theorem dX6_isBroken_27 : decode cX6_isBroken 27 = .ok (.ireturn, 1) := by decide +kernel
theorem dX6_isGood_0 : decode cX6_isGood 0 = .ok (.aload_n 0, 1) := by decide +kernel
theorem dX6_isGood_1 : decode cX6_isGood 1 = .ok (.iload_n 1, 1) := by decide +kernel
theorem dX6_isGood_2 : decode cX6_isGood 2 = .ok (.bipush 10, 2) := by decide +kernel
theorem dX6_isGood_4 : decode cX6_isGood 4 = .ok (.idiv, 1) := by decide +kernel
theorem dX6_isGood_5 : decode cX6_isGood 5 = .ok (.invokevirtual 168, 3) := by decide +kernel
theorem dX6_isGood_8 : decode cX6_isGood 8 = .ok (.istore_n 2, 1) := by decide +kernel
theorem dX6_isGood_9 : decode cX6_isGood 9 = .ok (.iload_n 2, 1) := by decide +kernel
theorem dX6_isGood_10 : decode cX6_isGood 10 = .ok (.iconst (-1), 1) := by decide +kernel
theorem dX6_isGood_11 : decode cX6_isGood 11 = .ok (.if_icmp .eq 25, 3) := by decide +kernel
theorem dX6_isGood_14 : decode cX6_isGood 14 = .ok (.aload_n 0, 1) := by decide +kernel
theorem dX6_isGood_15 : decode cX6_isGood 15 = .ok (.iload_n 2, 1) := by decide +kernel
theorem dX6_isGood_16 : decode cX6_isGood 16 = .ok (.invokevirtual 67, 3) := by decide +kernel
theorem dX6_isGood_19 : decode cX6_isGood 19 = .ok (.getfield 129, 3) := by decide +kernel
theorem dX6_isGood_22 : decode cX6_isGood 22 = .ok (.iload_n 1, 1) := by decide +kernel
theorem dX6_isGood_23 : decode cX6_isGood 23 = .ok (.bipush 10, 2) := by decide +kernel
theorem dX6_isGood_25 : decode cX6_isGood 25 = .ok (.irem, 1) := by decide +kernel
theorem dX6_isGood_26 : decode cX6_isGood 26 = .ok (.invokevirtual 310, 3) := by decide +kernel
theorem dX6_isGood_29 : decode cX6_isGood 29 = .ok (.ifCond .eq 7, 3) := by decide +kernel
theorem dX6_isGood_32 : decode cX6_isGood 32 = .ok (.iconst 1, 1) := by decide +kernel
theorem dX6_isGood_33 : decode cX6_isGood 33 = .ok (.goto 4, 3) := by decide +kernel
theorem dX6_isGood_36 : decode cX6_isGood 36 = .ok (.iconst 0, 1) := by decide +kernel
theorem dX6_isGood_37 : decode cX6_isGood 37 = .ok (.ireturn, 1) := by decide +kernel
theorem dX6_hasGoodLink_0 : decode cX6_hasGoodLink 0 = .ok (.aload_n 0, 1) := by decide +kernel
theorem dX6_hasGoodLink_1 : decode cX6_hasGoodLink 1 = .ok (.iload_n 1, 1) := by decide +kernel
theorem dX6_hasGoodLink_2 : decode cX6_hasGoodLink 2 = .ok (.invokevirtual 67, 3) := by decide +kernel
theorem dX6_hasGoodLink_5 : decode cX6_hasGoodLink 5 = .ok (.getfield 129, 3) := by decide +kernel
theorem dX6_hasGoodLink_8 : decode cX6_hasGoodLink 8 = .ok (.astore_n 3, 1) := by decide +kernel
theorem dX6_hasGoodLink_9 : decode cX6_hasGoodLink 9 = .ok (.iconst 0, 1) := by decide +kernel
theorem dX6_hasGoodLink_10 : decode cX6_hasGoodLink 10 = .ok (.istore 4, 2) := by decide +kernel
theorem dX6_hasGoodLink_12 : decode cX6_hasGoodLink 12 = .ok (.iload 4, 2) := by decide +kernel
theorem dX6_hasGoodLink_14 : decode cX6_hasGoodLink 14 = .ok (.aload_n 3, 1) := by decide +kernel
theorem dX6_hasGoodLink_15 : decode cX6_hasGoodLink 15 = .ok (.getfield 171, 3) := by decide +kernel
theorem dX6_hasGoodLink_18 : decode cX6_hasGoodLink 18 = .ok (.if_icmp .ge 49, 3) := by decide +kernel
theorem dX6_hasGoodLink_21 : decode cX6_hasGoodLink 21 = .ok (.aload_n 3, 1) := by decide +kernel
theorem dX6_hasGoodLink_22 : decode cX6_hasGoodLink 22 = .ok (.iload 4, 2) := by decide +kernel
theorem dX6_hasGoodLink_24 : decode cX6_hasGoodLink 24 = .ok (.iconst (-1), 1) := by decide +kernel
theorem dX6_hasGoodLink_25 : decode cX6_hasGoodLink 25 = .ok (.invokevirtual 145, 3) := by decide +kernel
theorem dX6_hasGoodLink_28 : decode cX6_hasGoodLink 28 = .ok (.istore 5, 2) := by decide +kernel
theorem dX6_hasGoodLink_30 : decode cX6_hasGoodLink 30 = .ok (.aload_n 3, 1) := by decide +kernel
theorem dX6_hasGoodLink_31 : decode cX6_hasGoodLink 31 = .ok (.iload 4, 2) := by decide +kernel
theorem dX6_hasGoodLink_33 : decode cX6_hasGoodLink 33 = .ok (.iconst 2, 1) := by decide +kernel
theorem dX6_hasGoodLink_34 : decode cX6_hasGoodLink 34 = .ok (.invokevirtual 174, 3) := by decide +kernel
theorem dX6_hasGoodLink_37 : decode cX6_hasGoodLink 37 = .ok (.ifCond .eq 24, 3) := by decide +kernel
theorem dX6_hasGoodLink_40 : decode cX6_hasGoodLink 40 = .ok (.aload_n 0, 1) := by decide +kernel
theorem dX6_hasGoodLink_41 : decode cX6_hasGoodLink 41 = .ok (.iload 5, 2) := by decide +kernel
theorem dX6_hasGoodLink_43 : decode cX6_hasGoodLink 43 = .ok (.iload_n 2, 1) := by decide +kernel
theorem dX6_hasGoodLink_44 : decode cX6_hasGoodLink 44 = .ok (.invokevirtual 313, 3) := by decide +kernel
theorem dX6_hasGoodLink_47 : decode cX6_hasGoodLink 47 = .ok (.ifCond .eq 14, 3) := by decide +kernel
theorem dX6_hasGoodLink_50 : decode cX6_hasGoodLink 50 = .ok (.aload_n 0, 1) := by decide +kernel
theorem dX6_hasGoodLink_51 : decode cX6_hasGoodLink 51 = .ok (.iload 5, 2) := by decide +kernel
theorem dX6_hasGoodLink_53 : decode cX6_hasGoodLink 53 = .ok (.invokevirtual 306, 3) := by decide +kernel
theorem dX6_hasGoodLink_56 : decode cX6_hasGoodLink 56 = .ok (.ifCond .eq 5, 3) := by decide +kernel
theorem dX6_hasGoodLink_59 : decode cX6_hasGoodLink 59 = .ok (.iconst 1, 1) := by decide +kernel
theorem dX6_hasGoodLink_60 : decode cX6_hasGoodLink 60 = .ok (.ireturn, 1) := by decide +kernel
theorem dX6_hasGoodLink_61 : decode cX6_hasGoodLink 61 = .ok (.iinc 4 1, 3) := by decide +kernel
theorem dX6_hasGoodLink_64 : decode cX6_hasGoodLink 64 = .ok (.goto (-52), 3) := by decide +kernel
theorem dX6_hasGoodLink_67 : decode cX6_hasGoodLink 67 = .ok (.iconst 0, 1) := by decide +kernel
theorem dX6_hasGoodLink_68 : decode cX6_hasGoodLink 68 = .ok (.ireturn, 1) := by decide +kernel
theorem dX6_leadsTo_0 : decode cX6_leadsTo 0 = .ok (.iload_n 1, 1) := by decide +kernel
theorem dX6_leadsTo_1 : decode cX6_leadsTo 1 = .ok (.bipush 10, 2) := by decide +kernel
theorem dX6_leadsTo_3 : decode cX6_leadsTo 3 = .ok (.idiv, 1) := by decide +kernel
theorem dX6_leadsTo_4 : decode cX6_leadsTo 4 = .ok (.istore_n 3, 1) := by decide +kernel
theorem dX6_leadsTo_5 : decode cX6_leadsTo 5 = .ok (.iload_n 3, 1) := by decide +kernel
theorem dX6_leadsTo_6 : decode cX6_leadsTo 6 = .ok (.iload_n 2, 1) := by decide +kernel
theorem dX6_leadsTo_7 : decode cX6_leadsTo 7 = .ok (.if_icmp .eq 12, 3) := by decide +kernel
theorem dX6_leadsTo_10 : decode cX6_leadsTo 10 = .ok (.aload_n 0, 1) := by decide +kernel
theorem dX6_leadsTo_11 : decode cX6_leadsTo 11 = .ok (.iload_n 3, 1) := by decide +kernel
theorem dX6_leadsTo_12 : decode cX6_leadsTo 12 = .ok (.invokevirtual 168, 3) := by decide +kernel
theorem dX6_leadsTo_15 : decode cX6_leadsTo 15 = .ok (.iload_n 2, 1) := by decide +kernel
theorem dX6_leadsTo_16 : decode cX6_leadsTo 16 = .ok (.if_icmp .ne 7, 3) := by decide +kernel
theorem dX6_leadsTo_19 : decode cX6_leadsTo 19 = .ok (.iconst 1, 1) := by decide +kernel
theorem dX6_leadsTo_20 : decode cX6_leadsTo 20 = .ok (.goto 4, 3) := by decide +kernel
theorem dX6_leadsTo_23 : decode cX6_leadsTo 23 = .ok (.iconst 0, 1) := by decide +kernel
theorem dX6_leadsTo_24 : decode cX6_leadsTo 24 = .ok (.ireturn, 1) := by decide +kernel
theorem dX6_countBreaches_0 : decode cX6_countBreaches 0 = .ok (.aload_n 1, 1) := by decide +kernel
theorem dX6_countBreaches_1 : decode cX6_countBreaches 1 = .ok (.getfield 129, 3) := by decide +kernel
theorem dX6_countBreaches_4 : decode cX6_countBreaches 4 = .ok (.astore_n 2, 1) := by decide +kernel
theorem dX6_countBreaches_5 : decode cX6_countBreaches 5 = .ok (.iconst 0, 1) := by decide +kernel
theorem dX6_countBreaches_6 : decode cX6_countBreaches 6 = .ok (.istore_n 3, 1) := by decide +kernel
theorem dX6_countBreaches_7 : decode cX6_countBreaches 7 = .ok (.iconst 0, 1) := by decide +kernel
theorem dX6_countBreaches_8 : decode cX6_countBreaches 8 = .ok (.istore 4, 2) := by decide +kernel
theorem dX6_countBreaches_10 : decode cX6_countBreaches 10 = .ok (.iload 4, 2) := by decide +kernel
theorem dX6_countBreaches_12 : decode cX6_countBreaches 12 = .ok (.aload_n 2, 1) := by decide +kernel
theorem dX6_countBreaches_13 : decode cX6_countBreaches 13 = .ok (.getfield 171, 3) := by decide +kernel
theorem dX6_countBreaches_16 : decode cX6_countBreaches 16 = .ok (.if_icmp .ge 45, 3) := by decide +kernel
theorem dX6_countBreaches_19 : decode cX6_countBreaches 19 = .ok (.aload_n 2, 1) := by decide +kernel
theorem dX6_countBreaches_20 : decode cX6_countBreaches 20 = .ok (.iload 4, 2) := by decide +kernel
theorem dX6_countBreaches_22 : decode cX6_countBreaches 22 = .ok (.iconst (-1), 1) := by decide +kernel
theorem dX6_countBreaches_23 : decode cX6_countBreaches 23 = .ok (.invokevirtual 316, 3) := by decide +kernel
theorem dX6_countBreaches_26 : decode cX6_countBreaches 26 = .ok (.ifCond .eq 29, 3) := by decide +kernel
theorem dX6_countBreaches_29 : decode cX6_countBreaches 29 = .ok (.aload_n 0, 1) := by decide +kernel
theorem dX6_countBreaches_30 : decode cX6_countBreaches 30 = .ok (.aload_n 2, 1) := by decide +kernel
theorem dX6_countBreaches_31 : decode cX6_countBreaches 31 = .ok (.iload 4, 2) := by decide +kernel
theorem dX6_countBreaches_33 : decode cX6_countBreaches 33 = .ok (.invokevirtual 165, 3) := by decide +kernel
theorem dX6_countBreaches_36 : decode cX6_countBreaches 36 = .ok (.invokevirtual 67, 3) := by decide +kernel
theorem dX6_countBreaches_39 : decode cX6_countBreaches 39 = .ok (.getfield 73, 3) := by decide +kernel
theorem dX6_countBreaches_42 : decode cX6_countBreaches 42 = .ok (.getfield 110, 3) := by decide +kernel
theorem dX6_countBreaches_45 : decode cX6_countBreaches 45 = .ok (.aload_n 1, 1) := by decide +kernel
theorem dX6_countBreaches_46 : decode cX6_countBreaches 46 = .ok (.getfield 116, 3) := by decide +kernel
theorem dX6_countBreaches_49 : decode cX6_countBreaches 49 = .ok (.if_icmp .ge 6, 3) := by decide +kernel
theorem dX6_countBreaches_52 : decode cX6_countBreaches 52 = .ok (.iinc 3 1, 3) := by decide +kernel
theorem dX6_countBreaches_55 : decode cX6_countBreaches 55 = .ok (.iinc 4 1, 3) := by decide +kernel
theorem dX6_countBreaches_58 : decode cX6_countBreaches 58 = .ok (.goto (-48), 3) := by decide +kernel
theorem dX6_countBreaches_61 : decode cX6_countBreaches 61 = .ok (.iload_n 3, 1) := by decide +kernel
theorem dX6_countBreaches_62 : decode cX6_countBreaches 62 = .ok (.ireturn, 1) := by decide +kernel
theorem dX6_at_0 : decode cX6_at 0 = .ok (.iload_n 1, 1) := by decide +kernel
theorem dX6_at_1 : decode cX6_at 1 = .ok (.ifCond .lt 15, 3) := by decide +kernel
theorem dX6_at_4 : decode cX6_at 4 = .ok (.iload_n 1, 1) := by decide +kernel
theorem dX6_at_5 : decode cX6_at 5 = .ok (.aload_n 0, 1) := by decide +kernel
theorem dX6_at_6 : decode cX6_at 6 = .ok (.arraylength, 1) := by decide +kernel
theorem dX6_at_7 : decode cX6_at 7 = .ok (.if_icmp .ge 9, 3) := by decide +kernel
theorem dX6_at_10 : decode cX6_at 10 = .ok (.aload_n 0, 1) := by decide +kernel
theorem dX6_at_11 : decode cX6_at 11 = .ok (.iload_n 1, 1) := by decide +kernel
theorem dX6_at_12 : decode cX6_at 12 = .ok (.iaload, 1) := by decide +kernel
theorem dX6_at_13 : decode cX6_at 13 = .ok (.goto 4, 3) := by decide +kernel
theorem dX6_at_16 : decode cX6_at 16 = .ok (.iconst 0, 1) := by decide +kernel
theorem dX6_at_17 : decode cX6_at 17 = .ok (.ireturn, 1) := by decide +kernel
theorem dX6_put_0 : decode cX6_put 0 = .ok (.iload_n 1, 1) := by decide +kernel
theorem dX6_put_1 : decode cX6_put 1 = .ok (.ifCond .lt 13, 3) := by decide +kernel
theorem dX6_put_4 : decode cX6_put 4 = .ok (.iload_n 1, 1) := by decide +kernel
theorem dX6_put_5 : decode cX6_put 5 = .ok (.aload_n 0, 1) := by decide +kernel
theorem dX6_put_6 : decode cX6_put 6 = .ok (.arraylength, 1) := by decide +kernel
theorem dX6_put_7 : decode cX6_put 7 = .ok (.if_icmp .ge 7, 3) := by decide +kernel
theorem dX6_put_10 : decode cX6_put 10 = .ok (.aload_n 0, 1) := by decide +kernel
theorem dX6_put_11 : decode cX6_put 11 = .ok (.iload_n 1, 1) := by decide +kernel
theorem dX6_put_12 : decode cX6_put 12 = .ok (.iload_n 2, 1) := by decide +kernel
theorem dX6_put_13 : decode cX6_put 13 = .ok (.iastore, 1) := by decide +kernel
theorem dX6_put_14 : decode cX6_put 14 = .ok (.return_, 1) := by decide +kernel
theorem dX6_greatest_0 : decode cX6_greatest 0 = .ok (.iconst 0, 1) := by decide +kernel
theorem dX6_greatest_1 : decode cX6_greatest 1 = .ok (.istore_n 1, 1) := by decide +kernel
theorem dX6_greatest_2 : decode cX6_greatest 2 = .ok (.iconst 0, 1) := by decide +kernel
theorem dX6_greatest_3 : decode cX6_greatest 3 = .ok (.istore_n 2, 1) := by decide +kernel
theorem dX6_greatest_4 : decode cX6_greatest 4 = .ok (.iload_n 2, 1) := by decide +kernel
theorem dX6_greatest_5 : decode cX6_greatest 5 = .ok (.aload_n 0, 1) := by decide +kernel
theorem dX6_greatest_6 : decode cX6_greatest 6 = .ok (.arraylength, 1) := by decide +kernel
theorem dX6_greatest_7 : decode cX6_greatest 7 = .ok (.if_icmp .ge 17, 3) := by decide +kernel
theorem dX6_greatest_10 : decode cX6_greatest 10 = .ok (.iload_n 1, 1) := by decide +kernel
theorem dX6_greatest_11 : decode cX6_greatest 11 = .ok (.aload_n 0, 1) := by decide +kernel
theorem dX6_greatest_12 : decode cX6_greatest 12 = .ok (.iload_n 2, 1) := by decide +kernel
theorem dX6_greatest_13 : decode cX6_greatest 13 = .ok (.iaload, 1) := by decide +kernel
theorem dX6_greatest_14 : decode cX6_greatest 14 = .ok (.invokestatic 251, 3) := by decide +kernel
theorem dX6_greatest_17 : decode cX6_greatest 17 = .ok (.istore_n 1, 1) := by decide +kernel
theorem dX6_greatest_18 : decode cX6_greatest 18 = .ok (.iinc 2 1, 3) := by decide +kernel
theorem dX6_greatest_21 : decode cX6_greatest 21 = .ok (.goto (-17), 3) := by decide +kernel
theorem dX6_greatest_24 : decode cX6_greatest 24 = .ok (.iload_n 1, 1) := by decide +kernel
theorem dX6_greatest_25 : decode cX6_greatest 25 = .ok (.ireturn, 1) := by decide +kernel
theorem dX6_contains_0 : decode cX6_contains 0 = .ok (.iload_n 0, 1) := by decide +kernel
theorem dX6_contains_1 : decode cX6_contains 1 = .ok (.iload_n 1, 1) := by decide +kernel
theorem dX6_contains_2 : decode cX6_contains 2 = .ok (.ishr, 1) := by decide +kernel
theorem dX6_contains_3 : decode cX6_contains 3 = .ok (.iconst 1, 1) := by decide +kernel
theorem dX6_contains_4 : decode cX6_contains 4 = .ok (.iand, 1) := by decide +kernel
theorem dX6_contains_5 : decode cX6_contains 5 = .ok (.ifCond .eq 7, 3) := by decide +kernel
theorem dX6_contains_8 : decode cX6_contains 8 = .ok (.iconst 1, 1) := by decide +kernel
theorem dX6_contains_9 : decode cX6_contains 9 = .ok (.goto 4, 3) := by decide +kernel
theorem dX6_contains_12 : decode cX6_contains 12 = .ok (.iconst 0, 1) := by decide +kernel
theorem dX6_contains_13 : decode cX6_contains 13 = .ok (.ireturn, 1) := by decide +kernel
end
section
theorem dX7_init_0 : decode cX7_init 0 = .ok (.aload_n 0, 1) := by decide +kernel
theorem dX7_init_1 : decode cX7_init 1 = .ok (.invokespecial 1, 3) := by decide +kernel
theorem dX7_init_4 : decode cX7_init 4 = .ok (.aload_n 0, 1) := by decide +kernel
theorem dX7_init_5 : decode cX7_init 5 = .ok (.bipush 30, 2) := by decide +kernel
theorem dX7_init_7 : decode cX7_init 7 = .ok (.newarray .int, 2) := by decide +kernel
theorem dX7_init_9 : decode cX7_init 9 = .ok (.putfield 7, 3) := by decide +kernel
theorem dX7_init_12 : decode cX7_init 12 = .ok (.aload_n 0, 1) := by decide +kernel
theorem dX7_init_13 : decode cX7_init 13 = .ok (.sipush 7560, 3) := by decide +kernel
theorem dX7_init_16 : decode cX7_init 16 = .ok (.newarray .int, 2) := by decide +kernel
theorem dX7_init_18 : decode cX7_init 18 = .ok (.putfield 13, 3) := by decide +kernel
theorem dX7_init_21 : decode cX7_init 21 = .ok (.aload_n 0, 1) := by decide +kernel
theorem dX7_init_22 : decode cX7_init 22 = .ok (.sipush 252, 3) := by decide +kernel
theorem dX7_init_25 : decode cX7_init 25 = .ok (.newarray .int, 2) := by decide +kernel
theorem dX7_init_27 : decode cX7_init 27 = .ok (.putfield 16, 3) := by decide +kernel
theorem dX7_init_30 : decode cX7_init 30 = .ok (.aload_n 0, 1) := by decide +kernel
theorem dX7_init_31 : decode cX7_init 31 = .ok (.sipush 252, 3) := by decide +kernel
theorem dX7_init_34 : decode cX7_init 34 = .ok (.newarray .int, 2) := by decide +kernel
theorem dX7_init_36 : decode cX7_init 36 = .ok (.putfield 19, 3) := by decide +kernel
theorem dX7_init_39 : decode cX7_init 39 = .ok (.aload_n 0, 1) := by decide +kernel
theorem dX7_init_40 : decode cX7_init 40 = .ok (.bipush 12, 2) := by decide +kernel
theorem dX7_init_42 : decode cX7_init 42 = .ok (.newarray .int, 2) := by decide +kernel
theorem dX7_init_44 : decode cX7_init 44 = .ok (.putfield 22, 3) := by decide +kernel
theorem dX7_init_47 : decode cX7_init 47 = .ok (.aload_n 0, 1) := by decide +kernel
theorem dX7_init_48 : decode cX7_init 48 = .ok (.bipush 12, 2) := by decide +kernel
theorem dX7_init_50 : decode cX7_init 50 = .ok (.newarray .int, 2) := by decide +kernel
theorem dX7_init_52 : decode cX7_init 52 = .ok (.putfield 25, 3) := by decide +kernel
theorem dX7_init_55 : decode cX7_init 55 = .ok (.aload_n 0, 1) := by decide +kernel
theorem dX7_init_56 : decode cX7_init 56 = .ok (.bipush 6, 2) := by decide +kernel
theorem dX7_init_58 : decode cX7_init 58 = .ok (.newarray .int, 2) := by decide +kernel
theorem dX7_init_60 : decode cX7_init 60 = .ok (.putfield 28, 3) := by decide +kernel
theorem dX7_init_63 : decode cX7_init 63 = .ok (.aload_n 0, 1) := by decide +kernel
theorem dX7_init_64 : decode cX7_init 64 = .ok (.sipush 144, 3) := by decide +kernel
theorem dX7_init_67 : decode cX7_init 67 = .ok (.newarray .int, 2) := by decide +kernel
theorem dX7_init_69 : decode cX7_init 69 = .ok (.putfield 31, 3) := by decide +kernel
theorem dX7_init_72 : decode cX7_init 72 = .ok (.aload_n 0, 1) := by decide +kernel
theorem dX7_init_73 : decode cX7_init 73 = .ok (.bipush 12, 2) := by decide +kernel
theorem dX7_init_75 : decode cX7_init 75 = .ok (.newarray .int, 2) := by decide +kernel
theorem dX7_init_77 : decode cX7_init 77 = .ok (.putfield 34, 3) := by decide +kernel
theorem dX7_init_80 : decode cX7_init 80 = .ok (.aload_n 0, 1) := by decide +kernel
theorem dX7_init_81 : decode cX7_init 81 = .ok (.bipush 12, 2) := by decide +kernel
theorem dX7_init_83 : decode cX7_init 83 = .ok (.newarray .int, 2) := by decide +kernel
theorem dX7_init_85 : decode cX7_init 85 = .ok (.putfield 37, 3) := by decide +kernel
theorem dX7_init_88 : decode cX7_init 88 = .ok (.aload_n 0, 1) := by decide +kernel
theorem dX7_init_89 : decode cX7_init 89 = .ok (.bipush 12, 2) := by decide +kernel
theorem dX7_init_91 : decode cX7_init 91 = .ok (.newarray .int, 2) := by decide +kernel
theorem dX7_init_93 : decode cX7_init 93 = .ok (.putfield 40, 3) := by decide +kernel
theorem dX7_init_96 : decode cX7_init 96 = .ok (.aload_n 0, 1) := by decide +kernel
theorem dX7_init_97 : decode cX7_init 97 = .ok (.bipush 12, 2) := by decide +kernel
theorem dX7_init_99 : decode cX7_init 99 = .ok (.newarray .int, 2) := by decide +kernel
theorem dX7_init_101 : decode cX7_init 101 = .ok (.putfield 43, 3) := by decide +kernel
theorem dX7_init_104 : decode cX7_init 104 = .ok (.aload_n 0, 1) := by decide +kernel
theorem dX7_init_105 : decode cX7_init 105 = .ok (.sipush 128, 3) := by decide +kernel
theorem dX7_init_108 : decode cX7_init 108 = .ok (.newarray .int, 2) := by decide +kernel
theorem dX7_init_110 : decode cX7_init 110 = .ok (.putfield 46, 3) := by decide +kernel
theorem dX7_init_113 : decode cX7_init 113 = .ok (.aload_n 0, 1) := by decide +kernel
theorem dX7_init_114 : decode cX7_init 114 = .ok (.sipush 128, 3) := by decide +kernel
theorem dX7_init_117 : decode cX7_init 117 = .ok (.newarray .int, 2) := by decide +kernel
theorem dX7_init_119 : decode cX7_init 119 = .ok (.putfield 49, 3) := by decide +kernel
theorem dX7_init_122 : decode cX7_init 122 = .ok (.aload_n 0, 1) := by decide +kernel
theorem dX7_init_123 : decode cX7_init 123 = .ok (.sipush 128, 3) := by decide +kernel
theorem dX7_init_126 : decode cX7_init 126 = .ok (.newarray .int, 2) := by decide +kernel
theorem dX7_init_128 : decode cX7_init 128 = .ok (.putfield 52, 3) := by decide +kernel
theorem dX7_init_131 : decode cX7_init 131 = .ok (.aload_n 0, 1) := by decide +kernel
theorem dX7_init_132 : decode cX7_init 132 = .ok (.bipush 16, 2) := by decide +kernel
theorem dX7_init_134 : decode cX7_init 134 = .ok (.newarray .int, 2) := by decide +kernel
theorem dX7_init_136 : decode cX7_init 136 = .ok (.putfield 55, 3) := by decide +kernel
theorem dX7_init_139 : decode cX7_init 139 = .ok (.aload_n 0, 1) := by decide +kernel
theorem dX7_init_140 : decode cX7_init 140 = .ok (.bipush 16, 2) := by decide +kernel
theorem dX7_init_142 : decode cX7_init 142 = .ok (.newarray .int, 2) := by decide +kernel
theorem dX7_init_144 : decode cX7_init 144 = .ok (.putfield 58, 3) := by decide +kernel
theorem dX7_init_147 : decode cX7_init 147 = .ok (.aload_n 0, 1) := by decide +kernel
theorem dX7_init_148 : decode cX7_init 148 = .ok (.bipush 16, 2) := by decide +kernel
theorem dX7_init_150 : decode cX7_init 150 = .ok (.newarray .int, 2) := by decide +kernel
theorem dX7_init_152 : decode cX7_init 152 = .ok (.putfield 61, 3) := by decide +kernel
theorem dX7_init_155 : decode cX7_init 155 = .ok (.iconst 0, 1) := by decide +kernel
theorem dX7_init_156 : decode cX7_init 156 = .ok (.istore_n 1, 1) := by decide +kernel
theorem dX7_init_157 : decode cX7_init 157 = .ok (.iload_n 1, 1) := by decide +kernel
theorem dX7_init_158 : decode cX7_init 158 = .ok (.bipush 12, 2) := by decide +kernel
theorem dX7_init_160 : decode cX7_init 160 = .ok (.if_icmp .ge 19, 3) := by decide +kernel
theorem dX7_init_163 : decode cX7_init 163 = .ok (.aload_n 0, 1) := by decide +kernel
theorem dX7_init_164 : decode cX7_init 164 = .ok (.getfield 19, 3) := by decide +kernel
theorem dX7_init_167 : decode cX7_init 167 = .ok (.bipush 21, 2) := by decide +kernel
theorem dX7_init_169 : decode cX7_init 169 = .ok (.iload_n 1, 1) := by decide +kernel
theorem dX7_init_170 : decode cX7_init 170 = .ok (.imul, 1) := by decide +kernel
theorem dX7_init_171 : decode cX7_init 171 = .ok (.iconst 3, 1) := by decide +kernel
theorem dX7_init_172 : decode cX7_init 172 = .ok (.iastore, 1) := by decide +kernel
theorem dX7_init_173 : decode cX7_init 173 = .ok (.iinc 1 1, 3) := by decide +kernel
theorem dX7_init_176 : decode cX7_init 176 = .ok (.goto (-19), 3) := by decide +kernel
theorem dX7_init_179 : decode cX7_init 179 = .ok (.return_, 1) := by decide +kernel
theorem dX7_thrown_0 : decode cX7_thrown 0 = .ok (.aload_n 0, 1) := by decide +kernel
theorem dX7_thrown_1 : decode cX7_thrown 1 = .ok (.getfield 64, 3) := by decide +kernel
theorem dX7_thrown_4 : decode cX7_thrown 4 = .ok (.ireturn, 1) := by decide +kernel
theorem dX7_in_0 : decode cX7_in 0 = .ok (.iload_n 0, 1) := by decide +kernel
theorem dX7_in_1 : decode cX7_in 1 = .ok (.iload_n 1, 1) := by decide +kernel
theorem dX7_in_2 : decode cX7_in 2 = .ok (.if_icmp .lt 12, 3) := by decide +kernel
theorem dX7_in_5 : decode cX7_in 5 = .ok (.iload_n 0, 1) := by decide +kernel
theorem dX7_in_6 : decode cX7_in 6 = .ok (.iload_n 2, 1) := by decide +kernel
theorem dX7_in_7 : decode cX7_in 7 = .ok (.if_icmp .gt 7, 3) := by decide +kernel
theorem dX7_in_10 : decode cX7_in 10 = .ok (.iconst 1, 1) := by decide +kernel
theorem dX7_in_11 : decode cX7_in 11 = .ok (.goto 4, 3) := by decide +kernel
theorem dX7_in_14 : decode cX7_in 14 = .ok (.iconst 0, 1) := by decide +kernel
theorem dX7_in_15 : decode cX7_in 15 = .ok (.ireturn, 1) := by decide +kernel
theorem dX7_goes_0 : decode cX7_goes 0 = .ok (.aload_n 0, 1) := by decide +kernel
theorem dX7_goes_1 : decode cX7_goes 1 = .ok (.iload_n 1, 1) := by decide +kernel
theorem dX7_goes_2 : decode cX7_goes 2 = .ok (.ifCond .ne 7, 3) := by decide +kernel
theorem dX7_goes_5 : decode cX7_goes 5 = .ok (.iconst 1, 1) := by decide +kernel
theorem dX7_goes_6 : decode cX7_goes 6 = .ok (.goto 20, 3) := by decide +kernel
theorem dX7_goes_9 : decode cX7_goes 9 = .ok (.iload_n 2, 1) := by decide +kernel
theorem dX7_goes_10 : decode cX7_goes 10 = .ok (.ifCond .ne 7, 3) := by decide +kernel
theorem dX7_goes_13 : decode cX7_goes 13 = .ok (.iconst 2, 1) := by decide +kernel
theorem dX7_goes_14 : decode cX7_goes 14 = .ok (.goto 12, 3) := by decide +kernel
theorem dX7_goes_17 : decode cX7_goes 17 = .ok (.iload_n 3, 1) := by decide +kernel
theorem dX7_goes_18 : decode cX7_goes 18 = .ok (.ifCond .eq 7, 3) := by decide +kernel
theorem dX7_goes_21 : decode cX7_goes 21 = .ok (.iconst 0, 1) := by decide +kernel
theorem dX7_goes_22 : decode cX7_goes 22 = .ok (.goto 4, 3) := by decide +kernel
theorem dX7_goes_25 : decode cX7_goes 25 = .ok (.iconst 3, 1) := by decide +kernel
theorem dX7_goes_26 : decode cX7_goes 26 = .ok (.putfield 64, 3) := by decide +kernel
theorem dX7_goes_29 : decode cX7_goes 29 = .ok (.aload_n 0, 1) := by decide +kernel
theorem dX7_goes_30 : decode cX7_goes 30 = .ok (.getfield 64, 3) := by decide +kernel
theorem dX7_goes_33 : decode cX7_goes 33 = .ok (.ifCond .ne 7, 3) := by decide +kernel
theorem dX7_goes_36 : decode cX7_goes 36 = .ok (.iconst 1, 1) := by decide +kernel
theorem dX7_goes_37 : decode cX7_goes 37 = .ok (.goto 4, 3) := by decide +kernel
theorem dX7_goes_40 : decode cX7_goes 40 = .ok (.iconst 0, 1) := by decide +kernel
theorem dX7_goes_41 : decode cX7_goes 41 = .ok (.ireturn, 1) := by decide +kernel
theorem dX7_isPage_0 : decode cX7_isPage 0 = .ok (.iload_n 0, 1) := by decide +kernel
theorem dX7_isPage_1 : decode cX7_isPage 1 = .ok (.iconst 0, 1) := by decide +kernel
theorem dX7_isPage_2 : decode cX7_isPage 2 = .ok (.bipush 11, 2) := by decide +kernel
theorem dX7_isPage_4 : decode cX7_isPage 4 = .ok (.invokestatic 68, 3) := by decide +kernel
theorem dX7_isPage_7 : decode cX7_isPage 7 = .ok (.ireturn, 1) := by decide +kernel
theorem dX7_isUser_0 : decode cX7_isUser 0 = .ok (.iload_n 0, 1) := by decide +kernel
theorem dX7_isUser_1 : decode cX7_isUser 1 = .ok (.iconst 0, 1) := by decide +kernel
theorem dX7_isUser_2 : decode cX7_isUser 2 = .ok (.iconst 5, 1) := by decide +kernel
theorem dX7_isUser_3 : decode cX7_isUser 3 = .ok (.invokestatic 68, 3) := by decide +kernel
theorem dX7_isUser_6 : decode cX7_isUser 6 = .ok (.ireturn, 1) := by decide +kernel
theorem dX7_isLetter_0 : decode cX7_isLetter 0 = .ok (.iload_n 0, 1) := by decide +kernel
theorem dX7_isLetter_1 : decode cX7_isLetter 1 = .ok (.iconst 0, 1) := by decide +kernel
theorem dX7_isLetter_2 : decode cX7_isLetter 2 = .ok (.bipush 25, 2) := by decide +kernel
theorem dX7_isLetter_4 : decode cX7_isLetter 4 = .ok (.invokestatic 68, 3) := by decide +kernel
theorem dX7_isLetter_7 : decode cX7_isLetter 7 = .ok (.ireturn, 1) := by decide +kernel
theorem dX7_adds_0 : decode cX7_adds 0 = .ok (.aload_n 0, 1) := by decide +kernel
theorem dX7_adds_1 : decode cX7_adds 1 = .ok (.getfield 7, 3) := by decide +kernel
theorem dX7_adds_4 : decode cX7_adds 4 = .ok (.aload_n 0, 1) := by decide +kernel
theorem dX7_adds_5 : decode cX7_adds 5 = .ok (.getfield 72, 3) := by decide +kernel
theorem dX7_adds_8 : decode cX7_adds 8 = .ok (.sipush 10000, 3) := by decide +kernel
theorem dX7_adds_11 : decode cX7_adds 11 = .ok (.iload_n 1, 1) := by decide +kernel
theorem dX7_adds_12 : decode cX7_adds 12 = .ok (.imul, 1) := by decide +kernel
theorem dX7_adds_13 : decode cX7_adds 13 = .ok (.bipush 100, 2) := by decide +kernel
theorem dX7_adds_15 : decode cX7_adds 15 = .ok (.iload_n 2, 1) := by decide +kernel
theorem dX7_adds_16 : decode cX7_adds 16 = .ok (.imul, 1) := by decide +kernel
theorem dX7_adds_17 : decode cX7_adds 17 = .ok (.iadd, 1) := by decide +kernel
theorem dX7_adds_18 : decode cX7_adds 18 = .ok (.iload_n 3, 1) := by decide +kernel
theorem dX7_adds_19 : decode cX7_adds 19 = .ok (.iadd, 1) := by decide +kernel
theorem dX7_adds_20 : decode cX7_adds 20 = .ok (.iconst 1, 1) := by decide +kernel
theorem dX7_adds_21 : decode cX7_adds 21 = .ok (.iadd, 1) := by decide +kernel
theorem dX7_adds_22 : decode cX7_adds 22 = .ok (.iastore, 1) := by decide +kernel
theorem dX7_adds_23 : decode cX7_adds 23 = .ok (.aload_n 0, 1) := by decide +kernel
theorem dX7_adds_24 : decode cX7_adds 24 = .ok (.dup, 1) := by decide +kernel
theorem dX7_adds_25 : decode cX7_adds 25 = .ok (.getfield 72, 3) := by decide +kernel
theorem dX7_adds_28 : decode cX7_adds 28 = .ok (.iconst 1, 1) := by decide +kernel
theorem dX7_adds_29 : decode cX7_adds 29 = .ok (.iadd, 1) := by decide +kernel
theorem dX7_adds_30 : decode cX7_adds 30 = .ok (.putfield 72, 3) := by decide +kernel
theorem dX7_adds_33 : decode cX7_adds 33 = .ok (.aload_n 0, 1) := by decide +kernel
theorem dX7_adds_34 : decode cX7_adds 34 = .ok (.getfield 72, 3) := by decide +kernel
theorem dX7_adds_37 : decode cX7_adds 37 = .ok (.ireturn, 1) := by decide +kernel
theorem dX7_hasRoom_0 : decode cX7_hasRoom 0 = .ok (.aload_n 0, 1) := by decide +kernel
theorem dX7_hasRoom_1 : decode cX7_hasRoom 1 = .ok (.getfield 72, 3) := by decide +kernel
theorem dX7_hasRoom_4 : decode cX7_hasRoom 4 = .ok (.bipush 30, 2) := by decide +kernel
theorem dX7_hasRoom_6 : decode cX7_hasRoom 6 = .ok (.if_icmp .ge 7, 3) := by decide +kernel
theorem dX7_hasRoom_9 : decode cX7_hasRoom 9 = .ok (.iconst 1, 1) := by decide +kernel
theorem dX7_hasRoom_10 : decode cX7_hasRoom 10 = .ok (.goto 4, 3) := by decide +kernel
theorem dX7_hasRoom_13 : decode cX7_hasRoom 13 = .ok (.iconst 0, 1) := by decide +kernel
theorem dX7_hasRoom_14 : decode cX7_hasRoom 14 = .ok (.ireturn, 1) := by decide +kernel
theorem dX7_letter_0 : decode cX7_letter 0 = .ok (.aload_n 0, 1) := by decide +kernel
theorem dX7_letter_1 : decode cX7_letter 1 = .ok (.iload_n 1, 1) := by decide +kernel
theorem dX7_letter_2 : decode cX7_letter 2 = .ok (.invokestatic 75, 3) := by decide +kernel
theorem dX7_letter_5 : decode cX7_letter 5 = .ok (.aload_n 0, 1) := by decide +kernel
theorem dX7_letter_6 : decode cX7_letter 6 = .ok (.invokevirtual 79, 3) := by decide +kernel
theorem dX7_letter_9 : decode cX7_letter 9 = .ok (.iconst 1, 1) := by decide +kernel
theorem dX7_letter_10 : decode cX7_letter 10 = .ok (.invokevirtual 83, 3) := by decide +kernel
theorem dX7_letter_13 : decode cX7_letter 13 = .ok (.ifCond .eq 13, 3) := by decide +kernel
theorem dX7_letter_16 : decode cX7_letter 16 = .ok (.aload_n 0, 1) := by decide +kernel
theorem dX7_letter_17 : decode cX7_letter 17 = .ok (.iconst 0, 1) := by decide +kernel
theorem dX7_letter_18 : decode cX7_letter 18 = .ok (.iload_n 1, 1) := by decide +kernel
theorem dX7_letter_19 : decode cX7_letter 19 = .ok (.iconst 0, 1) := by decide +kernel
theorem dX7_letter_20 : decode cX7_letter 20 = .ok (.invokevirtual 87, 3) := by decide +kernel
theorem dX7_letter_23 : decode cX7_letter 23 = .ok (.goto 4, 3) := by decide +kernel
theorem dX7_letter_26 : decode cX7_letter 26 = .ok (.iconst 0, 1) := by decide +kernel
theorem dX7_letter_27 : decode cX7_letter 27 = .ok (.ireturn, 1) := by decide +kernel
theorem dX7_argument_0 : decode cX7_argument 0 = .ok (.aload_n 0, 1) := by decide +kernel
theorem dX7_argument_1 : decode cX7_argument 1 = .ok (.aload_n 0, 1) := by decide +kernel
theorem dX7_argument_2 : decode cX7_argument 2 = .ok (.invokevirtual 79, 3) := by decide +kernel
theorem dX7_argument_5 : decode cX7_argument 5 = .ok (.iconst 1, 1) := by decide +kernel
theorem dX7_argument_6 : decode cX7_argument 6 = .ok (.iconst 1, 1) := by decide +kernel
theorem dX7_argument_7 : decode cX7_argument 7 = .ok (.invokevirtual 83, 3) := by decide +kernel
theorem dX7_argument_10 : decode cX7_argument 10 = .ok (.ifCond .eq 13, 3) := by decide +kernel
theorem dX7_argument_13 : decode cX7_argument 13 = .ok (.aload_n 0, 1) := by decide +kernel
theorem dX7_argument_14 : decode cX7_argument 14 = .ok (.iconst 1, 1) := by decide +kernel
theorem dX7_argument_15 : decode cX7_argument 15 = .ok (.iconst 0, 1) := by decide +kernel
theorem dX7_argument_16 : decode cX7_argument 16 = .ok (.iconst 0, 1) := by decide +kernel
theorem dX7_argument_17 : decode cX7_argument 17 = .ok (.invokevirtual 87, 3) := by decide +kernel
theorem dX7_argument_20 : decode cX7_argument 20 = .ok (.goto 4, 3) := by decide +kernel
theorem dX7_argument_23 : decode cX7_argument 23 = .ok (.iconst 0, 1) := by decide +kernel
theorem dX7_argument_24 : decode cX7_argument 24 = .ok (.ireturn, 1) := by decide +kernel
theorem dX7_call_0 : decode cX7_call 0 = .ok (.aload_n 0, 1) := by decide +kernel
theorem dX7_call_1 : decode cX7_call 1 = .ok (.iload_n 1, 1) := by decide +kernel
theorem dX7_call_2 : decode cX7_call 2 = .ok (.invokestatic 91, 3) := by decide +kernel
theorem dX7_call_5 : decode cX7_call 5 = .ok (.iload_n 2, 1) := by decide +kernel
theorem dX7_call_6 : decode cX7_call 6 = .ok (.iconst (-1), 1) := by decide +kernel
theorem dX7_call_7 : decode cX7_call 7 = .ok (.if_icmp .eq 10, 3) := by decide +kernel
theorem dX7_call_10 : decode cX7_call 10 = .ok (.iload_n 2, 1) := by decide +kernel
theorem dX7_call_11 : decode cX7_call 11 = .ok (.invokestatic 75, 3) := by decide +kernel
theorem dX7_call_14 : decode cX7_call 14 = .ok (.ifCond .eq 7, 3) := by decide +kernel
theorem dX7_call_17 : decode cX7_call 17 = .ok (.iconst 1, 1) := by decide +kernel
theorem dX7_call_18 : decode cX7_call 18 = .ok (.goto 4, 3) := by decide +kernel
theorem dX7_call_21 : decode cX7_call 21 = .ok (.iconst 0, 1) := by decide +kernel
theorem dX7_call_22 : decode cX7_call 22 = .ok (.aload_n 0, 1) := by decide +kernel
theorem dX7_call_23 : decode cX7_call 23 = .ok (.invokevirtual 79, 3) := by decide +kernel
theorem dX7_call_26 : decode cX7_call 26 = .ok (.invokevirtual 83, 3) := by decide +kernel
theorem dX7_call_29 : decode cX7_call 29 = .ok (.ifCond .eq 13, 3) := by decide +kernel
theorem dX7_call_32 : decode cX7_call 32 = .ok (.aload_n 0, 1) := by decide +kernel
theorem dX7_call_33 : decode cX7_call 33 = .ok (.iconst 2, 1) := by decide +kernel
theorem dX7_call_34 : decode cX7_call 34 = .ok (.iload_n 1, 1) := by decide +kernel
theorem dX7_call_35 : decode cX7_call 35 = .ok (.iload_n 2, 1) := by decide +kernel
theorem dX7_call_36 : decode cX7_call 36 = .ok (.invokevirtual 87, 3) := by decide +kernel
theorem dX7_call_39 : decode cX7_call 39 = .ok (.goto 4, 3) := by decide +kernel
theorem dX7_call_42 : decode cX7_call 42 = .ok (.iconst 0, 1) := by decide +kernel
theorem dX7_call_43 : decode cX7_call 43 = .ok (.ireturn, 1) := by decide +kernel
theorem dX7_callOn_0 : decode cX7_callOn 0 = .ok (.aload_n 0, 1) := by decide +kernel
theorem dX7_callOn_1 : decode cX7_callOn 1 = .ok (.iload_n 1, 1) := by decide +kernel
theorem dX7_callOn_2 : decode cX7_callOn 2 = .ok (.invokestatic 91, 3) := by decide +kernel
theorem dX7_callOn_5 : decode cX7_callOn 5 = .ok (.aload_n 0, 1) := by decide +kernel
theorem dX7_callOn_6 : decode cX7_callOn 6 = .ok (.invokevirtual 79, 3) := by decide +kernel
theorem dX7_callOn_9 : decode cX7_callOn 9 = .ok (.iconst 1, 1) := by decide +kernel
theorem dX7_callOn_10 : decode cX7_callOn 10 = .ok (.invokevirtual 83, 3) := by decide +kernel
theorem dX7_callOn_13 : decode cX7_callOn 13 = .ok (.ifCond .eq 13, 3) := by decide +kernel
theorem dX7_callOn_16 : decode cX7_callOn 16 = .ok (.aload_n 0, 1) := by decide +kernel
theorem dX7_callOn_17 : decode cX7_callOn 17 = .ok (.iconst 3, 1) := by decide +kernel
theorem dX7_callOn_18 : decode cX7_callOn 18 = .ok (.iload_n 1, 1) := by decide +kernel
theorem dX7_callOn_19 : decode cX7_callOn 19 = .ok (.iconst 0, 1) := by decide +kernel
theorem dX7_callOn_20 : decode cX7_callOn 20 = .ok (.invokevirtual 87, 3) := by decide +kernel
theorem dX7_callOn_23 : decode cX7_callOn 23 = .ok (.goto 4, 3) := by decide +kernel
theorem dX7_callOn_26 : decode cX7_callOn 26 = .ok (.iconst 0, 1) := by decide +kernel
theorem dX7_callOn_27 : decode cX7_callOn 27 = .ok (.ireturn, 1) := by decide +kernel
theorem dX7_when_0 : decode cX7_when 0 = .ok (.aload_n 0, 1) := by decide +kernel
theorem dX7_when_1 : decode cX7_when 1 = .ok (.iload_n 1, 1) := by decide +kernel
theorem dX7_when_2 : decode cX7_when 2 = .ok (.invokestatic 75, 3) := by decide +kernel
theorem dX7_when_5 : decode cX7_when 5 = .ok (.aload_n 0, 1) := by decide +kernel
theorem dX7_when_6 : decode cX7_when 6 = .ok (.invokevirtual 79, 3) := by decide +kernel
theorem dX7_when_9 : decode cX7_when 9 = .ok (.iconst 1, 1) := by decide +kernel
theorem dX7_when_10 : decode cX7_when 10 = .ok (.invokevirtual 83, 3) := by decide +kernel
theorem dX7_when_13 : decode cX7_when 13 = .ok (.ifCond .ne 5, 3) := by decide +kernel
theorem dX7_when_16 : decode cX7_when 16 = .ok (.iconst 0, 1) := by decide +kernel
theorem dX7_when_17 : decode cX7_when 17 = .ok (.ireturn, 1) := by decide +kernel
theorem dX7_when_18 : decode cX7_when 18 = .ok (.aload_n 0, 1) := by decide +kernel
theorem dX7_when_19 : decode cX7_when 19 = .ok (.dup, 1) := by decide +kernel
theorem dX7_when_20 : decode cX7_when 20 = .ok (.getfield 94, 3) := by decide +kernel
theorem dX7_when_23 : decode cX7_when 23 = .ok (.iconst 1, 1) := by decide +kernel
theorem dX7_when_24 : decode cX7_when 24 = .ok (.iadd, 1) := by decide +kernel
theorem dX7_when_25 : decode cX7_when 25 = .ok (.putfield 94, 3) := by decide +kernel
theorem dX7_when_28 : decode cX7_when 28 = .ok (.aload_n 0, 1) := by decide +kernel
theorem dX7_when_29 : decode cX7_when 29 = .ok (.iconst 4, 1) := by decide +kernel
theorem dX7_when_30 : decode cX7_when 30 = .ok (.iload_n 1, 1) := by decide +kernel
theorem dX7_when_31 : decode cX7_when 31 = .ok (.iconst 0, 1) := by decide +kernel
theorem dX7_when_32 : decode cX7_when 32 = .ok (.invokevirtual 87, 3) := by decide +kernel
theorem dX7_when_35 : decode cX7_when 35 = .ok (.ireturn, 1) := by decide +kernel
theorem dX7_end_0 : decode cX7_end 0 = .ok (.aload_n 0, 1) := by decide +kernel
theorem dX7_end_1 : decode cX7_end 1 = .ok (.aload_n 0, 1) := by decide +kernel
theorem dX7_end_2 : decode cX7_end 2 = .ok (.invokevirtual 79, 3) := by decide +kernel
theorem dX7_end_5 : decode cX7_end 5 = .ok (.ifCond .eq 14, 3) := by decide +kernel
theorem dX7_end_8 : decode cX7_end 8 = .ok (.aload_n 0, 1) := by decide +kernel
theorem dX7_end_9 : decode cX7_end 9 = .ok (.getfield 94, 3) := by decide +kernel
theorem dX7_end_12 : decode cX7_end 12 = .ok (.ifCond .le 7, 3) := by decide +kernel
theorem dX7_end_15 : decode cX7_end 15 = .ok (.iconst 1, 1) := by decide +kernel
theorem dX7_end_16 : decode cX7_end 16 = .ok (.goto 4, 3) := by decide +kernel
theorem dX7_end_19 : decode cX7_end 19 = .ok (.iconst 0, 1) := by decide +kernel
theorem dX7_end_20 : decode cX7_end 20 = .ok (.iconst 1, 1) := by decide +kernel
theorem dX7_end_21 : decode cX7_end 21 = .ok (.iconst 1, 1) := by decide +kernel
theorem dX7_end_22 : decode cX7_end 22 = .ok (.invokevirtual 83, 3) := by decide +kernel
theorem dX7_end_25 : decode cX7_end 25 = .ok (.ifCond .ne 5, 3) := by decide +kernel
theorem dX7_end_28 : decode cX7_end 28 = .ok (.iconst 0, 1) := by decide +kernel
theorem dX7_end_29 : decode cX7_end 29 = .ok (.ireturn, 1) := by decide +kernel
theorem dX7_end_30 : decode cX7_end 30 = .ok (.aload_n 0, 1) := by decide +kernel
theorem dX7_end_31 : decode cX7_end 31 = .ok (.dup, 1) := by decide +kernel
theorem dX7_end_32 : decode cX7_end 32 = .ok (.getfield 94, 3) := by decide +kernel
theorem dX7_end_35 : decode cX7_end 35 = .ok (.iconst 1, 1) := by decide +kernel
theorem dX7_end_36 : decode cX7_end 36 = .ok (.isub, 1) := by decide +kernel
theorem dX7_end_37 : decode cX7_end 37 = .ok (.putfield 94, 3) := by decide +kernel
theorem dX7_end_40 : decode cX7_end 40 = .ok (.aload_n 0, 1) := by decide +kernel
theorem dX7_end_41 : decode cX7_end 41 = .ok (.iconst 5, 1) := by decide +kernel
theorem dX7_end_42 : decode cX7_end 42 = .ok (.iconst 0, 1) := by decide +kernel
theorem dX7_end_43 : decode cX7_end 43 = .ok (.iconst 0, 1) := by decide +kernel
theorem dX7_end_44 : decode cX7_end 44 = .ok (.invokevirtual 87, 3) := by decide +kernel
theorem dX7_end_47 : decode cX7_end 47 = .ok (.ireturn, 1) := by decide +kernel
theorem dX7_anchor_0 : decode cX7_anchor 0 = .ok (.aload_n 0, 1) := by decide +kernel
theorem dX7_anchor_1 : decode cX7_anchor 1 = .ok (.iload_n 1, 1) := by decide +kernel
theorem dX7_anchor_2 : decode cX7_anchor 2 = .ok (.iconst 0, 1) := by decide +kernel
theorem dX7_anchor_3 : decode cX7_anchor 3 = .ok (.bipush 9, 2) := by decide +kernel
theorem dX7_anchor_5 : decode cX7_anchor 5 = .ok (.invokestatic 68, 3) := by decide +kernel
theorem dX7_anchor_8 : decode cX7_anchor 8 = .ok (.aload_n 0, 1) := by decide +kernel
theorem dX7_anchor_9 : decode cX7_anchor 9 = .ok (.invokevirtual 79, 3) := by decide +kernel
theorem dX7_anchor_12 : decode cX7_anchor 12 = .ok (.iconst 1, 1) := by decide +kernel
theorem dX7_anchor_13 : decode cX7_anchor 13 = .ok (.invokevirtual 83, 3) := by decide +kernel
theorem dX7_anchor_16 : decode cX7_anchor 16 = .ok (.ifCond .eq 14, 3) := by decide +kernel
theorem dX7_anchor_19 : decode cX7_anchor 19 = .ok (.aload_n 0, 1) := by decide +kernel
theorem dX7_anchor_20 : decode cX7_anchor 20 = .ok (.bipush 6, 2) := by decide +kernel
theorem dX7_anchor_22 : decode cX7_anchor 22 = .ok (.iload_n 1, 1) := by decide +kernel
theorem dX7_anchor_23 : decode cX7_anchor 23 = .ok (.iconst 0, 1) := by decide +kernel
theorem dX7_anchor_24 : decode cX7_anchor 24 = .ok (.invokevirtual 87, 3) := by decide +kernel
theorem dX7_anchor_27 : decode cX7_anchor 27 = .ok (.goto 4, 3) := by decide +kernel
theorem dX7_anchor_30 : decode cX7_anchor 30 = .ok (.iconst 0, 1) := by decide +kernel
theorem dX7_anchor_31 : decode cX7_anchor 31 = .ok (.ireturn, 1) := by decide +kernel
theorem dX7_link_0 : decode cX7_link 0 = .ok (.aload_n 0, 1) := by decide +kernel
theorem dX7_link_1 : decode cX7_link 1 = .ok (.iload_n 1, 1) := by decide +kernel
theorem dX7_link_2 : decode cX7_link 2 = .ok (.invokestatic 91, 3) := by decide +kernel
theorem dX7_link_5 : decode cX7_link 5 = .ok (.iload_n 2, 1) := by decide +kernel
theorem dX7_link_6 : decode cX7_link 6 = .ok (.iconst 0, 1) := by decide +kernel
theorem dX7_link_7 : decode cX7_link 7 = .ok (.bipush 9, 2) := by decide +kernel
theorem dX7_link_9 : decode cX7_link 9 = .ok (.invokestatic 68, 3) := by decide +kernel
theorem dX7_link_12 : decode cX7_link 12 = .ok (.aload_n 0, 1) := by decide +kernel
theorem dX7_link_13 : decode cX7_link 13 = .ok (.invokevirtual 79, 3) := by decide +kernel
theorem dX7_link_16 : decode cX7_link 16 = .ok (.invokevirtual 83, 3) := by decide +kernel
theorem dX7_link_19 : decode cX7_link 19 = .ok (.ifCond .eq 14, 3) := by decide +kernel
theorem dX7_link_22 : decode cX7_link 22 = .ok (.aload_n 0, 1) := by decide +kernel
theorem dX7_link_23 : decode cX7_link 23 = .ok (.bipush 7, 2) := by decide +kernel
theorem dX7_link_25 : decode cX7_link 25 = .ok (.iload_n 1, 1) := by decide +kernel
theorem dX7_link_26 : decode cX7_link 26 = .ok (.iload_n 2, 1) := by decide +kernel
theorem dX7_link_27 : decode cX7_link 27 = .ok (.invokevirtual 87, 3) := by decide +kernel
theorem dX7_link_30 : decode cX7_link 30 = .ok (.goto 4, 3) := by decide +kernel
theorem dX7_link_33 : decode cX7_link 33 = .ok (.iconst 0, 1) := by decide +kernel
theorem dX7_link_34 : decode cX7_link 34 = .ok (.ireturn, 1) := by decide +kernel
theorem dX7_redirect_0 : decode cX7_redirect 0 = .ok (.aload_n 0, 1) := by decide +kernel
theorem dX7_redirect_1 : decode cX7_redirect 1 = .ok (.iload_n 1, 1) := by decide +kernel
theorem dX7_redirect_2 : decode cX7_redirect 2 = .ok (.invokestatic 91, 3) := by decide +kernel
theorem dX7_redirect_5 : decode cX7_redirect 5 = .ok (.aload_n 0, 1) := by decide +kernel
theorem dX7_redirect_6 : decode cX7_redirect 6 = .ok (.invokevirtual 79, 3) := by decide +kernel
theorem dX7_redirect_9 : decode cX7_redirect 9 = .ok (.iconst 1, 1) := by decide +kernel
theorem dX7_redirect_10 : decode cX7_redirect 10 = .ok (.invokevirtual 83, 3) := by decide +kernel
theorem dX7_redirect_13 : decode cX7_redirect 13 = .ok (.ifCond .eq 14, 3) := by decide +kernel
theorem dX7_redirect_16 : decode cX7_redirect 16 = .ok (.aload_n 0, 1) := by decide +kernel
theorem dX7_redirect_17 : decode cX7_redirect 17 = .ok (.bipush 8, 2) := by decide +kernel
theorem dX7_redirect_19 : decode cX7_redirect 19 = .ok (.iload_n 1, 1) := by decide +kernel
theorem dX7_redirect_20 : decode cX7_redirect 20 = .ok (.iconst 0, 1) := by decide +kernel
theorem dX7_redirect_21 : decode cX7_redirect 21 = .ok (.invokevirtual 87, 3) := by decide +kernel
theorem dX7_redirect_24 : decode cX7_redirect 24 = .ok (.goto 4, 3) := by decide +kernel
theorem dX7_redirect_27 : decode cX7_redirect 27 = .ok (.iconst 0, 1) := by decide +kernel
theorem dX7_redirect_28 : decode cX7_redirect 28 = .ok (.ireturn, 1) := by decide +kernel
theorem dX7_now_0 : decode cX7_now 0 = .ok (.bipush 21, 2) := by decide +kernel
theorem dX7_now_2 : decode cX7_now 2 = .ok (.iload_n 1, 1) := by decide +kernel
theorem dX7_now_3 : decode cX7_now 3 = .ok (.imul, 1) := by decide +kernel
theorem dX7_now_4 : decode cX7_now 4 = .ok (.aload_n 0, 1) := by decide +kernel
theorem dX7_now_5 : decode cX7_now 5 = .ok (.getfield 22, 3) := by decide +kernel
theorem dX7_now_8 : decode cX7_now 8 = .ok (.iload_n 1, 1) := by decide +kernel
theorem dX7_now_9 : decode cX7_now 9 = .ok (.iaload, 1) := by decide +kernel
theorem dX7_now_10 : decode cX7_now 10 = .ok (.iadd, 1) := by decide +kernel
theorem dX7_now_11 : decode cX7_now 11 = .ok (.ireturn, 1) := by decide +kernel
theorem dX7_laysCalls_0 : decode cX7_laysCalls 0 = .ok (.iload_n 2, 1) := by decide +kernel
theorem dX7_laysCalls_1 : decode cX7_laysCalls 1 = .ok (.iconst (-1), 1) := by decide +kernel
theorem dX7_laysCalls_2 : decode cX7_laysCalls 2 = .ok (.if_icmp .ne 10, 3) := by decide +kernel
theorem dX7_laysCalls_5 : decode cX7_laysCalls 5 = .ok (.aload_n 0, 1) := by decide +kernel
theorem dX7_laysCalls_6 : decode cX7_laysCalls 6 = .ok (.getfield 72, 3) := by decide +kernel
theorem dX7_laysCalls_9 : decode cX7_laysCalls 9 = .ok (.goto 9, 3) := by decide +kernel
theorem dX7_laysCalls_12 : decode cX7_laysCalls 12 = .ok (.aload_n 0, 1) := by decide +kernel
theorem dX7_laysCalls_13 : decode cX7_laysCalls 13 = .ok (.getfield 16, 3) := by decide +kernel
theorem dX7_laysCalls_16 : decode cX7_laysCalls 16 = .ok (.iload_n 2, 1) := by decide +kernel
theorem dX7_laysCalls_17 : decode cX7_laysCalls 17 = .ok (.iaload, 1) := by decide +kernel
theorem dX7_laysCalls_18 : decode cX7_laysCalls 18 = .ok (.istore_n 3, 1) := by decide +kernel
theorem dX7_laysCalls_19 : decode cX7_laysCalls 19 = .ok (.aload_n 0, 1) := by decide +kernel
theorem dX7_laysCalls_20 : decode cX7_laysCalls 20 = .ok (.getfield 34, 3) := by decide +kernel
theorem dX7_laysCalls_23 : decode cX7_laysCalls 23 = .ok (.iload_n 1, 1) := by decide +kernel
theorem dX7_laysCalls_24 : decode cX7_laysCalls 24 = .ok (.iconst 0, 1) := by decide +kernel
theorem dX7_laysCalls_25 : decode cX7_laysCalls 25 = .ok (.iastore, 1) := by decide +kernel
theorem dX7_laysCalls_26 : decode cX7_laysCalls 26 = .ok (.iconst 0, 1) := by decide +kernel
theorem dX7_laysCalls_27 : decode cX7_laysCalls 27 = .ok (.istore 4, 2) := by decide +kernel
theorem dX7_laysCalls_29 : decode cX7_laysCalls 29 = .ok (.iload 4, 2) := by decide +kernel
theorem dX7_laysCalls_31 : decode cX7_laysCalls 31 = .ok (.bipush 12, 2) := by decide +kernel
theorem dX7_laysCalls_33 : decode cX7_laysCalls 33 = .ok (.if_icmp .ge 22, 3) := by decide +kernel
theorem dX7_laysCalls_36 : decode cX7_laysCalls 36 = .ok (.aload_n 0, 1) := by decide +kernel
theorem dX7_laysCalls_37 : decode cX7_laysCalls 37 = .ok (.getfield 31, 3) := by decide +kernel
theorem dX7_laysCalls_40 : decode cX7_laysCalls 40 = .ok (.bipush 12, 2) := by decide +kernel
theorem dX7_laysCalls_42 : decode cX7_laysCalls 42 = .ok (.iload_n 1, 1) := by decide +kernel
theorem dX7_laysCalls_43 : decode cX7_laysCalls 43 = .ok (.imul, 1) := by decide +kernel
theorem dX7_laysCalls_44 : decode cX7_laysCalls 44 = .ok (.iload 4, 2) := by decide +kernel
theorem dX7_laysCalls_46 : decode cX7_laysCalls 46 = .ok (.iadd, 1) := by decide +kernel
theorem dX7_laysCalls_47 : decode cX7_laysCalls 47 = .ok (.iconst 0, 1) := by decide +kernel
theorem dX7_laysCalls_48 : decode cX7_laysCalls 48 = .ok (.iastore, 1) := by decide +kernel
theorem dX7_laysCalls_49 : decode cX7_laysCalls 49 = .ok (.iinc 4 1, 3) := by decide +kernel
theorem dX7_laysCalls_52 : decode cX7_laysCalls 52 = .ok (.goto (-23), 3) := by decide +kernel
theorem dX7_laysCalls_55 : decode cX7_laysCalls 55 = .ok (.iconst 0, 1) := by decide +kernel
theorem dX7_laysCalls_56 : decode cX7_laysCalls 56 = .ok (.istore 4, 2) := by decide +kernel
theorem dX7_laysCalls_58 : decode cX7_laysCalls 58 = .ok (.iload 4, 2) := by decide +kernel
theorem dX7_laysCalls_60 : decode cX7_laysCalls 60 = .ok (.iload_n 3, 1) := by decide +kernel
theorem dX7_laysCalls_61 : decode cX7_laysCalls 61 = .ok (.if_icmp .ge 119, 3) := by decide +kernel
theorem dX7_laysCalls_64 : decode cX7_laysCalls 64 = .ok (.iload_n 2, 1) := by decide +kernel
theorem dX7_laysCalls_65 : decode cX7_laysCalls 65 = .ok (.iconst (-1), 1) := by decide +kernel
theorem dX7_laysCalls_66 : decode cX7_laysCalls 66 = .ok (.if_icmp .ne 13, 3) := by decide +kernel
theorem dX7_laysCalls_69 : decode cX7_laysCalls 69 = .ok (.aload_n 0, 1) := by decide +kernel
theorem dX7_laysCalls_70 : decode cX7_laysCalls 70 = .ok (.getfield 7, 3) := by decide +kernel
theorem dX7_laysCalls_73 : decode cX7_laysCalls 73 = .ok (.iload 4, 2) := by decide +kernel
theorem dX7_laysCalls_75 : decode cX7_laysCalls 75 = .ok (.iaload, 1) := by decide +kernel
theorem dX7_laysCalls_76 : decode cX7_laysCalls 76 = .ok (.goto 15, 3) := by decide +kernel
theorem dX7_laysCalls_79 : decode cX7_laysCalls 79 = .ok (.aload_n 0, 1) := by decide +kernel
theorem dX7_laysCalls_80 : decode cX7_laysCalls 80 = .ok (.getfield 13, 3) := by decide +kernel
theorem dX7_laysCalls_83 : decode cX7_laysCalls 83 = .ok (.bipush 30, 2) := by decide +kernel
theorem dX7_laysCalls_85 : decode cX7_laysCalls 85 = .ok (.iload_n 2, 1) := by decide +kernel
theorem dX7_laysCalls_86 : decode cX7_laysCalls 86 = .ok (.imul, 1) := by decide +kernel
theorem dX7_laysCalls_87 : decode cX7_laysCalls 87 = .ok (.iload 4, 2) := by decide +kernel
theorem dX7_laysCalls_89 : decode cX7_laysCalls 89 = .ok (.iadd, 1) := by decide +kernel
theorem dX7_laysCalls_90 : decode cX7_laysCalls 90 = .ok (.iaload, 1) := by decide +kernel
theorem dX7_laysCalls_91 : decode cX7_laysCalls 91 = .ok (.istore 5, 2) := by decide +kernel
theorem dX7_laysCalls_93 : decode cX7_laysCalls 93 = .ok (.iload 5, 2) := by decide +kernel
theorem dX7_laysCalls_95 : decode cX7_laysCalls 95 = .ok (.sipush 10000, 3) := by decide +kernel
theorem dX7_laysCalls_98 : decode cX7_laysCalls 98 = .ok (.idiv, 1) := by decide +kernel
theorem dX7_laysCalls_99 : decode cX7_laysCalls 99 = .ok (.istore 6, 2) := by decide +kernel
theorem dX7_laysCalls_101 : decode cX7_laysCalls 101 = .ok (.aload_n 0, 1) := by decide +kernel
theorem dX7_laysCalls_102 : decode cX7_laysCalls 102 = .ok (.getfield 34, 3) := by decide +kernel
theorem dX7_laysCalls_105 : decode cX7_laysCalls 105 = .ok (.iload_n 1, 1) := by decide +kernel
theorem dX7_laysCalls_106 : decode cX7_laysCalls 106 = .ok (.dup2, 1) := by decide +kernel
theorem dX7_laysCalls_107 : decode cX7_laysCalls 107 = .ok (.iaload, 1) := by decide +kernel
theorem dX7_laysCalls_108 : decode cX7_laysCalls 108 = .ok (.iload 6, 2) := by decide +kernel
theorem dX7_laysCalls_110 : decode cX7_laysCalls 110 = .ok (.ifCond .eq 23, 3) := by decide +kernel
theorem dX7_laysCalls_113 : decode cX7_laysCalls 113 = .ok (.iload 6, 2) := by decide +kernel
theorem dX7_laysCalls_115 : decode cX7_laysCalls 115 = .ok (.iconst 1, 1) := by decide +kernel
theorem dX7_laysCalls_116 : decode cX7_laysCalls 116 = .ok (.if_icmp .eq 17, 3) := by decide +kernel
theorem dX7_laysCalls_119 : decode cX7_laysCalls 119 = .ok (.iload 6, 2) := by decide +kernel
theorem dX7_laysCalls_121 : decode cX7_laysCalls 121 = .ok (.bipush 6, 2) := by decide +kernel
theorem dX7_laysCalls_123 : decode cX7_laysCalls 123 = .ok (.if_icmp .eq 10, 3) := by decide +kernel
theorem dX7_laysCalls_126 : decode cX7_laysCalls 126 = .ok (.iload 6, 2) := by decide +kernel
theorem dX7_laysCalls_128 : decode cX7_laysCalls 128 = .ok (.bipush 7, 2) := by decide +kernel
theorem dX7_laysCalls_130 : decode cX7_laysCalls 130 = .ok (.if_icmp .ne 7, 3) := by decide +kernel
theorem dX7_laysCalls_133 : decode cX7_laysCalls 133 = .ok (.iconst 1, 1) := by decide +kernel
theorem dX7_laysCalls_134 : decode cX7_laysCalls 134 = .ok (.goto 4, 3) := by decide +kernel
theorem dX7_laysCalls_137 : decode cX7_laysCalls 137 = .ok (.iconst 0, 1) := by decide +kernel
theorem dX7_laysCalls_138 : decode cX7_laysCalls 138 = .ok (.iadd, 1) := by decide +kernel
theorem dX7_laysCalls_139 : decode cX7_laysCalls 139 = .ok (.iastore, 1) := by decide +kernel
theorem dX7_laysCalls_140 : decode cX7_laysCalls 140 = .ok (.iload 6, 2) := by decide +kernel
theorem dX7_laysCalls_142 : decode cX7_laysCalls 142 = .ok (.iconst 2, 1) := by decide +kernel
theorem dX7_laysCalls_143 : decode cX7_laysCalls 143 = .ok (.if_icmp .eq 9, 3) := by decide +kernel
theorem dX7_laysCalls_146 : decode cX7_laysCalls 146 = .ok (.iload 6, 2) := by decide +kernel
theorem dX7_laysCalls_148 : decode cX7_laysCalls 148 = .ok (.iconst 3, 1) := by decide +kernel
theorem dX7_laysCalls_149 : decode cX7_laysCalls 149 = .ok (.if_icmp .ne 25, 3) := by decide +kernel
theorem dX7_laysCalls_152 : decode cX7_laysCalls 152 = .ok (.aload_n 0, 1) := by decide +kernel
theorem dX7_laysCalls_153 : decode cX7_laysCalls 153 = .ok (.getfield 31, 3) := by decide +kernel
theorem dX7_laysCalls_156 : decode cX7_laysCalls 156 = .ok (.bipush 12, 2) := by decide +kernel
theorem dX7_laysCalls_158 : decode cX7_laysCalls 158 = .ok (.iload_n 1, 1) := by decide +kernel
theorem dX7_laysCalls_159 : decode cX7_laysCalls 159 = .ok (.imul, 1) := by decide +kernel
theorem dX7_laysCalls_160 : decode cX7_laysCalls 160 = .ok (.iload 5, 2) := by decide +kernel
theorem dX7_laysCalls_162 : decode cX7_laysCalls 162 = .ok (.bipush 100, 2) := by decide +kernel
theorem dX7_laysCalls_164 : decode cX7_laysCalls 164 = .ok (.idiv, 1) := by decide +kernel
theorem dX7_laysCalls_165 : decode cX7_laysCalls 165 = .ok (.bipush 100, 2) := by decide +kernel
theorem dX7_laysCalls_167 : decode cX7_laysCalls 167 = .ok (.irem, 1) := by decide +kernel
theorem dX7_laysCalls_168 : decode cX7_laysCalls 168 = .ok (.iadd, 1) := by decide +kernel
theorem dX7_laysCalls_169 : decode cX7_laysCalls 169 = .ok (.dup2, 1) := by decide +kernel
theorem dX7_laysCalls_170 : decode cX7_laysCalls 170 = .ok (.iaload, 1) := by decide +kernel
theorem dX7_laysCalls_171 : decode cX7_laysCalls 171 = .ok (.iconst 1, 1) := by decide +kernel
theorem dX7_laysCalls_172 : decode cX7_laysCalls 172 = .ok (.iadd, 1) := by decide +kernel
theorem dX7_laysCalls_173 : decode cX7_laysCalls 173 = .ok (.iastore, 1) := by decide +kernel
theorem dX7_laysCalls_174 : decode cX7_laysCalls 174 = .ok (.iinc 4 1, 3) := by decide +kernel
theorem dX7_laysCalls_177 : decode cX7_laysCalls 177 = .ok (.goto (-119), 3) := by decide +kernel
theorem dX7_laysCalls_180 : decode cX7_laysCalls 180 = .ok (.return_, 1) := by decide +kernel
theorem dX7_laysReached_0 : decode cX7_laysReached 0 = .ok (.iconst 0, 1) := by decide +kernel
theorem dX7_laysReached_1 : decode cX7_laysReached 1 = .ok (.istore_n 1, 1) := by decide +kernel
theorem dX7_laysReached_2 : decode cX7_laysReached 2 = .ok (.iload_n 1, 1) := by decide +kernel
theorem dX7_laysReached_3 : decode cX7_laysReached 3 = .ok (.bipush 12, 2) := by decide +kernel
theorem dX7_laysReached_5 : decode cX7_laysReached 5 = .ok (.if_icmp .ge 16, 3) := by decide +kernel
theorem dX7_laysReached_8 : decode cX7_laysReached 8 = .ok (.aload_n 0, 1) := by decide +kernel
theorem dX7_laysReached_9 : decode cX7_laysReached 9 = .ok (.getfield 37, 3) := by decide +kernel
theorem dX7_laysReached_12 : decode cX7_laysReached 12 = .ok (.iload_n 1, 1) := by decide +kernel
theorem dX7_laysReached_13 : decode cX7_laysReached 13 = .ok (.iconst 0, 1) := by decide +kernel
theorem dX7_laysReached_14 : decode cX7_laysReached 14 = .ok (.iastore, 1) := by decide +kernel
theorem dX7_laysReached_15 : decode cX7_laysReached 15 = .ok (.iinc 1 1, 3) := by decide +kernel
theorem dX7_laysReached_18 : decode cX7_laysReached 18 = .ok (.goto (-16), 3) := by decide +kernel
theorem dX7_laysReached_21 : decode cX7_laysReached 21 = .ok (.iconst 0, 1) := by decide +kernel
theorem dX7_laysReached_22 : decode cX7_laysReached 22 = .ok (.istore_n 1, 1) := by decide +kernel
theorem dX7_laysReached_23 : decode cX7_laysReached 23 = .ok (.iload_n 1, 1) := by decide +kernel
theorem dX7_laysReached_24 : decode cX7_laysReached 24 = .ok (.bipush 12, 2) := by decide +kernel
theorem dX7_laysReached_26 : decode cX7_laysReached 26 = .ok (.if_icmp .ge 74, 3) := by decide +kernel
theorem dX7_laysReached_29 : decode cX7_laysReached 29 = .ok (.iconst 0, 1) := by decide +kernel
theorem dX7_laysReached_30 : decode cX7_laysReached 30 = .ok (.istore_n 2, 1) := by decide +kernel
theorem dX7_laysReached_31 : decode cX7_laysReached 31 = .ok (.iload_n 2, 1) := by decide +kernel
theorem dX7_laysReached_32 : decode cX7_laysReached 32 = .ok (.bipush 12, 2) := by decide +kernel
theorem dX7_laysReached_34 : decode cX7_laysReached 34 = .ok (.if_icmp .ge 60, 3) := by decide +kernel
theorem dX7_laysReached_37 : decode cX7_laysReached 37 = .ok (.iconst 0, 1) := by decide +kernel
theorem dX7_laysReached_38 : decode cX7_laysReached 38 = .ok (.istore_n 3, 1) := by decide +kernel
theorem dX7_laysReached_39 : decode cX7_laysReached 39 = .ok (.iload_n 3, 1) := by decide +kernel
theorem dX7_laysReached_40 : decode cX7_laysReached 40 = .ok (.bipush 12, 2) := by decide +kernel
theorem dX7_laysReached_42 : decode cX7_laysReached 42 = .ok (.if_icmp .ge 46, 3) := by decide +kernel
theorem dX7_laysReached_45 : decode cX7_laysReached 45 = .ok (.aload_n 0, 1) := by decide +kernel
theorem dX7_laysReached_46 : decode cX7_laysReached 46 = .ok (.getfield 37, 3) := by decide +kernel
theorem dX7_laysReached_49 : decode cX7_laysReached 49 = .ok (.iload_n 2, 1) := by decide +kernel
theorem dX7_laysReached_50 : decode cX7_laysReached 50 = .ok (.dup2, 1) := by decide +kernel
theorem dX7_laysReached_51 : decode cX7_laysReached 51 = .ok (.iaload, 1) := by decide +kernel
theorem dX7_laysReached_52 : decode cX7_laysReached 52 = .ok (.aload_n 0, 1) := by decide +kernel
theorem dX7_laysReached_53 : decode cX7_laysReached 53 = .ok (.getfield 31, 3) := by decide +kernel
theorem dX7_laysReached_56 : decode cX7_laysReached 56 = .ok (.bipush 12, 2) := by decide +kernel
theorem dX7_laysReached_58 : decode cX7_laysReached 58 = .ok (.iload_n 2, 1) := by decide +kernel
theorem dX7_laysReached_59 : decode cX7_laysReached 59 = .ok (.imul, 1) := by decide +kernel
theorem dX7_laysReached_60 : decode cX7_laysReached 60 = .ok (.iload_n 3, 1) := by decide +kernel
theorem dX7_laysReached_61 : decode cX7_laysReached 61 = .ok (.iadd, 1) := by decide +kernel
theorem dX7_laysReached_62 : decode cX7_laysReached 62 = .ok (.iaload, 1) := by decide +kernel
theorem dX7_laysReached_63 : decode cX7_laysReached 63 = .ok (.ifCond .le 16, 3) := by decide +kernel
theorem dX7_laysReached_66 : decode cX7_laysReached 66 = .ok (.aload_n 0, 1) := by decide +kernel
theorem dX7_laysReached_67 : decode cX7_laysReached 67 = .ok (.getfield 37, 3) := by decide +kernel
theorem dX7_laysReached_70 : decode cX7_laysReached 70 = .ok (.iload_n 3, 1) := by decide +kernel
theorem dX7_laysReached_71 : decode cX7_laysReached 71 = .ok (.iaload, 1) := by decide +kernel
theorem dX7_laysReached_72 : decode cX7_laysReached 72 = .ok (.iconst 1, 1) := by decide +kernel
theorem dX7_laysReached_73 : decode cX7_laysReached 73 = .ok (.iload_n 3, 1) := by decide +kernel
theorem dX7_laysReached_74 : decode cX7_laysReached 74 = .ok (.ishl, 1) := by decide +kernel
theorem dX7_laysReached_75 : decode cX7_laysReached 75 = .ok (.ior, 1) := by decide +kernel
theorem dX7_laysReached_76 : decode cX7_laysReached 76 = .ok (.goto 4, 3) := by decide +kernel
theorem dX7_laysReached_79 : decode cX7_laysReached 79 = .ok (.iconst 0, 1) := by decide +kernel
theorem dX7_laysReached_80 : decode cX7_laysReached 80 = .ok (.ior, 1) := by decide +kernel
theorem dX7_laysReached_81 : decode cX7_laysReached 81 = .ok (.iastore, 1) := by decide +kernel
theorem dX7_laysReached_82 : decode cX7_laysReached 82 = .ok (.iinc 3 1, 3) := by decide +kernel
theorem dX7_laysReached_85 : decode cX7_laysReached 85 = .ok (.goto (-46), 3) := by decide +kernel
theorem dX7_laysReached_88 : decode cX7_laysReached 88 = .ok (.iinc 2 1, 3) := by decide +kernel
theorem dX7_laysReached_91 : decode cX7_laysReached 91 = .ok (.goto (-60), 3) := by decide +kernel
theorem dX7_laysReached_94 : decode cX7_laysReached 94 = .ok (.iinc 1 1, 3) := by decide +kernel
theorem dX7_laysReached_97 : decode cX7_laysReached 97 = .ok (.goto (-74), 3) := by decide +kernel
theorem dX7_laysReached_100 : decode cX7_laysReached 100 = .ok (.return_, 1) := by decide +kernel
theorem dX7_laysNow_0 : decode cX7_laysNow 0 = .ok (.iconst 0, 1) := by decide +kernel
theorem dX7_laysNow_1 : decode cX7_laysNow 1 = .ok (.istore_n 1, 1) := by decide +kernel
theorem dX7_laysNow_2 : decode cX7_laysNow 2 = .ok (.iload_n 1, 1) := by decide +kernel
theorem dX7_laysNow_3 : decode cX7_laysNow 3 = .ok (.bipush 12, 2) := by decide +kernel
theorem dX7_laysNow_5 : decode cX7_laysNow 5 = .ok (.if_icmp .ge 19, 3) := by decide +kernel
theorem dX7_laysNow_8 : decode cX7_laysNow 8 = .ok (.aload_n 0, 1) := by decide +kernel
theorem dX7_laysNow_9 : decode cX7_laysNow 9 = .ok (.iload_n 1, 1) := by decide +kernel
theorem dX7_laysNow_10 : decode cX7_laysNow 10 = .ok (.aload_n 0, 1) := by decide +kernel
theorem dX7_laysNow_11 : decode cX7_laysNow 11 = .ok (.iload_n 1, 1) := by decide +kernel
theorem dX7_laysNow_12 : decode cX7_laysNow 12 = .ok (.invokevirtual 97, 3) := by decide +kernel
theorem dX7_laysNow_15 : decode cX7_laysNow 15 = .ok (.invokevirtual 101, 3) := by decide +kernel
theorem dX7_laysNow_18 : decode cX7_laysNow 18 = .ok (.iinc 1 1, 3) := by decide +kernel
theorem dX7_laysNow_21 : decode cX7_laysNow 21 = .ok (.goto (-19), 3) := by decide +kernel
theorem dX7_laysNow_24 : decode cX7_laysNow 24 = .ok (.aload_n 0, 1) := by decide +kernel
theorem dX7_laysNow_25 : decode cX7_laysNow 25 = .ok (.invokevirtual 105, 3) := by decide +kernel
theorem dX7_laysNow_28 : decode cX7_laysNow 28 = .ok (.return_, 1) := by decide +kernel
theorem dX7_measures_0 : decode cX7_measures 0 = .ok (.iconst 0, 1) := by decide +kernel
theorem dX7_measures_1 : decode cX7_measures 1 = .ok (.istore_n 1, 1) := by decide +kernel
theorem dX7_measures_2 : decode cX7_measures 2 = .ok (.iload_n 1, 1) := by decide +kernel
theorem dX7_measures_3 : decode cX7_measures 3 = .ok (.bipush 12, 2) := by decide +kernel
theorem dX7_measures_5 : decode cX7_measures 5 = .ok (.if_icmp .ge 23, 3) := by decide +kernel
theorem dX7_measures_8 : decode cX7_measures 8 = .ok (.aload_n 0, 1) := by decide +kernel
theorem dX7_measures_9 : decode cX7_measures 9 = .ok (.getfield 40, 3) := by decide +kernel
theorem dX7_measures_12 : decode cX7_measures 12 = .ok (.iload_n 1, 1) := by decide +kernel
theorem dX7_measures_13 : decode cX7_measures 13 = .ok (.iconst 0, 1) := by decide +kernel
theorem dX7_measures_14 : decode cX7_measures 14 = .ok (.iastore, 1) := by decide +kernel
theorem dX7_measures_15 : decode cX7_measures 15 = .ok (.aload_n 0, 1) := by decide +kernel
theorem dX7_measures_16 : decode cX7_measures 16 = .ok (.getfield 43, 3) := by decide +kernel
theorem dX7_measures_19 : decode cX7_measures 19 = .ok (.iload_n 1, 1) := by decide +kernel
theorem dX7_measures_20 : decode cX7_measures 20 = .ok (.iconst 0, 1) := by decide +kernel
theorem dX7_measures_21 : decode cX7_measures 21 = .ok (.iastore, 1) := by decide +kernel
theorem dX7_measures_22 : decode cX7_measures 22 = .ok (.iinc 1 1, 3) := by decide +kernel
theorem dX7_measures_25 : decode cX7_measures 25 = .ok (.goto (-23), 3) := by decide +kernel
theorem dX7_measures_28 : decode cX7_measures 28 = .ok (.iconst 0, 1) := by decide +kernel
theorem dX7_measures_29 : decode cX7_measures 29 = .ok (.istore_n 1, 1) := by decide +kernel
theorem dX7_measures_30 : decode cX7_measures 30 = .ok (.iload_n 1, 1) := by decide +kernel
theorem dX7_measures_31 : decode cX7_measures 31 = .ok (.bipush 12, 2) := by decide +kernel
theorem dX7_measures_33 : decode cX7_measures 33 = .ok (.if_icmp .ge 139, 3) := by decide +kernel
theorem dX7_measures_36 : decode cX7_measures 36 = .ok (.iconst 0, 1) := by decide +kernel
theorem dX7_measures_37 : decode cX7_measures 37 = .ok (.istore_n 2, 1) := by decide +kernel
theorem dX7_measures_38 : decode cX7_measures 38 = .ok (.iload_n 2, 1) := by decide +kernel
theorem dX7_measures_39 : decode cX7_measures 39 = .ok (.bipush 12, 2) := by decide +kernel
theorem dX7_measures_41 : decode cX7_measures 41 = .ok (.if_icmp .ge 125, 3) := by decide +kernel
theorem dX7_measures_44 : decode cX7_measures 44 = .ok (.iconst 0, 1) := by decide +kernel
theorem dX7_measures_45 : decode cX7_measures 45 = .ok (.istore_n 3, 1) := by decide +kernel
theorem dX7_measures_46 : decode cX7_measures 46 = .ok (.aload_n 0, 1) := by decide +kernel
theorem dX7_measures_47 : decode cX7_measures 47 = .ok (.getfield 34, 3) := by decide +kernel
theorem dX7_measures_50 : decode cX7_measures 50 = .ok (.iload_n 2, 1) := by decide +kernel
theorem dX7_measures_51 : decode cX7_measures 51 = .ok (.iaload, 1) := by decide +kernel
theorem dX7_measures_52 : decode cX7_measures 52 = .ok (.istore 4, 2) := by decide +kernel
theorem dX7_measures_54 : decode cX7_measures 54 = .ok (.iconst 0, 1) := by decide +kernel
theorem dX7_measures_55 : decode cX7_measures 55 = .ok (.istore 5, 2) := by decide +kernel
theorem dX7_measures_57 : decode cX7_measures 57 = .ok (.iload 5, 2) := by decide +kernel
theorem dX7_measures_59 : decode cX7_measures 59 = .ok (.bipush 12, 2) := by decide +kernel
theorem dX7_measures_61 : decode cX7_measures 61 = .ok (.if_icmp .ge 70, 3) := by decide +kernel
theorem dX7_measures_64 : decode cX7_measures 64 = .ok (.aload_n 0, 1) := by decide +kernel
theorem dX7_measures_65 : decode cX7_measures 65 = .ok (.getfield 31, 3) := by decide +kernel
theorem dX7_measures_68 : decode cX7_measures 68 = .ok (.bipush 12, 2) := by decide +kernel
theorem dX7_measures_70 : decode cX7_measures 70 = .ok (.iload_n 2, 1) := by decide +kernel
theorem dX7_measures_71 : decode cX7_measures 71 = .ok (.imul, 1) := by decide +kernel
theorem dX7_measures_72 : decode cX7_measures 72 = .ok (.iload 5, 2) := by decide +kernel
theorem dX7_measures_74 : decode cX7_measures 74 = .ok (.iadd, 1) := by decide +kernel
theorem dX7_measures_75 : decode cX7_measures 75 = .ok (.iaload, 1) := by decide +kernel
theorem dX7_measures_76 : decode cX7_measures 76 = .ok (.istore 6, 2) := by decide +kernel
theorem dX7_measures_78 : decode cX7_measures 78 = .ok (.iload 6, 2) := by decide +kernel
theorem dX7_measures_80 : decode cX7_measures 80 = .ok (.ifCond .le 28, 3) := by decide +kernel
theorem dX7_measures_83 : decode cX7_measures 83 = .ok (.aload_n 0, 1) := by decide +kernel
theorem dX7_measures_84 : decode cX7_measures 84 = .ok (.getfield 40, 3) := by decide +kernel
theorem dX7_measures_87 : decode cX7_measures 87 = .ok (.iload 5, 2) := by decide +kernel
theorem dX7_measures_89 : decode cX7_measures 89 = .ok (.iaload, 1) := by decide +kernel
theorem dX7_measures_90 : decode cX7_measures 90 = .ok (.iconst 1, 1) := by decide +kernel
theorem dX7_measures_91 : decode cX7_measures 91 = .ok (.iadd, 1) := by decide +kernel
theorem dX7_measures_92 : decode cX7_measures 92 = .ok (.iload_n 3, 1) := by decide +kernel
theorem dX7_measures_93 : decode cX7_measures 93 = .ok (.if_icmp .le 15, 3) := by decide +kernel
theorem dX7_measures_96 : decode cX7_measures 96 = .ok (.aload_n 0, 1) := by decide +kernel
theorem dX7_measures_97 : decode cX7_measures 97 = .ok (.getfield 40, 3) := by decide +kernel
theorem dX7_measures_100 : decode cX7_measures 100 = .ok (.iload 5, 2) := by decide +kernel
theorem dX7_measures_102 : decode cX7_measures 102 = .ok (.iaload, 1) := by decide +kernel
theorem dX7_measures_103 : decode cX7_measures 103 = .ok (.iconst 1, 1) := by decide +kernel
theorem dX7_measures_104 : decode cX7_measures 104 = .ok (.iadd, 1) := by decide +kernel
theorem dX7_measures_105 : decode cX7_measures 105 = .ok (.goto 4, 3) := by decide +kernel
theorem dX7_measures_108 : decode cX7_measures 108 = .ok (.iload_n 3, 1) := by decide +kernel
theorem dX7_measures_109 : decode cX7_measures 109 = .ok (.istore_n 3, 1) := by decide +kernel
theorem dX7_measures_110 : decode cX7_measures 110 = .ok (.iload 4, 2) := by decide +kernel
theorem dX7_measures_112 : decode cX7_measures 112 = .ok (.iload 6, 2) := by decide +kernel
theorem dX7_measures_114 : decode cX7_measures 114 = .ok (.aload_n 0, 1) := by decide +kernel
theorem dX7_measures_115 : decode cX7_measures 115 = .ok (.getfield 43, 3) := by decide +kernel
theorem dX7_measures_118 : decode cX7_measures 118 = .ok (.iload 5, 2) := by decide +kernel
theorem dX7_measures_120 : decode cX7_measures 120 = .ok (.iaload, 1) := by decide +kernel
theorem dX7_measures_121 : decode cX7_measures 121 = .ok (.imul, 1) := by decide +kernel
theorem dX7_measures_122 : decode cX7_measures 122 = .ok (.iadd, 1) := by decide +kernel
theorem dX7_measures_123 : decode cX7_measures 123 = .ok (.istore 4, 2) := by decide +kernel
theorem dX7_measures_125 : decode cX7_measures 125 = .ok (.iinc 5 1, 3) := by decide +kernel
theorem dX7_measures_128 : decode cX7_measures 128 = .ok (.goto (-71), 3) := by decide +kernel
theorem dX7_measures_131 : decode cX7_measures 131 = .ok (.aload_n 0, 1) := by decide +kernel
theorem dX7_measures_132 : decode cX7_measures 132 = .ok (.getfield 40, 3) := by decide +kernel
theorem dX7_measures_135 : decode cX7_measures 135 = .ok (.iload_n 2, 1) := by decide +kernel
theorem dX7_measures_136 : decode cX7_measures 136 = .ok (.iload_n 3, 1) := by decide +kernel
theorem dX7_measures_137 : decode cX7_measures 137 = .ok (.iastore, 1) := by decide +kernel
theorem dX7_measures_138 : decode cX7_measures 138 = .ok (.aload_n 0, 1) := by decide +kernel
theorem dX7_measures_139 : decode cX7_measures 139 = .ok (.getfield 43, 3) := by decide +kernel
theorem dX7_measures_142 : decode cX7_measures 142 = .ok (.iload_n 2, 1) := by decide +kernel
theorem dX7_measures_143 : decode cX7_measures 143 = .ok (.iload 4, 2) := by decide +kernel
theorem dX7_measures_145 : decode cX7_measures 145 = .ok (.sipush 1000, 3) := by decide +kernel
theorem dX7_measures_148 : decode cX7_measures 148 = .ok (.if_icmp .le 9, 3) := by decide +kernel
theorem dX7_measures_151 : decode cX7_measures 151 = .ok (.sipush 1000, 3) := by decide +kernel
theorem dX7_measures_154 : decode cX7_measures 154 = .ok (.goto 5, 3) := by decide +kernel
theorem dX7_measures_157 : decode cX7_measures 157 = .ok (.iload 4, 2) := by decide +kernel
theorem dX7_measures_159 : decode cX7_measures 159 = .ok (.iastore, 1) := by decide +kernel
theorem dX7_measures_160 : decode cX7_measures 160 = .ok (.iinc 2 1, 3) := by decide +kernel
theorem dX7_measures_163 : decode cX7_measures 163 = .ok (.goto (-125), 3) := by decide +kernel
theorem dX7_measures_166 : decode cX7_measures 166 = .ok (.iinc 1 1, 3) := by decide +kernel
theorem dX7_measures_169 : decode cX7_measures 169 = .ok (.goto (-139), 3) := by decide +kernel
theorem dX7_measures_172 : decode cX7_measures 172 = .ok (.return_, 1) := by decide +kernel
theorem dX7_has_0 : decode cX7_has 0 = .ok (.iload_n 0, 1) := by decide +kernel
theorem dX7_has_1 : decode cX7_has 1 = .ok (.iload_n 1, 1) := by decide +kernel
theorem dX7_has_2 : decode cX7_has 2 = .ok (.ishr, 1) := by decide +kernel
theorem dX7_has_3 : decode cX7_has 3 = .ok (.iconst 1, 1) := by decide +kernel
theorem dX7_has_4 : decode cX7_has 4 = .ok (.iand, 1) := by decide +kernel
theorem dX7_has_5 : decode cX7_has 5 = .ok (.iconst 1, 1) := by decide +kernel
theorem dX7_has_6 : decode cX7_has 6 = .ok (.if_icmp .ne 7, 3) := by decide +kernel
theorem dX7_has_9 : decode cX7_has 9 = .ok (.iconst 1, 1) := by decide +kernel
theorem dX7_has_10 : decode cX7_has 10 = .ok (.goto 4, 3) := by decide +kernel
theorem dX7_has_13 : decode cX7_has 13 = .ok (.iconst 0, 1) := by decide +kernel
theorem dX7_has_14 : decode cX7_has 14 = .ok (.ireturn, 1) := by decide +kernel
theorem dX7_forceOf_0 : decode cX7_forceOf 0 = .ok (.aload_n 0, 1) := by decide +kernel
theorem dX7_forceOf_1 : decode cX7_forceOf 1 = .ok (.getfield 25, 3) := by decide +kernel
theorem dX7_forceOf_4 : decode cX7_forceOf 4 = .ok (.iload_n 1, 1) := by decide +kernel
theorem dX7_forceOf_5 : decode cX7_forceOf 5 = .ok (.iaload, 1) := by decide +kernel
theorem dX7_forceOf_6 : decode cX7_forceOf 6 = .ok (.istore_n 2, 1) := by decide +kernel
theorem dX7_forceOf_7 : decode cX7_forceOf 7 = .ok (.iconst 0, 1) := by decide +kernel
theorem dX7_forceOf_8 : decode cX7_forceOf 8 = .ok (.istore_n 3, 1) := by decide +kernel
theorem dX7_forceOf_9 : decode cX7_forceOf 9 = .ok (.iload_n 3, 1) := by decide +kernel
theorem dX7_forceOf_10 : decode cX7_forceOf 10 = .ok (.bipush 12, 2) := by decide +kernel
theorem dX7_forceOf_12 : decode cX7_forceOf 12 = .ok (.if_icmp .ge 43, 3) := by decide +kernel
theorem dX7_forceOf_15 : decode cX7_forceOf 15 = .ok (.aload_n 0, 1) := by decide +kernel
theorem dX7_forceOf_16 : decode cX7_forceOf 16 = .ok (.getfield 37, 3) := by decide +kernel
theorem dX7_forceOf_19 : decode cX7_forceOf 19 = .ok (.iload_n 3, 1) := by decide +kernel
theorem dX7_forceOf_20 : decode cX7_forceOf 20 = .ok (.iaload, 1) := by decide +kernel
theorem dX7_forceOf_21 : decode cX7_forceOf 21 = .ok (.iload_n 1, 1) := by decide +kernel
theorem dX7_forceOf_22 : decode cX7_forceOf 22 = .ok (.invokestatic 108, 3) := by decide +kernel
theorem dX7_forceOf_25 : decode cX7_forceOf 25 = .ok (.ifCond .eq 22, 3) := by decide +kernel
theorem dX7_forceOf_28 : decode cX7_forceOf 28 = .ok (.aload_n 0, 1) := by decide +kernel
theorem dX7_forceOf_29 : decode cX7_forceOf 29 = .ok (.getfield 25, 3) := by decide +kernel
theorem dX7_forceOf_32 : decode cX7_forceOf 32 = .ok (.iload_n 3, 1) := by decide +kernel
theorem dX7_forceOf_33 : decode cX7_forceOf 33 = .ok (.iaload, 1) := by decide +kernel
theorem dX7_forceOf_34 : decode cX7_forceOf 34 = .ok (.iload_n 2, 1) := by decide +kernel
theorem dX7_forceOf_35 : decode cX7_forceOf 35 = .ok (.if_icmp .le 12, 3) := by decide +kernel
theorem dX7_forceOf_38 : decode cX7_forceOf 38 = .ok (.aload_n 0, 1) := by decide +kernel
theorem dX7_forceOf_39 : decode cX7_forceOf 39 = .ok (.getfield 25, 3) := by decide +kernel
theorem dX7_forceOf_42 : decode cX7_forceOf 42 = .ok (.iload_n 3, 1) := by decide +kernel
theorem dX7_forceOf_43 : decode cX7_forceOf 43 = .ok (.iaload, 1) := by decide +kernel
theorem dX7_forceOf_44 : decode cX7_forceOf 44 = .ok (.goto 4, 3) := by decide +kernel
theorem dX7_forceOf_47 : decode cX7_forceOf 47 = .ok (.iload_n 2, 1) := by decide +kernel
theorem dX7_forceOf_48 : decode cX7_forceOf 48 = .ok (.istore_n 2, 1) := by decide +kernel
theorem dX7_forceOf_49 : decode cX7_forceOf 49 = .ok (.iinc 3 1, 3) := by decide +kernel
theorem dX7_forceOf_52 : decode cX7_forceOf 52 = .ok (.goto (-43), 3) := by decide +kernel
theorem dX7_forceOf_55 : decode cX7_forceOf 55 = .ok (.iload_n 2, 1) := by decide +kernel
theorem dX7_forceOf_56 : decode cX7_forceOf 56 = .ok (.ireturn, 1) := by decide +kernel
theorem dX7_greatest_0 : decode cX7_greatest 0 = .ok (.iconst 0, 1) := by decide +kernel
theorem dX7_greatest_1 : decode cX7_greatest 1 = .ok (.istore_n 2, 1) := by decide +kernel
theorem dX7_greatest_2 : decode cX7_greatest 2 = .ok (.iconst 0, 1) := by decide +kernel
theorem dX7_greatest_3 : decode cX7_greatest 3 = .ok (.istore_n 3, 1) := by decide +kernel
theorem dX7_greatest_4 : decode cX7_greatest 4 = .ok (.iload_n 3, 1) := by decide +kernel
theorem dX7_greatest_5 : decode cX7_greatest 5 = .ok (.bipush 12, 2) := by decide +kernel
theorem dX7_greatest_7 : decode cX7_greatest 7 = .ok (.if_icmp .ge 43, 3) := by decide +kernel
theorem dX7_greatest_10 : decode cX7_greatest 10 = .ok (.iload_n 1, 1) := by decide +kernel
theorem dX7_greatest_11 : decode cX7_greatest 11 = .ok (.ifCond .eq 12, 3) := by decide +kernel
theorem dX7_greatest_14 : decode cX7_greatest 14 = .ok (.aload_n 0, 1) := by decide +kernel
theorem dX7_greatest_15 : decode cX7_greatest 15 = .ok (.getfield 40, 3) := by decide +kernel
theorem dX7_greatest_18 : decode cX7_greatest 18 = .ok (.iload_n 3, 1) := by decide +kernel
theorem dX7_greatest_19 : decode cX7_greatest 19 = .ok (.iaload, 1) := by decide +kernel
theorem dX7_greatest_20 : decode cX7_greatest 20 = .ok (.goto 9, 3) := by decide +kernel
theorem dX7_greatest_23 : decode cX7_greatest 23 = .ok (.aload_n 0, 1) := by decide +kernel
theorem dX7_greatest_24 : decode cX7_greatest 24 = .ok (.getfield 43, 3) := by decide +kernel
theorem dX7_greatest_27 : decode cX7_greatest 27 = .ok (.iload_n 3, 1) := by decide +kernel
theorem dX7_greatest_28 : decode cX7_greatest 28 = .ok (.iaload, 1) := by decide +kernel
theorem dX7_greatest_29 : decode cX7_greatest 29 = .ok (.istore 4, 2) := by decide +kernel
theorem dX7_greatest_31 : decode cX7_greatest 31 = .ok (.iload 4, 2) := by decide +kernel
theorem dX7_greatest_33 : decode cX7_greatest 33 = .ok (.iload_n 2, 1) := by decide +kernel
theorem dX7_greatest_34 : decode cX7_greatest 34 = .ok (.if_icmp .le 8, 3) := by decide +kernel
theorem dX7_greatest_37 : decode cX7_greatest 37 = .ok (.iload 4, 2) := by decide +kernel
theorem dX7_greatest_39 : decode cX7_greatest 39 = .ok (.goto 4, 3) := by decide +kernel
theorem dX7_greatest_42 : decode cX7_greatest 42 = .ok (.iload_n 2, 1) := by decide +kernel
theorem dX7_greatest_43 : decode cX7_greatest 43 = .ok (.istore_n 2, 1) := by decide +kernel
theorem dX7_greatest_44 : decode cX7_greatest 44 = .ok (.iinc 3 1, 3) := by decide +kernel
theorem dX7_greatest_47 : decode cX7_greatest 47 = .ok (.goto (-43), 3) := by decide +kernel
theorem dX7_greatest_50 : decode cX7_greatest 50 = .ok (.iload_n 2, 1) := by decide +kernel
theorem dX7_greatest_51 : decode cX7_greatest 51 = .ok (.ireturn, 1) := by decide +kernel
theorem dX7_refusal_0 : decode cX7_refusal 0 = .ok (.aload_n 0, 1) := by decide +kernel
theorem dX7_refusal_1 : decode cX7_refusal 1 = .ok (.invokevirtual 112, 3) := by decide +kernel
theorem dX7_refusal_4 : decode cX7_refusal 4 = .ok (.aload_n 0, 1) := by decide +kernel
theorem dX7_refusal_5 : decode cX7_refusal 5 = .ok (.iload_n 2, 1) := by decide +kernel
theorem dX7_refusal_6 : decode cX7_refusal 6 = .ok (.invokevirtual 115, 3) := by decide +kernel
theorem dX7_refusal_9 : decode cX7_refusal 9 = .ok (.istore 4, 2) := by decide +kernel
theorem dX7_refusal_11 : decode cX7_refusal 11 = .ok (.aload_n 0, 1) := by decide +kernel
theorem dX7_refusal_12 : decode cX7_refusal 12 = .ok (.getfield 37, 3) := by decide +kernel
theorem dX7_refusal_15 : decode cX7_refusal 15 = .ok (.iload_n 2, 1) := by decide +kernel
theorem dX7_refusal_16 : decode cX7_refusal 16 = .ok (.iaload, 1) := by decide +kernel
theorem dX7_refusal_17 : decode cX7_refusal 17 = .ok (.istore 5, 2) := by decide +kernel
theorem dX7_refusal_19 : decode cX7_refusal 19 = .ok (.aload_n 0, 1) := by decide +kernel
theorem dX7_refusal_20 : decode cX7_refusal 20 = .ok (.getfield 28, 3) := by decide +kernel
theorem dX7_refusal_23 : decode cX7_refusal 23 = .ok (.iload_n 1, 1) := by decide +kernel
theorem dX7_refusal_24 : decode cX7_refusal 24 = .ok (.iaload, 1) := by decide +kernel
theorem dX7_refusal_25 : decode cX7_refusal 25 = .ok (.iload 4, 2) := by decide +kernel
theorem dX7_refusal_27 : decode cX7_refusal 27 = .ok (.if_icmp .lt 19, 3) := by decide +kernel
theorem dX7_refusal_30 : decode cX7_refusal 30 = .ok (.iload_n 3, 1) := by decide +kernel
theorem dX7_refusal_31 : decode cX7_refusal 31 = .ok (.iconst (-1), 1) := by decide +kernel
theorem dX7_refusal_32 : decode cX7_refusal 32 = .ok (.if_icmp .eq 17, 3) := by decide +kernel
theorem dX7_refusal_35 : decode cX7_refusal 35 = .ok (.aload_n 0, 1) := by decide +kernel
theorem dX7_refusal_36 : decode cX7_refusal 36 = .ok (.getfield 19, 3) := by decide +kernel
theorem dX7_refusal_39 : decode cX7_refusal 39 = .ok (.iload_n 3, 1) := by decide +kernel
theorem dX7_refusal_40 : decode cX7_refusal 40 = .ok (.iaload, 1) := by decide +kernel
theorem dX7_refusal_41 : decode cX7_refusal 41 = .ok (.iload 4, 2) := by decide +kernel
theorem dX7_refusal_43 : decode cX7_refusal 43 = .ok (.if_icmp .ge 6, 3) := by decide +kernel
theorem dX7_refusal_46 : decode cX7_refusal 46 = .ok (.bipush (-2), 2) := by decide +kernel
theorem dX7_refusal_48 : decode cX7_refusal 48 = .ok (.ireturn, 1) := by decide +kernel
theorem dX7_refusal_49 : decode cX7_refusal 49 = .ok (.aload_n 0, 1) := by decide +kernel
theorem dX7_refusal_50 : decode cX7_refusal 50 = .ok (.iload_n 2, 1) := by decide +kernel
theorem dX7_refusal_51 : decode cX7_refusal 51 = .ok (.iload_n 3, 1) := by decide +kernel
theorem dX7_refusal_52 : decode cX7_refusal 52 = .ok (.invokevirtual 101, 3) := by decide +kernel
theorem dX7_refusal_55 : decode cX7_refusal 55 = .ok (.aload_n 0, 1) := by decide +kernel
theorem dX7_refusal_56 : decode cX7_refusal 56 = .ok (.invokevirtual 105, 3) := by decide +kernel
theorem dX7_refusal_59 : decode cX7_refusal 59 = .ok (.aload_n 0, 1) := by decide +kernel
theorem dX7_refusal_60 : decode cX7_refusal 60 = .ok (.getfield 37, 3) := by decide +kernel
theorem dX7_refusal_63 : decode cX7_refusal 63 = .ok (.iload_n 2, 1) := by decide +kernel
theorem dX7_refusal_64 : decode cX7_refusal 64 = .ok (.iaload, 1) := by decide +kernel
theorem dX7_refusal_65 : decode cX7_refusal 65 = .ok (.iload_n 2, 1) := by decide +kernel
theorem dX7_refusal_66 : decode cX7_refusal 66 = .ok (.invokestatic 108, 3) := by decide +kernel
theorem dX7_refusal_69 : decode cX7_refusal 69 = .ok (.ifCond .eq 6, 3) := by decide +kernel
theorem dX7_refusal_72 : decode cX7_refusal 72 = .ok (.bipush (-3), 2) := by decide +kernel
theorem dX7_refusal_74 : decode cX7_refusal 74 = .ok (.ireturn, 1) := by decide +kernel
theorem dX7_refusal_75 : decode cX7_refusal 75 = .ok (.aload_n 0, 1) := by decide +kernel
theorem dX7_refusal_76 : decode cX7_refusal 76 = .ok (.invokevirtual 118, 3) := by decide +kernel
theorem dX7_refusal_79 : decode cX7_refusal 79 = .ok (.aload_n 0, 1) := by decide +kernel
theorem dX7_refusal_80 : decode cX7_refusal 80 = .ok (.iconst 1, 1) := by decide +kernel
theorem dX7_refusal_81 : decode cX7_refusal 81 = .ok (.invokevirtual 121, 3) := by decide +kernel
theorem dX7_refusal_84 : decode cX7_refusal 84 = .ok (.iconst 5, 1) := by decide +kernel
theorem dX7_refusal_85 : decode cX7_refusal 85 = .ok (.if_icmp .le 6, 3) := by decide +kernel
theorem dX7_refusal_88 : decode cX7_refusal 88 = .ok (.bipush (-4), 2) := by decide +kernel
theorem dX7_refusal_90 : decode cX7_refusal 90 = .ok (.ireturn, 1) := by decide +kernel
theorem dX7_refusal_91 : decode cX7_refusal 91 = .ok (.aload_n 0, 1) := by decide +kernel
theorem dX7_refusal_92 : decode cX7_refusal 92 = .ok (.iconst 0, 1) := by decide +kernel
theorem dX7_refusal_93 : decode cX7_refusal 93 = .ok (.invokevirtual 121, 3) := by decide +kernel
theorem dX7_refusal_96 : decode cX7_refusal 96 = .ok (.bipush 100, 2) := by decide +kernel
theorem dX7_refusal_98 : decode cX7_refusal 98 = .ok (.if_icmp .le 6, 3) := by decide +kernel
theorem dX7_refusal_101 : decode cX7_refusal 101 = .ok (.bipush (-5), 2) := by decide +kernel
theorem dX7_refusal_103 : decode cX7_refusal 103 = .ok (.ireturn, 1) := by decide +kernel
theorem dX7_refusal_104 : decode cX7_refusal 104 = .ok (.iconst 0, 1) := by decide +kernel
theorem dX7_refusal_105 : decode cX7_refusal 105 = .ok (.istore 6, 2) := by decide +kernel
theorem dX7_refusal_107 : decode cX7_refusal 107 = .ok (.iload 6, 2) := by decide +kernel
theorem dX7_refusal_109 : decode cX7_refusal 109 = .ok (.bipush 12, 2) := by decide +kernel
theorem dX7_refusal_111 : decode cX7_refusal 111 = .ok (.if_icmp .ge 47, 3) := by decide +kernel
theorem dX7_refusal_114 : decode cX7_refusal 114 = .ok (.aload_n 0, 1) := by decide +kernel
theorem dX7_refusal_115 : decode cX7_refusal 115 = .ok (.getfield 37, 3) := by decide +kernel
theorem dX7_refusal_118 : decode cX7_refusal 118 = .ok (.iload_n 2, 1) := by decide +kernel
theorem dX7_refusal_119 : decode cX7_refusal 119 = .ok (.iaload, 1) := by decide +kernel
theorem dX7_refusal_120 : decode cX7_refusal 120 = .ok (.iload 5, 2) := by decide +kernel
theorem dX7_refusal_122 : decode cX7_refusal 122 = .ok (.iconst (-1), 1) := by decide +kernel
theorem dX7_refusal_123 : decode cX7_refusal 123 = .ok (.ixor, 1) := by decide +kernel
theorem dX7_refusal_124 : decode cX7_refusal 124 = .ok (.iand, 1) := by decide +kernel
theorem dX7_refusal_125 : decode cX7_refusal 125 = .ok (.iload 6, 2) := by decide +kernel
theorem dX7_refusal_127 : decode cX7_refusal 127 = .ok (.invokestatic 108, 3) := by decide +kernel
theorem dX7_refusal_130 : decode cX7_refusal 130 = .ok (.ifCond .eq 22, 3) := by decide +kernel
theorem dX7_refusal_133 : decode cX7_refusal 133 = .ok (.aload_n 0, 1) := by decide +kernel
theorem dX7_refusal_134 : decode cX7_refusal 134 = .ok (.getfield 19, 3) := by decide +kernel
theorem dX7_refusal_137 : decode cX7_refusal 137 = .ok (.aload_n 0, 1) := by decide +kernel
theorem dX7_refusal_138 : decode cX7_refusal 138 = .ok (.iload 6, 2) := by decide +kernel
theorem dX7_refusal_140 : decode cX7_refusal 140 = .ok (.invokevirtual 97, 3) := by decide +kernel
theorem dX7_refusal_143 : decode cX7_refusal 143 = .ok (.iaload, 1) := by decide +kernel
theorem dX7_refusal_144 : decode cX7_refusal 144 = .ok (.iload 4, 2) := by decide +kernel
theorem dX7_refusal_146 : decode cX7_refusal 146 = .ok (.if_icmp .ge 6, 3) := by decide +kernel
theorem dX7_refusal_149 : decode cX7_refusal 149 = .ok (.bipush (-6), 2) := by decide +kernel
theorem dX7_refusal_151 : decode cX7_refusal 151 = .ok (.ireturn, 1) := by decide +kernel
theorem dX7_refusal_152 : decode cX7_refusal 152 = .ok (.iinc 6 1, 3) := by decide +kernel
theorem dX7_refusal_155 : decode cX7_refusal 155 = .ok (.goto (-48), 3) := by decide +kernel
theorem dX7_refusal_158 : decode cX7_refusal 158 = .ok (.iconst 0, 1) := by decide +kernel
theorem dX7_refusal_159 : decode cX7_refusal 159 = .ok (.ireturn, 1) := by decide +kernel
theorem dX7_edit_0 : decode cX7_edit 0 = .ok (.iload_n 1, 1) := by decide +kernel
theorem dX7_edit_1 : decode cX7_edit 1 = .ok (.invokestatic 125, 3) := by decide +kernel
theorem dX7_edit_4 : decode cX7_edit 4 = .ok (.ifCond .eq 14, 3) := by decide +kernel
theorem dX7_edit_7 : decode cX7_edit 7 = .ok (.iload_n 2, 1) := by decide +kernel
theorem dX7_edit_8 : decode cX7_edit 8 = .ok (.invokestatic 91, 3) := by decide +kernel
theorem dX7_edit_11 : decode cX7_edit 11 = .ok (.ifCond .eq 7, 3) := by decide +kernel
theorem dX7_edit_14 : decode cX7_edit 14 = .ok (.iconst 1, 1) := by decide +kernel
theorem dX7_edit_15 : decode cX7_edit 15 = .ok (.goto 4, 3) := by decide +kernel
theorem dX7_edit_18 : decode cX7_edit 18 = .ok (.iconst 0, 1) := by decide +kernel
theorem dX7_edit_19 : decode cX7_edit 19 = .ok (.istore_n 3, 1) := by decide +kernel
theorem dX7_edit_20 : decode cX7_edit 20 = .ok (.aload_n 0, 1) := by decide +kernel
theorem dX7_edit_21 : decode cX7_edit 21 = .ok (.iload_n 3, 1) := by decide +kernel
theorem dX7_edit_22 : decode cX7_edit 22 = .ok (.iload_n 3, 1) := by decide +kernel
theorem dX7_edit_23 : decode cX7_edit 23 = .ok (.ifCond .eq 25, 3) := by decide +kernel
theorem dX7_edit_26 : decode cX7_edit 26 = .ok (.aload_n 0, 1) := by decide +kernel
theorem dX7_edit_27 : decode cX7_edit 27 = .ok (.getfield 94, 3) := by decide +kernel
theorem dX7_edit_30 : decode cX7_edit 30 = .ok (.ifCond .ne 18, 3) := by decide +kernel
theorem dX7_edit_33 : decode cX7_edit 33 = .ok (.aload_n 0, 1) := by decide +kernel
theorem dX7_edit_34 : decode cX7_edit 34 = .ok (.getfield 22, 3) := by decide +kernel
theorem dX7_edit_37 : decode cX7_edit 37 = .ok (.iload_n 2, 1) := by decide +kernel
theorem dX7_edit_38 : decode cX7_edit 38 = .ok (.iaload, 1) := by decide +kernel
theorem dX7_edit_39 : decode cX7_edit 39 = .ok (.bipush 20, 2) := by decide +kernel
theorem dX7_edit_41 : decode cX7_edit 41 = .ok (.if_icmp .ge 7, 3) := by decide +kernel
theorem dX7_edit_44 : decode cX7_edit 44 = .ok (.iconst 1, 1) := by decide +kernel
theorem dX7_edit_45 : decode cX7_edit 45 = .ok (.goto 4, 3) := by decide +kernel
theorem dX7_edit_48 : decode cX7_edit 48 = .ok (.iconst 0, 1) := by decide +kernel
theorem dX7_edit_49 : decode cX7_edit 49 = .ok (.iconst 1, 1) := by decide +kernel
theorem dX7_edit_50 : decode cX7_edit 50 = .ok (.invokevirtual 83, 3) := by decide +kernel
theorem dX7_edit_53 : decode cX7_edit 53 = .ok (.ifCond .ne 5, 3) := by decide +kernel
theorem dX7_edit_56 : decode cX7_edit 56 = .ok (.iconst 0, 1) := by decide +kernel
theorem dX7_edit_57 : decode cX7_edit 57 = .ok (.ireturn, 1) := by decide +kernel
theorem dX7_edit_58 : decode cX7_edit 58 = .ok (.aload_n 0, 1) := by decide +kernel
theorem dX7_edit_59 : decode cX7_edit 59 = .ok (.iload_n 1, 1) := by decide +kernel
theorem dX7_edit_60 : decode cX7_edit 60 = .ok (.iload_n 2, 1) := by decide +kernel
theorem dX7_edit_61 : decode cX7_edit 61 = .ok (.iconst (-1), 1) := by decide +kernel
theorem dX7_edit_62 : decode cX7_edit 62 = .ok (.invokevirtual 128, 3) := by decide +kernel
theorem dX7_edit_65 : decode cX7_edit 65 = .ok (.istore 4, 2) := by decide +kernel
theorem dX7_edit_67 : decode cX7_edit 67 = .ok (.iload 4, 2) := by decide +kernel
theorem dX7_edit_69 : decode cX7_edit 69 = .ok (.ifCond .ne 84, 3) := by decide +kernel
theorem dX7_edit_72 : decode cX7_edit 72 = .ok (.aload_n 0, 1) := by decide +kernel
theorem dX7_edit_73 : decode cX7_edit 73 = .ok (.getfield 22, 3) := by decide +kernel
theorem dX7_edit_76 : decode cX7_edit 76 = .ok (.iload_n 2, 1) := by decide +kernel
theorem dX7_edit_77 : decode cX7_edit 77 = .ok (.dup2, 1) := by decide +kernel
theorem dX7_edit_78 : decode cX7_edit 78 = .ok (.iaload, 1) := by decide +kernel
theorem dX7_edit_79 : decode cX7_edit 79 = .ok (.iconst 1, 1) := by decide +kernel
theorem dX7_edit_80 : decode cX7_edit 80 = .ok (.iadd, 1) := by decide +kernel
theorem dX7_edit_81 : decode cX7_edit 81 = .ok (.iastore, 1) := by decide +kernel
theorem dX7_edit_82 : decode cX7_edit 82 = .ok (.iconst 0, 1) := by decide +kernel
theorem dX7_edit_83 : decode cX7_edit 83 = .ok (.istore 5, 2) := by decide +kernel
theorem dX7_edit_85 : decode cX7_edit 85 = .ok (.iload 5, 2) := by decide +kernel
theorem dX7_edit_87 : decode cX7_edit 87 = .ok (.aload_n 0, 1) := by decide +kernel
theorem dX7_edit_88 : decode cX7_edit 88 = .ok (.getfield 72, 3) := by decide +kernel
theorem dX7_edit_91 : decode cX7_edit 91 = .ok (.if_icmp .ge 32, 3) := by decide +kernel
theorem dX7_edit_94 : decode cX7_edit 94 = .ok (.aload_n 0, 1) := by decide +kernel
theorem dX7_edit_95 : decode cX7_edit 95 = .ok (.getfield 13, 3) := by decide +kernel
theorem dX7_edit_98 : decode cX7_edit 98 = .ok (.bipush 30, 2) := by decide +kernel
theorem dX7_edit_100 : decode cX7_edit 100 = .ok (.aload_n 0, 1) := by decide +kernel
theorem dX7_edit_101 : decode cX7_edit 101 = .ok (.iload_n 2, 1) := by decide +kernel
theorem dX7_edit_102 : decode cX7_edit 102 = .ok (.invokevirtual 97, 3) := by decide +kernel
theorem dX7_edit_105 : decode cX7_edit 105 = .ok (.imul, 1) := by decide +kernel
theorem dX7_edit_106 : decode cX7_edit 106 = .ok (.iload 5, 2) := by decide +kernel
theorem dX7_edit_108 : decode cX7_edit 108 = .ok (.iadd, 1) := by decide +kernel
theorem dX7_edit_109 : decode cX7_edit 109 = .ok (.aload_n 0, 1) := by decide +kernel
theorem dX7_edit_110 : decode cX7_edit 110 = .ok (.getfield 7, 3) := by decide +kernel
theorem dX7_edit_113 : decode cX7_edit 113 = .ok (.iload 5, 2) := by decide +kernel
theorem dX7_edit_115 : decode cX7_edit 115 = .ok (.iaload, 1) := by decide +kernel
theorem dX7_edit_116 : decode cX7_edit 116 = .ok (.iastore, 1) := by decide +kernel
theorem dX7_edit_117 : decode cX7_edit 117 = .ok (.iinc 5 1, 3) := by decide +kernel
theorem dX7_edit_120 : decode cX7_edit 120 = .ok (.goto (-35), 3) := by decide +kernel
theorem dX7_edit_123 : decode cX7_edit 123 = .ok (.aload_n 0, 1) := by decide +kernel
theorem dX7_edit_124 : decode cX7_edit 124 = .ok (.getfield 16, 3) := by decide +kernel
theorem dX7_edit_127 : decode cX7_edit 127 = .ok (.aload_n 0, 1) := by decide +kernel
theorem dX7_edit_128 : decode cX7_edit 128 = .ok (.iload_n 2, 1) := by decide +kernel
theorem dX7_edit_129 : decode cX7_edit 129 = .ok (.invokevirtual 97, 3) := by decide +kernel
theorem dX7_edit_132 : decode cX7_edit 132 = .ok (.aload_n 0, 1) := by decide +kernel
theorem dX7_edit_133 : decode cX7_edit 133 = .ok (.getfield 72, 3) := by decide +kernel
theorem dX7_edit_136 : decode cX7_edit 136 = .ok (.iastore, 1) := by decide +kernel
theorem dX7_edit_137 : decode cX7_edit 137 = .ok (.aload_n 0, 1) := by decide +kernel
theorem dX7_edit_138 : decode cX7_edit 138 = .ok (.getfield 19, 3) := by decide +kernel
theorem dX7_edit_141 : decode cX7_edit 141 = .ok (.aload_n 0, 1) := by decide +kernel
theorem dX7_edit_142 : decode cX7_edit 142 = .ok (.iload_n 2, 1) := by decide +kernel
theorem dX7_edit_143 : decode cX7_edit 143 = .ok (.invokevirtual 97, 3) := by decide +kernel
theorem dX7_edit_146 : decode cX7_edit 146 = .ok (.aload_n 0, 1) := by decide +kernel
theorem dX7_edit_147 : decode cX7_edit 147 = .ok (.getfield 28, 3) := by decide +kernel
theorem dX7_edit_150 : decode cX7_edit 150 = .ok (.iload_n 1, 1) := by decide +kernel
theorem dX7_edit_151 : decode cX7_edit 151 = .ok (.iaload, 1) := by decide +kernel
theorem dX7_edit_152 : decode cX7_edit 152 = .ok (.iastore, 1) := by decide +kernel
theorem dX7_edit_153 : decode cX7_edit 153 = .ok (.aload_n 0, 1) := by decide +kernel
theorem dX7_edit_154 : decode cX7_edit 154 = .ok (.iconst 0, 1) := by decide +kernel
theorem dX7_edit_155 : decode cX7_edit 155 = .ok (.putfield 72, 3) := by decide +kernel
theorem dX7_edit_158 : decode cX7_edit 158 = .ok (.iload 4, 2) := by decide +kernel
theorem dX7_edit_160 : decode cX7_edit 160 = .ok (.ifCond .ne 12, 3) := by decide +kernel
theorem dX7_edit_163 : decode cX7_edit 163 = .ok (.aload_n 0, 1) := by decide +kernel
theorem dX7_edit_164 : decode cX7_edit 164 = .ok (.getfield 22, 3) := by decide +kernel
theorem dX7_edit_167 : decode cX7_edit 167 = .ok (.iload_n 2, 1) := by decide +kernel
theorem dX7_edit_168 : decode cX7_edit 168 = .ok (.iaload, 1) := by decide +kernel
theorem dX7_edit_169 : decode cX7_edit 169 = .ok (.goto 5, 3) := by decide +kernel
theorem dX7_edit_172 : decode cX7_edit 172 = .ok (.iload 4, 2) := by decide +kernel
theorem dX7_edit_174 : decode cX7_edit 174 = .ok (.ireturn, 1) := by decide +kernel
theorem dX7_undo_0 : decode cX7_undo 0 = .ok (.iload_n 1, 1) := by decide +kernel
theorem dX7_undo_1 : decode cX7_undo 1 = .ok (.invokestatic 125, 3) := by decide +kernel
theorem dX7_undo_4 : decode cX7_undo 4 = .ok (.ifCond .eq 14, 3) := by decide +kernel
theorem dX7_undo_7 : decode cX7_undo 7 = .ok (.iload_n 2, 1) := by decide +kernel
theorem dX7_undo_8 : decode cX7_undo 8 = .ok (.invokestatic 91, 3) := by decide +kernel
theorem dX7_undo_11 : decode cX7_undo 11 = .ok (.ifCond .eq 7, 3) := by decide +kernel
theorem dX7_undo_14 : decode cX7_undo 14 = .ok (.iconst 1, 1) := by decide +kernel
theorem dX7_undo_15 : decode cX7_undo 15 = .ok (.goto 4, 3) := by decide +kernel
theorem dX7_undo_18 : decode cX7_undo 18 = .ok (.iconst 0, 1) := by decide +kernel
theorem dX7_undo_19 : decode cX7_undo 19 = .ok (.istore_n 3, 1) := by decide +kernel
theorem dX7_undo_20 : decode cX7_undo 20 = .ok (.aload_n 0, 1) := by decide +kernel
theorem dX7_undo_21 : decode cX7_undo 21 = .ok (.iload_n 3, 1) := by decide +kernel
theorem dX7_undo_22 : decode cX7_undo 22 = .ok (.iload_n 3, 1) := by decide +kernel
theorem dX7_undo_23 : decode cX7_undo 23 = .ok (.ifCond .eq 16, 3) := by decide +kernel
theorem dX7_undo_26 : decode cX7_undo 26 = .ok (.aload_n 0, 1) := by decide +kernel
theorem dX7_undo_27 : decode cX7_undo 27 = .ok (.getfield 22, 3) := by decide +kernel
theorem dX7_undo_30 : decode cX7_undo 30 = .ok (.iload_n 2, 1) := by decide +kernel
theorem dX7_undo_31 : decode cX7_undo 31 = .ok (.iaload, 1) := by decide +kernel
theorem dX7_undo_32 : decode cX7_undo 32 = .ok (.ifCond .le 7, 3) := by decide +kernel
theorem dX7_undo_35 : decode cX7_undo 35 = .ok (.iconst 1, 1) := by decide +kernel
theorem dX7_undo_36 : decode cX7_undo 36 = .ok (.goto 4, 3) := by decide +kernel
theorem dX7_undo_39 : decode cX7_undo 39 = .ok (.iconst 0, 1) := by decide +kernel
theorem dX7_undo_40 : decode cX7_undo 40 = .ok (.iconst 1, 1) := by decide +kernel
theorem dX7_undo_41 : decode cX7_undo 41 = .ok (.invokevirtual 83, 3) := by decide +kernel
theorem dX7_undo_44 : decode cX7_undo 44 = .ok (.ifCond .ne 5, 3) := by decide +kernel
theorem dX7_undo_47 : decode cX7_undo 47 = .ok (.iconst 0, 1) := by decide +kernel
theorem dX7_undo_48 : decode cX7_undo 48 = .ok (.ireturn, 1) := by decide +kernel
theorem dX7_undo_49 : decode cX7_undo 49 = .ok (.aload_n 0, 1) := by decide +kernel
theorem dX7_undo_50 : decode cX7_undo 50 = .ok (.iload_n 1, 1) := by decide +kernel
theorem dX7_undo_51 : decode cX7_undo 51 = .ok (.iload_n 2, 1) := by decide +kernel
theorem dX7_undo_52 : decode cX7_undo 52 = .ok (.aload_n 0, 1) := by decide +kernel
theorem dX7_undo_53 : decode cX7_undo 53 = .ok (.iload_n 2, 1) := by decide +kernel
theorem dX7_undo_54 : decode cX7_undo 54 = .ok (.invokevirtual 97, 3) := by decide +kernel
theorem dX7_undo_57 : decode cX7_undo 57 = .ok (.iconst 1, 1) := by decide +kernel
theorem dX7_undo_58 : decode cX7_undo 58 = .ok (.isub, 1) := by decide +kernel
theorem dX7_undo_59 : decode cX7_undo 59 = .ok (.invokevirtual 128, 3) := by decide +kernel
theorem dX7_undo_62 : decode cX7_undo 62 = .ok (.istore 4, 2) := by decide +kernel
theorem dX7_undo_64 : decode cX7_undo 64 = .ok (.aload_n 0, 1) := by decide +kernel
theorem dX7_undo_65 : decode cX7_undo 65 = .ok (.getfield 22, 3) := by decide +kernel
theorem dX7_undo_68 : decode cX7_undo 68 = .ok (.iload_n 2, 1) := by decide +kernel
theorem dX7_undo_69 : decode cX7_undo 69 = .ok (.dup2, 1) := by decide +kernel
theorem dX7_undo_70 : decode cX7_undo 70 = .ok (.iaload, 1) := by decide +kernel
theorem dX7_undo_71 : decode cX7_undo 71 = .ok (.iload 4, 2) := by decide +kernel
theorem dX7_undo_73 : decode cX7_undo 73 = .ok (.ifCond .ne 7, 3) := by decide +kernel
theorem dX7_undo_76 : decode cX7_undo 76 = .ok (.iconst 1, 1) := by decide +kernel
theorem dX7_undo_77 : decode cX7_undo 77 = .ok (.goto 4, 3) := by decide +kernel
theorem dX7_undo_80 : decode cX7_undo 80 = .ok (.iconst 0, 1) := by decide +kernel
theorem dX7_undo_81 : decode cX7_undo 81 = .ok (.isub, 1) := by decide +kernel
theorem dX7_undo_82 : decode cX7_undo 82 = .ok (.iastore, 1) := by decide +kernel
theorem dX7_undo_83 : decode cX7_undo 83 = .ok (.iload 4, 2) := by decide +kernel
theorem dX7_undo_85 : decode cX7_undo 85 = .ok (.ifCond .ne 12, 3) := by decide +kernel
theorem dX7_undo_88 : decode cX7_undo 88 = .ok (.aload_n 0, 1) := by decide +kernel
theorem dX7_undo_89 : decode cX7_undo 89 = .ok (.getfield 22, 3) := by decide +kernel
theorem dX7_undo_92 : decode cX7_undo 92 = .ok (.iload_n 2, 1) := by decide +kernel
theorem dX7_undo_93 : decode cX7_undo 93 = .ok (.iaload, 1) := by decide +kernel
theorem dX7_undo_94 : decode cX7_undo 94 = .ok (.goto 5, 3) := by decide +kernel
theorem dX7_undo_97 : decode cX7_undo 97 = .ok (.iload 4, 2) := by decide +kernel
theorem dX7_undo_99 : decode cX7_undo 99 = .ok (.ireturn, 1) := by decide +kernel
theorem dX7_approve_0 : decode cX7_approve 0 = .ok (.aload_n 0, 1) := by decide +kernel
theorem dX7_approve_1 : decode cX7_approve 1 = .ok (.iload_n 1, 1) := by decide +kernel
theorem dX7_approve_2 : decode cX7_approve 2 = .ok (.invokestatic 125, 3) := by decide +kernel
theorem dX7_approve_5 : decode cX7_approve 5 = .ok (.ifCond .eq 14, 3) := by decide +kernel
theorem dX7_approve_8 : decode cX7_approve 8 = .ok (.iload_n 2, 1) := by decide +kernel
theorem dX7_approve_9 : decode cX7_approve 9 = .ok (.invokestatic 91, 3) := by decide +kernel
theorem dX7_approve_12 : decode cX7_approve 12 = .ok (.ifCond .eq 7, 3) := by decide +kernel
theorem dX7_approve_15 : decode cX7_approve 15 = .ok (.iconst 1, 1) := by decide +kernel
theorem dX7_approve_16 : decode cX7_approve 16 = .ok (.goto 4, 3) := by decide +kernel
theorem dX7_approve_19 : decode cX7_approve 19 = .ok (.iconst 0, 1) := by decide +kernel
theorem dX7_approve_20 : decode cX7_approve 20 = .ok (.iconst 1, 1) := by decide +kernel
theorem dX7_approve_21 : decode cX7_approve 21 = .ok (.iconst 1, 1) := by decide +kernel
theorem dX7_approve_22 : decode cX7_approve 22 = .ok (.invokevirtual 83, 3) := by decide +kernel
theorem dX7_approve_25 : decode cX7_approve 25 = .ok (.ifCond .ne 5, 3) := by decide +kernel
theorem dX7_approve_28 : decode cX7_approve 28 = .ok (.iconst 0, 1) := by decide +kernel
theorem dX7_approve_29 : decode cX7_approve 29 = .ok (.ireturn, 1) := by decide +kernel
theorem dX7_approve_30 : decode cX7_approve 30 = .ok (.aload_n 0, 1) := by decide +kernel
theorem dX7_approve_31 : decode cX7_approve 31 = .ok (.invokevirtual 112, 3) := by decide +kernel
theorem dX7_approve_34 : decode cX7_approve 34 = .ok (.aload_n 0, 1) := by decide +kernel
theorem dX7_approve_35 : decode cX7_approve 35 = .ok (.getfield 28, 3) := by decide +kernel
theorem dX7_approve_38 : decode cX7_approve 38 = .ok (.iload_n 1, 1) := by decide +kernel
theorem dX7_approve_39 : decode cX7_approve 39 = .ok (.iaload, 1) := by decide +kernel
theorem dX7_approve_40 : decode cX7_approve 40 = .ok (.aload_n 0, 1) := by decide +kernel
theorem dX7_approve_41 : decode cX7_approve 41 = .ok (.iload_n 2, 1) := by decide +kernel
theorem dX7_approve_42 : decode cX7_approve 42 = .ok (.invokevirtual 115, 3) := by decide +kernel
theorem dX7_approve_45 : decode cX7_approve 45 = .ok (.if_icmp .lt 26, 3) := by decide +kernel
theorem dX7_approve_48 : decode cX7_approve 48 = .ok (.aload_n 0, 1) := by decide +kernel
theorem dX7_approve_49 : decode cX7_approve 49 = .ok (.getfield 28, 3) := by decide +kernel
theorem dX7_approve_52 : decode cX7_approve 52 = .ok (.iload_n 1, 1) := by decide +kernel
theorem dX7_approve_53 : decode cX7_approve 53 = .ok (.iaload, 1) := by decide +kernel
theorem dX7_approve_54 : decode cX7_approve 54 = .ok (.aload_n 0, 1) := by decide +kernel
theorem dX7_approve_55 : decode cX7_approve 55 = .ok (.getfield 19, 3) := by decide +kernel
theorem dX7_approve_58 : decode cX7_approve 58 = .ok (.aload_n 0, 1) := by decide +kernel
theorem dX7_approve_59 : decode cX7_approve 59 = .ok (.iload_n 2, 1) := by decide +kernel
theorem dX7_approve_60 : decode cX7_approve 60 = .ok (.invokevirtual 97, 3) := by decide +kernel
theorem dX7_approve_63 : decode cX7_approve 63 = .ok (.iaload, 1) := by decide +kernel
theorem dX7_approve_64 : decode cX7_approve 64 = .ok (.if_icmp .le 7, 3) := by decide +kernel
theorem dX7_approve_67 : decode cX7_approve 67 = .ok (.iconst 1, 1) := by decide +kernel
theorem dX7_approve_68 : decode cX7_approve 68 = .ok (.goto 4, 3) := by decide +kernel
theorem dX7_approve_71 : decode cX7_approve 71 = .ok (.iconst 0, 1) := by decide +kernel
theorem dX7_approve_72 : decode cX7_approve 72 = .ok (.istore_n 3, 1) := by decide +kernel
theorem dX7_approve_73 : decode cX7_approve 73 = .ok (.aload_n 0, 1) := by decide +kernel
theorem dX7_approve_74 : decode cX7_approve 74 = .ok (.getfield 19, 3) := by decide +kernel
theorem dX7_approve_77 : decode cX7_approve 77 = .ok (.aload_n 0, 1) := by decide +kernel
theorem dX7_approve_78 : decode cX7_approve 78 = .ok (.iload_n 2, 1) := by decide +kernel
theorem dX7_approve_79 : decode cX7_approve 79 = .ok (.invokevirtual 97, 3) := by decide +kernel
theorem dX7_approve_82 : decode cX7_approve 82 = .ok (.iload_n 3, 1) := by decide +kernel
theorem dX7_approve_83 : decode cX7_approve 83 = .ok (.ifCond .eq 12, 3) := by decide +kernel
theorem dX7_approve_86 : decode cX7_approve 86 = .ok (.aload_n 0, 1) := by decide +kernel
theorem dX7_approve_87 : decode cX7_approve 87 = .ok (.getfield 28, 3) := by decide +kernel
theorem dX7_approve_90 : decode cX7_approve 90 = .ok (.iload_n 1, 1) := by decide +kernel
theorem dX7_approve_91 : decode cX7_approve 91 = .ok (.iaload, 1) := by decide +kernel
theorem dX7_approve_92 : decode cX7_approve 92 = .ok (.goto 13, 3) := by decide +kernel
theorem dX7_approve_95 : decode cX7_approve 95 = .ok (.aload_n 0, 1) := by decide +kernel
theorem dX7_approve_96 : decode cX7_approve 96 = .ok (.getfield 19, 3) := by decide +kernel
theorem dX7_approve_99 : decode cX7_approve 99 = .ok (.aload_n 0, 1) := by decide +kernel
theorem dX7_approve_100 : decode cX7_approve 100 = .ok (.iload_n 2, 1) := by decide +kernel
theorem dX7_approve_101 : decode cX7_approve 101 = .ok (.invokevirtual 97, 3) := by decide +kernel
theorem dX7_approve_104 : decode cX7_approve 104 = .ok (.iaload, 1) := by decide +kernel
theorem dX7_approve_105 : decode cX7_approve 105 = .ok (.iastore, 1) := by decide +kernel
theorem dX7_approve_106 : decode cX7_approve 106 = .ok (.iload_n 3, 1) := by decide +kernel
theorem dX7_approve_107 : decode cX7_approve 107 = .ok (.ireturn, 1) := by decide +kernel
theorem dX7_lock_0 : decode cX7_lock 0 = .ok (.aload_n 0, 1) := by decide +kernel
theorem dX7_lock_1 : decode cX7_lock 1 = .ok (.iload_n 1, 1) := by decide +kernel
theorem dX7_lock_2 : decode cX7_lock 2 = .ok (.invokestatic 125, 3) := by decide +kernel
theorem dX7_lock_5 : decode cX7_lock 5 = .ok (.ifCond .eq 14, 3) := by decide +kernel
theorem dX7_lock_8 : decode cX7_lock 8 = .ok (.iload_n 2, 1) := by decide +kernel
theorem dX7_lock_9 : decode cX7_lock 9 = .ok (.invokestatic 91, 3) := by decide +kernel
theorem dX7_lock_12 : decode cX7_lock 12 = .ok (.ifCond .eq 7, 3) := by decide +kernel
theorem dX7_lock_15 : decode cX7_lock 15 = .ok (.iconst 1, 1) := by decide +kernel
theorem dX7_lock_16 : decode cX7_lock 16 = .ok (.goto 4, 3) := by decide +kernel
theorem dX7_lock_19 : decode cX7_lock 19 = .ok (.iconst 0, 1) := by decide +kernel
theorem dX7_lock_20 : decode cX7_lock 20 = .ok (.iload_n 3, 1) := by decide +kernel
theorem dX7_lock_21 : decode cX7_lock 21 = .ok (.iconst 0, 1) := by decide +kernel
theorem dX7_lock_22 : decode cX7_lock 22 = .ok (.iconst 3, 1) := by decide +kernel
theorem dX7_lock_23 : decode cX7_lock 23 = .ok (.invokestatic 68, 3) := by decide +kernel
theorem dX7_lock_26 : decode cX7_lock 26 = .ok (.iconst 1, 1) := by decide +kernel
theorem dX7_lock_27 : decode cX7_lock 27 = .ok (.invokevirtual 83, 3) := by decide +kernel
theorem dX7_lock_30 : decode cX7_lock 30 = .ok (.ifCond .ne 5, 3) := by decide +kernel
theorem dX7_lock_33 : decode cX7_lock 33 = .ok (.iconst 0, 1) := by decide +kernel
theorem dX7_lock_34 : decode cX7_lock 34 = .ok (.ireturn, 1) := by decide +kernel
theorem dX7_lock_35 : decode cX7_lock 35 = .ok (.aload_n 0, 1) := by decide +kernel
theorem dX7_lock_36 : decode cX7_lock 36 = .ok (.getfield 25, 3) := by decide +kernel
theorem dX7_lock_39 : decode cX7_lock 39 = .ok (.iload_n 2, 1) := by decide +kernel
theorem dX7_lock_40 : decode cX7_lock 40 = .ok (.iaload, 1) := by decide +kernel
theorem dX7_lock_41 : decode cX7_lock 41 = .ok (.istore 4, 2) := by decide +kernel
theorem dX7_lock_43 : decode cX7_lock 43 = .ok (.aload_n 0, 1) := by decide +kernel
theorem dX7_lock_44 : decode cX7_lock 44 = .ok (.getfield 28, 3) := by decide +kernel
theorem dX7_lock_47 : decode cX7_lock 47 = .ok (.iload_n 1, 1) := by decide +kernel
theorem dX7_lock_48 : decode cX7_lock 48 = .ok (.iaload, 1) := by decide +kernel
theorem dX7_lock_49 : decode cX7_lock 49 = .ok (.iload 4, 2) := by decide +kernel
theorem dX7_lock_51 : decode cX7_lock 51 = .ok (.if_icmp .lt 13, 3) := by decide +kernel
theorem dX7_lock_54 : decode cX7_lock 54 = .ok (.aload_n 0, 1) := by decide +kernel
theorem dX7_lock_55 : decode cX7_lock 55 = .ok (.getfield 28, 3) := by decide +kernel
theorem dX7_lock_58 : decode cX7_lock 58 = .ok (.iload_n 1, 1) := by decide +kernel
theorem dX7_lock_59 : decode cX7_lock 59 = .ok (.iaload, 1) := by decide +kernel
theorem dX7_lock_60 : decode cX7_lock 60 = .ok (.iload_n 3, 1) := by decide +kernel
theorem dX7_lock_61 : decode cX7_lock 61 = .ok (.if_icmp .ge 6, 3) := by decide +kernel
theorem dX7_lock_64 : decode cX7_lock 64 = .ok (.bipush (-2), 2) := by decide +kernel
theorem dX7_lock_66 : decode cX7_lock 66 = .ok (.ireturn, 1) := by decide +kernel
theorem dX7_lock_67 : decode cX7_lock 67 = .ok (.aload_n 0, 1) := by decide +kernel
theorem dX7_lock_68 : decode cX7_lock 68 = .ok (.getfield 25, 3) := by decide +kernel
theorem dX7_lock_71 : decode cX7_lock 71 = .ok (.iload_n 2, 1) := by decide +kernel
theorem dX7_lock_72 : decode cX7_lock 72 = .ok (.iload_n 3, 1) := by decide +kernel
theorem dX7_lock_73 : decode cX7_lock 73 = .ok (.iastore, 1) := by decide +kernel
theorem dX7_lock_74 : decode cX7_lock 74 = .ok (.iload 4, 2) := by decide +kernel
theorem dX7_lock_76 : decode cX7_lock 76 = .ok (.ireturn, 1) := by decide +kernel
theorem dX7_setRank_0 : decode cX7_setRank 0 = .ok (.aload_n 0, 1) := by decide +kernel
theorem dX7_setRank_1 : decode cX7_setRank 1 = .ok (.iload_n 1, 1) := by decide +kernel
theorem dX7_setRank_2 : decode cX7_setRank 2 = .ok (.invokestatic 125, 3) := by decide +kernel
theorem dX7_setRank_5 : decode cX7_setRank 5 = .ok (.iload_n 2, 1) := by decide +kernel
theorem dX7_setRank_6 : decode cX7_setRank 6 = .ok (.iconst 0, 1) := by decide +kernel
theorem dX7_setRank_7 : decode cX7_setRank 7 = .ok (.iconst 3, 1) := by decide +kernel
theorem dX7_setRank_8 : decode cX7_setRank 8 = .ok (.invokestatic 68, 3) := by decide +kernel
theorem dX7_setRank_11 : decode cX7_setRank 11 = .ok (.iconst 1, 1) := by decide +kernel
theorem dX7_setRank_12 : decode cX7_setRank 12 = .ok (.invokevirtual 83, 3) := by decide +kernel
theorem dX7_setRank_15 : decode cX7_setRank 15 = .ok (.ifCond .ne 5, 3) := by decide +kernel
theorem dX7_setRank_18 : decode cX7_setRank 18 = .ok (.iconst 0, 1) := by decide +kernel
theorem dX7_setRank_19 : decode cX7_setRank 19 = .ok (.ireturn, 1) := by decide +kernel
theorem dX7_setRank_20 : decode cX7_setRank 20 = .ok (.aload_n 0, 1) := by decide +kernel
theorem dX7_setRank_21 : decode cX7_setRank 21 = .ok (.getfield 28, 3) := by decide +kernel
theorem dX7_setRank_24 : decode cX7_setRank 24 = .ok (.iload_n 1, 1) := by decide +kernel
theorem dX7_setRank_25 : decode cX7_setRank 25 = .ok (.iaload, 1) := by decide +kernel
theorem dX7_setRank_26 : decode cX7_setRank 26 = .ok (.istore_n 3, 1) := by decide +kernel
theorem dX7_setRank_27 : decode cX7_setRank 27 = .ok (.aload_n 0, 1) := by decide +kernel
theorem dX7_setRank_28 : decode cX7_setRank 28 = .ok (.getfield 28, 3) := by decide +kernel
theorem dX7_setRank_31 : decode cX7_setRank 31 = .ok (.iload_n 1, 1) := by decide +kernel
theorem dX7_setRank_32 : decode cX7_setRank 32 = .ok (.iload_n 2, 1) := by decide +kernel
theorem dX7_setRank_33 : decode cX7_setRank 33 = .ok (.iastore, 1) := by decide +kernel
theorem dX7_setRank_34 : decode cX7_setRank 34 = .ok (.iload_n 3, 1) := by decide +kernel
theorem dX7_setRank_35 : decode cX7_setRank 35 = .ok (.ireturn, 1) := by decide +kernel
theorem dX7_version_0 : decode cX7_version 0 = .ok (.aload_n 0, 1) := by decide +kernel
theorem dX7_version_1 : decode cX7_version 1 = .ok (.iload_n 1, 1) := by decide +kernel
theorem dX7_version_2 : decode cX7_version 2 = .ok (.invokestatic 91, 3) := by decide +kernel
theorem dX7_version_5 : decode cX7_version 5 = .ok (.iconst 1, 1) := by decide +kernel
theorem dX7_version_6 : decode cX7_version 6 = .ok (.iconst 1, 1) := by decide +kernel
theorem dX7_version_7 : decode cX7_version 7 = .ok (.invokevirtual 83, 3) := by decide +kernel
theorem dX7_version_10 : decode cX7_version 10 = .ok (.ifCond .eq 12, 3) := by decide +kernel
theorem dX7_version_13 : decode cX7_version 13 = .ok (.aload_n 0, 1) := by decide +kernel
theorem dX7_version_14 : decode cX7_version 14 = .ok (.getfield 22, 3) := by decide +kernel
theorem dX7_version_17 : decode cX7_version 17 = .ok (.iload_n 1, 1) := by decide +kernel
theorem dX7_version_18 : decode cX7_version 18 = .ok (.iaload, 1) := by decide +kernel
theorem dX7_version_19 : decode cX7_version 19 = .ok (.goto 4, 3) := by decide +kernel
theorem dX7_version_22 : decode cX7_version 22 = .ok (.iconst 0, 1) := by decide +kernel
theorem dX7_version_23 : decode cX7_version 23 = .ok (.ireturn, 1) := by decide +kernel
theorem dX7_rankOf_0 : decode cX7_rankOf 0 = .ok (.aload_n 0, 1) := by decide +kernel
theorem dX7_rankOf_1 : decode cX7_rankOf 1 = .ok (.iload_n 1, 1) := by decide +kernel
theorem dX7_rankOf_2 : decode cX7_rankOf 2 = .ok (.invokestatic 91, 3) := by decide +kernel
theorem dX7_rankOf_5 : decode cX7_rankOf 5 = .ok (.iconst 1, 1) := by decide +kernel
theorem dX7_rankOf_6 : decode cX7_rankOf 6 = .ok (.iconst 1, 1) := by decide +kernel
theorem dX7_rankOf_7 : decode cX7_rankOf 7 = .ok (.invokevirtual 83, 3) := by decide +kernel
theorem dX7_rankOf_10 : decode cX7_rankOf 10 = .ok (.ifCond .eq 16, 3) := by decide +kernel
theorem dX7_rankOf_13 : decode cX7_rankOf 13 = .ok (.aload_n 0, 1) := by decide +kernel
theorem dX7_rankOf_14 : decode cX7_rankOf 14 = .ok (.getfield 19, 3) := by decide +kernel
theorem dX7_rankOf_17 : decode cX7_rankOf 17 = .ok (.aload_n 0, 1) := by decide +kernel
theorem dX7_rankOf_18 : decode cX7_rankOf 18 = .ok (.iload_n 1, 1) := by decide +kernel
theorem dX7_rankOf_19 : decode cX7_rankOf 19 = .ok (.invokevirtual 97, 3) := by decide +kernel
theorem dX7_rankOf_22 : decode cX7_rankOf 22 = .ok (.iaload, 1) := by decide +kernel
theorem dX7_rankOf_23 : decode cX7_rankOf 23 = .ok (.goto 4, 3) := by decide +kernel
theorem dX7_rankOf_26 : decode cX7_rankOf 26 = .ok (.iconst 0, 1) := by decide +kernel
theorem dX7_rankOf_27 : decode cX7_rankOf 27 = .ok (.ireturn, 1) := by decide +kernel
theorem dX7_force_0 : decode cX7_force 0 = .ok (.aload_n 0, 1) := by decide +kernel
theorem dX7_force_1 : decode cX7_force 1 = .ok (.iload_n 1, 1) := by decide +kernel
theorem dX7_force_2 : decode cX7_force 2 = .ok (.invokestatic 91, 3) := by decide +kernel
theorem dX7_force_5 : decode cX7_force 5 = .ok (.iconst 1, 1) := by decide +kernel
theorem dX7_force_6 : decode cX7_force 6 = .ok (.iconst 1, 1) := by decide +kernel
theorem dX7_force_7 : decode cX7_force 7 = .ok (.invokevirtual 83, 3) := by decide +kernel
theorem dX7_force_10 : decode cX7_force 10 = .ok (.ifCond .ne 5, 3) := by decide +kernel
theorem dX7_force_13 : decode cX7_force 13 = .ok (.iconst 0, 1) := by decide +kernel
theorem dX7_force_14 : decode cX7_force 14 = .ok (.ireturn, 1) := by decide +kernel
theorem dX7_force_15 : decode cX7_force 15 = .ok (.aload_n 0, 1) := by decide +kernel
theorem dX7_force_16 : decode cX7_force 16 = .ok (.invokevirtual 112, 3) := by decide +kernel
theorem dX7_force_19 : decode cX7_force 19 = .ok (.aload_n 0, 1) := by decide +kernel
theorem dX7_force_20 : decode cX7_force 20 = .ok (.iload_n 1, 1) := by decide +kernel
theorem dX7_force_21 : decode cX7_force 21 = .ok (.invokevirtual 115, 3) := by decide +kernel
theorem dX7_force_24 : decode cX7_force 24 = .ok (.ireturn, 1) := by decide +kernel
theorem dX7_reaches_0 : decode cX7_reaches 0 = .ok (.aload_n 0, 1) := by decide +kernel
theorem dX7_reaches_1 : decode cX7_reaches 1 = .ok (.iload_n 1, 1) := by decide +kernel
theorem dX7_reaches_2 : decode cX7_reaches 2 = .ok (.invokestatic 91, 3) := by decide +kernel
theorem dX7_reaches_5 : decode cX7_reaches 5 = .ok (.iconst 1, 1) := by decide +kernel
theorem dX7_reaches_6 : decode cX7_reaches 6 = .ok (.iconst 1, 1) := by decide +kernel
theorem dX7_reaches_7 : decode cX7_reaches 7 = .ok (.invokevirtual 83, 3) := by decide +kernel
theorem dX7_reaches_10 : decode cX7_reaches 10 = .ok (.ifCond .ne 5, 3) := by decide +kernel
theorem dX7_reaches_13 : decode cX7_reaches 13 = .ok (.iconst 0, 1) := by decide +kernel
theorem dX7_reaches_14 : decode cX7_reaches 14 = .ok (.ireturn, 1) := by decide +kernel
theorem dX7_reaches_15 : decode cX7_reaches 15 = .ok (.aload_n 0, 1) := by decide +kernel
theorem dX7_reaches_16 : decode cX7_reaches 16 = .ok (.invokevirtual 112, 3) := by decide +kernel
theorem dX7_reaches_19 : decode cX7_reaches 19 = .ok (.aload_n 0, 1) := by decide +kernel
theorem dX7_reaches_20 : decode cX7_reaches 20 = .ok (.getfield 37, 3) := by decide +kernel
theorem dX7_reaches_23 : decode cX7_reaches 23 = .ok (.iload_n 1, 1) := by decide +kernel
theorem dX7_reaches_24 : decode cX7_reaches 24 = .ok (.iaload, 1) := by decide +kernel
theorem dX7_reaches_25 : decode cX7_reaches 25 = .ok (.ireturn, 1) := by decide +kernel
theorem dX7_extent_0 : decode cX7_extent 0 = .ok (.aload_n 0, 1) := by decide +kernel
theorem dX7_extent_1 : decode cX7_extent 1 = .ok (.iload_n 1, 1) := by decide +kernel
theorem dX7_extent_2 : decode cX7_extent 2 = .ok (.invokestatic 91, 3) := by decide +kernel
theorem dX7_extent_5 : decode cX7_extent 5 = .ok (.iconst 1, 1) := by decide +kernel
theorem dX7_extent_6 : decode cX7_extent 6 = .ok (.iconst 1, 1) := by decide +kernel
theorem dX7_extent_7 : decode cX7_extent 7 = .ok (.invokevirtual 83, 3) := by decide +kernel
theorem dX7_extent_10 : decode cX7_extent 10 = .ok (.ifCond .ne 5, 3) := by decide +kernel
theorem dX7_extent_13 : decode cX7_extent 13 = .ok (.iconst 0, 1) := by decide +kernel
theorem dX7_extent_14 : decode cX7_extent 14 = .ok (.ireturn, 1) := by decide +kernel
theorem dX7_extent_15 : decode cX7_extent 15 = .ok (.aload_n 0, 1) := by decide +kernel
theorem dX7_extent_16 : decode cX7_extent 16 = .ok (.invokevirtual 112, 3) := by decide +kernel
theorem dX7_extent_19 : decode cX7_extent 19 = .ok (.aload_n 0, 1) := by decide +kernel
theorem dX7_extent_20 : decode cX7_extent 20 = .ok (.invokevirtual 118, 3) := by decide +kernel
theorem dX7_extent_23 : decode cX7_extent 23 = .ok (.aload_n 0, 1) := by decide +kernel
theorem dX7_extent_24 : decode cX7_extent 24 = .ok (.getfield 43, 3) := by decide +kernel
theorem dX7_extent_27 : decode cX7_extent 27 = .ok (.iload_n 1, 1) := by decide +kernel
theorem dX7_extent_28 : decode cX7_extent 28 = .ok (.iaload, 1) := by decide +kernel
theorem dX7_extent_29 : decode cX7_extent 29 = .ok (.ireturn, 1) := by decide +kernel
theorem dX7_shows_0 : decode cX7_shows 0 = .ok (.aload_n 0, 1) := by decide +kernel
theorem dX7_shows_1 : decode cX7_shows 1 = .ok (.getfield 46, 3) := by decide +kernel
theorem dX7_shows_4 : decode cX7_shows 4 = .ok (.aload_n 0, 1) := by decide +kernel
theorem dX7_shows_5 : decode cX7_shows 5 = .ok (.getfield 131, 3) := by decide +kernel
theorem dX7_shows_8 : decode cX7_shows 8 = .ok (.iload_n 1, 1) := by decide +kernel
theorem dX7_shows_9 : decode cX7_shows 9 = .ok (.iastore, 1) := by decide +kernel
theorem dX7_shows_10 : decode cX7_shows 10 = .ok (.aload_n 0, 1) := by decide +kernel
theorem dX7_shows_11 : decode cX7_shows 11 = .ok (.getfield 49, 3) := by decide +kernel
theorem dX7_shows_14 : decode cX7_shows 14 = .ok (.aload_n 0, 1) := by decide +kernel
theorem dX7_shows_15 : decode cX7_shows 15 = .ok (.getfield 131, 3) := by decide +kernel
theorem dX7_shows_18 : decode cX7_shows 18 = .ok (.iload_n 2, 1) := by decide +kernel
theorem dX7_shows_19 : decode cX7_shows 19 = .ok (.iastore, 1) := by decide +kernel
theorem dX7_shows_20 : decode cX7_shows 20 = .ok (.aload_n 0, 1) := by decide +kernel
theorem dX7_shows_21 : decode cX7_shows 21 = .ok (.getfield 52, 3) := by decide +kernel
theorem dX7_shows_24 : decode cX7_shows 24 = .ok (.aload_n 0, 1) := by decide +kernel
theorem dX7_shows_25 : decode cX7_shows 25 = .ok (.getfield 131, 3) := by decide +kernel
theorem dX7_shows_28 : decode cX7_shows 28 = .ok (.iload_n 3, 1) := by decide +kernel
theorem dX7_shows_29 : decode cX7_shows 29 = .ok (.iastore, 1) := by decide +kernel
theorem dX7_shows_30 : decode cX7_shows 30 = .ok (.aload_n 0, 1) := by decide +kernel
theorem dX7_shows_31 : decode cX7_shows 31 = .ok (.dup, 1) := by decide +kernel
theorem dX7_shows_32 : decode cX7_shows 32 = .ok (.getfield 131, 3) := by decide +kernel
theorem dX7_shows_35 : decode cX7_shows 35 = .ok (.iconst 1, 1) := by decide +kernel
theorem dX7_shows_36 : decode cX7_shows 36 = .ok (.iadd, 1) := by decide +kernel
theorem dX7_shows_37 : decode cX7_shows 37 = .ok (.putfield 131, 3) := by decide +kernel
theorem dX7_shows_40 : decode cX7_shows 40 = .ok (.return_, 1) := by decide +kernel
theorem dX7_behind_0 : decode cX7_behind 0 = .ok (.iconst 1, 1) := by decide +kernel
theorem dX7_behind_1 : decode cX7_behind 1 = .ok (.istore_n 3, 1) := by decide +kernel
theorem dX7_behind_2 : decode cX7_behind 2 = .ok (.iload_n 2, 1) := by decide +kernel
theorem dX7_behind_3 : decode cX7_behind 3 = .ok (.iconst 1, 1) := by decide +kernel
theorem dX7_behind_4 : decode cX7_behind 4 = .ok (.iadd, 1) := by decide +kernel
theorem dX7_behind_5 : decode cX7_behind 5 = .ok (.istore 4, 2) := by decide +kernel
theorem dX7_behind_7 : decode cX7_behind 7 = .ok (.iload_n 3, 1) := by decide +kernel
theorem dX7_behind_8 : decode cX7_behind 8 = .ok (.ifCond .le 51, 3) := by decide +kernel
theorem dX7_behind_11 : decode cX7_behind 11 = .ok (.aload_n 0, 1) := by decide +kernel
theorem dX7_behind_12 : decode cX7_behind 12 = .ok (.getfield 13, 3) := by decide +kernel
theorem dX7_behind_15 : decode cX7_behind 15 = .ok (.bipush 30, 2) := by decide +kernel
theorem dX7_behind_17 : decode cX7_behind 17 = .ok (.iload_n 1, 1) := by decide +kernel
theorem dX7_behind_18 : decode cX7_behind 18 = .ok (.imul, 1) := by decide +kernel
theorem dX7_behind_19 : decode cX7_behind 19 = .ok (.iload 4, 2) := by decide +kernel
theorem dX7_behind_21 : decode cX7_behind 21 = .ok (.iadd, 1) := by decide +kernel
theorem dX7_behind_22 : decode cX7_behind 22 = .ok (.iaload, 1) := by decide +kernel
theorem dX7_behind_23 : decode cX7_behind 23 = .ok (.sipush 10000, 3) := by decide +kernel
theorem dX7_behind_26 : decode cX7_behind 26 = .ok (.idiv, 1) := by decide +kernel
theorem dX7_behind_27 : decode cX7_behind 27 = .ok (.istore 5, 2) := by decide +kernel
theorem dX7_behind_29 : decode cX7_behind 29 = .ok (.iload_n 3, 1) := by decide +kernel
theorem dX7_behind_30 : decode cX7_behind 30 = .ok (.iload 5, 2) := by decide +kernel
theorem dX7_behind_32 : decode cX7_behind 32 = .ok (.iconst 4, 1) := by decide +kernel
theorem dX7_behind_33 : decode cX7_behind 33 = .ok (.if_icmp .ne 7, 3) := by decide +kernel
theorem dX7_behind_36 : decode cX7_behind 36 = .ok (.iconst 1, 1) := by decide +kernel
theorem dX7_behind_37 : decode cX7_behind 37 = .ok (.goto 14, 3) := by decide +kernel
theorem dX7_behind_40 : decode cX7_behind 40 = .ok (.iload 5, 2) := by decide +kernel
theorem dX7_behind_42 : decode cX7_behind 42 = .ok (.iconst 5, 1) := by decide +kernel
theorem dX7_behind_43 : decode cX7_behind 43 = .ok (.if_icmp .ne 7, 3) := by decide +kernel
theorem dX7_behind_46 : decode cX7_behind 46 = .ok (.iconst (-1), 1) := by decide +kernel
theorem dX7_behind_47 : decode cX7_behind 47 = .ok (.goto 4, 3) := by decide +kernel
theorem dX7_behind_50 : decode cX7_behind 50 = .ok (.iconst 0, 1) := by decide +kernel
theorem dX7_behind_51 : decode cX7_behind 51 = .ok (.iadd, 1) := by decide +kernel
theorem dX7_behind_52 : decode cX7_behind 52 = .ok (.istore_n 3, 1) := by decide +kernel
theorem dX7_behind_53 : decode cX7_behind 53 = .ok (.iinc 4 1, 3) := by decide +kernel
theorem dX7_behind_56 : decode cX7_behind 56 = .ok (.goto (-49), 3) := by decide +kernel
theorem dX7_behind_59 : decode cX7_behind 59 = .ok (.iload 4, 2) := by decide +kernel
theorem dX7_behind_61 : decode cX7_behind 61 = .ok (.ireturn, 1) := by decide +kernel
theorem dX7_lays_0 : decode cX7_lays 0 = .ok (.iconst 0, 1) := by decide +kernel
theorem dX7_lays_1 : decode cX7_lays 1 = .ok (.istore_n 3, 1) := by decide +kernel
theorem dX7_lays_2 : decode cX7_lays 2 = .ok (.aload_n 0, 1) := by decide +kernel
theorem dX7_lays_3 : decode cX7_lays 3 = .ok (.iconst 0, 1) := by decide +kernel
theorem dX7_lays_4 : decode cX7_lays 4 = .ok (.putfield 131, 3) := by decide +kernel
theorem dX7_lays_7 : decode cX7_lays 7 = .ok (.aload_n 0, 1) := by decide +kernel
theorem dX7_lays_8 : decode cX7_lays 8 = .ok (.getfield 55, 3) := by decide +kernel
theorem dX7_lays_11 : decode cX7_lays 11 = .ok (.iconst 0, 1) := by decide +kernel
theorem dX7_lays_12 : decode cX7_lays 12 = .ok (.iload_n 1, 1) := by decide +kernel
theorem dX7_lays_13 : decode cX7_lays 13 = .ok (.iastore, 1) := by decide +kernel
theorem dX7_lays_14 : decode cX7_lays 14 = .ok (.aload_n 0, 1) := by decide +kernel
theorem dX7_lays_15 : decode cX7_lays 15 = .ok (.getfield 58, 3) := by decide +kernel
theorem dX7_lays_18 : decode cX7_lays 18 = .ok (.iconst 0, 1) := by decide +kernel
theorem dX7_lays_19 : decode cX7_lays 19 = .ok (.iconst 0, 1) := by decide +kernel
theorem dX7_lays_20 : decode cX7_lays 20 = .ok (.iastore, 1) := by decide +kernel
theorem dX7_lays_21 : decode cX7_lays 21 = .ok (.aload_n 0, 1) := by decide +kernel
theorem dX7_lays_22 : decode cX7_lays 22 = .ok (.getfield 61, 3) := by decide +kernel
theorem dX7_lays_25 : decode cX7_lays 25 = .ok (.iconst 0, 1) := by decide +kernel
theorem dX7_lays_26 : decode cX7_lays 26 = .ok (.iload_n 2, 1) := by decide +kernel
theorem dX7_lays_27 : decode cX7_lays 27 = .ok (.iastore, 1) := by decide +kernel
theorem dX7_lays_28 : decode cX7_lays 28 = .ok (.iload_n 3, 1) := by decide +kernel
theorem dX7_lays_29 : decode cX7_lays 29 = .ok (.ifCond .lt 293, 3) := by decide +kernel
theorem dX7_lays_32 : decode cX7_lays 32 = .ok (.aload_n 0, 1) := by decide +kernel
theorem dX7_lays_33 : decode cX7_lays 33 = .ok (.getfield 55, 3) := by decide +kernel
theorem dX7_lays_36 : decode cX7_lays 36 = .ok (.iload_n 3, 1) := by decide +kernel
theorem dX7_lays_37 : decode cX7_lays 37 = .ok (.iaload, 1) := by decide +kernel
theorem dX7_lays_38 : decode cX7_lays 38 = .ok (.istore 4, 2) := by decide +kernel
theorem dX7_lays_40 : decode cX7_lays 40 = .ok (.aload_n 0, 1) := by decide +kernel
theorem dX7_lays_41 : decode cX7_lays 41 = .ok (.getfield 58, 3) := by decide +kernel
theorem dX7_lays_44 : decode cX7_lays 44 = .ok (.iload_n 3, 1) := by decide +kernel
theorem dX7_lays_45 : decode cX7_lays 45 = .ok (.iaload, 1) := by decide +kernel
theorem dX7_lays_46 : decode cX7_lays 46 = .ok (.istore 5, 2) := by decide +kernel
theorem dX7_lays_48 : decode cX7_lays 48 = .ok (.iload 5, 2) := by decide +kernel
theorem dX7_lays_50 : decode cX7_lays 50 = .ok (.aload_n 0, 1) := by decide +kernel
theorem dX7_lays_51 : decode cX7_lays 51 = .ok (.getfield 16, 3) := by decide +kernel
theorem dX7_lays_54 : decode cX7_lays 54 = .ok (.aload_n 0, 1) := by decide +kernel
theorem dX7_lays_55 : decode cX7_lays 55 = .ok (.iload 4, 2) := by decide +kernel
theorem dX7_lays_57 : decode cX7_lays 57 = .ok (.invokevirtual 97, 3) := by decide +kernel
theorem dX7_lays_60 : decode cX7_lays 60 = .ok (.iaload, 1) := by decide +kernel
theorem dX7_lays_61 : decode cX7_lays 61 = .ok (.if_icmp .ne 9, 3) := by decide +kernel
theorem dX7_lays_64 : decode cX7_lays 64 = .ok (.iinc 3 (-1), 3) := by decide +kernel
theorem dX7_lays_67 : decode cX7_lays 67 = .ok (.goto 252, 3) := by decide +kernel
theorem dX7_lays_70 : decode cX7_lays 70 = .ok (.aload_n 0, 1) := by decide +kernel
theorem dX7_lays_71 : decode cX7_lays 71 = .ok (.getfield 13, 3) := by decide +kernel
theorem dX7_lays_74 : decode cX7_lays 74 = .ok (.bipush 30, 2) := by decide +kernel
theorem dX7_lays_76 : decode cX7_lays 76 = .ok (.aload_n 0, 1) := by decide +kernel
theorem dX7_lays_77 : decode cX7_lays 77 = .ok (.iload 4, 2) := by decide +kernel
theorem dX7_lays_79 : decode cX7_lays 79 = .ok (.invokevirtual 97, 3) := by decide +kernel
theorem dX7_lays_82 : decode cX7_lays 82 = .ok (.imul, 1) := by decide +kernel
theorem dX7_lays_83 : decode cX7_lays 83 = .ok (.iload 5, 2) := by decide +kernel
theorem dX7_lays_85 : decode cX7_lays 85 = .ok (.iadd, 1) := by decide +kernel
theorem dX7_lays_86 : decode cX7_lays 86 = .ok (.iaload, 1) := by decide +kernel
theorem dX7_lays_87 : decode cX7_lays 87 = .ok (.istore 6, 2) := by decide +kernel
theorem dX7_lays_89 : decode cX7_lays 89 = .ok (.iload 6, 2) := by decide +kernel
theorem dX7_lays_91 : decode cX7_lays 91 = .ok (.sipush 10000, 3) := by decide +kernel
theorem dX7_lays_94 : decode cX7_lays 94 = .ok (.idiv, 1) := by decide +kernel
theorem dX7_lays_95 : decode cX7_lays 95 = .ok (.istore 7, 2) := by decide +kernel
theorem dX7_lays_97 : decode cX7_lays 97 = .ok (.iload 6, 2) := by decide +kernel
theorem dX7_lays_99 : decode cX7_lays 99 = .ok (.bipush 100, 2) := by decide +kernel
theorem dX7_lays_101 : decode cX7_lays 101 = .ok (.idiv, 1) := by decide +kernel
theorem dX7_lays_102 : decode cX7_lays 102 = .ok (.bipush 100, 2) := by decide +kernel
theorem dX7_lays_104 : decode cX7_lays 104 = .ok (.irem, 1) := by decide +kernel
theorem dX7_lays_105 : decode cX7_lays 105 = .ok (.istore 8, 2) := by decide +kernel
theorem dX7_lays_107 : decode cX7_lays 107 = .ok (.iload 6, 2) := by decide +kernel
theorem dX7_lays_109 : decode cX7_lays 109 = .ok (.bipush 100, 2) := by decide +kernel
theorem dX7_lays_111 : decode cX7_lays 111 = .ok (.irem, 1) := by decide +kernel
theorem dX7_lays_112 : decode cX7_lays 112 = .ok (.iconst 1, 1) := by decide +kernel
theorem dX7_lays_113 : decode cX7_lays 113 = .ok (.isub, 1) := by decide +kernel
theorem dX7_lays_114 : decode cX7_lays 114 = .ok (.istore 9, 2) := by decide +kernel
theorem dX7_lays_116 : decode cX7_lays 116 = .ok (.aload_n 0, 1) := by decide +kernel
theorem dX7_lays_117 : decode cX7_lays 117 = .ok (.getfield 58, 3) := by decide +kernel
theorem dX7_lays_120 : decode cX7_lays 120 = .ok (.iload_n 3, 1) := by decide +kernel
theorem dX7_lays_121 : decode cX7_lays 121 = .ok (.iload 7, 2) := by decide +kernel
theorem dX7_lays_123 : decode cX7_lays 123 = .ok (.iconst 4, 1) := by decide +kernel
theorem dX7_lays_124 : decode cX7_lays 124 = .ok (.if_icmp .ne 29, 3) := by decide +kernel
theorem dX7_lays_127 : decode cX7_lays 127 = .ok (.aload_n 0, 1) := by decide +kernel
theorem dX7_lays_128 : decode cX7_lays 128 = .ok (.getfield 61, 3) := by decide +kernel
theorem dX7_lays_131 : decode cX7_lays 131 = .ok (.iload_n 3, 1) := by decide +kernel
theorem dX7_lays_132 : decode cX7_lays 132 = .ok (.iaload, 1) := by decide +kernel
theorem dX7_lays_133 : decode cX7_lays 133 = .ok (.iload 8, 2) := by decide +kernel
theorem dX7_lays_135 : decode cX7_lays 135 = .ok (.if_icmp .eq 18, 3) := by decide +kernel
theorem dX7_lays_138 : decode cX7_lays 138 = .ok (.aload_n 0, 1) := by decide +kernel
theorem dX7_lays_139 : decode cX7_lays 139 = .ok (.aload_n 0, 1) := by decide +kernel
theorem dX7_lays_140 : decode cX7_lays 140 = .ok (.iload 4, 2) := by decide +kernel
theorem dX7_lays_142 : decode cX7_lays 142 = .ok (.invokevirtual 97, 3) := by decide +kernel
theorem dX7_lays_145 : decode cX7_lays 145 = .ok (.iload 5, 2) := by decide +kernel
theorem dX7_lays_147 : decode cX7_lays 147 = .ok (.invokevirtual 134, 3) := by decide +kernel
theorem dX7_lays_150 : decode cX7_lays 150 = .ok (.goto 7, 3) := by decide +kernel
theorem dX7_lays_153 : decode cX7_lays 153 = .ok (.iload 5, 2) := by decide +kernel
theorem dX7_lays_155 : decode cX7_lays 155 = .ok (.iconst 1, 1) := by decide +kernel
theorem dX7_lays_156 : decode cX7_lays 156 = .ok (.iadd, 1) := by decide +kernel
theorem dX7_lays_157 : decode cX7_lays 157 = .ok (.iastore, 1) := by decide +kernel
theorem dX7_lays_158 : decode cX7_lays 158 = .ok (.iload 7, 2) := by decide +kernel
theorem dX7_lays_160 : decode cX7_lays 160 = .ok (.ifCond .eq 19, 3) := by decide +kernel
theorem dX7_lays_163 : decode cX7_lays 163 = .ok (.iload 7, 2) := by decide +kernel
theorem dX7_lays_165 : decode cX7_lays 165 = .ok (.iconst 1, 1) := by decide +kernel
theorem dX7_lays_166 : decode cX7_lays 166 = .ok (.if_icmp .ne 39, 3) := by decide +kernel
theorem dX7_lays_169 : decode cX7_lays 169 = .ok (.aload_n 0, 1) := by decide +kernel
theorem dX7_lays_170 : decode cX7_lays 170 = .ok (.getfield 61, 3) := by decide +kernel
theorem dX7_lays_173 : decode cX7_lays 173 = .ok (.iload_n 3, 1) := by decide +kernel
theorem dX7_lays_174 : decode cX7_lays 174 = .ok (.iaload, 1) := by decide +kernel
theorem dX7_lays_175 : decode cX7_lays 175 = .ok (.iconst (-1), 1) := by decide +kernel
theorem dX7_lays_176 : decode cX7_lays 176 = .ok (.if_icmp .eq 29, 3) := by decide +kernel
theorem dX7_lays_179 : decode cX7_lays 179 = .ok (.aload_n 0, 1) := by decide +kernel
theorem dX7_lays_180 : decode cX7_lays 180 = .ok (.iconst 0, 1) := by decide +kernel
theorem dX7_lays_181 : decode cX7_lays 181 = .ok (.iload 7, 2) := by decide +kernel
theorem dX7_lays_183 : decode cX7_lays 183 = .ok (.ifCond .ne 8, 3) := by decide +kernel
theorem dX7_lays_186 : decode cX7_lays 186 = .ok (.iload 8, 2) := by decide +kernel
theorem dX7_lays_188 : decode cX7_lays 188 = .ok (.goto 9, 3) := by decide +kernel
theorem dX7_lays_191 : decode cX7_lays 191 = .ok (.aload_n 0, 1) := by decide +kernel
theorem dX7_lays_192 : decode cX7_lays 192 = .ok (.getfield 61, 3) := by decide +kernel
theorem dX7_lays_195 : decode cX7_lays 195 = .ok (.iload_n 3, 1) := by decide +kernel
theorem dX7_lays_196 : decode cX7_lays 196 = .ok (.iaload, 1) := by decide +kernel
theorem dX7_lays_197 : decode cX7_lays 197 = .ok (.iload 4, 2) := by decide +kernel
theorem dX7_lays_199 : decode cX7_lays 199 = .ok (.invokevirtual 138, 3) := by decide +kernel
theorem dX7_lays_202 : decode cX7_lays 202 = .ok (.goto 117, 3) := by decide +kernel
theorem dX7_lays_205 : decode cX7_lays 205 = .ok (.iload 7, 2) := by decide +kernel
theorem dX7_lays_207 : decode cX7_lays 207 = .ok (.bipush 6, 2) := by decide +kernel
theorem dX7_lays_209 : decode cX7_lays 209 = .ok (.if_icmp .eq 10, 3) := by decide +kernel
theorem dX7_lays_212 : decode cX7_lays 212 = .ok (.iload 7, 2) := by decide +kernel
theorem dX7_lays_214 : decode cX7_lays 214 = .ok (.bipush 7, 2) := by decide +kernel
theorem dX7_lays_216 : decode cX7_lays 216 = .ok (.if_icmp .ne 44, 3) := by decide +kernel
theorem dX7_lays_219 : decode cX7_lays 219 = .ok (.aload_n 0, 1) := by decide +kernel
theorem dX7_lays_220 : decode cX7_lays 220 = .ok (.iload 7, 2) := by decide +kernel
theorem dX7_lays_222 : decode cX7_lays 222 = .ok (.bipush 6, 2) := by decide +kernel
theorem dX7_lays_224 : decode cX7_lays 224 = .ok (.if_icmp .ne 7, 3) := by decide +kernel
theorem dX7_lays_227 : decode cX7_lays 227 = .ok (.iconst 1, 1) := by decide +kernel
theorem dX7_lays_228 : decode cX7_lays 228 = .ok (.goto 4, 3) := by decide +kernel
theorem dX7_lays_231 : decode cX7_lays 231 = .ok (.iconst 2, 1) := by decide +kernel
theorem dX7_lays_232 : decode cX7_lays 232 = .ok (.iload 7, 2) := by decide +kernel
theorem dX7_lays_234 : decode cX7_lays 234 = .ok (.bipush 6, 2) := by decide +kernel
theorem dX7_lays_236 : decode cX7_lays 236 = .ok (.if_icmp .ne 8, 3) := by decide +kernel
theorem dX7_lays_239 : decode cX7_lays 239 = .ok (.iload 8, 2) := by decide +kernel
theorem dX7_lays_241 : decode cX7_lays 241 = .ok (.goto 11, 3) := by decide +kernel
theorem dX7_lays_244 : decode cX7_lays 244 = .ok (.bipush 10, 2) := by decide +kernel
theorem dX7_lays_246 : decode cX7_lays 246 = .ok (.iload 8, 2) := by decide +kernel
theorem dX7_lays_248 : decode cX7_lays 248 = .ok (.imul, 1) := by decide +kernel
theorem dX7_lays_249 : decode cX7_lays 249 = .ok (.iload 9, 2) := by decide +kernel
theorem dX7_lays_251 : decode cX7_lays 251 = .ok (.iadd, 1) := by decide +kernel
theorem dX7_lays_252 : decode cX7_lays 252 = .ok (.iload 4, 2) := by decide +kernel
theorem dX7_lays_254 : decode cX7_lays 254 = .ok (.invokevirtual 138, 3) := by decide +kernel
theorem dX7_lays_257 : decode cX7_lays 257 = .ok (.goto 62, 3) := by decide +kernel
theorem dX7_lays_260 : decode cX7_lays 260 = .ok (.iload 7, 2) := by decide +kernel
theorem dX7_lays_262 : decode cX7_lays 262 = .ok (.iconst 2, 1) := by decide +kernel
theorem dX7_lays_263 : decode cX7_lays 263 = .ok (.if_icmp .eq 9, 3) := by decide +kernel
theorem dX7_lays_266 : decode cX7_lays 266 = .ok (.iload 7, 2) := by decide +kernel
theorem dX7_lays_268 : decode cX7_lays 268 = .ok (.iconst 3, 1) := by decide +kernel
theorem dX7_lays_269 : decode cX7_lays 269 = .ok (.if_icmp .ne 50, 3) := by decide +kernel
theorem dX7_lays_272 : decode cX7_lays 272 = .ok (.aload_n 0, 1) := by decide +kernel
theorem dX7_lays_273 : decode cX7_lays 273 = .ok (.getfield 55, 3) := by decide +kernel
theorem dX7_lays_276 : decode cX7_lays 276 = .ok (.iload_n 3, 1) := by decide +kernel
theorem dX7_lays_277 : decode cX7_lays 277 = .ok (.iconst 1, 1) := by decide +kernel
theorem dX7_lays_278 : decode cX7_lays 278 = .ok (.iadd, 1) := by decide +kernel
theorem dX7_lays_279 : decode cX7_lays 279 = .ok (.iload 8, 2) := by decide +kernel
theorem dX7_lays_281 : decode cX7_lays 281 = .ok (.iastore, 1) := by decide +kernel
theorem dX7_lays_282 : decode cX7_lays 282 = .ok (.aload_n 0, 1) := by decide +kernel
theorem dX7_lays_283 : decode cX7_lays 283 = .ok (.getfield 58, 3) := by decide +kernel
theorem dX7_lays_286 : decode cX7_lays 286 = .ok (.iload_n 3, 1) := by decide +kernel
theorem dX7_lays_287 : decode cX7_lays 287 = .ok (.iconst 1, 1) := by decide +kernel
theorem dX7_lays_288 : decode cX7_lays 288 = .ok (.iadd, 1) := by decide +kernel
theorem dX7_lays_289 : decode cX7_lays 289 = .ok (.iconst 0, 1) := by decide +kernel
theorem dX7_lays_290 : decode cX7_lays 290 = .ok (.iastore, 1) := by decide +kernel
theorem dX7_lays_291 : decode cX7_lays 291 = .ok (.aload_n 0, 1) := by decide +kernel
theorem dX7_lays_292 : decode cX7_lays 292 = .ok (.getfield 61, 3) := by decide +kernel
theorem dX7_lays_295 : decode cX7_lays 295 = .ok (.iload_n 3, 1) := by decide +kernel
theorem dX7_lays_296 : decode cX7_lays 296 = .ok (.iconst 1, 1) := by decide +kernel
theorem dX7_lays_297 : decode cX7_lays 297 = .ok (.iadd, 1) := by decide +kernel
theorem dX7_lays_298 : decode cX7_lays 298 = .ok (.iload 7, 2) := by decide +kernel
theorem dX7_lays_300 : decode cX7_lays 300 = .ok (.iconst 2, 1) := by decide +kernel
theorem dX7_lays_301 : decode cX7_lays 301 = .ok (.if_icmp .ne 8, 3) := by decide +kernel
theorem dX7_lays_304 : decode cX7_lays 304 = .ok (.iload 9, 2) := by decide +kernel
theorem dX7_lays_306 : decode cX7_lays 306 = .ok (.goto 9, 3) := by decide +kernel
theorem dX7_lays_309 : decode cX7_lays 309 = .ok (.aload_n 0, 1) := by decide +kernel
theorem dX7_lays_310 : decode cX7_lays 310 = .ok (.getfield 61, 3) := by decide +kernel
theorem dX7_lays_313 : decode cX7_lays 313 = .ok (.iload_n 3, 1) := by decide +kernel
theorem dX7_lays_314 : decode cX7_lays 314 = .ok (.iaload, 1) := by decide +kernel
theorem dX7_lays_315 : decode cX7_lays 315 = .ok (.iastore, 1) := by decide +kernel
theorem dX7_lays_316 : decode cX7_lays 316 = .ok (.iinc 3 1, 3) := by decide +kernel
theorem dX7_lays_319 : decode cX7_lays 319 = .ok (.goto (-291), 3) := by decide +kernel
theorem dX7_lays_322 : decode cX7_lays 322 = .ok (.return_, 1) := by decide +kernel
theorem dX7_isShown_0 : decode cX7_isShown 0 = .ok (.iload_n 1, 1) := by decide +kernel
theorem dX7_isShown_1 : decode cX7_isShown 1 = .ok (.invokestatic 91, 3) := by decide +kernel
theorem dX7_isShown_4 : decode cX7_isShown 4 = .ok (.ifCond .eq 19, 3) := by decide +kernel
theorem dX7_isShown_7 : decode cX7_isShown 7 = .ok (.iload_n 2, 1) := by decide +kernel
theorem dX7_isShown_8 : decode cX7_isShown 8 = .ok (.iconst (-1), 1) := by decide +kernel
theorem dX7_isShown_9 : decode cX7_isShown 9 = .ok (.if_icmp .eq 10, 3) := by decide +kernel
theorem dX7_isShown_12 : decode cX7_isShown 12 = .ok (.iload_n 2, 1) := by decide +kernel
theorem dX7_isShown_13 : decode cX7_isShown 13 = .ok (.invokestatic 75, 3) := by decide +kernel
theorem dX7_isShown_16 : decode cX7_isShown 16 = .ok (.ifCond .eq 7, 3) := by decide +kernel
theorem dX7_isShown_19 : decode cX7_isShown 19 = .ok (.iconst 1, 1) := by decide +kernel
theorem dX7_isShown_20 : decode cX7_isShown 20 = .ok (.goto 4, 3) := by decide +kernel
theorem dX7_isShown_23 : decode cX7_isShown 23 = .ok (.iconst 0, 1) := by decide +kernel
theorem dX7_isShown_24 : decode cX7_isShown 24 = .ok (.istore 4, 2) := by decide +kernel
theorem dX7_isShown_26 : decode cX7_isShown 26 = .ok (.iload 4, 2) := by decide +kernel
theorem dX7_isShown_28 : decode cX7_isShown 28 = .ok (.ifCond .eq 9, 3) := by decide +kernel
theorem dX7_isShown_31 : decode cX7_isShown 31 = .ok (.aload_n 0, 1) := by decide +kernel
theorem dX7_isShown_32 : decode cX7_isShown 32 = .ok (.iload_n 1, 1) := by decide +kernel
theorem dX7_isShown_33 : decode cX7_isShown 33 = .ok (.iload_n 2, 1) := by decide +kernel
theorem dX7_isShown_34 : decode cX7_isShown 34 = .ok (.invokevirtual 142, 3) := by decide +kernel
theorem dX7_isShown_37 : decode cX7_isShown 37 = .ok (.aload_n 0, 1) := by decide +kernel
theorem dX7_isShown_38 : decode cX7_isShown 38 = .ok (.iload_n 1, 1) := by decide +kernel
theorem dX7_isShown_39 : decode cX7_isShown 39 = .ok (.invokestatic 91, 3) := by decide +kernel
theorem dX7_isShown_42 : decode cX7_isShown 42 = .ok (.iload 4, 2) := by decide +kernel
theorem dX7_isShown_44 : decode cX7_isShown 44 = .ok (.iload 4, 2) := by decide +kernel
theorem dX7_isShown_46 : decode cX7_isShown 46 = .ok (.ifCond .eq 21, 3) := by decide +kernel
theorem dX7_isShown_49 : decode cX7_isShown 49 = .ok (.iload_n 3, 1) := by decide +kernel
theorem dX7_isShown_50 : decode cX7_isShown 50 = .ok (.iconst 0, 1) := by decide +kernel
theorem dX7_isShown_51 : decode cX7_isShown 51 = .ok (.aload_n 0, 1) := by decide +kernel
theorem dX7_isShown_52 : decode cX7_isShown 52 = .ok (.getfield 131, 3) := by decide +kernel
theorem dX7_isShown_55 : decode cX7_isShown 55 = .ok (.iconst 1, 1) := by decide +kernel
theorem dX7_isShown_56 : decode cX7_isShown 56 = .ok (.isub, 1) := by decide +kernel
theorem dX7_isShown_57 : decode cX7_isShown 57 = .ok (.invokestatic 68, 3) := by decide +kernel
theorem dX7_isShown_60 : decode cX7_isShown 60 = .ok (.ifCond .eq 7, 3) := by decide +kernel
theorem dX7_isShown_63 : decode cX7_isShown 63 = .ok (.iconst 1, 1) := by decide +kernel
theorem dX7_isShown_64 : decode cX7_isShown 64 = .ok (.goto 4, 3) := by decide +kernel
theorem dX7_isShown_67 : decode cX7_isShown 67 = .ok (.iconst 0, 1) := by decide +kernel
theorem dX7_isShown_68 : decode cX7_isShown 68 = .ok (.invokevirtual 83, 3) := by decide +kernel
theorem dX7_isShown_71 : decode cX7_isShown 71 = .ok (.ireturn, 1) := by decide +kernel
theorem dX7_items_0 : decode cX7_items 0 = .ok (.iload_n 1, 1) := by decide +kernel
theorem dX7_items_1 : decode cX7_items 1 = .ok (.invokestatic 91, 3) := by decide +kernel
theorem dX7_items_4 : decode cX7_items 4 = .ok (.ifCond .eq 19, 3) := by decide +kernel
theorem dX7_items_7 : decode cX7_items 7 = .ok (.iload_n 2, 1) := by decide +kernel
theorem dX7_items_8 : decode cX7_items 8 = .ok (.iconst (-1), 1) := by decide +kernel
theorem dX7_items_9 : decode cX7_items 9 = .ok (.if_icmp .eq 10, 3) := by decide +kernel
theorem dX7_items_12 : decode cX7_items 12 = .ok (.iload_n 2, 1) := by decide +kernel
theorem dX7_items_13 : decode cX7_items 13 = .ok (.invokestatic 75, 3) := by decide +kernel
theorem dX7_items_16 : decode cX7_items 16 = .ok (.ifCond .eq 7, 3) := by decide +kernel
theorem dX7_items_19 : decode cX7_items 19 = .ok (.iconst 1, 1) := by decide +kernel
theorem dX7_items_20 : decode cX7_items 20 = .ok (.goto 4, 3) := by decide +kernel
theorem dX7_items_23 : decode cX7_items 23 = .ok (.iconst 0, 1) := by decide +kernel
theorem dX7_items_24 : decode cX7_items 24 = .ok (.istore_n 3, 1) := by decide +kernel
theorem dX7_items_25 : decode cX7_items 25 = .ok (.aload_n 0, 1) := by decide +kernel
theorem dX7_items_26 : decode cX7_items 26 = .ok (.iload_n 1, 1) := by decide +kernel
theorem dX7_items_27 : decode cX7_items 27 = .ok (.invokestatic 91, 3) := by decide +kernel
theorem dX7_items_30 : decode cX7_items 30 = .ok (.iload_n 3, 1) := by decide +kernel
theorem dX7_items_31 : decode cX7_items 31 = .ok (.iconst 1, 1) := by decide +kernel
theorem dX7_items_32 : decode cX7_items 32 = .ok (.invokevirtual 83, 3) := by decide +kernel
theorem dX7_items_35 : decode cX7_items 35 = .ok (.ifCond .ne 5, 3) := by decide +kernel
theorem dX7_items_38 : decode cX7_items 38 = .ok (.iconst 0, 1) := by decide +kernel
theorem dX7_items_39 : decode cX7_items 39 = .ok (.ireturn, 1) := by decide +kernel
theorem dX7_items_40 : decode cX7_items 40 = .ok (.aload_n 0, 1) := by decide +kernel
theorem dX7_items_41 : decode cX7_items 41 = .ok (.iload_n 1, 1) := by decide +kernel
theorem dX7_items_42 : decode cX7_items 42 = .ok (.iload_n 2, 1) := by decide +kernel
theorem dX7_items_43 : decode cX7_items 43 = .ok (.invokevirtual 142, 3) := by decide +kernel
theorem dX7_items_46 : decode cX7_items 46 = .ok (.aload_n 0, 1) := by decide +kernel
theorem dX7_items_47 : decode cX7_items 47 = .ok (.getfield 131, 3) := by decide +kernel
theorem dX7_items_50 : decode cX7_items 50 = .ok (.ireturn, 1) := by decide +kernel
theorem dX7_sortAt_0 : decode cX7_sortAt 0 = .ok (.aload_n 0, 1) := by decide +kernel
theorem dX7_sortAt_1 : decode cX7_sortAt 1 = .ok (.iload_n 1, 1) := by decide +kernel
theorem dX7_sortAt_2 : decode cX7_sortAt 2 = .ok (.iload_n 2, 1) := by decide +kernel
theorem dX7_sortAt_3 : decode cX7_sortAt 3 = .ok (.iload_n 3, 1) := by decide +kernel
theorem dX7_sortAt_4 : decode cX7_sortAt 4 = .ok (.invokevirtual 145, 3) := by decide +kernel
theorem dX7_sortAt_7 : decode cX7_sortAt 7 = .ok (.ifCond .eq 12, 3) := by decide +kernel
theorem dX7_sortAt_10 : decode cX7_sortAt 10 = .ok (.aload_n 0, 1) := by decide +kernel
theorem dX7_sortAt_11 : decode cX7_sortAt 11 = .ok (.getfield 46, 3) := by decide +kernel
theorem dX7_sortAt_14 : decode cX7_sortAt 14 = .ok (.iload_n 3, 1) := by decide +kernel
theorem dX7_sortAt_15 : decode cX7_sortAt 15 = .ok (.iaload, 1) := by decide +kernel
theorem dX7_sortAt_16 : decode cX7_sortAt 16 = .ok (.goto 4, 3) := by decide +kernel
theorem dX7_sortAt_19 : decode cX7_sortAt 19 = .ok (.iconst 0, 1) := by decide +kernel
theorem dX7_sortAt_20 : decode cX7_sortAt 20 = .ok (.ireturn, 1) := by decide +kernel
theorem dX7_itemAt_0 : decode cX7_itemAt 0 = .ok (.aload_n 0, 1) := by decide +kernel
theorem dX7_itemAt_1 : decode cX7_itemAt 1 = .ok (.iload_n 1, 1) := by decide +kernel
theorem dX7_itemAt_2 : decode cX7_itemAt 2 = .ok (.iload_n 2, 1) := by decide +kernel
theorem dX7_itemAt_3 : decode cX7_itemAt 3 = .ok (.iload_n 3, 1) := by decide +kernel
theorem dX7_itemAt_4 : decode cX7_itemAt 4 = .ok (.invokevirtual 145, 3) := by decide +kernel
theorem dX7_itemAt_7 : decode cX7_itemAt 7 = .ok (.ifCond .eq 12, 3) := by decide +kernel
theorem dX7_itemAt_10 : decode cX7_itemAt 10 = .ok (.aload_n 0, 1) := by decide +kernel
theorem dX7_itemAt_11 : decode cX7_itemAt 11 = .ok (.getfield 49, 3) := by decide +kernel
theorem dX7_itemAt_14 : decode cX7_itemAt 14 = .ok (.iload_n 3, 1) := by decide +kernel
theorem dX7_itemAt_15 : decode cX7_itemAt 15 = .ok (.iaload, 1) := by decide +kernel
theorem dX7_itemAt_16 : decode cX7_itemAt 16 = .ok (.goto 4, 3) := by decide +kernel
theorem dX7_itemAt_19 : decode cX7_itemAt 19 = .ok (.iconst 0, 1) := by decide +kernel
theorem dX7_itemAt_20 : decode cX7_itemAt 20 = .ok (.ireturn, 1) := by decide +kernel
theorem dX7_itemAnew_0 : decode cX7_itemAnew 0 = .ok (.aload_n 0, 1) := by decide +kernel
theorem dX7_itemAnew_1 : decode cX7_itemAnew 1 = .ok (.iload_n 1, 1) := by decide +kernel
theorem dX7_itemAnew_2 : decode cX7_itemAnew 2 = .ok (.iload_n 2, 1) := by decide +kernel
theorem dX7_itemAnew_3 : decode cX7_itemAnew 3 = .ok (.iload_n 3, 1) := by decide +kernel
theorem dX7_itemAnew_4 : decode cX7_itemAnew 4 = .ok (.invokevirtual 148, 3) := by decide +kernel
theorem dX7_itemAnew_7 : decode cX7_itemAnew 7 = .ok (.ireturn, 1) := by decide +kernel
theorem dX7_sourceAt_0 : decode cX7_sourceAt 0 = .ok (.aload_n 0, 1) := by decide +kernel
theorem dX7_sourceAt_1 : decode cX7_sourceAt 1 = .ok (.iload_n 1, 1) := by decide +kernel
theorem dX7_sourceAt_2 : decode cX7_sourceAt 2 = .ok (.iload_n 2, 1) := by decide +kernel
theorem dX7_sourceAt_3 : decode cX7_sourceAt 3 = .ok (.iload_n 3, 1) := by decide +kernel
theorem dX7_sourceAt_4 : decode cX7_sourceAt 4 = .ok (.invokevirtual 145, 3) := by decide +kernel
theorem dX7_sourceAt_7 : decode cX7_sourceAt 7 = .ok (.ifCond .eq 12, 3) := by decide +kernel
theorem dX7_sourceAt_10 : decode cX7_sourceAt 10 = .ok (.aload_n 0, 1) := by decide +kernel
theorem dX7_sourceAt_11 : decode cX7_sourceAt 11 = .ok (.getfield 52, 3) := by decide +kernel
theorem dX7_sourceAt_14 : decode cX7_sourceAt 14 = .ok (.iload_n 3, 1) := by decide +kernel
theorem dX7_sourceAt_15 : decode cX7_sourceAt 15 = .ok (.iaload, 1) := by decide +kernel
theorem dX7_sourceAt_16 : decode cX7_sourceAt 16 = .ok (.goto 4, 3) := by decide +kernel
theorem dX7_sourceAt_19 : decode cX7_sourceAt 19 = .ok (.iconst 0, 1) := by decide +kernel
theorem dX7_sourceAt_20 : decode cX7_sourceAt 20 = .ok (.ireturn, 1) := by decide +kernel
theorem dX7_stands_0 : decode cX7_stands 0 = .ok (.iload_n 1, 1) := by decide +kernel
theorem dX7_stands_1 : decode cX7_stands 1 = .ok (.istore_n 2, 1) := by decide +kernel
theorem dX7_stands_2 : decode cX7_stands 2 = .ok (.iconst 0, 1) := by decide +kernel
theorem dX7_stands_3 : decode cX7_stands 3 = .ok (.istore_n 3, 1) := by decide +kernel
theorem dX7_stands_4 : decode cX7_stands 4 = .ok (.aload_n 0, 1) := by decide +kernel
theorem dX7_stands_5 : decode cX7_stands 5 = .ok (.getfield 16, 3) := by decide +kernel
theorem dX7_stands_8 : decode cX7_stands 8 = .ok (.aload_n 0, 1) := by decide +kernel
theorem dX7_stands_9 : decode cX7_stands 9 = .ok (.iload_n 2, 1) := by decide +kernel
theorem dX7_stands_10 : decode cX7_stands 10 = .ok (.invokevirtual 97, 3) := by decide +kernel
theorem dX7_stands_13 : decode cX7_stands 13 = .ok (.iaload, 1) := by decide +kernel
theorem dX7_stands_14 : decode cX7_stands 14 = .ok (.iconst 1, 1) := by decide +kernel
theorem dX7_stands_15 : decode cX7_stands 15 = .ok (.if_icmp .ne 58, 3) := by decide +kernel
theorem dX7_stands_18 : decode cX7_stands 18 = .ok (.aload_n 0, 1) := by decide +kernel
theorem dX7_stands_19 : decode cX7_stands 19 = .ok (.getfield 13, 3) := by decide +kernel
theorem dX7_stands_22 : decode cX7_stands 22 = .ok (.bipush 30, 2) := by decide +kernel
theorem dX7_stands_24 : decode cX7_stands 24 = .ok (.aload_n 0, 1) := by decide +kernel
theorem dX7_stands_25 : decode cX7_stands 25 = .ok (.iload_n 2, 1) := by decide +kernel
theorem dX7_stands_26 : decode cX7_stands 26 = .ok (.invokevirtual 97, 3) := by decide +kernel
theorem dX7_stands_29 : decode cX7_stands 29 = .ok (.imul, 1) := by decide +kernel
theorem dX7_stands_30 : decode cX7_stands 30 = .ok (.iaload, 1) := by decide +kernel
theorem dX7_stands_31 : decode cX7_stands 31 = .ok (.sipush 10000, 3) := by decide +kernel
theorem dX7_stands_34 : decode cX7_stands 34 = .ok (.idiv, 1) := by decide +kernel
theorem dX7_stands_35 : decode cX7_stands 35 = .ok (.bipush 8, 2) := by decide +kernel
theorem dX7_stands_37 : decode cX7_stands 37 = .ok (.if_icmp .ne 36, 3) := by decide +kernel
theorem dX7_stands_40 : decode cX7_stands 40 = .ok (.iload_n 3, 1) := by decide +kernel
theorem dX7_stands_41 : decode cX7_stands 41 = .ok (.iconst 3, 1) := by decide +kernel
theorem dX7_stands_42 : decode cX7_stands 42 = .ok (.if_icmp .ne 5, 3) := by decide +kernel
theorem dX7_stands_45 : decode cX7_stands 45 = .ok (.iconst (-1), 1) := by decide +kernel
theorem dX7_stands_46 : decode cX7_stands 46 = .ok (.ireturn, 1) := by decide +kernel
theorem dX7_stands_47 : decode cX7_stands 47 = .ok (.aload_n 0, 1) := by decide +kernel
theorem dX7_stands_48 : decode cX7_stands 48 = .ok (.getfield 13, 3) := by decide +kernel
theorem dX7_stands_51 : decode cX7_stands 51 = .ok (.bipush 30, 2) := by decide +kernel
theorem dX7_stands_53 : decode cX7_stands 53 = .ok (.aload_n 0, 1) := by decide +kernel
theorem dX7_stands_54 : decode cX7_stands 54 = .ok (.iload_n 2, 1) := by decide +kernel
theorem dX7_stands_55 : decode cX7_stands 55 = .ok (.invokevirtual 97, 3) := by decide +kernel
theorem dX7_stands_58 : decode cX7_stands 58 = .ok (.imul, 1) := by decide +kernel
theorem dX7_stands_59 : decode cX7_stands 59 = .ok (.iaload, 1) := by decide +kernel
theorem dX7_stands_60 : decode cX7_stands 60 = .ok (.bipush 100, 2) := by decide +kernel
theorem dX7_stands_62 : decode cX7_stands 62 = .ok (.idiv, 1) := by decide +kernel
theorem dX7_stands_63 : decode cX7_stands 63 = .ok (.bipush 100, 2) := by decide +kernel
theorem dX7_stands_65 : decode cX7_stands 65 = .ok (.irem, 1) := by decide +kernel
theorem dX7_stands_66 : decode cX7_stands 66 = .ok (.istore_n 2, 1) := by decide +kernel
theorem dX7_stands_67 : decode cX7_stands 67 = .ok (.iinc 3 1, 3) := by decide +kernel
theorem dX7_stands_70 : decode cX7_stands 70 = .ok (.goto (-66), 3) := by decide +kernel
theorem dX7_stands_73 : decode cX7_stands 73 = .ok (.iload_n 2, 1) := by decide +kernel
theorem dX7_stands_74 : decode cX7_stands 74 = .ok (.ireturn, 1) := by decide +kernel
theorem dX7_standsFor_0 : decode cX7_standsFor 0 = .ok (.aload_n 0, 1) := by decide +kernel
theorem dX7_standsFor_1 : decode cX7_standsFor 1 = .ok (.iload_n 1, 1) := by decide +kernel
theorem dX7_standsFor_2 : decode cX7_standsFor 2 = .ok (.invokestatic 91, 3) := by decide +kernel
theorem dX7_standsFor_5 : decode cX7_standsFor 5 = .ok (.iconst 1, 1) := by decide +kernel
theorem dX7_standsFor_6 : decode cX7_standsFor 6 = .ok (.iconst 1, 1) := by decide +kernel
theorem dX7_standsFor_7 : decode cX7_standsFor 7 = .ok (.invokevirtual 83, 3) := by decide +kernel
theorem dX7_standsFor_10 : decode cX7_standsFor 10 = .ok (.ifCond .eq 11, 3) := by decide +kernel
theorem dX7_standsFor_13 : decode cX7_standsFor 13 = .ok (.aload_n 0, 1) := by decide +kernel
theorem dX7_standsFor_14 : decode cX7_standsFor 14 = .ok (.iload_n 1, 1) := by decide +kernel
theorem dX7_standsFor_15 : decode cX7_standsFor 15 = .ok (.invokevirtual 151, 3) := by decide +kernel
theorem dX7_standsFor_18 : decode cX7_standsFor 18 = .ok (.goto 4, 3) := by decide +kernel
theorem dX7_standsFor_21 : decode cX7_standsFor 21 = .ok (.iconst 0, 1) := by decide +kernel
theorem dX7_standsFor_22 : decode cX7_standsFor 22 = .ok (.ireturn, 1) := by decide +kernel
theorem dX7_showsAnchor_0 : decode cX7_showsAnchor 0 = .ok (.iconst 0, 1) := by decide +kernel
theorem dX7_showsAnchor_1 : decode cX7_showsAnchor 1 = .ok (.istore_n 3, 1) := by decide +kernel
theorem dX7_showsAnchor_2 : decode cX7_showsAnchor 2 = .ok (.aload_n 0, 1) := by decide +kernel
theorem dX7_showsAnchor_3 : decode cX7_showsAnchor 3 = .ok (.iload_n 1, 1) := by decide +kernel
theorem dX7_showsAnchor_4 : decode cX7_showsAnchor 4 = .ok (.iconst (-1), 1) := by decide +kernel
theorem dX7_showsAnchor_5 : decode cX7_showsAnchor 5 = .ok (.invokevirtual 142, 3) := by decide +kernel
theorem dX7_showsAnchor_8 : decode cX7_showsAnchor 8 = .ok (.iconst 0, 1) := by decide +kernel
theorem dX7_showsAnchor_9 : decode cX7_showsAnchor 9 = .ok (.istore 4, 2) := by decide +kernel
theorem dX7_showsAnchor_11 : decode cX7_showsAnchor 11 = .ok (.iload 4, 2) := by decide +kernel
theorem dX7_showsAnchor_13 : decode cX7_showsAnchor 13 = .ok (.aload_n 0, 1) := by decide +kernel
theorem dX7_showsAnchor_14 : decode cX7_showsAnchor 14 = .ok (.getfield 131, 3) := by decide +kernel
theorem dX7_showsAnchor_17 : decode cX7_showsAnchor 17 = .ok (.if_icmp .ge 41, 3) := by decide +kernel
theorem dX7_showsAnchor_20 : decode cX7_showsAnchor 20 = .ok (.iload_n 3, 1) := by decide +kernel
theorem dX7_showsAnchor_21 : decode cX7_showsAnchor 21 = .ok (.ifCond .ne 25, 3) := by decide +kernel
theorem dX7_showsAnchor_24 : decode cX7_showsAnchor 24 = .ok (.aload_n 0, 1) := by decide +kernel
theorem dX7_showsAnchor_25 : decode cX7_showsAnchor 25 = .ok (.getfield 46, 3) := by decide +kernel
theorem dX7_showsAnchor_28 : decode cX7_showsAnchor 28 = .ok (.iload 4, 2) := by decide +kernel
theorem dX7_showsAnchor_30 : decode cX7_showsAnchor 30 = .ok (.iaload, 1) := by decide +kernel
theorem dX7_showsAnchor_31 : decode cX7_showsAnchor 31 = .ok (.iconst 1, 1) := by decide +kernel
theorem dX7_showsAnchor_32 : decode cX7_showsAnchor 32 = .ok (.if_icmp .ne 18, 3) := by decide +kernel
theorem dX7_showsAnchor_35 : decode cX7_showsAnchor 35 = .ok (.aload_n 0, 1) := by decide +kernel
theorem dX7_showsAnchor_36 : decode cX7_showsAnchor 36 = .ok (.getfield 49, 3) := by decide +kernel
theorem dX7_showsAnchor_39 : decode cX7_showsAnchor 39 = .ok (.iload 4, 2) := by decide +kernel
theorem dX7_showsAnchor_41 : decode cX7_showsAnchor 41 = .ok (.iaload, 1) := by decide +kernel
theorem dX7_showsAnchor_42 : decode cX7_showsAnchor 42 = .ok (.iload_n 2, 1) := by decide +kernel
theorem dX7_showsAnchor_43 : decode cX7_showsAnchor 43 = .ok (.if_icmp .ne 7, 3) := by decide +kernel
theorem dX7_showsAnchor_46 : decode cX7_showsAnchor 46 = .ok (.iconst 1, 1) := by decide +kernel
theorem dX7_showsAnchor_47 : decode cX7_showsAnchor 47 = .ok (.goto 4, 3) := by decide +kernel
theorem dX7_showsAnchor_50 : decode cX7_showsAnchor 50 = .ok (.iconst 0, 1) := by decide +kernel
theorem dX7_showsAnchor_51 : decode cX7_showsAnchor 51 = .ok (.istore_n 3, 1) := by decide +kernel
theorem dX7_showsAnchor_52 : decode cX7_showsAnchor 52 = .ok (.iinc 4 1, 3) := by decide +kernel
theorem dX7_showsAnchor_55 : decode cX7_showsAnchor 55 = .ok (.goto (-44), 3) := by decide +kernel
theorem dX7_showsAnchor_58 : decode cX7_showsAnchor 58 = .ok (.iload_n 3, 1) := by decide +kernel
theorem dX7_showsAnchor_59 : decode cX7_showsAnchor 59 = .ok (.ireturn, 1) := by decide +kernel
theorem dX7_isGood_0 : decode cX7_isGood 0 = .ok (.aload_n 0, 1) := by decide +kernel
theorem dX7_isGood_1 : decode cX7_isGood 1 = .ok (.iload_n 1, 1) := by decide +kernel
theorem dX7_isGood_2 : decode cX7_isGood 2 = .ok (.bipush 10, 2) := by decide +kernel
theorem dX7_isGood_4 : decode cX7_isGood 4 = .ok (.idiv, 1) := by decide +kernel
theorem dX7_isGood_5 : decode cX7_isGood 5 = .ok (.invokevirtual 151, 3) := by decide +kernel
theorem dX7_isGood_8 : decode cX7_isGood 8 = .ok (.istore_n 2, 1) := by decide +kernel
theorem dX7_isGood_9 : decode cX7_isGood 9 = .ok (.iload_n 2, 1) := by decide +kernel
theorem dX7_isGood_10 : decode cX7_isGood 10 = .ok (.iconst (-1), 1) := by decide +kernel
theorem dX7_isGood_11 : decode cX7_isGood 11 = .ok (.if_icmp .eq 19, 3) := by decide +kernel
theorem dX7_isGood_14 : decode cX7_isGood 14 = .ok (.aload_n 0, 1) := by decide +kernel
theorem dX7_isGood_15 : decode cX7_isGood 15 = .ok (.iload_n 2, 1) := by decide +kernel
theorem dX7_isGood_16 : decode cX7_isGood 16 = .ok (.iload_n 1, 1) := by decide +kernel
theorem dX7_isGood_17 : decode cX7_isGood 17 = .ok (.bipush 10, 2) := by decide +kernel
theorem dX7_isGood_19 : decode cX7_isGood 19 = .ok (.irem, 1) := by decide +kernel
theorem dX7_isGood_20 : decode cX7_isGood 20 = .ok (.invokevirtual 154, 3) := by decide +kernel
theorem dX7_isGood_23 : decode cX7_isGood 23 = .ok (.ifCond .eq 7, 3) := by decide +kernel
theorem dX7_isGood_26 : decode cX7_isGood 26 = .ok (.iconst 1, 1) := by decide +kernel
theorem dX7_isGood_27 : decode cX7_isGood 27 = .ok (.goto 4, 3) := by decide +kernel
theorem dX7_isGood_30 : decode cX7_isGood 30 = .ok (.iconst 0, 1) := by decide +kernel
theorem dX7_isGood_31 : decode cX7_isGood 31 = .ok (.ireturn, 1) := by decide +kernel
theorem dX7_linkAt_0 : decode cX7_linkAt 0 = .ok (.iconst 0, 1) := by decide +kernel
theorem dX7_linkAt_1 : decode cX7_linkAt 1 = .ok (.istore_n 3, 1) := by decide +kernel
theorem dX7_linkAt_2 : decode cX7_linkAt 2 = .ok (.aload_n 0, 1) := by decide +kernel
theorem dX7_linkAt_3 : decode cX7_linkAt 3 = .ok (.iload_n 1, 1) := by decide +kernel
theorem dX7_linkAt_4 : decode cX7_linkAt 4 = .ok (.iconst (-1), 1) := by decide +kernel
theorem dX7_linkAt_5 : decode cX7_linkAt 5 = .ok (.invokevirtual 142, 3) := by decide +kernel
theorem dX7_linkAt_8 : decode cX7_linkAt 8 = .ok (.iconst 0, 1) := by decide +kernel
theorem dX7_linkAt_9 : decode cX7_linkAt 9 = .ok (.istore 4, 2) := by decide +kernel
theorem dX7_linkAt_11 : decode cX7_linkAt 11 = .ok (.iload 4, 2) := by decide +kernel
theorem dX7_linkAt_13 : decode cX7_linkAt 13 = .ok (.aload_n 0, 1) := by decide +kernel
theorem dX7_linkAt_14 : decode cX7_linkAt 14 = .ok (.getfield 131, 3) := by decide +kernel
theorem dX7_linkAt_17 : decode cX7_linkAt 17 = .ok (.if_icmp .ge 36, 3) := by decide +kernel
theorem dX7_linkAt_20 : decode cX7_linkAt 20 = .ok (.aload_n 0, 1) := by decide +kernel
theorem dX7_linkAt_21 : decode cX7_linkAt 21 = .ok (.getfield 46, 3) := by decide +kernel
theorem dX7_linkAt_24 : decode cX7_linkAt 24 = .ok (.iload 4, 2) := by decide +kernel
theorem dX7_linkAt_26 : decode cX7_linkAt 26 = .ok (.iaload, 1) := by decide +kernel
theorem dX7_linkAt_27 : decode cX7_linkAt 27 = .ok (.iconst 2, 1) := by decide +kernel
theorem dX7_linkAt_28 : decode cX7_linkAt 28 = .ok (.if_icmp .ne 19, 3) := by decide +kernel
theorem dX7_linkAt_31 : decode cX7_linkAt 31 = .ok (.iload_n 3, 1) := by decide +kernel
theorem dX7_linkAt_32 : decode cX7_linkAt 32 = .ok (.iload_n 2, 1) := by decide +kernel
theorem dX7_linkAt_33 : decode cX7_linkAt 33 = .ok (.if_icmp .ne 11, 3) := by decide +kernel
theorem dX7_linkAt_36 : decode cX7_linkAt 36 = .ok (.aload_n 0, 1) := by decide +kernel
theorem dX7_linkAt_37 : decode cX7_linkAt 37 = .ok (.getfield 49, 3) := by decide +kernel
theorem dX7_linkAt_40 : decode cX7_linkAt 40 = .ok (.iload 4, 2) := by decide +kernel
theorem dX7_linkAt_42 : decode cX7_linkAt 42 = .ok (.iaload, 1) := by decide +kernel
theorem dX7_linkAt_43 : decode cX7_linkAt 43 = .ok (.ireturn, 1) := by decide +kernel
theorem dX7_linkAt_44 : decode cX7_linkAt 44 = .ok (.iinc 3 1, 3) := by decide +kernel
theorem dX7_linkAt_47 : decode cX7_linkAt 47 = .ok (.iinc 4 1, 3) := by decide +kernel
theorem dX7_linkAt_50 : decode cX7_linkAt 50 = .ok (.goto (-39), 3) := by decide +kernel
theorem dX7_linkAt_53 : decode cX7_linkAt 53 = .ok (.iconst (-1), 1) := by decide +kernel
theorem dX7_linkAt_54 : decode cX7_linkAt 54 = .ok (.ireturn, 1) := by decide +kernel
theorem dX7_links_0 : decode cX7_links 0 = .ok (.aload_n 0, 1) := by decide +kernel
theorem dX7_links_1 : decode cX7_links 1 = .ok (.iload_n 1, 1) := by decide +kernel
theorem dX7_links_2 : decode cX7_links 2 = .ok (.invokestatic 91, 3) := by decide +kernel
theorem dX7_links_5 : decode cX7_links 5 = .ok (.iconst 1, 1) := by decide +kernel
theorem dX7_links_6 : decode cX7_links 6 = .ok (.iconst 1, 1) := by decide +kernel
theorem dX7_links_7 : decode cX7_links 7 = .ok (.invokevirtual 83, 3) := by decide +kernel
theorem dX7_links_10 : decode cX7_links 10 = .ok (.ifCond .ne 5, 3) := by decide +kernel
theorem dX7_links_13 : decode cX7_links 13 = .ok (.iconst 0, 1) := by decide +kernel
theorem dX7_links_14 : decode cX7_links 14 = .ok (.ireturn, 1) := by decide +kernel
theorem dX7_links_15 : decode cX7_links 15 = .ok (.iconst 0, 1) := by decide +kernel
theorem dX7_links_16 : decode cX7_links 16 = .ok (.istore_n 2, 1) := by decide +kernel
theorem dX7_links_17 : decode cX7_links 17 = .ok (.aload_n 0, 1) := by decide +kernel
theorem dX7_links_18 : decode cX7_links 18 = .ok (.iload_n 1, 1) := by decide +kernel
theorem dX7_links_19 : decode cX7_links 19 = .ok (.iload_n 2, 1) := by decide +kernel
theorem dX7_links_20 : decode cX7_links 20 = .ok (.invokevirtual 157, 3) := by decide +kernel
theorem dX7_links_23 : decode cX7_links 23 = .ok (.iconst (-1), 1) := by decide +kernel
theorem dX7_links_24 : decode cX7_links 24 = .ok (.if_icmp .eq 9, 3) := by decide +kernel
theorem dX7_links_27 : decode cX7_links 27 = .ok (.iinc 2 1, 3) := by decide +kernel
theorem dX7_links_30 : decode cX7_links 30 = .ok (.goto (-13), 3) := by decide +kernel
theorem dX7_links_33 : decode cX7_links 33 = .ok (.iload_n 2, 1) := by decide +kernel
theorem dX7_links_34 : decode cX7_links 34 = .ok (.ireturn, 1) := by decide +kernel
theorem dX7_broken_0 : decode cX7_broken 0 = .ok (.aload_n 0, 1) := by decide +kernel
theorem dX7_broken_1 : decode cX7_broken 1 = .ok (.iload_n 1, 1) := by decide +kernel
theorem dX7_broken_2 : decode cX7_broken 2 = .ok (.invokestatic 91, 3) := by decide +kernel
theorem dX7_broken_5 : decode cX7_broken 5 = .ok (.iconst 1, 1) := by decide +kernel
theorem dX7_broken_6 : decode cX7_broken 6 = .ok (.iconst 1, 1) := by decide +kernel
theorem dX7_broken_7 : decode cX7_broken 7 = .ok (.invokevirtual 83, 3) := by decide +kernel
theorem dX7_broken_10 : decode cX7_broken 10 = .ok (.ifCond .ne 5, 3) := by decide +kernel
theorem dX7_broken_13 : decode cX7_broken 13 = .ok (.iconst 0, 1) := by decide +kernel
theorem dX7_broken_14 : decode cX7_broken 14 = .ok (.ireturn, 1) := by decide +kernel
theorem dX7_broken_15 : decode cX7_broken 15 = .ok (.iconst 0, 1) := by decide +kernel
theorem dX7_broken_16 : decode cX7_broken 16 = .ok (.istore_n 2, 1) := by decide +kernel
theorem dX7_broken_17 : decode cX7_broken 17 = .ok (.iconst 0, 1) := by decide +kernel
theorem dX7_broken_18 : decode cX7_broken 18 = .ok (.istore_n 3, 1) := by decide +kernel
theorem dX7_broken_19 : decode cX7_broken 19 = .ok (.aload_n 0, 1) := by decide +kernel
theorem dX7_broken_20 : decode cX7_broken 20 = .ok (.iload_n 1, 1) := by decide +kernel
theorem dX7_broken_21 : decode cX7_broken 21 = .ok (.iload_n 3, 1) := by decide +kernel
theorem dX7_broken_22 : decode cX7_broken 22 = .ok (.invokevirtual 157, 3) := by decide +kernel
theorem dX7_broken_25 : decode cX7_broken 25 = .ok (.iconst (-1), 1) := by decide +kernel
theorem dX7_broken_26 : decode cX7_broken 26 = .ok (.if_icmp .eq 30, 3) := by decide +kernel
theorem dX7_broken_29 : decode cX7_broken 29 = .ok (.iload_n 2, 1) := by decide +kernel
theorem dX7_broken_30 : decode cX7_broken 30 = .ok (.aload_n 0, 1) := by decide +kernel
theorem dX7_broken_31 : decode cX7_broken 31 = .ok (.aload_n 0, 1) := by decide +kernel
theorem dX7_broken_32 : decode cX7_broken 32 = .ok (.iload_n 1, 1) := by decide +kernel
theorem dX7_broken_33 : decode cX7_broken 33 = .ok (.iload_n 3, 1) := by decide +kernel
theorem dX7_broken_34 : decode cX7_broken 34 = .ok (.invokevirtual 157, 3) := by decide +kernel
theorem dX7_broken_37 : decode cX7_broken 37 = .ok (.invokevirtual 160, 3) := by decide +kernel
theorem dX7_broken_40 : decode cX7_broken 40 = .ok (.ifCond .eq 7, 3) := by decide +kernel
theorem dX7_broken_43 : decode cX7_broken 43 = .ok (.iconst 0, 1) := by decide +kernel
theorem dX7_broken_44 : decode cX7_broken 44 = .ok (.goto 4, 3) := by decide +kernel
theorem dX7_broken_47 : decode cX7_broken 47 = .ok (.iconst 1, 1) := by decide +kernel
theorem dX7_broken_48 : decode cX7_broken 48 = .ok (.iadd, 1) := by decide +kernel
theorem dX7_broken_49 : decode cX7_broken 49 = .ok (.istore_n 2, 1) := by decide +kernel
theorem dX7_broken_50 : decode cX7_broken 50 = .ok (.iinc 3 1, 3) := by decide +kernel
theorem dX7_broken_53 : decode cX7_broken 53 = .ok (.goto (-34), 3) := by decide +kernel
theorem dX7_broken_56 : decode cX7_broken 56 = .ok (.iload_n 2, 1) := by decide +kernel
theorem dX7_broken_57 : decode cX7_broken 57 = .ok (.ireturn, 1) := by decide +kernel
theorem dX7_firstBroken_0 : decode cX7_firstBroken 0 = .ok (.aload_n 0, 1) := by decide +kernel
theorem dX7_firstBroken_1 : decode cX7_firstBroken 1 = .ok (.iload_n 1, 1) := by decide +kernel
theorem dX7_firstBroken_2 : decode cX7_firstBroken 2 = .ok (.invokestatic 91, 3) := by decide +kernel
theorem dX7_firstBroken_5 : decode cX7_firstBroken 5 = .ok (.iconst 1, 1) := by decide +kernel
theorem dX7_firstBroken_6 : decode cX7_firstBroken 6 = .ok (.iconst 1, 1) := by decide +kernel
theorem dX7_firstBroken_7 : decode cX7_firstBroken 7 = .ok (.invokevirtual 83, 3) := by decide +kernel
theorem dX7_firstBroken_10 : decode cX7_firstBroken 10 = .ok (.ifCond .ne 5, 3) := by decide +kernel
theorem dX7_firstBroken_13 : decode cX7_firstBroken 13 = .ok (.iconst 0, 1) := by decide +kernel
theorem dX7_firstBroken_14 : decode cX7_firstBroken 14 = .ok (.ireturn, 1) := by decide +kernel
theorem dX7_firstBroken_15 : decode cX7_firstBroken 15 = .ok (.iconst 0, 1) := by decide +kernel
theorem dX7_firstBroken_16 : decode cX7_firstBroken 16 = .ok (.istore_n 2, 1) := by decide +kernel
theorem dX7_firstBroken_17 : decode cX7_firstBroken 17 = .ok (.aload_n 0, 1) := by decide +kernel
theorem dX7_firstBroken_18 : decode cX7_firstBroken 18 = .ok (.iload_n 1, 1) := by decide +kernel
theorem dX7_firstBroken_19 : decode cX7_firstBroken 19 = .ok (.iload_n 2, 1) := by decide +kernel
theorem dX7_firstBroken_20 : decode cX7_firstBroken 20 = .ok (.invokevirtual 157, 3) := by decide +kernel
theorem dX7_firstBroken_23 : decode cX7_firstBroken 23 = .ok (.iconst (-1), 1) := by decide +kernel
theorem dX7_firstBroken_24 : decode cX7_firstBroken 24 = .ok (.if_icmp .eq 22, 3) := by decide +kernel
theorem dX7_firstBroken_27 : decode cX7_firstBroken 27 = .ok (.aload_n 0, 1) := by decide +kernel
theorem dX7_firstBroken_28 : decode cX7_firstBroken 28 = .ok (.aload_n 0, 1) := by decide +kernel
theorem dX7_firstBroken_29 : decode cX7_firstBroken 29 = .ok (.iload_n 1, 1) := by decide +kernel
theorem dX7_firstBroken_30 : decode cX7_firstBroken 30 = .ok (.iload_n 2, 1) := by decide +kernel
theorem dX7_firstBroken_31 : decode cX7_firstBroken 31 = .ok (.invokevirtual 157, 3) := by decide +kernel
theorem dX7_firstBroken_34 : decode cX7_firstBroken 34 = .ok (.invokevirtual 160, 3) := by decide +kernel
theorem dX7_firstBroken_37 : decode cX7_firstBroken 37 = .ok (.ifCond .eq 9, 3) := by decide +kernel
theorem dX7_firstBroken_40 : decode cX7_firstBroken 40 = .ok (.iinc 2 1, 3) := by decide +kernel
theorem dX7_firstBroken_43 : decode cX7_firstBroken 43 = .ok (.goto (-26), 3) := by decide +kernel
theorem dX7_firstBroken_46 : decode cX7_firstBroken 46 = .ok (.aload_n 0, 1) := by decide +kernel
theorem dX7_firstBroken_47 : decode cX7_firstBroken 47 = .ok (.iload_n 1, 1) := by decide +kernel
theorem dX7_firstBroken_48 : decode cX7_firstBroken 48 = .ok (.iload_n 2, 1) := by decide +kernel
theorem dX7_firstBroken_49 : decode cX7_firstBroken 49 = .ok (.invokevirtual 157, 3) := by decide +kernel
theorem dX7_firstBroken_52 : decode cX7_firstBroken 52 = .ok (.ireturn, 1) := by decide +kernel
theorem dX7_linkedFrom_0 : decode cX7_linkedFrom 0 = .ok (.aload_n 0, 1) := by decide +kernel
theorem dX7_linkedFrom_1 : decode cX7_linkedFrom 1 = .ok (.iload_n 1, 1) := by decide +kernel
theorem dX7_linkedFrom_2 : decode cX7_linkedFrom 2 = .ok (.invokestatic 91, 3) := by decide +kernel
theorem dX7_linkedFrom_5 : decode cX7_linkedFrom 5 = .ok (.iconst 1, 1) := by decide +kernel
theorem dX7_linkedFrom_6 : decode cX7_linkedFrom 6 = .ok (.iconst 1, 1) := by decide +kernel
theorem dX7_linkedFrom_7 : decode cX7_linkedFrom 7 = .ok (.invokevirtual 83, 3) := by decide +kernel
theorem dX7_linkedFrom_10 : decode cX7_linkedFrom 10 = .ok (.ifCond .ne 5, 3) := by decide +kernel
theorem dX7_linkedFrom_13 : decode cX7_linkedFrom 13 = .ok (.iconst 0, 1) := by decide +kernel
theorem dX7_linkedFrom_14 : decode cX7_linkedFrom 14 = .ok (.ireturn, 1) := by decide +kernel
theorem dX7_linkedFrom_15 : decode cX7_linkedFrom 15 = .ok (.iconst 0, 1) := by decide +kernel
theorem dX7_linkedFrom_16 : decode cX7_linkedFrom 16 = .ok (.istore_n 2, 1) := by decide +kernel
theorem dX7_linkedFrom_17 : decode cX7_linkedFrom 17 = .ok (.iconst 0, 1) := by decide +kernel
theorem dX7_linkedFrom_18 : decode cX7_linkedFrom 18 = .ok (.istore_n 3, 1) := by decide +kernel
theorem dX7_linkedFrom_19 : decode cX7_linkedFrom 19 = .ok (.iload_n 3, 1) := by decide +kernel
theorem dX7_linkedFrom_20 : decode cX7_linkedFrom 20 = .ok (.bipush 12, 2) := by decide +kernel
theorem dX7_linkedFrom_22 : decode cX7_linkedFrom 22 = .ok (.if_icmp .ge 91, 3) := by decide +kernel
theorem dX7_linkedFrom_25 : decode cX7_linkedFrom 25 = .ok (.iconst 0, 1) := by decide +kernel
theorem dX7_linkedFrom_26 : decode cX7_linkedFrom 26 = .ok (.istore 4, 2) := by decide +kernel
theorem dX7_linkedFrom_28 : decode cX7_linkedFrom 28 = .ok (.aload_n 0, 1) := by decide +kernel
theorem dX7_linkedFrom_29 : decode cX7_linkedFrom 29 = .ok (.iload_n 3, 1) := by decide +kernel
theorem dX7_linkedFrom_30 : decode cX7_linkedFrom 30 = .ok (.iload 4, 2) := by decide +kernel
theorem dX7_linkedFrom_32 : decode cX7_linkedFrom 32 = .ok (.invokevirtual 157, 3) := by decide +kernel
theorem dX7_linkedFrom_35 : decode cX7_linkedFrom 35 = .ok (.iconst (-1), 1) := by decide +kernel
theorem dX7_linkedFrom_36 : decode cX7_linkedFrom 36 = .ok (.if_icmp .eq 71, 3) := by decide +kernel
theorem dX7_linkedFrom_39 : decode cX7_linkedFrom 39 = .ok (.aload_n 0, 1) := by decide +kernel
theorem dX7_linkedFrom_40 : decode cX7_linkedFrom 40 = .ok (.iload_n 3, 1) := by decide +kernel
theorem dX7_linkedFrom_41 : decode cX7_linkedFrom 41 = .ok (.iload 4, 2) := by decide +kernel
theorem dX7_linkedFrom_43 : decode cX7_linkedFrom 43 = .ok (.invokevirtual 157, 3) := by decide +kernel
theorem dX7_linkedFrom_46 : decode cX7_linkedFrom 46 = .ok (.istore 5, 2) := by decide +kernel
theorem dX7_linkedFrom_48 : decode cX7_linkedFrom 48 = .ok (.iload 5, 2) := by decide +kernel
theorem dX7_linkedFrom_50 : decode cX7_linkedFrom 50 = .ok (.bipush 10, 2) := by decide +kernel
theorem dX7_linkedFrom_52 : decode cX7_linkedFrom 52 = .ok (.idiv, 1) := by decide +kernel
theorem dX7_linkedFrom_53 : decode cX7_linkedFrom 53 = .ok (.iload_n 1, 1) := by decide +kernel
theorem dX7_linkedFrom_54 : decode cX7_linkedFrom 54 = .ok (.if_icmp .eq 16, 3) := by decide +kernel
theorem dX7_linkedFrom_57 : decode cX7_linkedFrom 57 = .ok (.aload_n 0, 1) := by decide +kernel
theorem dX7_linkedFrom_58 : decode cX7_linkedFrom 58 = .ok (.iload 5, 2) := by decide +kernel
theorem dX7_linkedFrom_60 : decode cX7_linkedFrom 60 = .ok (.bipush 10, 2) := by decide +kernel
theorem dX7_linkedFrom_62 : decode cX7_linkedFrom 62 = .ok (.idiv, 1) := by decide +kernel
theorem dX7_linkedFrom_63 : decode cX7_linkedFrom 63 = .ok (.invokevirtual 151, 3) := by decide +kernel
theorem dX7_linkedFrom_66 : decode cX7_linkedFrom 66 = .ok (.iload_n 1, 1) := by decide +kernel
theorem dX7_linkedFrom_67 : decode cX7_linkedFrom 67 = .ok (.if_icmp .ne 7, 3) := by decide +kernel
theorem dX7_linkedFrom_70 : decode cX7_linkedFrom 70 = .ok (.iconst 1, 1) := by decide +kernel
theorem dX7_linkedFrom_71 : decode cX7_linkedFrom 71 = .ok (.goto 4, 3) := by decide +kernel
theorem dX7_linkedFrom_74 : decode cX7_linkedFrom 74 = .ok (.iconst 0, 1) := by decide +kernel
theorem dX7_linkedFrom_75 : decode cX7_linkedFrom 75 = .ok (.istore 6, 2) := by decide +kernel
theorem dX7_linkedFrom_77 : decode cX7_linkedFrom 77 = .ok (.iload_n 2, 1) := by decide +kernel
theorem dX7_linkedFrom_78 : decode cX7_linkedFrom 78 = .ok (.iload 6, 2) := by decide +kernel
theorem dX7_linkedFrom_80 : decode cX7_linkedFrom 80 = .ok (.ifCond .eq 18, 3) := by decide +kernel
theorem dX7_linkedFrom_83 : decode cX7_linkedFrom 83 = .ok (.aload_n 0, 1) := by decide +kernel
theorem dX7_linkedFrom_84 : decode cX7_linkedFrom 84 = .ok (.iload 5, 2) := by decide +kernel
theorem dX7_linkedFrom_86 : decode cX7_linkedFrom 86 = .ok (.invokevirtual 160, 3) := by decide +kernel
theorem dX7_linkedFrom_89 : decode cX7_linkedFrom 89 = .ok (.ifCond .eq 9, 3) := by decide +kernel
theorem dX7_linkedFrom_92 : decode cX7_linkedFrom 92 = .ok (.iconst 1, 1) := by decide +kernel
theorem dX7_linkedFrom_93 : decode cX7_linkedFrom 93 = .ok (.iload_n 3, 1) := by decide +kernel
theorem dX7_linkedFrom_94 : decode cX7_linkedFrom 94 = .ok (.ishl, 1) := by decide +kernel
theorem dX7_linkedFrom_95 : decode cX7_linkedFrom 95 = .ok (.goto 4, 3) := by decide +kernel
theorem dX7_linkedFrom_98 : decode cX7_linkedFrom 98 = .ok (.iconst 0, 1) := by decide +kernel
theorem dX7_linkedFrom_99 : decode cX7_linkedFrom 99 = .ok (.ior, 1) := by decide +kernel
theorem dX7_linkedFrom_100 : decode cX7_linkedFrom 100 = .ok (.istore_n 2, 1) := by decide +kernel
theorem dX7_linkedFrom_101 : decode cX7_linkedFrom 101 = .ok (.iinc 4 1, 3) := by decide +kernel
theorem dX7_linkedFrom_104 : decode cX7_linkedFrom 104 = .ok (.goto (-76), 3) := by decide +kernel
theorem dX7_linkedFrom_107 : decode cX7_linkedFrom 107 = .ok (.iinc 3 1, 3) := by decide +kernel
theorem dX7_linkedFrom_110 : decode cX7_linkedFrom 110 = .ok (.goto (-91), 3) := by decide +kernel
theorem dX7_linkedFrom_113 : decode cX7_linkedFrom 113 = .ok (.iload_n 2, 1) := by decide +kernel
theorem dX7_linkedFrom_114 : decode cX7_linkedFrom 114 = .ok (.ireturn, 1) := by decide +kernel
theorem dX7_breachesOf_0 : decode cX7_breachesOf 0 = .ok (.iconst 0, 1) := by decide +kernel
theorem dX7_breachesOf_1 : decode cX7_breachesOf 1 = .ok (.istore_n 2, 1) := by decide +kernel
theorem dX7_breachesOf_2 : decode cX7_breachesOf 2 = .ok (.aload_n 0, 1) := by decide +kernel
theorem dX7_breachesOf_3 : decode cX7_breachesOf 3 = .ok (.iload_n 1, 1) := by decide +kernel
theorem dX7_breachesOf_4 : decode cX7_breachesOf 4 = .ok (.iconst (-1), 1) := by decide +kernel
theorem dX7_breachesOf_5 : decode cX7_breachesOf 5 = .ok (.invokevirtual 142, 3) := by decide +kernel
theorem dX7_breachesOf_8 : decode cX7_breachesOf 8 = .ok (.iconst 0, 1) := by decide +kernel
theorem dX7_breachesOf_9 : decode cX7_breachesOf 9 = .ok (.istore_n 3, 1) := by decide +kernel
theorem dX7_breachesOf_10 : decode cX7_breachesOf 10 = .ok (.iload_n 3, 1) := by decide +kernel
theorem dX7_breachesOf_11 : decode cX7_breachesOf 11 = .ok (.aload_n 0, 1) := by decide +kernel
theorem dX7_breachesOf_12 : decode cX7_breachesOf 12 = .ok (.getfield 131, 3) := by decide +kernel
theorem dX7_breachesOf_15 : decode cX7_breachesOf 15 = .ok (.if_icmp .ge 41, 3) := by decide +kernel
theorem dX7_breachesOf_18 : decode cX7_breachesOf 18 = .ok (.iload_n 2, 1) := by decide +kernel
theorem dX7_breachesOf_19 : decode cX7_breachesOf 19 = .ok (.aload_n 0, 1) := by decide +kernel
theorem dX7_breachesOf_20 : decode cX7_breachesOf 20 = .ok (.getfield 19, 3) := by decide +kernel
theorem dX7_breachesOf_23 : decode cX7_breachesOf 23 = .ok (.aload_n 0, 1) := by decide +kernel
theorem dX7_breachesOf_24 : decode cX7_breachesOf 24 = .ok (.aload_n 0, 1) := by decide +kernel
theorem dX7_breachesOf_25 : decode cX7_breachesOf 25 = .ok (.getfield 52, 3) := by decide +kernel
theorem dX7_breachesOf_28 : decode cX7_breachesOf 28 = .ok (.iload_n 3, 1) := by decide +kernel
theorem dX7_breachesOf_29 : decode cX7_breachesOf 29 = .ok (.iaload, 1) := by decide +kernel
theorem dX7_breachesOf_30 : decode cX7_breachesOf 30 = .ok (.invokevirtual 97, 3) := by decide +kernel
theorem dX7_breachesOf_33 : decode cX7_breachesOf 33 = .ok (.iaload, 1) := by decide +kernel
theorem dX7_breachesOf_34 : decode cX7_breachesOf 34 = .ok (.aload_n 0, 1) := by decide +kernel
theorem dX7_breachesOf_35 : decode cX7_breachesOf 35 = .ok (.getfield 25, 3) := by decide +kernel
theorem dX7_breachesOf_38 : decode cX7_breachesOf 38 = .ok (.iload_n 1, 1) := by decide +kernel
theorem dX7_breachesOf_39 : decode cX7_breachesOf 39 = .ok (.iaload, 1) := by decide +kernel
theorem dX7_breachesOf_40 : decode cX7_breachesOf 40 = .ok (.if_icmp .ge 7, 3) := by decide +kernel
theorem dX7_breachesOf_43 : decode cX7_breachesOf 43 = .ok (.iconst 1, 1) := by decide +kernel
theorem dX7_breachesOf_44 : decode cX7_breachesOf 44 = .ok (.goto 4, 3) := by decide +kernel
theorem dX7_breachesOf_47 : decode cX7_breachesOf 47 = .ok (.iconst 0, 1) := by decide +kernel
theorem dX7_breachesOf_48 : decode cX7_breachesOf 48 = .ok (.iadd, 1) := by decide +kernel
theorem dX7_breachesOf_49 : decode cX7_breachesOf 49 = .ok (.istore_n 2, 1) := by decide +kernel
theorem dX7_breachesOf_50 : decode cX7_breachesOf 50 = .ok (.iinc 3 1, 3) := by decide +kernel
theorem dX7_breachesOf_53 : decode cX7_breachesOf 53 = .ok (.goto (-43), 3) := by decide +kernel
theorem dX7_breachesOf_56 : decode cX7_breachesOf 56 = .ok (.iload_n 2, 1) := by decide +kernel
theorem dX7_breachesOf_57 : decode cX7_breachesOf 57 = .ok (.ireturn, 1) := by decide +kernel
theorem dX7_breaches_0 : decode cX7_breaches 0 = .ok (.aload_n 0, 1) := by decide +kernel
theorem dX7_breaches_1 : decode cX7_breaches 1 = .ok (.iload_n 1, 1) := by decide +kernel
theorem dX7_breaches_2 : decode cX7_breaches 2 = .ok (.invokestatic 91, 3) := by decide +kernel
theorem dX7_breaches_5 : decode cX7_breaches 5 = .ok (.iconst 1, 1) := by decide +kernel
theorem dX7_breaches_6 : decode cX7_breaches 6 = .ok (.iconst 1, 1) := by decide +kernel
theorem dX7_breaches_7 : decode cX7_breaches 7 = .ok (.invokevirtual 83, 3) := by decide +kernel
theorem dX7_breaches_10 : decode cX7_breaches 10 = .ok (.ifCond .eq 11, 3) := by decide +kernel
theorem dX7_breaches_13 : decode cX7_breaches 13 = .ok (.aload_n 0, 1) := by decide +kernel
theorem dX7_breaches_14 : decode cX7_breaches 14 = .ok (.iload_n 1, 1) := by decide +kernel
theorem dX7_breaches_15 : decode cX7_breaches 15 = .ok (.invokevirtual 163, 3) := by decide +kernel
theorem dX7_breaches_18 : decode cX7_breaches 18 = .ok (.goto 4, 3) := by decide +kernel
theorem dX7_breaches_21 : decode cX7_breaches 21 = .ok (.iconst 0, 1) := by decide +kernel
theorem dX7_breaches_22 : decode cX7_breaches 22 = .ok (.ireturn, 1) := by decide +kernel
theorem dX7_breached_0 : decode cX7_breached 0 = .ok (.aload_n 0, 1) := by decide +kernel
theorem dX7_breached_1 : decode cX7_breached 1 = .ok (.iconst 0, 1) := by decide +kernel
theorem dX7_breached_2 : decode cX7_breached 2 = .ok (.putfield 64, 3) := by decide +kernel
theorem dX7_breached_5 : decode cX7_breached 5 = .ok (.iconst 0, 1) := by decide +kernel
theorem dX7_breached_6 : decode cX7_breached 6 = .ok (.istore_n 1, 1) := by decide +kernel
theorem dX7_breached_7 : decode cX7_breached 7 = .ok (.iconst 0, 1) := by decide +kernel
theorem dX7_breached_8 : decode cX7_breached 8 = .ok (.istore_n 2, 1) := by decide +kernel
theorem dX7_breached_9 : decode cX7_breached 9 = .ok (.iload_n 2, 1) := by decide +kernel
theorem dX7_breached_10 : decode cX7_breached 10 = .ok (.bipush 12, 2) := by decide +kernel
theorem dX7_breached_12 : decode cX7_breached 12 = .ok (.if_icmp .ge 25, 3) := by decide +kernel
theorem dX7_breached_15 : decode cX7_breached 15 = .ok (.iload_n 1, 1) := by decide +kernel
theorem dX7_breached_16 : decode cX7_breached 16 = .ok (.aload_n 0, 1) := by decide +kernel
theorem dX7_breached_17 : decode cX7_breached 17 = .ok (.iload_n 2, 1) := by decide +kernel
theorem dX7_breached_18 : decode cX7_breached 18 = .ok (.invokevirtual 163, 3) := by decide +kernel
theorem dX7_breached_21 : decode cX7_breached 21 = .ok (.ifCond .le 7, 3) := by decide +kernel
theorem dX7_breached_24 : decode cX7_breached 24 = .ok (.iconst 1, 1) := by decide +kernel
theorem dX7_breached_25 : decode cX7_breached 25 = .ok (.goto 4, 3) := by decide +kernel
theorem dX7_breached_28 : decode cX7_breached 28 = .ok (.iconst 0, 1) := by decide +kernel
theorem dX7_breached_29 : decode cX7_breached 29 = .ok (.iadd, 1) := by decide +kernel
theorem dX7_breached_30 : decode cX7_breached 30 = .ok (.istore_n 1, 1) := by decide +kernel
theorem dX7_breached_31 : decode cX7_breached 31 = .ok (.iinc 2 1, 3) := by decide +kernel
theorem dX7_breached_34 : decode cX7_breached 34 = .ok (.goto (-25), 3) := by decide +kernel
theorem dX7_breached_37 : decode cX7_breached 37 = .ok (.iload_n 1, 1) := by decide +kernel
theorem dX7_breached_38 : decode cX7_breached 38 = .ok (.ireturn, 1) := by decide +kernel
end
section
theorem dL_letter_0 : decode cL_letter 0 = .ok (.aload_n 2, 1) := by decide +kernel
theorem dL_letter_1 : decode cL_letter 1 = .ok (.iconst 0, 1) := by decide +kernel
theorem dL_letter_2 : decode cL_letter 2 = .ok (.aload_n 0, 1) := by decide +kernel
theorem dL_letter_3 : decode cL_letter 3 = .ok (.iload_n 1, 1) := by decide +kernel
theorem dL_letter_4 : decode cL_letter 4 = .ok (.invokevirtual 7, 3) := by decide +kernel
theorem dL_letter_7 : decode cL_letter 7 = .ok (.i2l, 1) := by decide +kernel
theorem dL_letter_8 : decode cL_letter 8 = .ok (.lastore, 1) := by decide +kernel
theorem dL_letter_9 : decode cL_letter 9 = .ok (.goto 9, 3) := by decide +kernel
theorem dL_letter_12 : decode cL_letter 12 = .ok (.astore_n 3, 1) := by decide +kernel
theorem dL_letter_13 : decode cL_letter 13 = .ok (.iconst 1, 1) := by decide +kernel
theorem dL_letter_14 : decode cL_letter 14 = .ok (.ireturn, 1) := by decide +kernel
theorem dL_letter_15 : decode cL_letter 15 = .ok (.astore_n 3, 1) := by decide +kernel
theorem dL_letter_16 : decode cL_letter 16 = .ok (.iconst 2, 1) := by decide +kernel
theorem dL_letter_17 : decode cL_letter 17 = .ok (.ireturn, 1) := by decide +kernel
theorem dL_letter_18 : decode cL_letter 18 = .ok (.iconst 0, 1) := by decide +kernel
theorem dL_letter_19 : decode cL_letter 19 = .ok (.ireturn, 1) := by decide +kernel
theorem dL_argument_0 : decode cL_argument 0 = .ok (.aload_n 1, 1) := by decide +kernel
theorem dL_argument_1 : decode cL_argument 1 = .ok (.iconst 0, 1) := by decide +kernel
theorem dL_argument_2 : decode cL_argument 2 = .ok (.aload_n 0, 1) := by decide +kernel
theorem dL_argument_3 : decode cL_argument 3 = .ok (.invokevirtual 17, 3) := by decide +kernel
theorem dL_argument_6 : decode cL_argument 6 = .ok (.i2l, 1) := by decide +kernel
theorem dL_argument_7 : decode cL_argument 7 = .ok (.lastore, 1) := by decide +kernel
theorem dL_argument_8 : decode cL_argument 8 = .ok (.goto 6, 3) := by decide +kernel
theorem dL_argument_11 : decode cL_argument 11 = .ok (.astore_n 2, 1) := by decide +kernel
theorem dL_argument_12 : decode cL_argument 12 = .ok (.iconst 1, 1) := by decide +kernel
theorem dL_argument_13 : decode cL_argument 13 = .ok (.ireturn, 1) := by decide +kernel
theorem dL_argument_14 : decode cL_argument 14 = .ok (.iconst 0, 1) := by decide +kernel
theorem dL_argument_15 : decode cL_argument 15 = .ok (.ireturn, 1) := by decide +kernel
theorem dL_call_0 : decode cL_call 0 = .ok (.aload_n 3, 1) := by decide +kernel
theorem dL_call_1 : decode cL_call 1 = .ok (.iconst 0, 1) := by decide +kernel
theorem dL_call_2 : decode cL_call 2 = .ok (.aload_n 0, 1) := by decide +kernel
theorem dL_call_3 : decode cL_call 3 = .ok (.iload_n 1, 1) := by decide +kernel
theorem dL_call_4 : decode cL_call 4 = .ok (.iload_n 2, 1) := by decide +kernel
theorem dL_call_5 : decode cL_call 5 = .ok (.invokevirtual 21, 3) := by decide +kernel
theorem dL_call_8 : decode cL_call 8 = .ok (.i2l, 1) := by decide +kernel
theorem dL_call_9 : decode cL_call 9 = .ok (.lastore, 1) := by decide +kernel
theorem dL_call_10 : decode cL_call 10 = .ok (.goto 15, 3) := by decide +kernel
theorem dL_call_13 : decode cL_call 13 = .ok (.astore 4, 2) := by decide +kernel
theorem dL_call_15 : decode cL_call 15 = .ok (.iconst 1, 1) := by decide +kernel
theorem dL_call_16 : decode cL_call 16 = .ok (.ireturn, 1) := by decide +kernel
theorem dL_call_17 : decode cL_call 17 = .ok (.astore 4, 2) := by decide +kernel
theorem dL_call_19 : decode cL_call 19 = .ok (.iconst 2, 1) := by decide +kernel
theorem dL_call_20 : decode cL_call 20 = .ok (.ireturn, 1) := by decide +kernel
theorem dL_call_21 : decode cL_call 21 = .ok (.astore 4, 2) := by decide +kernel
theorem dL_call_23 : decode cL_call 23 = .ok (.iconst 3, 1) := by decide +kernel
theorem dL_call_24 : decode cL_call 24 = .ok (.ireturn, 1) := by decide +kernel
theorem dL_call_25 : decode cL_call 25 = .ok (.iconst 0, 1) := by decide +kernel
theorem dL_call_26 : decode cL_call 26 = .ok (.ireturn, 1) := by decide +kernel
theorem dL_callOn_0 : decode cL_callOn 0 = .ok (.aload_n 2, 1) := by decide +kernel
theorem dL_callOn_1 : decode cL_callOn 1 = .ok (.iconst 0, 1) := by decide +kernel
theorem dL_callOn_2 : decode cL_callOn 2 = .ok (.aload_n 0, 1) := by decide +kernel
theorem dL_callOn_3 : decode cL_callOn 3 = .ok (.iload_n 1, 1) := by decide +kernel
theorem dL_callOn_4 : decode cL_callOn 4 = .ok (.invokevirtual 27, 3) := by decide +kernel
theorem dL_callOn_7 : decode cL_callOn 7 = .ok (.i2l, 1) := by decide +kernel
theorem dL_callOn_8 : decode cL_callOn 8 = .ok (.lastore, 1) := by decide +kernel
theorem dL_callOn_9 : decode cL_callOn 9 = .ok (.goto 9, 3) := by decide +kernel
theorem dL_callOn_12 : decode cL_callOn 12 = .ok (.astore_n 3, 1) := by decide +kernel
theorem dL_callOn_13 : decode cL_callOn 13 = .ok (.iconst 1, 1) := by decide +kernel
theorem dL_callOn_14 : decode cL_callOn 14 = .ok (.ireturn, 1) := by decide +kernel
theorem dL_callOn_15 : decode cL_callOn 15 = .ok (.astore_n 3, 1) := by decide +kernel
theorem dL_callOn_16 : decode cL_callOn 16 = .ok (.iconst 2, 1) := by decide +kernel
theorem dL_callOn_17 : decode cL_callOn 17 = .ok (.ireturn, 1) := by decide +kernel
theorem dL_callOn_18 : decode cL_callOn 18 = .ok (.iconst 0, 1) := by decide +kernel
theorem dL_callOn_19 : decode cL_callOn 19 = .ok (.ireturn, 1) := by decide +kernel
theorem dL_when_0 : decode cL_when 0 = .ok (.aload_n 2, 1) := by decide +kernel
theorem dL_when_1 : decode cL_when 1 = .ok (.iconst 0, 1) := by decide +kernel
theorem dL_when_2 : decode cL_when 2 = .ok (.aload_n 0, 1) := by decide +kernel
theorem dL_when_3 : decode cL_when 3 = .ok (.iload_n 1, 1) := by decide +kernel
theorem dL_when_4 : decode cL_when 4 = .ok (.invokevirtual 30, 3) := by decide +kernel
theorem dL_when_7 : decode cL_when 7 = .ok (.i2l, 1) := by decide +kernel
theorem dL_when_8 : decode cL_when 8 = .ok (.lastore, 1) := by decide +kernel
theorem dL_when_9 : decode cL_when 9 = .ok (.goto 9, 3) := by decide +kernel
theorem dL_when_12 : decode cL_when 12 = .ok (.astore_n 3, 1) := by decide +kernel
theorem dL_when_13 : decode cL_when 13 = .ok (.iconst 1, 1) := by decide +kernel
theorem dL_when_14 : decode cL_when 14 = .ok (.ireturn, 1) := by decide +kernel
theorem dL_when_15 : decode cL_when 15 = .ok (.astore_n 3, 1) := by decide +kernel
theorem dL_when_16 : decode cL_when 16 = .ok (.iconst 2, 1) := by decide +kernel
theorem dL_when_17 : decode cL_when 17 = .ok (.ireturn, 1) := by decide +kernel
theorem dL_when_18 : decode cL_when 18 = .ok (.iconst 0, 1) := by decide +kernel
theorem dL_when_19 : decode cL_when 19 = .ok (.ireturn, 1) := by decide +kernel
theorem dL_end_0 : decode cL_end 0 = .ok (.aload_n 1, 1) := by decide +kernel
theorem dL_end_1 : decode cL_end 1 = .ok (.iconst 0, 1) := by decide +kernel
theorem dL_end_2 : decode cL_end 2 = .ok (.aload_n 0, 1) := by decide +kernel
theorem dL_end_3 : decode cL_end 3 = .ok (.invokevirtual 33, 3) := by decide +kernel
theorem dL_end_6 : decode cL_end 6 = .ok (.i2l, 1) := by decide +kernel
theorem dL_end_7 : decode cL_end 7 = .ok (.lastore, 1) := by decide +kernel
theorem dL_end_8 : decode cL_end 8 = .ok (.goto 6, 3) := by decide +kernel
theorem dL_end_11 : decode cL_end 11 = .ok (.astore_n 2, 1) := by decide +kernel
theorem dL_end_12 : decode cL_end 12 = .ok (.iconst 1, 1) := by decide +kernel
theorem dL_end_13 : decode cL_end 13 = .ok (.ireturn, 1) := by decide +kernel
theorem dL_end_14 : decode cL_end 14 = .ok (.iconst 0, 1) := by decide +kernel
theorem dL_end_15 : decode cL_end 15 = .ok (.ireturn, 1) := by decide +kernel
theorem dL_anchor_0 : decode cL_anchor 0 = .ok (.aload_n 2, 1) := by decide +kernel
theorem dL_anchor_1 : decode cL_anchor 1 = .ok (.iconst 0, 1) := by decide +kernel
theorem dL_anchor_2 : decode cL_anchor 2 = .ok (.aload_n 0, 1) := by decide +kernel
theorem dL_anchor_3 : decode cL_anchor 3 = .ok (.iload_n 1, 1) := by decide +kernel
theorem dL_anchor_4 : decode cL_anchor 4 = .ok (.invokevirtual 36, 3) := by decide +kernel
theorem dL_anchor_7 : decode cL_anchor 7 = .ok (.i2l, 1) := by decide +kernel
theorem dL_anchor_8 : decode cL_anchor 8 = .ok (.lastore, 1) := by decide +kernel
theorem dL_anchor_9 : decode cL_anchor 9 = .ok (.goto 9, 3) := by decide +kernel
theorem dL_anchor_12 : decode cL_anchor 12 = .ok (.astore_n 3, 1) := by decide +kernel
theorem dL_anchor_13 : decode cL_anchor 13 = .ok (.iconst 1, 1) := by decide +kernel
theorem dL_anchor_14 : decode cL_anchor 14 = .ok (.ireturn, 1) := by decide +kernel
theorem dL_anchor_15 : decode cL_anchor 15 = .ok (.astore_n 3, 1) := by decide +kernel
theorem dL_anchor_16 : decode cL_anchor 16 = .ok (.iconst 2, 1) := by decide +kernel
theorem dL_anchor_17 : decode cL_anchor 17 = .ok (.ireturn, 1) := by decide +kernel
theorem dL_anchor_18 : decode cL_anchor 18 = .ok (.iconst 0, 1) := by decide +kernel
theorem dL_anchor_19 : decode cL_anchor 19 = .ok (.ireturn, 1) := by decide +kernel
theorem dL_link_0 : decode cL_link 0 = .ok (.aload_n 3, 1) := by decide +kernel
theorem dL_link_1 : decode cL_link 1 = .ok (.iconst 0, 1) := by decide +kernel
theorem dL_link_2 : decode cL_link 2 = .ok (.aload_n 0, 1) := by decide +kernel
theorem dL_link_3 : decode cL_link 3 = .ok (.iload_n 1, 1) := by decide +kernel
theorem dL_link_4 : decode cL_link 4 = .ok (.iload_n 2, 1) := by decide +kernel
theorem dL_link_5 : decode cL_link 5 = .ok (.invokevirtual 39, 3) := by decide +kernel
theorem dL_link_8 : decode cL_link 8 = .ok (.i2l, 1) := by decide +kernel
theorem dL_link_9 : decode cL_link 9 = .ok (.lastore, 1) := by decide +kernel
theorem dL_link_10 : decode cL_link 10 = .ok (.goto 15, 3) := by decide +kernel
theorem dL_link_13 : decode cL_link 13 = .ok (.astore 4, 2) := by decide +kernel
theorem dL_link_15 : decode cL_link 15 = .ok (.iconst 1, 1) := by decide +kernel
theorem dL_link_16 : decode cL_link 16 = .ok (.ireturn, 1) := by decide +kernel
theorem dL_link_17 : decode cL_link 17 = .ok (.astore 4, 2) := by decide +kernel
theorem dL_link_19 : decode cL_link 19 = .ok (.iconst 2, 1) := by decide +kernel
theorem dL_link_20 : decode cL_link 20 = .ok (.ireturn, 1) := by decide +kernel
theorem dL_link_21 : decode cL_link 21 = .ok (.astore 4, 2) := by decide +kernel
theorem dL_link_23 : decode cL_link 23 = .ok (.iconst 3, 1) := by decide +kernel
theorem dL_link_24 : decode cL_link 24 = .ok (.ireturn, 1) := by decide +kernel
theorem dL_link_25 : decode cL_link 25 = .ok (.iconst 0, 1) := by decide +kernel
theorem dL_link_26 : decode cL_link 26 = .ok (.ireturn, 1) := by decide +kernel
theorem dL_redirect_0 : decode cL_redirect 0 = .ok (.aload_n 2, 1) := by decide +kernel
theorem dL_redirect_1 : decode cL_redirect 1 = .ok (.iconst 0, 1) := by decide +kernel
theorem dL_redirect_2 : decode cL_redirect 2 = .ok (.aload_n 0, 1) := by decide +kernel
theorem dL_redirect_3 : decode cL_redirect 3 = .ok (.iload_n 1, 1) := by decide +kernel
theorem dL_redirect_4 : decode cL_redirect 4 = .ok (.invokevirtual 42, 3) := by decide +kernel
theorem dL_redirect_7 : decode cL_redirect 7 = .ok (.i2l, 1) := by decide +kernel
theorem dL_redirect_8 : decode cL_redirect 8 = .ok (.lastore, 1) := by decide +kernel
theorem dL_redirect_9 : decode cL_redirect 9 = .ok (.goto 9, 3) := by decide +kernel
theorem dL_redirect_12 : decode cL_redirect 12 = .ok (.astore_n 3, 1) := by decide +kernel
theorem dL_redirect_13 : decode cL_redirect 13 = .ok (.iconst 1, 1) := by decide +kernel
theorem dL_redirect_14 : decode cL_redirect 14 = .ok (.ireturn, 1) := by decide +kernel
theorem dL_redirect_15 : decode cL_redirect 15 = .ok (.astore_n 3, 1) := by decide +kernel
theorem dL_redirect_16 : decode cL_redirect 16 = .ok (.iconst 2, 1) := by decide +kernel
theorem dL_redirect_17 : decode cL_redirect 17 = .ok (.ireturn, 1) := by decide +kernel
theorem dL_redirect_18 : decode cL_redirect 18 = .ok (.iconst 0, 1) := by decide +kernel
theorem dL_redirect_19 : decode cL_redirect 19 = .ok (.ireturn, 1) := by decide +kernel
theorem dL_edit_0 : decode cL_edit 0 = .ok (.aload_n 3, 1) := by decide +kernel
theorem dL_edit_1 : decode cL_edit 1 = .ok (.iconst 0, 1) := by decide +kernel
theorem dL_edit_2 : decode cL_edit 2 = .ok (.aload_n 0, 1) := by decide +kernel
theorem dL_edit_3 : decode cL_edit 3 = .ok (.iload_n 1, 1) := by decide +kernel
theorem dL_edit_4 : decode cL_edit 4 = .ok (.iload_n 2, 1) := by decide +kernel
theorem dL_edit_5 : decode cL_edit 5 = .ok (.invokevirtual 45, 3) := by decide +kernel
theorem dL_edit_8 : decode cL_edit 8 = .ok (.i2l, 1) := by decide +kernel
theorem dL_edit_9 : decode cL_edit 9 = .ok (.lastore, 1) := by decide +kernel
theorem dL_edit_10 : decode cL_edit 10 = .ok (.goto 11, 3) := by decide +kernel
theorem dL_edit_13 : decode cL_edit 13 = .ok (.astore 4, 2) := by decide +kernel
theorem dL_edit_15 : decode cL_edit 15 = .ok (.iconst 1, 1) := by decide +kernel
theorem dL_edit_16 : decode cL_edit 16 = .ok (.ireturn, 1) := by decide +kernel
theorem dL_edit_17 : decode cL_edit 17 = .ok (.astore 4, 2) := by decide +kernel
theorem dL_edit_19 : decode cL_edit 19 = .ok (.iconst 2, 1) := by decide +kernel
theorem dL_edit_20 : decode cL_edit 20 = .ok (.ireturn, 1) := by decide +kernel
theorem dL_edit_21 : decode cL_edit 21 = .ok (.iconst 0, 1) := by decide +kernel
theorem dL_edit_22 : decode cL_edit 22 = .ok (.ireturn, 1) := by decide +kernel
theorem dL_undo_0 : decode cL_undo 0 = .ok (.aload_n 3, 1) := by decide +kernel
theorem dL_undo_1 : decode cL_undo 1 = .ok (.iconst 0, 1) := by decide +kernel
theorem dL_undo_2 : decode cL_undo 2 = .ok (.aload_n 0, 1) := by decide +kernel
theorem dL_undo_3 : decode cL_undo 3 = .ok (.iload_n 1, 1) := by decide +kernel
theorem dL_undo_4 : decode cL_undo 4 = .ok (.iload_n 2, 1) := by decide +kernel
theorem dL_undo_5 : decode cL_undo 5 = .ok (.invokevirtual 48, 3) := by decide +kernel
theorem dL_undo_8 : decode cL_undo 8 = .ok (.i2l, 1) := by decide +kernel
theorem dL_undo_9 : decode cL_undo 9 = .ok (.lastore, 1) := by decide +kernel
theorem dL_undo_10 : decode cL_undo 10 = .ok (.goto 11, 3) := by decide +kernel
theorem dL_undo_13 : decode cL_undo 13 = .ok (.astore 4, 2) := by decide +kernel
theorem dL_undo_15 : decode cL_undo 15 = .ok (.iconst 1, 1) := by decide +kernel
theorem dL_undo_16 : decode cL_undo 16 = .ok (.ireturn, 1) := by decide +kernel
theorem dL_undo_17 : decode cL_undo 17 = .ok (.astore 4, 2) := by decide +kernel
theorem dL_undo_19 : decode cL_undo 19 = .ok (.iconst 2, 1) := by decide +kernel
theorem dL_undo_20 : decode cL_undo 20 = .ok (.ireturn, 1) := by decide +kernel
theorem dL_undo_21 : decode cL_undo 21 = .ok (.iconst 0, 1) := by decide +kernel
theorem dL_undo_22 : decode cL_undo 22 = .ok (.ireturn, 1) := by decide +kernel
theorem dL_approve_0 : decode cL_approve 0 = .ok (.aload_n 3, 1) := by decide +kernel
theorem dL_approve_1 : decode cL_approve 1 = .ok (.iconst 0, 1) := by decide +kernel
theorem dL_approve_2 : decode cL_approve 2 = .ok (.aload_n 0, 1) := by decide +kernel
theorem dL_approve_3 : decode cL_approve 3 = .ok (.iload_n 1, 1) := by decide +kernel
theorem dL_approve_4 : decode cL_approve 4 = .ok (.iload_n 2, 1) := by decide +kernel
theorem dL_approve_5 : decode cL_approve 5 = .ok (.invokevirtual 51, 3) := by decide +kernel
theorem dL_approve_8 : decode cL_approve 8 = .ok (.ifCond .eq 7, 3) := by decide +kernel
theorem dL_approve_11 : decode cL_approve 11 = .ok (.lconst 1, 1) := by decide +kernel
theorem dL_approve_12 : decode cL_approve 12 = .ok (.goto 4, 3) := by decide +kernel
theorem dL_approve_15 : decode cL_approve 15 = .ok (.lconst 0, 1) := by decide +kernel
theorem dL_approve_16 : decode cL_approve 16 = .ok (.lastore, 1) := by decide +kernel
theorem dL_approve_17 : decode cL_approve 17 = .ok (.goto 7, 3) := by decide +kernel
theorem dL_approve_20 : decode cL_approve 20 = .ok (.astore 4, 2) := by decide +kernel
theorem dL_approve_22 : decode cL_approve 22 = .ok (.iconst 1, 1) := by decide +kernel
theorem dL_approve_23 : decode cL_approve 23 = .ok (.ireturn, 1) := by decide +kernel
theorem dL_approve_24 : decode cL_approve 24 = .ok (.iconst 0, 1) := by decide +kernel
theorem dL_approve_25 : decode cL_approve 25 = .ok (.ireturn, 1) := by decide +kernel
theorem dL_lock_0 : decode cL_lock 0 = .ok (.aload 4, 2) := by decide +kernel
theorem dL_lock_2 : decode cL_lock 2 = .ok (.iconst 0, 1) := by decide +kernel
theorem dL_lock_3 : decode cL_lock 3 = .ok (.aload_n 0, 1) := by decide +kernel
theorem dL_lock_4 : decode cL_lock 4 = .ok (.iload_n 1, 1) := by decide +kernel
theorem dL_lock_5 : decode cL_lock 5 = .ok (.iload_n 2, 1) := by decide +kernel
theorem dL_lock_6 : decode cL_lock 6 = .ok (.iload_n 3, 1) := by decide +kernel
theorem dL_lock_7 : decode cL_lock 7 = .ok (.invokevirtual 55, 3) := by decide +kernel
theorem dL_lock_10 : decode cL_lock 10 = .ok (.i2l, 1) := by decide +kernel
theorem dL_lock_11 : decode cL_lock 11 = .ok (.lastore, 1) := by decide +kernel
theorem dL_lock_12 : decode cL_lock 12 = .ok (.goto 11, 3) := by decide +kernel
theorem dL_lock_15 : decode cL_lock 15 = .ok (.astore 5, 2) := by decide +kernel
theorem dL_lock_17 : decode cL_lock 17 = .ok (.iconst 1, 1) := by decide +kernel
theorem dL_lock_18 : decode cL_lock 18 = .ok (.ireturn, 1) := by decide +kernel
theorem dL_lock_19 : decode cL_lock 19 = .ok (.astore 5, 2) := by decide +kernel
theorem dL_lock_21 : decode cL_lock 21 = .ok (.iconst 2, 1) := by decide +kernel
theorem dL_lock_22 : decode cL_lock 22 = .ok (.ireturn, 1) := by decide +kernel
theorem dL_lock_23 : decode cL_lock 23 = .ok (.iconst 0, 1) := by decide +kernel
theorem dL_lock_24 : decode cL_lock 24 = .ok (.ireturn, 1) := by decide +kernel
theorem dL_setRank_0 : decode cL_setRank 0 = .ok (.aload_n 3, 1) := by decide +kernel
theorem dL_setRank_1 : decode cL_setRank 1 = .ok (.iconst 0, 1) := by decide +kernel
theorem dL_setRank_2 : decode cL_setRank 2 = .ok (.aload_n 0, 1) := by decide +kernel
theorem dL_setRank_3 : decode cL_setRank 3 = .ok (.iload_n 1, 1) := by decide +kernel
theorem dL_setRank_4 : decode cL_setRank 4 = .ok (.iload_n 2, 1) := by decide +kernel
theorem dL_setRank_5 : decode cL_setRank 5 = .ok (.invokevirtual 59, 3) := by decide +kernel
theorem dL_setRank_8 : decode cL_setRank 8 = .ok (.i2l, 1) := by decide +kernel
theorem dL_setRank_9 : decode cL_setRank 9 = .ok (.lastore, 1) := by decide +kernel
theorem dL_setRank_10 : decode cL_setRank 10 = .ok (.goto 11, 3) := by decide +kernel
theorem dL_setRank_13 : decode cL_setRank 13 = .ok (.astore 4, 2) := by decide +kernel
theorem dL_setRank_15 : decode cL_setRank 15 = .ok (.iconst 1, 1) := by decide +kernel
theorem dL_setRank_16 : decode cL_setRank 16 = .ok (.ireturn, 1) := by decide +kernel
theorem dL_setRank_17 : decode cL_setRank 17 = .ok (.astore 4, 2) := by decide +kernel
theorem dL_setRank_19 : decode cL_setRank 19 = .ok (.iconst 2, 1) := by decide +kernel
theorem dL_setRank_20 : decode cL_setRank 20 = .ok (.ireturn, 1) := by decide +kernel
theorem dL_setRank_21 : decode cL_setRank 21 = .ok (.iconst 0, 1) := by decide +kernel
theorem dL_setRank_22 : decode cL_setRank 22 = .ok (.ireturn, 1) := by decide +kernel
theorem dL_version_0 : decode cL_version 0 = .ok (.aload_n 2, 1) := by decide +kernel
theorem dL_version_1 : decode cL_version 1 = .ok (.iconst 0, 1) := by decide +kernel
theorem dL_version_2 : decode cL_version 2 = .ok (.aload_n 0, 1) := by decide +kernel
theorem dL_version_3 : decode cL_version 3 = .ok (.iload_n 1, 1) := by decide +kernel
theorem dL_version_4 : decode cL_version 4 = .ok (.invokevirtual 62, 3) := by decide +kernel
theorem dL_version_7 : decode cL_version 7 = .ok (.i2l, 1) := by decide +kernel
theorem dL_version_8 : decode cL_version 8 = .ok (.lastore, 1) := by decide +kernel
theorem dL_version_9 : decode cL_version 9 = .ok (.goto 6, 3) := by decide +kernel
theorem dL_version_12 : decode cL_version 12 = .ok (.astore_n 3, 1) := by decide +kernel
theorem dL_version_13 : decode cL_version 13 = .ok (.iconst 1, 1) := by decide +kernel
theorem dL_version_14 : decode cL_version 14 = .ok (.ireturn, 1) := by decide +kernel
theorem dL_version_15 : decode cL_version 15 = .ok (.iconst 0, 1) := by decide +kernel
theorem dL_version_16 : decode cL_version 16 = .ok (.ireturn, 1) := by decide +kernel
theorem dL_rankOf_0 : decode cL_rankOf 0 = .ok (.aload_n 2, 1) := by decide +kernel
theorem dL_rankOf_1 : decode cL_rankOf 1 = .ok (.iconst 0, 1) := by decide +kernel
theorem dL_rankOf_2 : decode cL_rankOf 2 = .ok (.aload_n 0, 1) := by decide +kernel
theorem dL_rankOf_3 : decode cL_rankOf 3 = .ok (.iload_n 1, 1) := by decide +kernel
theorem dL_rankOf_4 : decode cL_rankOf 4 = .ok (.invokevirtual 65, 3) := by decide +kernel
theorem dL_rankOf_7 : decode cL_rankOf 7 = .ok (.i2l, 1) := by decide +kernel
theorem dL_rankOf_8 : decode cL_rankOf 8 = .ok (.lastore, 1) := by decide +kernel
theorem dL_rankOf_9 : decode cL_rankOf 9 = .ok (.goto 6, 3) := by decide +kernel
theorem dL_rankOf_12 : decode cL_rankOf 12 = .ok (.astore_n 3, 1) := by decide +kernel
theorem dL_rankOf_13 : decode cL_rankOf 13 = .ok (.iconst 1, 1) := by decide +kernel
theorem dL_rankOf_14 : decode cL_rankOf 14 = .ok (.ireturn, 1) := by decide +kernel
theorem dL_rankOf_15 : decode cL_rankOf 15 = .ok (.iconst 0, 1) := by decide +kernel
theorem dL_rankOf_16 : decode cL_rankOf 16 = .ok (.ireturn, 1) := by decide +kernel
theorem dL_force_0 : decode cL_force 0 = .ok (.aload_n 2, 1) := by decide +kernel
theorem dL_force_1 : decode cL_force 1 = .ok (.iconst 0, 1) := by decide +kernel
theorem dL_force_2 : decode cL_force 2 = .ok (.aload_n 0, 1) := by decide +kernel
theorem dL_force_3 : decode cL_force 3 = .ok (.iload_n 1, 1) := by decide +kernel
theorem dL_force_4 : decode cL_force 4 = .ok (.invokevirtual 68, 3) := by decide +kernel
theorem dL_force_7 : decode cL_force 7 = .ok (.i2l, 1) := by decide +kernel
theorem dL_force_8 : decode cL_force 8 = .ok (.lastore, 1) := by decide +kernel
theorem dL_force_9 : decode cL_force 9 = .ok (.goto 6, 3) := by decide +kernel
theorem dL_force_12 : decode cL_force 12 = .ok (.astore_n 3, 1) := by decide +kernel
theorem dL_force_13 : decode cL_force 13 = .ok (.iconst 1, 1) := by decide +kernel
theorem dL_force_14 : decode cL_force 14 = .ok (.ireturn, 1) := by decide +kernel
theorem dL_force_15 : decode cL_force 15 = .ok (.iconst 0, 1) := by decide +kernel
theorem dL_force_16 : decode cL_force 16 = .ok (.ireturn, 1) := by decide +kernel
theorem dL_reaches_0 : decode cL_reaches 0 = .ok (.aload_n 2, 1) := by decide +kernel
theorem dL_reaches_1 : decode cL_reaches 1 = .ok (.iconst 0, 1) := by decide +kernel
theorem dL_reaches_2 : decode cL_reaches 2 = .ok (.aload_n 0, 1) := by decide +kernel
theorem dL_reaches_3 : decode cL_reaches 3 = .ok (.iload_n 1, 1) := by decide +kernel
theorem dL_reaches_4 : decode cL_reaches 4 = .ok (.invokevirtual 71, 3) := by decide +kernel
theorem dL_reaches_7 : decode cL_reaches 7 = .ok (.i2l, 1) := by decide +kernel
theorem dL_reaches_8 : decode cL_reaches 8 = .ok (.lastore, 1) := by decide +kernel
theorem dL_reaches_9 : decode cL_reaches 9 = .ok (.goto 6, 3) := by decide +kernel
theorem dL_reaches_12 : decode cL_reaches 12 = .ok (.astore_n 3, 1) := by decide +kernel
theorem dL_reaches_13 : decode cL_reaches 13 = .ok (.iconst 1, 1) := by decide +kernel
theorem dL_reaches_14 : decode cL_reaches 14 = .ok (.ireturn, 1) := by decide +kernel
theorem dL_reaches_15 : decode cL_reaches 15 = .ok (.iconst 0, 1) := by decide +kernel
theorem dL_reaches_16 : decode cL_reaches 16 = .ok (.ireturn, 1) := by decide +kernel
theorem dL_extent_0 : decode cL_extent 0 = .ok (.aload_n 2, 1) := by decide +kernel
theorem dL_extent_1 : decode cL_extent 1 = .ok (.iconst 0, 1) := by decide +kernel
theorem dL_extent_2 : decode cL_extent 2 = .ok (.aload_n 0, 1) := by decide +kernel
theorem dL_extent_3 : decode cL_extent 3 = .ok (.iload_n 1, 1) := by decide +kernel
theorem dL_extent_4 : decode cL_extent 4 = .ok (.invokevirtual 74, 3) := by decide +kernel
theorem dL_extent_7 : decode cL_extent 7 = .ok (.i2l, 1) := by decide +kernel
theorem dL_extent_8 : decode cL_extent 8 = .ok (.lastore, 1) := by decide +kernel
theorem dL_extent_9 : decode cL_extent 9 = .ok (.goto 6, 3) := by decide +kernel
theorem dL_extent_12 : decode cL_extent 12 = .ok (.astore_n 3, 1) := by decide +kernel
theorem dL_extent_13 : decode cL_extent 13 = .ok (.iconst 1, 1) := by decide +kernel
theorem dL_extent_14 : decode cL_extent 14 = .ok (.ireturn, 1) := by decide +kernel
theorem dL_extent_15 : decode cL_extent 15 = .ok (.iconst 0, 1) := by decide +kernel
theorem dL_extent_16 : decode cL_extent 16 = .ok (.ireturn, 1) := by decide +kernel
theorem dL_items_0 : decode cL_items 0 = .ok (.aload_n 3, 1) := by decide +kernel
theorem dL_items_1 : decode cL_items 1 = .ok (.iconst 0, 1) := by decide +kernel
theorem dL_items_2 : decode cL_items 2 = .ok (.aload_n 0, 1) := by decide +kernel
theorem dL_items_3 : decode cL_items 3 = .ok (.iload_n 1, 1) := by decide +kernel
theorem dL_items_4 : decode cL_items 4 = .ok (.iload_n 2, 1) := by decide +kernel
theorem dL_items_5 : decode cL_items 5 = .ok (.invokevirtual 77, 3) := by decide +kernel
theorem dL_items_8 : decode cL_items 8 = .ok (.i2l, 1) := by decide +kernel
theorem dL_items_9 : decode cL_items 9 = .ok (.lastore, 1) := by decide +kernel
theorem dL_items_10 : decode cL_items 10 = .ok (.goto 11, 3) := by decide +kernel
theorem dL_items_13 : decode cL_items 13 = .ok (.astore 4, 2) := by decide +kernel
theorem dL_items_15 : decode cL_items 15 = .ok (.iconst 1, 1) := by decide +kernel
theorem dL_items_16 : decode cL_items 16 = .ok (.ireturn, 1) := by decide +kernel
theorem dL_items_17 : decode cL_items 17 = .ok (.astore 4, 2) := by decide +kernel
theorem dL_items_19 : decode cL_items 19 = .ok (.iconst 2, 1) := by decide +kernel
theorem dL_items_20 : decode cL_items 20 = .ok (.ireturn, 1) := by decide +kernel
theorem dL_items_21 : decode cL_items 21 = .ok (.iconst 0, 1) := by decide +kernel
theorem dL_items_22 : decode cL_items 22 = .ok (.ireturn, 1) := by decide +kernel
theorem dL_sortAt_0 : decode cL_sortAt 0 = .ok (.aload 4, 2) := by decide +kernel
theorem dL_sortAt_2 : decode cL_sortAt 2 = .ok (.iconst 0, 1) := by decide +kernel
theorem dL_sortAt_3 : decode cL_sortAt 3 = .ok (.aload_n 0, 1) := by decide +kernel
theorem dL_sortAt_4 : decode cL_sortAt 4 = .ok (.iload_n 1, 1) := by decide +kernel
theorem dL_sortAt_5 : decode cL_sortAt 5 = .ok (.iload_n 2, 1) := by decide +kernel
theorem dL_sortAt_6 : decode cL_sortAt 6 = .ok (.iload_n 3, 1) := by decide +kernel
theorem dL_sortAt_7 : decode cL_sortAt 7 = .ok (.invokevirtual 80, 3) := by decide +kernel
theorem dL_sortAt_10 : decode cL_sortAt 10 = .ok (.i2l, 1) := by decide +kernel
theorem dL_sortAt_11 : decode cL_sortAt 11 = .ok (.lastore, 1) := by decide +kernel
theorem dL_sortAt_12 : decode cL_sortAt 12 = .ok (.goto 15, 3) := by decide +kernel
theorem dL_sortAt_15 : decode cL_sortAt 15 = .ok (.astore 5, 2) := by decide +kernel
theorem dL_sortAt_17 : decode cL_sortAt 17 = .ok (.iconst 1, 1) := by decide +kernel
theorem dL_sortAt_18 : decode cL_sortAt 18 = .ok (.ireturn, 1) := by decide +kernel
theorem dL_sortAt_19 : decode cL_sortAt 19 = .ok (.astore 5, 2) := by decide +kernel
theorem dL_sortAt_21 : decode cL_sortAt 21 = .ok (.iconst 2, 1) := by decide +kernel
theorem dL_sortAt_22 : decode cL_sortAt 22 = .ok (.ireturn, 1) := by decide +kernel
theorem dL_sortAt_23 : decode cL_sortAt 23 = .ok (.astore 5, 2) := by decide +kernel
theorem dL_sortAt_25 : decode cL_sortAt 25 = .ok (.iconst 3, 1) := by decide +kernel
theorem dL_sortAt_26 : decode cL_sortAt 26 = .ok (.ireturn, 1) := by decide +kernel
theorem dL_sortAt_27 : decode cL_sortAt 27 = .ok (.iconst 0, 1) := by decide +kernel
theorem dL_sortAt_28 : decode cL_sortAt 28 = .ok (.ireturn, 1) := by decide +kernel
theorem dL_itemAt_0 : decode cL_itemAt 0 = .ok (.aload 4, 2) := by decide +kernel
theorem dL_itemAt_2 : decode cL_itemAt 2 = .ok (.iconst 0, 1) := by decide +kernel
theorem dL_itemAt_3 : decode cL_itemAt 3 = .ok (.aload_n 0, 1) := by decide +kernel
theorem dL_itemAt_4 : decode cL_itemAt 4 = .ok (.iload_n 1, 1) := by decide +kernel
theorem dL_itemAt_5 : decode cL_itemAt 5 = .ok (.iload_n 2, 1) := by decide +kernel
theorem dL_itemAt_6 : decode cL_itemAt 6 = .ok (.iload_n 3, 1) := by decide +kernel
theorem dL_itemAt_7 : decode cL_itemAt 7 = .ok (.invokevirtual 85, 3) := by decide +kernel
theorem dL_itemAt_10 : decode cL_itemAt 10 = .ok (.i2l, 1) := by decide +kernel
theorem dL_itemAt_11 : decode cL_itemAt 11 = .ok (.lastore, 1) := by decide +kernel
theorem dL_itemAt_12 : decode cL_itemAt 12 = .ok (.goto 15, 3) := by decide +kernel
theorem dL_itemAt_15 : decode cL_itemAt 15 = .ok (.astore 5, 2) := by decide +kernel
theorem dL_itemAt_17 : decode cL_itemAt 17 = .ok (.iconst 1, 1) := by decide +kernel
theorem dL_itemAt_18 : decode cL_itemAt 18 = .ok (.ireturn, 1) := by decide +kernel
theorem dL_itemAt_19 : decode cL_itemAt 19 = .ok (.astore 5, 2) := by decide +kernel
theorem dL_itemAt_21 : decode cL_itemAt 21 = .ok (.iconst 2, 1) := by decide +kernel
theorem dL_itemAt_22 : decode cL_itemAt 22 = .ok (.ireturn, 1) := by decide +kernel
theorem dL_itemAt_23 : decode cL_itemAt 23 = .ok (.astore 5, 2) := by decide +kernel
theorem dL_itemAt_25 : decode cL_itemAt 25 = .ok (.iconst 3, 1) := by decide +kernel
theorem dL_itemAt_26 : decode cL_itemAt 26 = .ok (.ireturn, 1) := by decide +kernel
theorem dL_itemAt_27 : decode cL_itemAt 27 = .ok (.iconst 0, 1) := by decide +kernel
theorem dL_itemAt_28 : decode cL_itemAt 28 = .ok (.ireturn, 1) := by decide +kernel
theorem dL_itemAnew_0 : decode cL_itemAnew 0 = .ok (.aload 4, 2) := by decide +kernel
theorem dL_itemAnew_2 : decode cL_itemAnew 2 = .ok (.iconst 0, 1) := by decide +kernel
theorem dL_itemAnew_3 : decode cL_itemAnew 3 = .ok (.aload_n 0, 1) := by decide +kernel
theorem dL_itemAnew_4 : decode cL_itemAnew 4 = .ok (.iload_n 1, 1) := by decide +kernel
theorem dL_itemAnew_5 : decode cL_itemAnew 5 = .ok (.iload_n 2, 1) := by decide +kernel
theorem dL_itemAnew_6 : decode cL_itemAnew 6 = .ok (.iload_n 3, 1) := by decide +kernel
theorem dL_itemAnew_7 : decode cL_itemAnew 7 = .ok (.invokevirtual 88, 3) := by decide +kernel
theorem dL_itemAnew_10 : decode cL_itemAnew 10 = .ok (.i2l, 1) := by decide +kernel
theorem dL_itemAnew_11 : decode cL_itemAnew 11 = .ok (.lastore, 1) := by decide +kernel
theorem dL_itemAnew_12 : decode cL_itemAnew 12 = .ok (.goto 15, 3) := by decide +kernel
theorem dL_itemAnew_15 : decode cL_itemAnew 15 = .ok (.astore 5, 2) := by decide +kernel
theorem dL_itemAnew_17 : decode cL_itemAnew 17 = .ok (.iconst 1, 1) := by decide +kernel
theorem dL_itemAnew_18 : decode cL_itemAnew 18 = .ok (.ireturn, 1) := by decide +kernel
theorem dL_itemAnew_19 : decode cL_itemAnew 19 = .ok (.astore 5, 2) := by decide +kernel
theorem dL_itemAnew_21 : decode cL_itemAnew 21 = .ok (.iconst 2, 1) := by decide +kernel
theorem dL_itemAnew_22 : decode cL_itemAnew 22 = .ok (.ireturn, 1) := by decide +kernel
theorem dL_itemAnew_23 : decode cL_itemAnew 23 = .ok (.astore 5, 2) := by decide +kernel
theorem dL_itemAnew_25 : decode cL_itemAnew 25 = .ok (.iconst 3, 1) := by decide +kernel
theorem dL_itemAnew_26 : decode cL_itemAnew 26 = .ok (.ireturn, 1) := by decide +kernel
theorem dL_itemAnew_27 : decode cL_itemAnew 27 = .ok (.iconst 0, 1) := by decide +kernel
theorem dL_itemAnew_28 : decode cL_itemAnew 28 = .ok (.ireturn, 1) := by decide +kernel
theorem dL_sourceAt_0 : decode cL_sourceAt 0 = .ok (.aload 4, 2) := by decide +kernel
theorem dL_sourceAt_2 : decode cL_sourceAt 2 = .ok (.iconst 0, 1) := by decide +kernel
theorem dL_sourceAt_3 : decode cL_sourceAt 3 = .ok (.aload_n 0, 1) := by decide +kernel
theorem dL_sourceAt_4 : decode cL_sourceAt 4 = .ok (.iload_n 1, 1) := by decide +kernel
theorem dL_sourceAt_5 : decode cL_sourceAt 5 = .ok (.iload_n 2, 1) := by decide +kernel
theorem dL_sourceAt_6 : decode cL_sourceAt 6 = .ok (.iload_n 3, 1) := by decide +kernel
theorem dL_sourceAt_7 : decode cL_sourceAt 7 = .ok (.invokevirtual 91, 3) := by decide +kernel
theorem dL_sourceAt_10 : decode cL_sourceAt 10 = .ok (.i2l, 1) := by decide +kernel
theorem dL_sourceAt_11 : decode cL_sourceAt 11 = .ok (.lastore, 1) := by decide +kernel
theorem dL_sourceAt_12 : decode cL_sourceAt 12 = .ok (.goto 15, 3) := by decide +kernel
theorem dL_sourceAt_15 : decode cL_sourceAt 15 = .ok (.astore 5, 2) := by decide +kernel
theorem dL_sourceAt_17 : decode cL_sourceAt 17 = .ok (.iconst 1, 1) := by decide +kernel
theorem dL_sourceAt_18 : decode cL_sourceAt 18 = .ok (.ireturn, 1) := by decide +kernel
theorem dL_sourceAt_19 : decode cL_sourceAt 19 = .ok (.astore 5, 2) := by decide +kernel
theorem dL_sourceAt_21 : decode cL_sourceAt 21 = .ok (.iconst 2, 1) := by decide +kernel
theorem dL_sourceAt_22 : decode cL_sourceAt 22 = .ok (.ireturn, 1) := by decide +kernel
theorem dL_sourceAt_23 : decode cL_sourceAt 23 = .ok (.astore 5, 2) := by decide +kernel
theorem dL_sourceAt_25 : decode cL_sourceAt 25 = .ok (.iconst 3, 1) := by decide +kernel
theorem dL_sourceAt_26 : decode cL_sourceAt 26 = .ok (.ireturn, 1) := by decide +kernel
theorem dL_sourceAt_27 : decode cL_sourceAt 27 = .ok (.iconst 0, 1) := by decide +kernel
theorem dL_sourceAt_28 : decode cL_sourceAt 28 = .ok (.ireturn, 1) := by decide +kernel
theorem dL_standsFor_0 : decode cL_standsFor 0 = .ok (.aload_n 2, 1) := by decide +kernel
theorem dL_standsFor_1 : decode cL_standsFor 1 = .ok (.iconst 0, 1) := by decide +kernel
theorem dL_standsFor_2 : decode cL_standsFor 2 = .ok (.aload_n 0, 1) := by decide +kernel
theorem dL_standsFor_3 : decode cL_standsFor 3 = .ok (.iload_n 1, 1) := by decide +kernel
theorem dL_standsFor_4 : decode cL_standsFor 4 = .ok (.invokevirtual 94, 3) := by decide +kernel
theorem dL_standsFor_7 : decode cL_standsFor 7 = .ok (.i2l, 1) := by decide +kernel
theorem dL_standsFor_8 : decode cL_standsFor 8 = .ok (.lastore, 1) := by decide +kernel
theorem dL_standsFor_9 : decode cL_standsFor 9 = .ok (.goto 6, 3) := by decide +kernel
theorem dL_standsFor_12 : decode cL_standsFor 12 = .ok (.astore_n 3, 1) := by decide +kernel
theorem dL_standsFor_13 : decode cL_standsFor 13 = .ok (.iconst 1, 1) := by decide +kernel
theorem dL_standsFor_14 : decode cL_standsFor 14 = .ok (.ireturn, 1) := by decide +kernel
theorem dL_standsFor_15 : decode cL_standsFor 15 = .ok (.iconst 0, 1) := by decide +kernel
theorem dL_standsFor_16 : decode cL_standsFor 16 = .ok (.ireturn, 1) := by decide +kernel
theorem dL_links_0 : decode cL_links 0 = .ok (.aload_n 2, 1) := by decide +kernel
theorem dL_links_1 : decode cL_links 1 = .ok (.iconst 0, 1) := by decide +kernel
theorem dL_links_2 : decode cL_links 2 = .ok (.aload_n 0, 1) := by decide +kernel
theorem dL_links_3 : decode cL_links 3 = .ok (.iload_n 1, 1) := by decide +kernel
theorem dL_links_4 : decode cL_links 4 = .ok (.invokevirtual 97, 3) := by decide +kernel
theorem dL_links_7 : decode cL_links 7 = .ok (.i2l, 1) := by decide +kernel
theorem dL_links_8 : decode cL_links 8 = .ok (.lastore, 1) := by decide +kernel
theorem dL_links_9 : decode cL_links 9 = .ok (.goto 6, 3) := by decide +kernel
theorem dL_links_12 : decode cL_links 12 = .ok (.astore_n 3, 1) := by decide +kernel
theorem dL_links_13 : decode cL_links 13 = .ok (.iconst 1, 1) := by decide +kernel
theorem dL_links_14 : decode cL_links 14 = .ok (.ireturn, 1) := by decide +kernel
theorem dL_links_15 : decode cL_links 15 = .ok (.iconst 0, 1) := by decide +kernel
theorem dL_links_16 : decode cL_links 16 = .ok (.ireturn, 1) := by decide +kernel
theorem dL_broken_0 : decode cL_broken 0 = .ok (.aload_n 2, 1) := by decide +kernel
theorem dL_broken_1 : decode cL_broken 1 = .ok (.iconst 0, 1) := by decide +kernel
theorem dL_broken_2 : decode cL_broken 2 = .ok (.aload_n 0, 1) := by decide +kernel
theorem dL_broken_3 : decode cL_broken 3 = .ok (.iload_n 1, 1) := by decide +kernel
theorem dL_broken_4 : decode cL_broken 4 = .ok (.invokevirtual 100, 3) := by decide +kernel
theorem dL_broken_7 : decode cL_broken 7 = .ok (.i2l, 1) := by decide +kernel
theorem dL_broken_8 : decode cL_broken 8 = .ok (.lastore, 1) := by decide +kernel
theorem dL_broken_9 : decode cL_broken 9 = .ok (.goto 6, 3) := by decide +kernel
theorem dL_broken_12 : decode cL_broken 12 = .ok (.astore_n 3, 1) := by decide +kernel
theorem dL_broken_13 : decode cL_broken 13 = .ok (.iconst 1, 1) := by decide +kernel
theorem dL_broken_14 : decode cL_broken 14 = .ok (.ireturn, 1) := by decide +kernel
theorem dL_broken_15 : decode cL_broken 15 = .ok (.iconst 0, 1) := by decide +kernel
theorem dL_broken_16 : decode cL_broken 16 = .ok (.ireturn, 1) := by decide +kernel
theorem dL_firstBroken_0 : decode cL_firstBroken 0 = .ok (.aload_n 2, 1) := by decide +kernel
theorem dL_firstBroken_1 : decode cL_firstBroken 1 = .ok (.iconst 0, 1) := by decide +kernel
theorem dL_firstBroken_2 : decode cL_firstBroken 2 = .ok (.aload_n 0, 1) := by decide +kernel
theorem dL_firstBroken_3 : decode cL_firstBroken 3 = .ok (.iload_n 1, 1) := by decide +kernel
theorem dL_firstBroken_4 : decode cL_firstBroken 4 = .ok (.invokevirtual 103, 3) := by decide +kernel
theorem dL_firstBroken_7 : decode cL_firstBroken 7 = .ok (.i2l, 1) := by decide +kernel
theorem dL_firstBroken_8 : decode cL_firstBroken 8 = .ok (.lastore, 1) := by decide +kernel
theorem dL_firstBroken_9 : decode cL_firstBroken 9 = .ok (.goto 6, 3) := by decide +kernel
theorem dL_firstBroken_12 : decode cL_firstBroken 12 = .ok (.astore_n 3, 1) := by decide +kernel
theorem dL_firstBroken_13 : decode cL_firstBroken 13 = .ok (.iconst 1, 1) := by decide +kernel
theorem dL_firstBroken_14 : decode cL_firstBroken 14 = .ok (.ireturn, 1) := by decide +kernel
theorem dL_firstBroken_15 : decode cL_firstBroken 15 = .ok (.iconst 0, 1) := by decide +kernel
theorem dL_firstBroken_16 : decode cL_firstBroken 16 = .ok (.ireturn, 1) := by decide +kernel
theorem dL_linkedFrom_0 : decode cL_linkedFrom 0 = .ok (.aload_n 2, 1) := by decide +kernel
theorem dL_linkedFrom_1 : decode cL_linkedFrom 1 = .ok (.iconst 0, 1) := by decide +kernel
theorem dL_linkedFrom_2 : decode cL_linkedFrom 2 = .ok (.aload_n 0, 1) := by decide +kernel
theorem dL_linkedFrom_3 : decode cL_linkedFrom 3 = .ok (.iload_n 1, 1) := by decide +kernel
theorem dL_linkedFrom_4 : decode cL_linkedFrom 4 = .ok (.invokevirtual 106, 3) := by decide +kernel
theorem dL_linkedFrom_7 : decode cL_linkedFrom 7 = .ok (.i2l, 1) := by decide +kernel
theorem dL_linkedFrom_8 : decode cL_linkedFrom 8 = .ok (.lastore, 1) := by decide +kernel
theorem dL_linkedFrom_9 : decode cL_linkedFrom 9 = .ok (.goto 6, 3) := by decide +kernel
theorem dL_linkedFrom_12 : decode cL_linkedFrom 12 = .ok (.astore_n 3, 1) := by decide +kernel
theorem dL_linkedFrom_13 : decode cL_linkedFrom 13 = .ok (.iconst 1, 1) := by decide +kernel
theorem dL_linkedFrom_14 : decode cL_linkedFrom 14 = .ok (.ireturn, 1) := by decide +kernel
theorem dL_linkedFrom_15 : decode cL_linkedFrom 15 = .ok (.iconst 0, 1) := by decide +kernel
theorem dL_linkedFrom_16 : decode cL_linkedFrom 16 = .ok (.ireturn, 1) := by decide +kernel
theorem dL_breaches_0 : decode cL_breaches 0 = .ok (.aload_n 2, 1) := by decide +kernel
theorem dL_breaches_1 : decode cL_breaches 1 = .ok (.iconst 0, 1) := by decide +kernel
theorem dL_breaches_2 : decode cL_breaches 2 = .ok (.aload_n 0, 1) := by decide +kernel
theorem dL_breaches_3 : decode cL_breaches 3 = .ok (.iload_n 1, 1) := by decide +kernel
theorem dL_breaches_4 : decode cL_breaches 4 = .ok (.invokevirtual 109, 3) := by decide +kernel
theorem dL_breaches_7 : decode cL_breaches 7 = .ok (.i2l, 1) := by decide +kernel
theorem dL_breaches_8 : decode cL_breaches 8 = .ok (.lastore, 1) := by decide +kernel
theorem dL_breaches_9 : decode cL_breaches 9 = .ok (.goto 6, 3) := by decide +kernel
theorem dL_breaches_12 : decode cL_breaches 12 = .ok (.astore_n 3, 1) := by decide +kernel
theorem dL_breaches_13 : decode cL_breaches 13 = .ok (.iconst 1, 1) := by decide +kernel
theorem dL_breaches_14 : decode cL_breaches 14 = .ok (.ireturn, 1) := by decide +kernel
theorem dL_breaches_15 : decode cL_breaches 15 = .ok (.iconst 0, 1) := by decide +kernel
theorem dL_breaches_16 : decode cL_breaches 16 = .ok (.ireturn, 1) := by decide +kernel
theorem dL_law_0 : decode cL_law 0 = .ok (.new 8, 3) := by decide +kernel
theorem dL_law_3 : decode cL_law 3 = .ok (.dup, 1) := by decide +kernel
theorem dL_law_4 : decode cL_law 4 = .ok (.invokespecial 112, 3) := by decide +kernel
theorem dL_law_7 : decode cL_law 7 = .ok (.astore_n 1, 1) := by decide +kernel
theorem dL_law_8 : decode cL_law 8 = .ok (.new 113, 3) := by decide +kernel
theorem dL_law_11 : decode cL_law 11 = .ok (.dup, 1) := by decide +kernel
theorem dL_law_12 : decode cL_law 12 = .ok (.invokespecial 115, 3) := by decide +kernel
theorem dL_law_15 : decode cL_law 15 = .ok (.astore_n 2, 1) := by decide +kernel
theorem dL_law_16 : decode cL_law 16 = .ok (.iconst 1, 1) := by decide +kernel
theorem dL_law_17 : decode cL_law 17 = .ok (.newarray .long, 2) := by decide +kernel
theorem dL_law_19 : decode cL_law 19 = .ok (.astore_n 3, 1) := by decide +kernel
theorem dL_law_20 : decode cL_law 20 = .ok (.iconst 0, 1) := by decide +kernel
theorem dL_law_21 : decode cL_law 21 = .ok (.istore 4, 2) := by decide +kernel
theorem dL_law_23 : decode cL_law 23 = .ok (.iload 4, 2) := by decide +kernel
theorem dL_law_25 : decode cL_law 25 = .ok (.aload_n 0, 1) := by decide +kernel
theorem dL_law_26 : decode cL_law 26 = .ok (.arraylength, 1) := by decide +kernel
theorem dL_law_27 : decode cL_law 27 = .ok (.iconst 4, 1) := by decide +kernel
theorem dL_law_28 : decode cL_law 28 = .ok (.isub, 1) := by decide +kernel
theorem dL_law_29 : decode cL_law 29 = .ok (.if_icmp .gt 2033, 3) := by decide +kernel
theorem dL_law_32 : decode cL_law 32 = .ok (.aload_n 0, 1) := by decide +kernel
theorem dL_law_33 : decode cL_law 33 = .ok (.iload 4, 2) := by decide +kernel
theorem dL_law_35 : decode cL_law 35 = .ok (.iaload, 1) := by decide +kernel
theorem dL_law_36 : decode cL_law 36 = .ok (.bipush 31, 2) := by decide +kernel
theorem dL_law_38 : decode cL_law 38 = .ok (.iand, 1) := by decide +kernel
theorem dL_law_39 : decode cL_law 39 = .ok (.tableswitch 2017 0 30 #[137, 193, 237, 305, 361, 417, 461, 517, 585, 641, 709, 777, 852, 932, 1000, 1056, 1112, 1168, 1224, 1280, 1348, 1428, 1508, 1588, 1668, 1724, 1780, 1836, 1892, 1948, 2004], 137) := by decide +kernel
theorem dL_law_176 : decode cL_law 176 = .ok (.aload_n 1, 1) := by decide +kernel
theorem dL_law_177 : decode cL_law 177 = .ok (.aload_n 0, 1) := by decide +kernel
theorem dL_law_178 : decode cL_law 178 = .ok (.iload 4, 2) := by decide +kernel
theorem dL_law_180 : decode cL_law 180 = .ok (.iconst 1, 1) := by decide +kernel
theorem dL_law_181 : decode cL_law 181 = .ok (.iadd, 1) := by decide +kernel
theorem dL_law_182 : decode cL_law 182 = .ok (.iaload, 1) := by decide +kernel
theorem dL_law_183 : decode cL_law 183 = .ok (.aload_n 3, 1) := by decide +kernel
theorem dL_law_184 : decode cL_law 184 = .ok (.invokestatic 116, 3) := by decide +kernel
theorem dL_law_187 : decode cL_law 187 = .ok (.istore 5, 2) := by decide +kernel
theorem dL_law_189 : decode cL_law 189 = .ok (.aload_n 2, 1) := by decide +kernel
theorem dL_law_190 : decode cL_law 190 = .ok (.aload_n 0, 1) := by decide +kernel
theorem dL_law_191 : decode cL_law 191 = .ok (.iload 4, 2) := by decide +kernel
theorem dL_law_193 : decode cL_law 193 = .ok (.iconst 1, 1) := by decide +kernel
theorem dL_law_194 : decode cL_law 194 = .ok (.iadd, 1) := by decide +kernel
theorem dL_law_195 : decode cL_law 195 = .ok (.iaload, 1) := by decide +kernel
theorem dL_law_196 : decode cL_law 196 = .ok (.invokevirtual 121, 3) := by decide +kernel
theorem dL_law_199 : decode cL_law 199 = .ok (.istore 6, 2) := by decide +kernel
theorem dL_law_201 : decode cL_law 201 = .ok (.aload_n 2, 1) := by decide +kernel
theorem dL_law_202 : decode cL_law 202 = .ok (.invokevirtual 122, 3) := by decide +kernel
theorem dL_law_205 : decode cL_law 205 = .ok (.iload 5, 2) := by decide +kernel
theorem dL_law_207 : decode cL_law 207 = .ok (.if_icmp .eq 5, 3) := by decide +kernel
theorem dL_law_210 : decode cL_law 210 = .ok (.iconst 0, 1) := by decide +kernel
theorem dL_law_211 : decode cL_law 211 = .ok (.ireturn, 1) := by decide +kernel
theorem dL_law_212 : decode cL_law 212 = .ok (.iload 5, 2) := by decide +kernel
theorem dL_law_214 : decode cL_law 214 = .ok (.ifCond .ne 15, 3) := by decide +kernel
theorem dL_law_217 : decode cL_law 217 = .ok (.aload_n 3, 1) := by decide +kernel
theorem dL_law_218 : decode cL_law 218 = .ok (.iconst 0, 1) := by decide +kernel
theorem dL_law_219 : decode cL_law 219 = .ok (.laload, 1) := by decide +kernel
theorem dL_law_220 : decode cL_law 220 = .ok (.iload 6, 2) := by decide +kernel
theorem dL_law_222 : decode cL_law 222 = .ok (.i2l, 1) := by decide +kernel
theorem dL_law_223 : decode cL_law 223 = .ok (.lcmp, 1) := by decide +kernel
theorem dL_law_224 : decode cL_law 224 = .ok (.ifCond .eq 5, 3) := by decide +kernel
theorem dL_law_227 : decode cL_law 227 = .ok (.iconst 0, 1) := by decide +kernel
theorem dL_law_228 : decode cL_law 228 = .ok (.ireturn, 1) := by decide +kernel
theorem dL_law_229 : decode cL_law 229 = .ok (.goto 1827, 3) := by decide +kernel
theorem dL_law_232 : decode cL_law 232 = .ok (.aload_n 1, 1) := by decide +kernel
theorem dL_law_233 : decode cL_law 233 = .ok (.aload_n 3, 1) := by decide +kernel
theorem dL_law_234 : decode cL_law 234 = .ok (.invokestatic 125, 3) := by decide +kernel
theorem dL_law_237 : decode cL_law 237 = .ok (.istore 5, 2) := by decide +kernel
theorem dL_law_239 : decode cL_law 239 = .ok (.aload_n 2, 1) := by decide +kernel
theorem dL_law_240 : decode cL_law 240 = .ok (.invokevirtual 128, 3) := by decide +kernel
theorem dL_law_243 : decode cL_law 243 = .ok (.istore 6, 2) := by decide +kernel
theorem dL_law_245 : decode cL_law 245 = .ok (.aload_n 2, 1) := by decide +kernel
theorem dL_law_246 : decode cL_law 246 = .ok (.invokevirtual 122, 3) := by decide +kernel
theorem dL_law_249 : decode cL_law 249 = .ok (.iload 5, 2) := by decide +kernel
theorem dL_law_251 : decode cL_law 251 = .ok (.if_icmp .eq 5, 3) := by decide +kernel
theorem dL_law_254 : decode cL_law 254 = .ok (.iconst 0, 1) := by decide +kernel
theorem dL_law_255 : decode cL_law 255 = .ok (.ireturn, 1) := by decide +kernel
theorem dL_law_256 : decode cL_law 256 = .ok (.iload 5, 2) := by decide +kernel
theorem dL_law_258 : decode cL_law 258 = .ok (.ifCond .ne 15, 3) := by decide +kernel
theorem dL_law_261 : decode cL_law 261 = .ok (.aload_n 3, 1) := by decide +kernel
theorem dL_law_262 : decode cL_law 262 = .ok (.iconst 0, 1) := by decide +kernel
theorem dL_law_263 : decode cL_law 263 = .ok (.laload, 1) := by decide +kernel
theorem dL_law_264 : decode cL_law 264 = .ok (.iload 6, 2) := by decide +kernel
theorem dL_law_266 : decode cL_law 266 = .ok (.i2l, 1) := by decide +kernel
theorem dL_law_267 : decode cL_law 267 = .ok (.lcmp, 1) := by decide +kernel
theorem dL_law_268 : decode cL_law 268 = .ok (.ifCond .eq 5, 3) := by decide +kernel
theorem dL_law_271 : decode cL_law 271 = .ok (.iconst 0, 1) := by decide +kernel
theorem dL_law_272 : decode cL_law 272 = .ok (.ireturn, 1) := by decide +kernel
theorem dL_law_273 : decode cL_law 273 = .ok (.goto 1783, 3) := by decide +kernel
theorem dL_law_276 : decode cL_law 276 = .ok (.aload_n 1, 1) := by decide +kernel
theorem dL_law_277 : decode cL_law 277 = .ok (.aload_n 0, 1) := by decide +kernel
theorem dL_law_278 : decode cL_law 278 = .ok (.iload 4, 2) := by decide +kernel
theorem dL_law_280 : decode cL_law 280 = .ok (.iconst 1, 1) := by decide +kernel
theorem dL_law_281 : decode cL_law 281 = .ok (.iadd, 1) := by decide +kernel
theorem dL_law_282 : decode cL_law 282 = .ok (.iaload, 1) := by decide +kernel
theorem dL_law_283 : decode cL_law 283 = .ok (.aload_n 0, 1) := by decide +kernel
theorem dL_law_284 : decode cL_law 284 = .ok (.iload 4, 2) := by decide +kernel
theorem dL_law_286 : decode cL_law 286 = .ok (.iconst 2, 1) := by decide +kernel
theorem dL_law_287 : decode cL_law 287 = .ok (.iadd, 1) := by decide +kernel
theorem dL_law_288 : decode cL_law 288 = .ok (.iaload, 1) := by decide +kernel
theorem dL_law_289 : decode cL_law 289 = .ok (.aload_n 3, 1) := by decide +kernel
theorem dL_law_290 : decode cL_law 290 = .ok (.invokestatic 129, 3) := by decide +kernel
theorem dL_law_293 : decode cL_law 293 = .ok (.istore 5, 2) := by decide +kernel
theorem dL_law_295 : decode cL_law 295 = .ok (.aload_n 2, 1) := by decide +kernel
theorem dL_law_296 : decode cL_law 296 = .ok (.aload_n 0, 1) := by decide +kernel
theorem dL_law_297 : decode cL_law 297 = .ok (.iload 4, 2) := by decide +kernel
theorem dL_law_299 : decode cL_law 299 = .ok (.iconst 1, 1) := by decide +kernel
theorem dL_law_300 : decode cL_law 300 = .ok (.iadd, 1) := by decide +kernel
theorem dL_law_301 : decode cL_law 301 = .ok (.iaload, 1) := by decide +kernel
theorem dL_law_302 : decode cL_law 302 = .ok (.aload_n 0, 1) := by decide +kernel
theorem dL_law_303 : decode cL_law 303 = .ok (.iload 4, 2) := by decide +kernel
theorem dL_law_305 : decode cL_law 305 = .ok (.iconst 2, 1) := by decide +kernel
theorem dL_law_306 : decode cL_law 306 = .ok (.iadd, 1) := by decide +kernel
theorem dL_law_307 : decode cL_law 307 = .ok (.iaload, 1) := by decide +kernel
theorem dL_law_308 : decode cL_law 308 = .ok (.invokevirtual 132, 3) := by decide +kernel
theorem dL_law_311 : decode cL_law 311 = .ok (.istore 6, 2) := by decide +kernel
theorem dL_law_313 : decode cL_law 313 = .ok (.aload_n 2, 1) := by decide +kernel
theorem dL_law_314 : decode cL_law 314 = .ok (.invokevirtual 122, 3) := by decide +kernel
theorem dL_law_317 : decode cL_law 317 = .ok (.iload 5, 2) := by decide +kernel
theorem dL_law_319 : decode cL_law 319 = .ok (.if_icmp .eq 5, 3) := by decide +kernel
theorem dL_law_322 : decode cL_law 322 = .ok (.iconst 0, 1) := by decide +kernel
theorem dL_law_323 : decode cL_law 323 = .ok (.ireturn, 1) := by decide +kernel
theorem dL_law_324 : decode cL_law 324 = .ok (.iload 5, 2) := by decide +kernel
theorem dL_law_326 : decode cL_law 326 = .ok (.ifCond .ne 15, 3) := by decide +kernel
theorem dL_law_329 : decode cL_law 329 = .ok (.aload_n 3, 1) := by decide +kernel
theorem dL_law_330 : decode cL_law 330 = .ok (.iconst 0, 1) := by decide +kernel
theorem dL_law_331 : decode cL_law 331 = .ok (.laload, 1) := by decide +kernel
theorem dL_law_332 : decode cL_law 332 = .ok (.iload 6, 2) := by decide +kernel
theorem dL_law_334 : decode cL_law 334 = .ok (.i2l, 1) := by decide +kernel
theorem dL_law_335 : decode cL_law 335 = .ok (.lcmp, 1) := by decide +kernel
theorem dL_law_336 : decode cL_law 336 = .ok (.ifCond .eq 5, 3) := by decide +kernel
theorem dL_law_339 : decode cL_law 339 = .ok (.iconst 0, 1) := by decide +kernel
theorem dL_law_340 : decode cL_law 340 = .ok (.ireturn, 1) := by decide +kernel
theorem dL_law_341 : decode cL_law 341 = .ok (.goto 1715, 3) := by decide +kernel
theorem dL_law_344 : decode cL_law 344 = .ok (.aload_n 1, 1) := by decide +kernel
theorem dL_law_345 : decode cL_law 345 = .ok (.aload_n 0, 1) := by decide +kernel
theorem dL_law_346 : decode cL_law 346 = .ok (.iload 4, 2) := by decide +kernel
theorem dL_law_348 : decode cL_law 348 = .ok (.iconst 1, 1) := by decide +kernel
theorem dL_law_349 : decode cL_law 349 = .ok (.iadd, 1) := by decide +kernel
theorem dL_law_350 : decode cL_law 350 = .ok (.iaload, 1) := by decide +kernel
theorem dL_law_351 : decode cL_law 351 = .ok (.aload_n 3, 1) := by decide +kernel
theorem dL_law_352 : decode cL_law 352 = .ok (.invokestatic 133, 3) := by decide +kernel
theorem dL_law_355 : decode cL_law 355 = .ok (.istore 5, 2) := by decide +kernel
theorem dL_law_357 : decode cL_law 357 = .ok (.aload_n 2, 1) := by decide +kernel
theorem dL_law_358 : decode cL_law 358 = .ok (.aload_n 0, 1) := by decide +kernel
theorem dL_law_359 : decode cL_law 359 = .ok (.iload 4, 2) := by decide +kernel
theorem dL_law_361 : decode cL_law 361 = .ok (.iconst 1, 1) := by decide +kernel
theorem dL_law_362 : decode cL_law 362 = .ok (.iadd, 1) := by decide +kernel
theorem dL_law_363 : decode cL_law 363 = .ok (.iaload, 1) := by decide +kernel
theorem dL_law_364 : decode cL_law 364 = .ok (.invokevirtual 135, 3) := by decide +kernel
theorem dL_law_367 : decode cL_law 367 = .ok (.istore 6, 2) := by decide +kernel
theorem dL_law_369 : decode cL_law 369 = .ok (.aload_n 2, 1) := by decide +kernel
theorem dL_law_370 : decode cL_law 370 = .ok (.invokevirtual 122, 3) := by decide +kernel
theorem dL_law_373 : decode cL_law 373 = .ok (.iload 5, 2) := by decide +kernel
theorem dL_law_375 : decode cL_law 375 = .ok (.if_icmp .eq 5, 3) := by decide +kernel
theorem dL_law_378 : decode cL_law 378 = .ok (.iconst 0, 1) := by decide +kernel
theorem dL_law_379 : decode cL_law 379 = .ok (.ireturn, 1) := by decide +kernel
theorem dL_law_380 : decode cL_law 380 = .ok (.iload 5, 2) := by decide +kernel
theorem dL_law_382 : decode cL_law 382 = .ok (.ifCond .ne 15, 3) := by decide +kernel
theorem dL_law_385 : decode cL_law 385 = .ok (.aload_n 3, 1) := by decide +kernel
theorem dL_law_386 : decode cL_law 386 = .ok (.iconst 0, 1) := by decide +kernel
theorem dL_law_387 : decode cL_law 387 = .ok (.laload, 1) := by decide +kernel
theorem dL_law_388 : decode cL_law 388 = .ok (.iload 6, 2) := by decide +kernel
theorem dL_law_390 : decode cL_law 390 = .ok (.i2l, 1) := by decide +kernel
theorem dL_law_391 : decode cL_law 391 = .ok (.lcmp, 1) := by decide +kernel
theorem dL_law_392 : decode cL_law 392 = .ok (.ifCond .eq 5, 3) := by decide +kernel
theorem dL_law_395 : decode cL_law 395 = .ok (.iconst 0, 1) := by decide +kernel
theorem dL_law_396 : decode cL_law 396 = .ok (.ireturn, 1) := by decide +kernel
theorem dL_law_397 : decode cL_law 397 = .ok (.goto 1659, 3) := by decide +kernel
theorem dL_law_400 : decode cL_law 400 = .ok (.aload_n 1, 1) := by decide +kernel
theorem dL_law_401 : decode cL_law 401 = .ok (.aload_n 0, 1) := by decide +kernel
theorem dL_law_402 : decode cL_law 402 = .ok (.iload 4, 2) := by decide +kernel
theorem dL_law_404 : decode cL_law 404 = .ok (.iconst 1, 1) := by decide +kernel
theorem dL_law_405 : decode cL_law 405 = .ok (.iadd, 1) := by decide +kernel
theorem dL_law_406 : decode cL_law 406 = .ok (.iaload, 1) := by decide +kernel
theorem dL_law_407 : decode cL_law 407 = .ok (.aload_n 3, 1) := by decide +kernel
theorem dL_law_408 : decode cL_law 408 = .ok (.invokestatic 136, 3) := by decide +kernel
theorem dL_law_411 : decode cL_law 411 = .ok (.istore 5, 2) := by decide +kernel
theorem dL_law_413 : decode cL_law 413 = .ok (.aload_n 2, 1) := by decide +kernel
theorem dL_law_414 : decode cL_law 414 = .ok (.aload_n 0, 1) := by decide +kernel
theorem dL_law_415 : decode cL_law 415 = .ok (.iload 4, 2) := by decide +kernel
theorem dL_law_417 : decode cL_law 417 = .ok (.iconst 1, 1) := by decide +kernel
theorem dL_law_418 : decode cL_law 418 = .ok (.iadd, 1) := by decide +kernel
theorem dL_law_419 : decode cL_law 419 = .ok (.iaload, 1) := by decide +kernel
theorem dL_law_420 : decode cL_law 420 = .ok (.invokevirtual 138, 3) := by decide +kernel
theorem dL_law_423 : decode cL_law 423 = .ok (.istore 6, 2) := by decide +kernel
theorem dL_law_425 : decode cL_law 425 = .ok (.aload_n 2, 1) := by decide +kernel
theorem dL_law_426 : decode cL_law 426 = .ok (.invokevirtual 122, 3) := by decide +kernel
theorem dL_law_429 : decode cL_law 429 = .ok (.iload 5, 2) := by decide +kernel
theorem dL_law_431 : decode cL_law 431 = .ok (.if_icmp .eq 5, 3) := by decide +kernel
theorem dL_law_434 : decode cL_law 434 = .ok (.iconst 0, 1) := by decide +kernel
theorem dL_law_435 : decode cL_law 435 = .ok (.ireturn, 1) := by decide +kernel
theorem dL_law_436 : decode cL_law 436 = .ok (.iload 5, 2) := by decide +kernel
theorem dL_law_438 : decode cL_law 438 = .ok (.ifCond .ne 15, 3) := by decide +kernel
theorem dL_law_441 : decode cL_law 441 = .ok (.aload_n 3, 1) := by decide +kernel
theorem dL_law_442 : decode cL_law 442 = .ok (.iconst 0, 1) := by decide +kernel
theorem dL_law_443 : decode cL_law 443 = .ok (.laload, 1) := by decide +kernel
theorem dL_law_444 : decode cL_law 444 = .ok (.iload 6, 2) := by decide +kernel
theorem dL_law_446 : decode cL_law 446 = .ok (.i2l, 1) := by decide +kernel
theorem dL_law_447 : decode cL_law 447 = .ok (.lcmp, 1) := by decide +kernel
theorem dL_law_448 : decode cL_law 448 = .ok (.ifCond .eq 5, 3) := by decide +kernel
theorem dL_law_451 : decode cL_law 451 = .ok (.iconst 0, 1) := by decide +kernel
theorem dL_law_452 : decode cL_law 452 = .ok (.ireturn, 1) := by decide +kernel
theorem dL_law_453 : decode cL_law 453 = .ok (.goto 1603, 3) := by decide +kernel
theorem dL_law_456 : decode cL_law 456 = .ok (.aload_n 1, 1) := by decide +kernel
theorem dL_law_457 : decode cL_law 457 = .ok (.aload_n 3, 1) := by decide +kernel
theorem dL_law_458 : decode cL_law 458 = .ok (.invokestatic 139, 3) := by decide +kernel
theorem dL_law_461 : decode cL_law 461 = .ok (.istore 5, 2) := by decide +kernel
theorem dL_law_463 : decode cL_law 463 = .ok (.aload_n 2, 1) := by decide +kernel
theorem dL_law_464 : decode cL_law 464 = .ok (.invokevirtual 141, 3) := by decide +kernel
theorem dL_law_467 : decode cL_law 467 = .ok (.istore 6, 2) := by decide +kernel
theorem dL_law_469 : decode cL_law 469 = .ok (.aload_n 2, 1) := by decide +kernel
theorem dL_law_470 : decode cL_law 470 = .ok (.invokevirtual 122, 3) := by decide +kernel
theorem dL_law_473 : decode cL_law 473 = .ok (.iload 5, 2) := by decide +kernel
theorem dL_law_475 : decode cL_law 475 = .ok (.if_icmp .eq 5, 3) := by decide +kernel
theorem dL_law_478 : decode cL_law 478 = .ok (.iconst 0, 1) := by decide +kernel
theorem dL_law_479 : decode cL_law 479 = .ok (.ireturn, 1) := by decide +kernel
theorem dL_law_480 : decode cL_law 480 = .ok (.iload 5, 2) := by decide +kernel
theorem dL_law_482 : decode cL_law 482 = .ok (.ifCond .ne 15, 3) := by decide +kernel
theorem dL_law_485 : decode cL_law 485 = .ok (.aload_n 3, 1) := by decide +kernel
theorem dL_law_486 : decode cL_law 486 = .ok (.iconst 0, 1) := by decide +kernel
theorem dL_law_487 : decode cL_law 487 = .ok (.laload, 1) := by decide +kernel
theorem dL_law_488 : decode cL_law 488 = .ok (.iload 6, 2) := by decide +kernel
theorem dL_law_490 : decode cL_law 490 = .ok (.i2l, 1) := by decide +kernel
theorem dL_law_491 : decode cL_law 491 = .ok (.lcmp, 1) := by decide +kernel
theorem dL_law_492 : decode cL_law 492 = .ok (.ifCond .eq 5, 3) := by decide +kernel
theorem dL_law_495 : decode cL_law 495 = .ok (.iconst 0, 1) := by decide +kernel
theorem dL_law_496 : decode cL_law 496 = .ok (.ireturn, 1) := by decide +kernel
theorem dL_law_497 : decode cL_law 497 = .ok (.goto 1559, 3) := by decide +kernel
theorem dL_law_500 : decode cL_law 500 = .ok (.aload_n 1, 1) := by decide +kernel
theorem dL_law_501 : decode cL_law 501 = .ok (.aload_n 0, 1) := by decide +kernel
theorem dL_law_502 : decode cL_law 502 = .ok (.iload 4, 2) := by decide +kernel
theorem dL_law_504 : decode cL_law 504 = .ok (.iconst 1, 1) := by decide +kernel
theorem dL_law_505 : decode cL_law 505 = .ok (.iadd, 1) := by decide +kernel
theorem dL_law_506 : decode cL_law 506 = .ok (.iaload, 1) := by decide +kernel
theorem dL_law_507 : decode cL_law 507 = .ok (.aload_n 3, 1) := by decide +kernel
theorem dL_law_508 : decode cL_law 508 = .ok (.invokestatic 142, 3) := by decide +kernel
theorem dL_law_511 : decode cL_law 511 = .ok (.istore 5, 2) := by decide +kernel
theorem dL_law_513 : decode cL_law 513 = .ok (.aload_n 2, 1) := by decide +kernel
theorem dL_law_514 : decode cL_law 514 = .ok (.aload_n 0, 1) := by decide +kernel
theorem dL_law_515 : decode cL_law 515 = .ok (.iload 4, 2) := by decide +kernel
theorem dL_law_517 : decode cL_law 517 = .ok (.iconst 1, 1) := by decide +kernel
theorem dL_law_518 : decode cL_law 518 = .ok (.iadd, 1) := by decide +kernel
theorem dL_law_519 : decode cL_law 519 = .ok (.iaload, 1) := by decide +kernel
theorem dL_law_520 : decode cL_law 520 = .ok (.invokevirtual 144, 3) := by decide +kernel
theorem dL_law_523 : decode cL_law 523 = .ok (.istore 6, 2) := by decide +kernel
theorem dL_law_525 : decode cL_law 525 = .ok (.aload_n 2, 1) := by decide +kernel
theorem dL_law_526 : decode cL_law 526 = .ok (.invokevirtual 122, 3) := by decide +kernel
theorem dL_law_529 : decode cL_law 529 = .ok (.iload 5, 2) := by decide +kernel
theorem dL_law_531 : decode cL_law 531 = .ok (.if_icmp .eq 5, 3) := by decide +kernel
theorem dL_law_534 : decode cL_law 534 = .ok (.iconst 0, 1) := by decide +kernel
theorem dL_law_535 : decode cL_law 535 = .ok (.ireturn, 1) := by decide +kernel
theorem dL_law_536 : decode cL_law 536 = .ok (.iload 5, 2) := by decide +kernel
theorem dL_law_538 : decode cL_law 538 = .ok (.ifCond .ne 15, 3) := by decide +kernel
theorem dL_law_541 : decode cL_law 541 = .ok (.aload_n 3, 1) := by decide +kernel
theorem dL_law_542 : decode cL_law 542 = .ok (.iconst 0, 1) := by decide +kernel
theorem dL_law_543 : decode cL_law 543 = .ok (.laload, 1) := by decide +kernel
theorem dL_law_544 : decode cL_law 544 = .ok (.iload 6, 2) := by decide +kernel
theorem dL_law_546 : decode cL_law 546 = .ok (.i2l, 1) := by decide +kernel
theorem dL_law_547 : decode cL_law 547 = .ok (.lcmp, 1) := by decide +kernel
theorem dL_law_548 : decode cL_law 548 = .ok (.ifCond .eq 5, 3) := by decide +kernel
theorem dL_law_551 : decode cL_law 551 = .ok (.iconst 0, 1) := by decide +kernel
theorem dL_law_552 : decode cL_law 552 = .ok (.ireturn, 1) := by decide +kernel
theorem dL_law_553 : decode cL_law 553 = .ok (.goto 1503, 3) := by decide +kernel
theorem dL_law_556 : decode cL_law 556 = .ok (.aload_n 1, 1) := by decide +kernel
theorem dL_law_557 : decode cL_law 557 = .ok (.aload_n 0, 1) := by decide +kernel
theorem dL_law_558 : decode cL_law 558 = .ok (.iload 4, 2) := by decide +kernel
theorem dL_law_560 : decode cL_law 560 = .ok (.iconst 1, 1) := by decide +kernel
theorem dL_law_561 : decode cL_law 561 = .ok (.iadd, 1) := by decide +kernel
theorem dL_law_562 : decode cL_law 562 = .ok (.iaload, 1) := by decide +kernel
theorem dL_law_563 : decode cL_law 563 = .ok (.aload_n 0, 1) := by decide +kernel
theorem dL_law_564 : decode cL_law 564 = .ok (.iload 4, 2) := by decide +kernel
theorem dL_law_566 : decode cL_law 566 = .ok (.iconst 2, 1) := by decide +kernel
theorem dL_law_567 : decode cL_law 567 = .ok (.iadd, 1) := by decide +kernel
theorem dL_law_568 : decode cL_law 568 = .ok (.iaload, 1) := by decide +kernel
theorem dL_law_569 : decode cL_law 569 = .ok (.aload_n 3, 1) := by decide +kernel
theorem dL_law_570 : decode cL_law 570 = .ok (.invokestatic 145, 3) := by decide +kernel
theorem dL_law_573 : decode cL_law 573 = .ok (.istore 5, 2) := by decide +kernel
theorem dL_law_575 : decode cL_law 575 = .ok (.aload_n 2, 1) := by decide +kernel
theorem dL_law_576 : decode cL_law 576 = .ok (.aload_n 0, 1) := by decide +kernel
theorem dL_law_577 : decode cL_law 577 = .ok (.iload 4, 2) := by decide +kernel
theorem dL_law_579 : decode cL_law 579 = .ok (.iconst 1, 1) := by decide +kernel
theorem dL_law_580 : decode cL_law 580 = .ok (.iadd, 1) := by decide +kernel
theorem dL_law_581 : decode cL_law 581 = .ok (.iaload, 1) := by decide +kernel
theorem dL_law_582 : decode cL_law 582 = .ok (.aload_n 0, 1) := by decide +kernel
theorem dL_law_583 : decode cL_law 583 = .ok (.iload 4, 2) := by decide +kernel
theorem dL_law_585 : decode cL_law 585 = .ok (.iconst 2, 1) := by decide +kernel
theorem dL_law_586 : decode cL_law 586 = .ok (.iadd, 1) := by decide +kernel
theorem dL_law_587 : decode cL_law 587 = .ok (.iaload, 1) := by decide +kernel
theorem dL_law_588 : decode cL_law 588 = .ok (.invokevirtual 147, 3) := by decide +kernel
theorem dL_law_591 : decode cL_law 591 = .ok (.istore 6, 2) := by decide +kernel
theorem dL_law_593 : decode cL_law 593 = .ok (.aload_n 2, 1) := by decide +kernel
theorem dL_law_594 : decode cL_law 594 = .ok (.invokevirtual 122, 3) := by decide +kernel
theorem dL_law_597 : decode cL_law 597 = .ok (.iload 5, 2) := by decide +kernel
theorem dL_law_599 : decode cL_law 599 = .ok (.if_icmp .eq 5, 3) := by decide +kernel
theorem dL_law_602 : decode cL_law 602 = .ok (.iconst 0, 1) := by decide +kernel
theorem dL_law_603 : decode cL_law 603 = .ok (.ireturn, 1) := by decide +kernel
theorem dL_law_604 : decode cL_law 604 = .ok (.iload 5, 2) := by decide +kernel
theorem dL_law_606 : decode cL_law 606 = .ok (.ifCond .ne 15, 3) := by decide +kernel
theorem dL_law_609 : decode cL_law 609 = .ok (.aload_n 3, 1) := by decide +kernel
theorem dL_law_610 : decode cL_law 610 = .ok (.iconst 0, 1) := by decide +kernel
theorem dL_law_611 : decode cL_law 611 = .ok (.laload, 1) := by decide +kernel
theorem dL_law_612 : decode cL_law 612 = .ok (.iload 6, 2) := by decide +kernel
theorem dL_law_614 : decode cL_law 614 = .ok (.i2l, 1) := by decide +kernel
theorem dL_law_615 : decode cL_law 615 = .ok (.lcmp, 1) := by decide +kernel
theorem dL_law_616 : decode cL_law 616 = .ok (.ifCond .eq 5, 3) := by decide +kernel
theorem dL_law_619 : decode cL_law 619 = .ok (.iconst 0, 1) := by decide +kernel
theorem dL_law_620 : decode cL_law 620 = .ok (.ireturn, 1) := by decide +kernel
theorem dL_law_621 : decode cL_law 621 = .ok (.goto 1435, 3) := by decide +kernel
theorem dL_law_624 : decode cL_law 624 = .ok (.aload_n 1, 1) := by decide +kernel
theorem dL_law_625 : decode cL_law 625 = .ok (.aload_n 0, 1) := by decide +kernel
theorem dL_law_626 : decode cL_law 626 = .ok (.iload 4, 2) := by decide +kernel
theorem dL_law_628 : decode cL_law 628 = .ok (.iconst 1, 1) := by decide +kernel
theorem dL_law_629 : decode cL_law 629 = .ok (.iadd, 1) := by decide +kernel
theorem dL_law_630 : decode cL_law 630 = .ok (.iaload, 1) := by decide +kernel
theorem dL_law_631 : decode cL_law 631 = .ok (.aload_n 3, 1) := by decide +kernel
theorem dL_law_632 : decode cL_law 632 = .ok (.invokestatic 148, 3) := by decide +kernel
theorem dL_law_635 : decode cL_law 635 = .ok (.istore 5, 2) := by decide +kernel
theorem dL_law_637 : decode cL_law 637 = .ok (.aload_n 2, 1) := by decide +kernel
theorem dL_law_638 : decode cL_law 638 = .ok (.aload_n 0, 1) := by decide +kernel
theorem dL_law_639 : decode cL_law 639 = .ok (.iload 4, 2) := by decide +kernel
theorem dL_law_641 : decode cL_law 641 = .ok (.iconst 1, 1) := by decide +kernel
theorem dL_law_642 : decode cL_law 642 = .ok (.iadd, 1) := by decide +kernel
theorem dL_law_643 : decode cL_law 643 = .ok (.iaload, 1) := by decide +kernel
theorem dL_law_644 : decode cL_law 644 = .ok (.invokevirtual 150, 3) := by decide +kernel
theorem dL_law_647 : decode cL_law 647 = .ok (.istore 6, 2) := by decide +kernel
theorem dL_law_649 : decode cL_law 649 = .ok (.aload_n 2, 1) := by decide +kernel
theorem dL_law_650 : decode cL_law 650 = .ok (.invokevirtual 122, 3) := by decide +kernel
theorem dL_law_653 : decode cL_law 653 = .ok (.iload 5, 2) := by decide +kernel
theorem dL_law_655 : decode cL_law 655 = .ok (.if_icmp .eq 5, 3) := by decide +kernel
theorem dL_law_658 : decode cL_law 658 = .ok (.iconst 0, 1) := by decide +kernel
theorem dL_law_659 : decode cL_law 659 = .ok (.ireturn, 1) := by decide +kernel
theorem dL_law_660 : decode cL_law 660 = .ok (.iload 5, 2) := by decide +kernel
theorem dL_law_662 : decode cL_law 662 = .ok (.ifCond .ne 15, 3) := by decide +kernel
theorem dL_law_665 : decode cL_law 665 = .ok (.aload_n 3, 1) := by decide +kernel
theorem dL_law_666 : decode cL_law 666 = .ok (.iconst 0, 1) := by decide +kernel
theorem dL_law_667 : decode cL_law 667 = .ok (.laload, 1) := by decide +kernel
theorem dL_law_668 : decode cL_law 668 = .ok (.iload 6, 2) := by decide +kernel
theorem dL_law_670 : decode cL_law 670 = .ok (.i2l, 1) := by decide +kernel
theorem dL_law_671 : decode cL_law 671 = .ok (.lcmp, 1) := by decide +kernel
theorem dL_law_672 : decode cL_law 672 = .ok (.ifCond .eq 5, 3) := by decide +kernel
theorem dL_law_675 : decode cL_law 675 = .ok (.iconst 0, 1) := by decide +kernel
theorem dL_law_676 : decode cL_law 676 = .ok (.ireturn, 1) := by decide +kernel
theorem dL_law_677 : decode cL_law 677 = .ok (.goto 1379, 3) := by decide +kernel
theorem dL_law_680 : decode cL_law 680 = .ok (.aload_n 1, 1) := by decide +kernel
theorem dL_law_681 : decode cL_law 681 = .ok (.aload_n 0, 1) := by decide +kernel
theorem dL_law_682 : decode cL_law 682 = .ok (.iload 4, 2) := by decide +kernel
theorem dL_law_684 : decode cL_law 684 = .ok (.iconst 1, 1) := by decide +kernel
theorem dL_law_685 : decode cL_law 685 = .ok (.iadd, 1) := by decide +kernel
theorem dL_law_686 : decode cL_law 686 = .ok (.iaload, 1) := by decide +kernel
theorem dL_law_687 : decode cL_law 687 = .ok (.aload_n 0, 1) := by decide +kernel
theorem dL_law_688 : decode cL_law 688 = .ok (.iload 4, 2) := by decide +kernel
theorem dL_law_690 : decode cL_law 690 = .ok (.iconst 2, 1) := by decide +kernel
theorem dL_law_691 : decode cL_law 691 = .ok (.iadd, 1) := by decide +kernel
theorem dL_law_692 : decode cL_law 692 = .ok (.iaload, 1) := by decide +kernel
theorem dL_law_693 : decode cL_law 693 = .ok (.aload_n 3, 1) := by decide +kernel
theorem dL_law_694 : decode cL_law 694 = .ok (.invokestatic 151, 3) := by decide +kernel
theorem dL_law_697 : decode cL_law 697 = .ok (.istore 5, 2) := by decide +kernel
theorem dL_law_699 : decode cL_law 699 = .ok (.aload_n 2, 1) := by decide +kernel
theorem dL_law_700 : decode cL_law 700 = .ok (.aload_n 0, 1) := by decide +kernel
theorem dL_law_701 : decode cL_law 701 = .ok (.iload 4, 2) := by decide +kernel
theorem dL_law_703 : decode cL_law 703 = .ok (.iconst 1, 1) := by decide +kernel
theorem dL_law_704 : decode cL_law 704 = .ok (.iadd, 1) := by decide +kernel
theorem dL_law_705 : decode cL_law 705 = .ok (.iaload, 1) := by decide +kernel
theorem dL_law_706 : decode cL_law 706 = .ok (.aload_n 0, 1) := by decide +kernel
theorem dL_law_707 : decode cL_law 707 = .ok (.iload 4, 2) := by decide +kernel
theorem dL_law_709 : decode cL_law 709 = .ok (.iconst 2, 1) := by decide +kernel
theorem dL_law_710 : decode cL_law 710 = .ok (.iadd, 1) := by decide +kernel
theorem dL_law_711 : decode cL_law 711 = .ok (.iaload, 1) := by decide +kernel
theorem dL_law_712 : decode cL_law 712 = .ok (.invokevirtual 153, 3) := by decide +kernel
theorem dL_law_715 : decode cL_law 715 = .ok (.istore 6, 2) := by decide +kernel
theorem dL_law_717 : decode cL_law 717 = .ok (.aload_n 2, 1) := by decide +kernel
theorem dL_law_718 : decode cL_law 718 = .ok (.invokevirtual 122, 3) := by decide +kernel
theorem dL_law_721 : decode cL_law 721 = .ok (.iload 5, 2) := by decide +kernel
theorem dL_law_723 : decode cL_law 723 = .ok (.if_icmp .eq 5, 3) := by decide +kernel
theorem dL_law_726 : decode cL_law 726 = .ok (.iconst 0, 1) := by decide +kernel
theorem dL_law_727 : decode cL_law 727 = .ok (.ireturn, 1) := by decide +kernel
theorem dL_law_728 : decode cL_law 728 = .ok (.iload 5, 2) := by decide +kernel
theorem dL_law_730 : decode cL_law 730 = .ok (.ifCond .ne 15, 3) := by decide +kernel
theorem dL_law_733 : decode cL_law 733 = .ok (.aload_n 3, 1) := by decide +kernel
theorem dL_law_734 : decode cL_law 734 = .ok (.iconst 0, 1) := by decide +kernel
theorem dL_law_735 : decode cL_law 735 = .ok (.laload, 1) := by decide +kernel
theorem dL_law_736 : decode cL_law 736 = .ok (.iload 6, 2) := by decide +kernel
theorem dL_law_738 : decode cL_law 738 = .ok (.i2l, 1) := by decide +kernel
theorem dL_law_739 : decode cL_law 739 = .ok (.lcmp, 1) := by decide +kernel
theorem dL_law_740 : decode cL_law 740 = .ok (.ifCond .eq 5, 3) := by decide +kernel
theorem dL_law_743 : decode cL_law 743 = .ok (.iconst 0, 1) := by decide +kernel
theorem dL_law_744 : decode cL_law 744 = .ok (.ireturn, 1) := by decide +kernel
theorem dL_law_745 : decode cL_law 745 = .ok (.goto 1311, 3) := by decide +kernel
theorem dL_law_748 : decode cL_law 748 = .ok (.aload_n 1, 1) := by decide +kernel
theorem dL_law_749 : decode cL_law 749 = .ok (.aload_n 0, 1) := by decide +kernel
theorem dL_law_750 : decode cL_law 750 = .ok (.iload 4, 2) := by decide +kernel
theorem dL_law_752 : decode cL_law 752 = .ok (.iconst 1, 1) := by decide +kernel
theorem dL_law_753 : decode cL_law 753 = .ok (.iadd, 1) := by decide +kernel
theorem dL_law_754 : decode cL_law 754 = .ok (.iaload, 1) := by decide +kernel
theorem dL_law_755 : decode cL_law 755 = .ok (.aload_n 0, 1) := by decide +kernel
theorem dL_law_756 : decode cL_law 756 = .ok (.iload 4, 2) := by decide +kernel
theorem dL_law_758 : decode cL_law 758 = .ok (.iconst 2, 1) := by decide +kernel
theorem dL_law_759 : decode cL_law 759 = .ok (.iadd, 1) := by decide +kernel
theorem dL_law_760 : decode cL_law 760 = .ok (.iaload, 1) := by decide +kernel
theorem dL_law_761 : decode cL_law 761 = .ok (.aload_n 3, 1) := by decide +kernel
theorem dL_law_762 : decode cL_law 762 = .ok (.invokestatic 154, 3) := by decide +kernel
theorem dL_law_765 : decode cL_law 765 = .ok (.istore 5, 2) := by decide +kernel
theorem dL_law_767 : decode cL_law 767 = .ok (.aload_n 2, 1) := by decide +kernel
theorem dL_law_768 : decode cL_law 768 = .ok (.aload_n 0, 1) := by decide +kernel
theorem dL_law_769 : decode cL_law 769 = .ok (.iload 4, 2) := by decide +kernel
theorem dL_law_771 : decode cL_law 771 = .ok (.iconst 1, 1) := by decide +kernel
theorem dL_law_772 : decode cL_law 772 = .ok (.iadd, 1) := by decide +kernel
theorem dL_law_773 : decode cL_law 773 = .ok (.iaload, 1) := by decide +kernel
theorem dL_law_774 : decode cL_law 774 = .ok (.aload_n 0, 1) := by decide +kernel
theorem dL_law_775 : decode cL_law 775 = .ok (.iload 4, 2) := by decide +kernel
theorem dL_law_777 : decode cL_law 777 = .ok (.iconst 2, 1) := by decide +kernel
theorem dL_law_778 : decode cL_law 778 = .ok (.iadd, 1) := by decide +kernel
theorem dL_law_779 : decode cL_law 779 = .ok (.iaload, 1) := by decide +kernel
theorem dL_law_780 : decode cL_law 780 = .ok (.invokevirtual 156, 3) := by decide +kernel
theorem dL_law_783 : decode cL_law 783 = .ok (.istore 6, 2) := by decide +kernel
theorem dL_law_785 : decode cL_law 785 = .ok (.aload_n 2, 1) := by decide +kernel
theorem dL_law_786 : decode cL_law 786 = .ok (.invokevirtual 122, 3) := by decide +kernel
theorem dL_law_789 : decode cL_law 789 = .ok (.iload 5, 2) := by decide +kernel
theorem dL_law_791 : decode cL_law 791 = .ok (.if_icmp .eq 5, 3) := by decide +kernel
theorem dL_law_794 : decode cL_law 794 = .ok (.iconst 0, 1) := by decide +kernel
theorem dL_law_795 : decode cL_law 795 = .ok (.ireturn, 1) := by decide +kernel
theorem dL_law_796 : decode cL_law 796 = .ok (.iload 5, 2) := by decide +kernel
theorem dL_law_798 : decode cL_law 798 = .ok (.ifCond .ne 15, 3) := by decide +kernel
theorem dL_law_801 : decode cL_law 801 = .ok (.aload_n 3, 1) := by decide +kernel
theorem dL_law_802 : decode cL_law 802 = .ok (.iconst 0, 1) := by decide +kernel
theorem dL_law_803 : decode cL_law 803 = .ok (.laload, 1) := by decide +kernel
theorem dL_law_804 : decode cL_law 804 = .ok (.iload 6, 2) := by decide +kernel
theorem dL_law_806 : decode cL_law 806 = .ok (.i2l, 1) := by decide +kernel
theorem dL_law_807 : decode cL_law 807 = .ok (.lcmp, 1) := by decide +kernel
theorem dL_law_808 : decode cL_law 808 = .ok (.ifCond .eq 5, 3) := by decide +kernel
theorem dL_law_811 : decode cL_law 811 = .ok (.iconst 0, 1) := by decide +kernel
theorem dL_law_812 : decode cL_law 812 = .ok (.ireturn, 1) := by decide +kernel
theorem dL_law_813 : decode cL_law 813 = .ok (.goto 1243, 3) := by decide +kernel
theorem dL_law_816 : decode cL_law 816 = .ok (.aload_n 1, 1) := by decide +kernel
theorem dL_law_817 : decode cL_law 817 = .ok (.aload_n 0, 1) := by decide +kernel
theorem dL_law_818 : decode cL_law 818 = .ok (.iload 4, 2) := by decide +kernel
theorem dL_law_820 : decode cL_law 820 = .ok (.iconst 1, 1) := by decide +kernel
theorem dL_law_821 : decode cL_law 821 = .ok (.iadd, 1) := by decide +kernel
theorem dL_law_822 : decode cL_law 822 = .ok (.iaload, 1) := by decide +kernel
theorem dL_law_823 : decode cL_law 823 = .ok (.aload_n 0, 1) := by decide +kernel
theorem dL_law_824 : decode cL_law 824 = .ok (.iload 4, 2) := by decide +kernel
theorem dL_law_826 : decode cL_law 826 = .ok (.iconst 2, 1) := by decide +kernel
theorem dL_law_827 : decode cL_law 827 = .ok (.iadd, 1) := by decide +kernel
theorem dL_law_828 : decode cL_law 828 = .ok (.iaload, 1) := by decide +kernel
theorem dL_law_829 : decode cL_law 829 = .ok (.aload_n 3, 1) := by decide +kernel
theorem dL_law_830 : decode cL_law 830 = .ok (.invokestatic 157, 3) := by decide +kernel
theorem dL_law_833 : decode cL_law 833 = .ok (.istore 5, 2) := by decide +kernel
theorem dL_law_835 : decode cL_law 835 = .ok (.aload_n 2, 1) := by decide +kernel
theorem dL_law_836 : decode cL_law 836 = .ok (.aload_n 0, 1) := by decide +kernel
theorem dL_law_837 : decode cL_law 837 = .ok (.iload 4, 2) := by decide +kernel
theorem dL_law_839 : decode cL_law 839 = .ok (.iconst 1, 1) := by decide +kernel
theorem dL_law_840 : decode cL_law 840 = .ok (.iadd, 1) := by decide +kernel
theorem dL_law_841 : decode cL_law 841 = .ok (.iaload, 1) := by decide +kernel
theorem dL_law_842 : decode cL_law 842 = .ok (.aload_n 0, 1) := by decide +kernel
theorem dL_law_843 : decode cL_law 843 = .ok (.iload 4, 2) := by decide +kernel
theorem dL_law_845 : decode cL_law 845 = .ok (.iconst 2, 1) := by decide +kernel
theorem dL_law_846 : decode cL_law 846 = .ok (.iadd, 1) := by decide +kernel
theorem dL_law_847 : decode cL_law 847 = .ok (.iaload, 1) := by decide +kernel
theorem dL_law_848 : decode cL_law 848 = .ok (.invokevirtual 159, 3) := by decide +kernel
theorem dL_law_851 : decode cL_law 851 = .ok (.istore 6, 2) := by decide +kernel
theorem dL_law_853 : decode cL_law 853 = .ok (.aload_n 2, 1) := by decide +kernel
theorem dL_law_854 : decode cL_law 854 = .ok (.invokevirtual 122, 3) := by decide +kernel
theorem dL_law_857 : decode cL_law 857 = .ok (.iload 5, 2) := by decide +kernel
theorem dL_law_859 : decode cL_law 859 = .ok (.if_icmp .eq 5, 3) := by decide +kernel
theorem dL_law_862 : decode cL_law 862 = .ok (.iconst 0, 1) := by decide +kernel
theorem dL_law_863 : decode cL_law 863 = .ok (.ireturn, 1) := by decide +kernel
theorem dL_law_864 : decode cL_law 864 = .ok (.iload 5, 2) := by decide +kernel
theorem dL_law_866 : decode cL_law 866 = .ok (.ifCond .ne 22, 3) := by decide +kernel
theorem dL_law_869 : decode cL_law 869 = .ok (.aload_n 3, 1) := by decide +kernel
theorem dL_law_870 : decode cL_law 870 = .ok (.iconst 0, 1) := by decide +kernel
theorem dL_law_871 : decode cL_law 871 = .ok (.laload, 1) := by decide +kernel
theorem dL_law_872 : decode cL_law 872 = .ok (.iload 6, 2) := by decide +kernel
theorem dL_law_874 : decode cL_law 874 = .ok (.ifCond .eq 7, 3) := by decide +kernel
theorem dL_law_877 : decode cL_law 877 = .ok (.lconst 1, 1) := by decide +kernel
theorem dL_law_878 : decode cL_law 878 = .ok (.goto 4, 3) := by decide +kernel
theorem dL_law_881 : decode cL_law 881 = .ok (.lconst 0, 1) := by decide +kernel
theorem dL_law_882 : decode cL_law 882 = .ok (.lcmp, 1) := by decide +kernel
theorem dL_law_883 : decode cL_law 883 = .ok (.ifCond .eq 5, 3) := by decide +kernel
theorem dL_law_886 : decode cL_law 886 = .ok (.iconst 0, 1) := by decide +kernel
theorem dL_law_887 : decode cL_law 887 = .ok (.ireturn, 1) := by decide +kernel
theorem dL_law_888 : decode cL_law 888 = .ok (.goto 1168, 3) := by decide +kernel
theorem dL_law_891 : decode cL_law 891 = .ok (.aload_n 1, 1) := by decide +kernel
theorem dL_law_892 : decode cL_law 892 = .ok (.aload_n 0, 1) := by decide +kernel
theorem dL_law_893 : decode cL_law 893 = .ok (.iload 4, 2) := by decide +kernel
theorem dL_law_895 : decode cL_law 895 = .ok (.iconst 1, 1) := by decide +kernel
theorem dL_law_896 : decode cL_law 896 = .ok (.iadd, 1) := by decide +kernel
theorem dL_law_897 : decode cL_law 897 = .ok (.iaload, 1) := by decide +kernel
theorem dL_law_898 : decode cL_law 898 = .ok (.aload_n 0, 1) := by decide +kernel
theorem dL_law_899 : decode cL_law 899 = .ok (.iload 4, 2) := by decide +kernel
theorem dL_law_901 : decode cL_law 901 = .ok (.iconst 2, 1) := by decide +kernel
theorem dL_law_902 : decode cL_law 902 = .ok (.iadd, 1) := by decide +kernel
theorem dL_law_903 : decode cL_law 903 = .ok (.iaload, 1) := by decide +kernel
theorem dL_law_904 : decode cL_law 904 = .ok (.aload_n 0, 1) := by decide +kernel
theorem dL_law_905 : decode cL_law 905 = .ok (.iload 4, 2) := by decide +kernel
theorem dL_law_907 : decode cL_law 907 = .ok (.iconst 3, 1) := by decide +kernel
theorem dL_law_908 : decode cL_law 908 = .ok (.iadd, 1) := by decide +kernel
theorem dL_law_909 : decode cL_law 909 = .ok (.iaload, 1) := by decide +kernel
theorem dL_law_910 : decode cL_law 910 = .ok (.aload_n 3, 1) := by decide +kernel
theorem dL_law_911 : decode cL_law 911 = .ok (.invokestatic 160, 3) := by decide +kernel
theorem dL_law_914 : decode cL_law 914 = .ok (.istore 5, 2) := by decide +kernel
theorem dL_law_916 : decode cL_law 916 = .ok (.aload_n 2, 1) := by decide +kernel
theorem dL_law_917 : decode cL_law 917 = .ok (.aload_n 0, 1) := by decide +kernel
theorem dL_law_918 : decode cL_law 918 = .ok (.iload 4, 2) := by decide +kernel
theorem dL_law_920 : decode cL_law 920 = .ok (.iconst 1, 1) := by decide +kernel
theorem dL_law_921 : decode cL_law 921 = .ok (.iadd, 1) := by decide +kernel
theorem dL_law_922 : decode cL_law 922 = .ok (.iaload, 1) := by decide +kernel
theorem dL_law_923 : decode cL_law 923 = .ok (.aload_n 0, 1) := by decide +kernel
theorem dL_law_924 : decode cL_law 924 = .ok (.iload 4, 2) := by decide +kernel
theorem dL_law_926 : decode cL_law 926 = .ok (.iconst 2, 1) := by decide +kernel
theorem dL_law_927 : decode cL_law 927 = .ok (.iadd, 1) := by decide +kernel
theorem dL_law_928 : decode cL_law 928 = .ok (.iaload, 1) := by decide +kernel
theorem dL_law_929 : decode cL_law 929 = .ok (.aload_n 0, 1) := by decide +kernel
theorem dL_law_930 : decode cL_law 930 = .ok (.iload 4, 2) := by decide +kernel
theorem dL_law_932 : decode cL_law 932 = .ok (.iconst 3, 1) := by decide +kernel
theorem dL_law_933 : decode cL_law 933 = .ok (.iadd, 1) := by decide +kernel
theorem dL_law_934 : decode cL_law 934 = .ok (.iaload, 1) := by decide +kernel
theorem dL_law_935 : decode cL_law 935 = .ok (.invokevirtual 163, 3) := by decide +kernel
theorem dL_law_938 : decode cL_law 938 = .ok (.istore 6, 2) := by decide +kernel
theorem dL_law_940 : decode cL_law 940 = .ok (.aload_n 2, 1) := by decide +kernel
theorem dL_law_941 : decode cL_law 941 = .ok (.invokevirtual 122, 3) := by decide +kernel
theorem dL_law_944 : decode cL_law 944 = .ok (.iload 5, 2) := by decide +kernel
theorem dL_law_946 : decode cL_law 946 = .ok (.if_icmp .eq 5, 3) := by decide +kernel
theorem dL_law_949 : decode cL_law 949 = .ok (.iconst 0, 1) := by decide +kernel
theorem dL_law_950 : decode cL_law 950 = .ok (.ireturn, 1) := by decide +kernel
theorem dL_law_951 : decode cL_law 951 = .ok (.iload 5, 2) := by decide +kernel
theorem dL_law_953 : decode cL_law 953 = .ok (.ifCond .ne 15, 3) := by decide +kernel
theorem dL_law_956 : decode cL_law 956 = .ok (.aload_n 3, 1) := by decide +kernel
theorem dL_law_957 : decode cL_law 957 = .ok (.iconst 0, 1) := by decide +kernel
theorem dL_law_958 : decode cL_law 958 = .ok (.laload, 1) := by decide +kernel
theorem dL_law_959 : decode cL_law 959 = .ok (.iload 6, 2) := by decide +kernel
theorem dL_law_961 : decode cL_law 961 = .ok (.i2l, 1) := by decide +kernel
theorem dL_law_962 : decode cL_law 962 = .ok (.lcmp, 1) := by decide +kernel
theorem dL_law_963 : decode cL_law 963 = .ok (.ifCond .eq 5, 3) := by decide +kernel
theorem dL_law_966 : decode cL_law 966 = .ok (.iconst 0, 1) := by decide +kernel
theorem dL_law_967 : decode cL_law 967 = .ok (.ireturn, 1) := by decide +kernel
theorem dL_law_968 : decode cL_law 968 = .ok (.goto 1088, 3) := by decide +kernel
theorem dL_law_971 : decode cL_law 971 = .ok (.aload_n 1, 1) := by decide +kernel
theorem dL_law_972 : decode cL_law 972 = .ok (.aload_n 0, 1) := by decide +kernel
theorem dL_law_973 : decode cL_law 973 = .ok (.iload 4, 2) := by decide +kernel
theorem dL_law_975 : decode cL_law 975 = .ok (.iconst 1, 1) := by decide +kernel
theorem dL_law_976 : decode cL_law 976 = .ok (.iadd, 1) := by decide +kernel
theorem dL_law_977 : decode cL_law 977 = .ok (.iaload, 1) := by decide +kernel
theorem dL_law_978 : decode cL_law 978 = .ok (.aload_n 0, 1) := by decide +kernel
theorem dL_law_979 : decode cL_law 979 = .ok (.iload 4, 2) := by decide +kernel
theorem dL_law_981 : decode cL_law 981 = .ok (.iconst 2, 1) := by decide +kernel
theorem dL_law_982 : decode cL_law 982 = .ok (.iadd, 1) := by decide +kernel
theorem dL_law_983 : decode cL_law 983 = .ok (.iaload, 1) := by decide +kernel
theorem dL_law_984 : decode cL_law 984 = .ok (.aload_n 3, 1) := by decide +kernel
theorem dL_law_985 : decode cL_law 985 = .ok (.invokestatic 164, 3) := by decide +kernel
theorem dL_law_988 : decode cL_law 988 = .ok (.istore 5, 2) := by decide +kernel
theorem dL_law_990 : decode cL_law 990 = .ok (.aload_n 2, 1) := by decide +kernel
theorem dL_law_991 : decode cL_law 991 = .ok (.aload_n 0, 1) := by decide +kernel
theorem dL_law_992 : decode cL_law 992 = .ok (.iload 4, 2) := by decide +kernel
theorem dL_law_994 : decode cL_law 994 = .ok (.iconst 1, 1) := by decide +kernel
theorem dL_law_995 : decode cL_law 995 = .ok (.iadd, 1) := by decide +kernel
theorem dL_law_996 : decode cL_law 996 = .ok (.iaload, 1) := by decide +kernel
theorem dL_law_997 : decode cL_law 997 = .ok (.aload_n 0, 1) := by decide +kernel
theorem dL_law_998 : decode cL_law 998 = .ok (.iload 4, 2) := by decide +kernel
theorem dL_law_1000 : decode cL_law 1000 = .ok (.iconst 2, 1) := by decide +kernel
theorem dL_law_1001 : decode cL_law 1001 = .ok (.iadd, 1) := by decide +kernel
theorem dL_law_1002 : decode cL_law 1002 = .ok (.iaload, 1) := by decide +kernel
theorem dL_law_1003 : decode cL_law 1003 = .ok (.invokevirtual 166, 3) := by decide +kernel
theorem dL_law_1006 : decode cL_law 1006 = .ok (.istore 6, 2) := by decide +kernel
theorem dL_law_1008 : decode cL_law 1008 = .ok (.aload_n 2, 1) := by decide +kernel
theorem dL_law_1009 : decode cL_law 1009 = .ok (.invokevirtual 122, 3) := by decide +kernel
theorem dL_law_1012 : decode cL_law 1012 = .ok (.iload 5, 2) := by decide +kernel
theorem dL_law_1014 : decode cL_law 1014 = .ok (.if_icmp .eq 5, 3) := by decide +kernel
theorem dL_law_1017 : decode cL_law 1017 = .ok (.iconst 0, 1) := by decide +kernel
theorem dL_law_1018 : decode cL_law 1018 = .ok (.ireturn, 1) := by decide +kernel
theorem dL_law_1019 : decode cL_law 1019 = .ok (.iload 5, 2) := by decide +kernel
theorem dL_law_1021 : decode cL_law 1021 = .ok (.ifCond .ne 15, 3) := by decide +kernel
theorem dL_law_1024 : decode cL_law 1024 = .ok (.aload_n 3, 1) := by decide +kernel
theorem dL_law_1025 : decode cL_law 1025 = .ok (.iconst 0, 1) := by decide +kernel
theorem dL_law_1026 : decode cL_law 1026 = .ok (.laload, 1) := by decide +kernel
theorem dL_law_1027 : decode cL_law 1027 = .ok (.iload 6, 2) := by decide +kernel
theorem dL_law_1029 : decode cL_law 1029 = .ok (.i2l, 1) := by decide +kernel
theorem dL_law_1030 : decode cL_law 1030 = .ok (.lcmp, 1) := by decide +kernel
theorem dL_law_1031 : decode cL_law 1031 = .ok (.ifCond .eq 5, 3) := by decide +kernel
theorem dL_law_1034 : decode cL_law 1034 = .ok (.iconst 0, 1) := by decide +kernel
theorem dL_law_1035 : decode cL_law 1035 = .ok (.ireturn, 1) := by decide +kernel
theorem dL_law_1036 : decode cL_law 1036 = .ok (.goto 1020, 3) := by decide +kernel
theorem dL_law_1039 : decode cL_law 1039 = .ok (.aload_n 1, 1) := by decide +kernel
theorem dL_law_1040 : decode cL_law 1040 = .ok (.aload_n 0, 1) := by decide +kernel
theorem dL_law_1041 : decode cL_law 1041 = .ok (.iload 4, 2) := by decide +kernel
theorem dL_law_1043 : decode cL_law 1043 = .ok (.iconst 1, 1) := by decide +kernel
theorem dL_law_1044 : decode cL_law 1044 = .ok (.iadd, 1) := by decide +kernel
theorem dL_law_1045 : decode cL_law 1045 = .ok (.iaload, 1) := by decide +kernel
theorem dL_law_1046 : decode cL_law 1046 = .ok (.aload_n 3, 1) := by decide +kernel
theorem dL_law_1047 : decode cL_law 1047 = .ok (.invokestatic 167, 3) := by decide +kernel
theorem dL_law_1050 : decode cL_law 1050 = .ok (.istore 5, 2) := by decide +kernel
theorem dL_law_1052 : decode cL_law 1052 = .ok (.aload_n 2, 1) := by decide +kernel
theorem dL_law_1053 : decode cL_law 1053 = .ok (.aload_n 0, 1) := by decide +kernel
theorem dL_law_1054 : decode cL_law 1054 = .ok (.iload 4, 2) := by decide +kernel
theorem dL_law_1056 : decode cL_law 1056 = .ok (.iconst 1, 1) := by decide +kernel
theorem dL_law_1057 : decode cL_law 1057 = .ok (.iadd, 1) := by decide +kernel
theorem dL_law_1058 : decode cL_law 1058 = .ok (.iaload, 1) := by decide +kernel
theorem dL_law_1059 : decode cL_law 1059 = .ok (.invokevirtual 169, 3) := by decide +kernel
theorem dL_law_1062 : decode cL_law 1062 = .ok (.istore 6, 2) := by decide +kernel
theorem dL_law_1064 : decode cL_law 1064 = .ok (.aload_n 2, 1) := by decide +kernel
theorem dL_law_1065 : decode cL_law 1065 = .ok (.invokevirtual 122, 3) := by decide +kernel
theorem dL_law_1068 : decode cL_law 1068 = .ok (.iload 5, 2) := by decide +kernel
theorem dL_law_1070 : decode cL_law 1070 = .ok (.if_icmp .eq 5, 3) := by decide +kernel
theorem dL_law_1073 : decode cL_law 1073 = .ok (.iconst 0, 1) := by decide +kernel
theorem dL_law_1074 : decode cL_law 1074 = .ok (.ireturn, 1) := by decide +kernel
theorem dL_law_1075 : decode cL_law 1075 = .ok (.iload 5, 2) := by decide +kernel
theorem dL_law_1077 : decode cL_law 1077 = .ok (.ifCond .ne 15, 3) := by decide +kernel
theorem dL_law_1080 : decode cL_law 1080 = .ok (.aload_n 3, 1) := by decide +kernel
theorem dL_law_1081 : decode cL_law 1081 = .ok (.iconst 0, 1) := by decide +kernel
theorem dL_law_1082 : decode cL_law 1082 = .ok (.laload, 1) := by decide +kernel
theorem dL_law_1083 : decode cL_law 1083 = .ok (.iload 6, 2) := by decide +kernel
theorem dL_law_1085 : decode cL_law 1085 = .ok (.i2l, 1) := by decide +kernel
theorem dL_law_1086 : decode cL_law 1086 = .ok (.lcmp, 1) := by decide +kernel
theorem dL_law_1087 : decode cL_law 1087 = .ok (.ifCond .eq 5, 3) := by decide +kernel
theorem dL_law_1090 : decode cL_law 1090 = .ok (.iconst 0, 1) := by decide +kernel
theorem dL_law_1091 : decode cL_law 1091 = .ok (.ireturn, 1) := by decide +kernel
theorem dL_law_1092 : decode cL_law 1092 = .ok (.goto 964, 3) := by decide +kernel
theorem dL_law_1095 : decode cL_law 1095 = .ok (.aload_n 1, 1) := by decide +kernel
theorem dL_law_1096 : decode cL_law 1096 = .ok (.aload_n 0, 1) := by decide +kernel
theorem dL_law_1097 : decode cL_law 1097 = .ok (.iload 4, 2) := by decide +kernel
theorem dL_law_1099 : decode cL_law 1099 = .ok (.iconst 1, 1) := by decide +kernel
theorem dL_law_1100 : decode cL_law 1100 = .ok (.iadd, 1) := by decide +kernel
theorem dL_law_1101 : decode cL_law 1101 = .ok (.iaload, 1) := by decide +kernel
theorem dL_law_1102 : decode cL_law 1102 = .ok (.aload_n 3, 1) := by decide +kernel
theorem dL_law_1103 : decode cL_law 1103 = .ok (.invokestatic 170, 3) := by decide +kernel
theorem dL_law_1106 : decode cL_law 1106 = .ok (.istore 5, 2) := by decide +kernel
theorem dL_law_1108 : decode cL_law 1108 = .ok (.aload_n 2, 1) := by decide +kernel
theorem dL_law_1109 : decode cL_law 1109 = .ok (.aload_n 0, 1) := by decide +kernel
theorem dL_law_1110 : decode cL_law 1110 = .ok (.iload 4, 2) := by decide +kernel
theorem dL_law_1112 : decode cL_law 1112 = .ok (.iconst 1, 1) := by decide +kernel
theorem dL_law_1113 : decode cL_law 1113 = .ok (.iadd, 1) := by decide +kernel
theorem dL_law_1114 : decode cL_law 1114 = .ok (.iaload, 1) := by decide +kernel
theorem dL_law_1115 : decode cL_law 1115 = .ok (.invokevirtual 172, 3) := by decide +kernel
theorem dL_law_1118 : decode cL_law 1118 = .ok (.istore 6, 2) := by decide +kernel
theorem dL_law_1120 : decode cL_law 1120 = .ok (.aload_n 2, 1) := by decide +kernel
theorem dL_law_1121 : decode cL_law 1121 = .ok (.invokevirtual 122, 3) := by decide +kernel
theorem dL_law_1124 : decode cL_law 1124 = .ok (.iload 5, 2) := by decide +kernel
theorem dL_law_1126 : decode cL_law 1126 = .ok (.if_icmp .eq 5, 3) := by decide +kernel
theorem dL_law_1129 : decode cL_law 1129 = .ok (.iconst 0, 1) := by decide +kernel
theorem dL_law_1130 : decode cL_law 1130 = .ok (.ireturn, 1) := by decide +kernel
theorem dL_law_1131 : decode cL_law 1131 = .ok (.iload 5, 2) := by decide +kernel
theorem dL_law_1133 : decode cL_law 1133 = .ok (.ifCond .ne 15, 3) := by decide +kernel
theorem dL_law_1136 : decode cL_law 1136 = .ok (.aload_n 3, 1) := by decide +kernel
theorem dL_law_1137 : decode cL_law 1137 = .ok (.iconst 0, 1) := by decide +kernel
theorem dL_law_1138 : decode cL_law 1138 = .ok (.laload, 1) := by decide +kernel
theorem dL_law_1139 : decode cL_law 1139 = .ok (.iload 6, 2) := by decide +kernel
theorem dL_law_1141 : decode cL_law 1141 = .ok (.i2l, 1) := by decide +kernel
theorem dL_law_1142 : decode cL_law 1142 = .ok (.lcmp, 1) := by decide +kernel
theorem dL_law_1143 : decode cL_law 1143 = .ok (.ifCond .eq 5, 3) := by decide +kernel
theorem dL_law_1146 : decode cL_law 1146 = .ok (.iconst 0, 1) := by decide +kernel
theorem dL_law_1147 : decode cL_law 1147 = .ok (.ireturn, 1) := by decide +kernel
theorem dL_law_1148 : decode cL_law 1148 = .ok (.goto 908, 3) := by decide +kernel
theorem dL_law_1151 : decode cL_law 1151 = .ok (.aload_n 1, 1) := by decide +kernel
theorem dL_law_1152 : decode cL_law 1152 = .ok (.aload_n 0, 1) := by decide +kernel
theorem dL_law_1153 : decode cL_law 1153 = .ok (.iload 4, 2) := by decide +kernel
theorem dL_law_1155 : decode cL_law 1155 = .ok (.iconst 1, 1) := by decide +kernel
theorem dL_law_1156 : decode cL_law 1156 = .ok (.iadd, 1) := by decide +kernel
theorem dL_law_1157 : decode cL_law 1157 = .ok (.iaload, 1) := by decide +kernel
theorem dL_law_1158 : decode cL_law 1158 = .ok (.aload_n 3, 1) := by decide +kernel
theorem dL_law_1159 : decode cL_law 1159 = .ok (.invokestatic 173, 3) := by decide +kernel
theorem dL_law_1162 : decode cL_law 1162 = .ok (.istore 5, 2) := by decide +kernel
theorem dL_law_1164 : decode cL_law 1164 = .ok (.aload_n 2, 1) := by decide +kernel
theorem dL_law_1165 : decode cL_law 1165 = .ok (.aload_n 0, 1) := by decide +kernel
theorem dL_law_1166 : decode cL_law 1166 = .ok (.iload 4, 2) := by decide +kernel
theorem dL_law_1168 : decode cL_law 1168 = .ok (.iconst 1, 1) := by decide +kernel
theorem dL_law_1169 : decode cL_law 1169 = .ok (.iadd, 1) := by decide +kernel
theorem dL_law_1170 : decode cL_law 1170 = .ok (.iaload, 1) := by decide +kernel
theorem dL_law_1171 : decode cL_law 1171 = .ok (.invokevirtual 175, 3) := by decide +kernel
theorem dL_law_1174 : decode cL_law 1174 = .ok (.istore 6, 2) := by decide +kernel
theorem dL_law_1176 : decode cL_law 1176 = .ok (.aload_n 2, 1) := by decide +kernel
theorem dL_law_1177 : decode cL_law 1177 = .ok (.invokevirtual 122, 3) := by decide +kernel
theorem dL_law_1180 : decode cL_law 1180 = .ok (.iload 5, 2) := by decide +kernel
theorem dL_law_1182 : decode cL_law 1182 = .ok (.if_icmp .eq 5, 3) := by decide +kernel
theorem dL_law_1185 : decode cL_law 1185 = .ok (.iconst 0, 1) := by decide +kernel
theorem dL_law_1186 : decode cL_law 1186 = .ok (.ireturn, 1) := by decide +kernel
theorem dL_law_1187 : decode cL_law 1187 = .ok (.iload 5, 2) := by decide +kernel
theorem dL_law_1189 : decode cL_law 1189 = .ok (.ifCond .ne 15, 3) := by decide +kernel
theorem dL_law_1192 : decode cL_law 1192 = .ok (.aload_n 3, 1) := by decide +kernel
theorem dL_law_1193 : decode cL_law 1193 = .ok (.iconst 0, 1) := by decide +kernel
theorem dL_law_1194 : decode cL_law 1194 = .ok (.laload, 1) := by decide +kernel
theorem dL_law_1195 : decode cL_law 1195 = .ok (.iload 6, 2) := by decide +kernel
theorem dL_law_1197 : decode cL_law 1197 = .ok (.i2l, 1) := by decide +kernel
theorem dL_law_1198 : decode cL_law 1198 = .ok (.lcmp, 1) := by decide +kernel
theorem dL_law_1199 : decode cL_law 1199 = .ok (.ifCond .eq 5, 3) := by decide +kernel
theorem dL_law_1202 : decode cL_law 1202 = .ok (.iconst 0, 1) := by decide +kernel
theorem dL_law_1203 : decode cL_law 1203 = .ok (.ireturn, 1) := by decide +kernel
theorem dL_law_1204 : decode cL_law 1204 = .ok (.goto 852, 3) := by decide +kernel
theorem dL_law_1207 : decode cL_law 1207 = .ok (.aload_n 1, 1) := by decide +kernel
theorem dL_law_1208 : decode cL_law 1208 = .ok (.aload_n 0, 1) := by decide +kernel
theorem dL_law_1209 : decode cL_law 1209 = .ok (.iload 4, 2) := by decide +kernel
theorem dL_law_1211 : decode cL_law 1211 = .ok (.iconst 1, 1) := by decide +kernel
theorem dL_law_1212 : decode cL_law 1212 = .ok (.iadd, 1) := by decide +kernel
theorem dL_law_1213 : decode cL_law 1213 = .ok (.iaload, 1) := by decide +kernel
theorem dL_law_1214 : decode cL_law 1214 = .ok (.aload_n 3, 1) := by decide +kernel
theorem dL_law_1215 : decode cL_law 1215 = .ok (.invokestatic 176, 3) := by decide +kernel
theorem dL_law_1218 : decode cL_law 1218 = .ok (.istore 5, 2) := by decide +kernel
theorem dL_law_1220 : decode cL_law 1220 = .ok (.aload_n 2, 1) := by decide +kernel
theorem dL_law_1221 : decode cL_law 1221 = .ok (.aload_n 0, 1) := by decide +kernel
theorem dL_law_1222 : decode cL_law 1222 = .ok (.iload 4, 2) := by decide +kernel
theorem dL_law_1224 : decode cL_law 1224 = .ok (.iconst 1, 1) := by decide +kernel
theorem dL_law_1225 : decode cL_law 1225 = .ok (.iadd, 1) := by decide +kernel
theorem dL_law_1226 : decode cL_law 1226 = .ok (.iaload, 1) := by decide +kernel
theorem dL_law_1227 : decode cL_law 1227 = .ok (.invokevirtual 178, 3) := by decide +kernel
theorem dL_law_1230 : decode cL_law 1230 = .ok (.istore 6, 2) := by decide +kernel
theorem dL_law_1232 : decode cL_law 1232 = .ok (.aload_n 2, 1) := by decide +kernel
theorem dL_law_1233 : decode cL_law 1233 = .ok (.invokevirtual 122, 3) := by decide +kernel
theorem dL_law_1236 : decode cL_law 1236 = .ok (.iload 5, 2) := by decide +kernel
theorem dL_law_1238 : decode cL_law 1238 = .ok (.if_icmp .eq 5, 3) := by decide +kernel
theorem dL_law_1241 : decode cL_law 1241 = .ok (.iconst 0, 1) := by decide +kernel
theorem dL_law_1242 : decode cL_law 1242 = .ok (.ireturn, 1) := by decide +kernel
theorem dL_law_1243 : decode cL_law 1243 = .ok (.iload 5, 2) := by decide +kernel
theorem dL_law_1245 : decode cL_law 1245 = .ok (.ifCond .ne 15, 3) := by decide +kernel
theorem dL_law_1248 : decode cL_law 1248 = .ok (.aload_n 3, 1) := by decide +kernel
theorem dL_law_1249 : decode cL_law 1249 = .ok (.iconst 0, 1) := by decide +kernel
theorem dL_law_1250 : decode cL_law 1250 = .ok (.laload, 1) := by decide +kernel
theorem dL_law_1251 : decode cL_law 1251 = .ok (.iload 6, 2) := by decide +kernel
theorem dL_law_1253 : decode cL_law 1253 = .ok (.i2l, 1) := by decide +kernel
theorem dL_law_1254 : decode cL_law 1254 = .ok (.lcmp, 1) := by decide +kernel
theorem dL_law_1255 : decode cL_law 1255 = .ok (.ifCond .eq 5, 3) := by decide +kernel
theorem dL_law_1258 : decode cL_law 1258 = .ok (.iconst 0, 1) := by decide +kernel
theorem dL_law_1259 : decode cL_law 1259 = .ok (.ireturn, 1) := by decide +kernel
theorem dL_law_1260 : decode cL_law 1260 = .ok (.goto 796, 3) := by decide +kernel
theorem dL_law_1263 : decode cL_law 1263 = .ok (.aload_n 1, 1) := by decide +kernel
theorem dL_law_1264 : decode cL_law 1264 = .ok (.aload_n 0, 1) := by decide +kernel
theorem dL_law_1265 : decode cL_law 1265 = .ok (.iload 4, 2) := by decide +kernel
theorem dL_law_1267 : decode cL_law 1267 = .ok (.iconst 1, 1) := by decide +kernel
theorem dL_law_1268 : decode cL_law 1268 = .ok (.iadd, 1) := by decide +kernel
theorem dL_law_1269 : decode cL_law 1269 = .ok (.iaload, 1) := by decide +kernel
theorem dL_law_1270 : decode cL_law 1270 = .ok (.aload_n 3, 1) := by decide +kernel
theorem dL_law_1271 : decode cL_law 1271 = .ok (.invokestatic 179, 3) := by decide +kernel
theorem dL_law_1274 : decode cL_law 1274 = .ok (.istore 5, 2) := by decide +kernel
theorem dL_law_1276 : decode cL_law 1276 = .ok (.aload_n 2, 1) := by decide +kernel
theorem dL_law_1277 : decode cL_law 1277 = .ok (.aload_n 0, 1) := by decide +kernel
theorem dL_law_1278 : decode cL_law 1278 = .ok (.iload 4, 2) := by decide +kernel
theorem dL_law_1280 : decode cL_law 1280 = .ok (.iconst 1, 1) := by decide +kernel
theorem dL_law_1281 : decode cL_law 1281 = .ok (.iadd, 1) := by decide +kernel
theorem dL_law_1282 : decode cL_law 1282 = .ok (.iaload, 1) := by decide +kernel
theorem dL_law_1283 : decode cL_law 1283 = .ok (.invokevirtual 181, 3) := by decide +kernel
theorem dL_law_1286 : decode cL_law 1286 = .ok (.istore 6, 2) := by decide +kernel
theorem dL_law_1288 : decode cL_law 1288 = .ok (.aload_n 2, 1) := by decide +kernel
theorem dL_law_1289 : decode cL_law 1289 = .ok (.invokevirtual 122, 3) := by decide +kernel
theorem dL_law_1292 : decode cL_law 1292 = .ok (.iload 5, 2) := by decide +kernel
theorem dL_law_1294 : decode cL_law 1294 = .ok (.if_icmp .eq 5, 3) := by decide +kernel
theorem dL_law_1297 : decode cL_law 1297 = .ok (.iconst 0, 1) := by decide +kernel
theorem dL_law_1298 : decode cL_law 1298 = .ok (.ireturn, 1) := by decide +kernel
theorem dL_law_1299 : decode cL_law 1299 = .ok (.iload 5, 2) := by decide +kernel
theorem dL_law_1301 : decode cL_law 1301 = .ok (.ifCond .ne 15, 3) := by decide +kernel
theorem dL_law_1304 : decode cL_law 1304 = .ok (.aload_n 3, 1) := by decide +kernel
theorem dL_law_1305 : decode cL_law 1305 = .ok (.iconst 0, 1) := by decide +kernel
theorem dL_law_1306 : decode cL_law 1306 = .ok (.laload, 1) := by decide +kernel
theorem dL_law_1307 : decode cL_law 1307 = .ok (.iload 6, 2) := by decide +kernel
theorem dL_law_1309 : decode cL_law 1309 = .ok (.i2l, 1) := by decide +kernel
theorem dL_law_1310 : decode cL_law 1310 = .ok (.lcmp, 1) := by decide +kernel
theorem dL_law_1311 : decode cL_law 1311 = .ok (.ifCond .eq 5, 3) := by decide +kernel
theorem dL_law_1314 : decode cL_law 1314 = .ok (.iconst 0, 1) := by decide +kernel
theorem dL_law_1315 : decode cL_law 1315 = .ok (.ireturn, 1) := by decide +kernel
theorem dL_law_1316 : decode cL_law 1316 = .ok (.goto 740, 3) := by decide +kernel
theorem dL_law_1319 : decode cL_law 1319 = .ok (.aload_n 1, 1) := by decide +kernel
theorem dL_law_1320 : decode cL_law 1320 = .ok (.aload_n 0, 1) := by decide +kernel
theorem dL_law_1321 : decode cL_law 1321 = .ok (.iload 4, 2) := by decide +kernel
theorem dL_law_1323 : decode cL_law 1323 = .ok (.iconst 1, 1) := by decide +kernel
theorem dL_law_1324 : decode cL_law 1324 = .ok (.iadd, 1) := by decide +kernel
theorem dL_law_1325 : decode cL_law 1325 = .ok (.iaload, 1) := by decide +kernel
theorem dL_law_1326 : decode cL_law 1326 = .ok (.aload_n 0, 1) := by decide +kernel
theorem dL_law_1327 : decode cL_law 1327 = .ok (.iload 4, 2) := by decide +kernel
theorem dL_law_1329 : decode cL_law 1329 = .ok (.iconst 2, 1) := by decide +kernel
theorem dL_law_1330 : decode cL_law 1330 = .ok (.iadd, 1) := by decide +kernel
theorem dL_law_1331 : decode cL_law 1331 = .ok (.iaload, 1) := by decide +kernel
theorem dL_law_1332 : decode cL_law 1332 = .ok (.aload_n 3, 1) := by decide +kernel
theorem dL_law_1333 : decode cL_law 1333 = .ok (.invokestatic 182, 3) := by decide +kernel
theorem dL_law_1336 : decode cL_law 1336 = .ok (.istore 5, 2) := by decide +kernel
theorem dL_law_1338 : decode cL_law 1338 = .ok (.aload_n 2, 1) := by decide +kernel
theorem dL_law_1339 : decode cL_law 1339 = .ok (.aload_n 0, 1) := by decide +kernel
theorem dL_law_1340 : decode cL_law 1340 = .ok (.iload 4, 2) := by decide +kernel
theorem dL_law_1342 : decode cL_law 1342 = .ok (.iconst 1, 1) := by decide +kernel
theorem dL_law_1343 : decode cL_law 1343 = .ok (.iadd, 1) := by decide +kernel
theorem dL_law_1344 : decode cL_law 1344 = .ok (.iaload, 1) := by decide +kernel
theorem dL_law_1345 : decode cL_law 1345 = .ok (.aload_n 0, 1) := by decide +kernel
theorem dL_law_1346 : decode cL_law 1346 = .ok (.iload 4, 2) := by decide +kernel
theorem dL_law_1348 : decode cL_law 1348 = .ok (.iconst 2, 1) := by decide +kernel
theorem dL_law_1349 : decode cL_law 1349 = .ok (.iadd, 1) := by decide +kernel
theorem dL_law_1350 : decode cL_law 1350 = .ok (.iaload, 1) := by decide +kernel
theorem dL_law_1351 : decode cL_law 1351 = .ok (.invokevirtual 184, 3) := by decide +kernel
theorem dL_law_1354 : decode cL_law 1354 = .ok (.istore 6, 2) := by decide +kernel
theorem dL_law_1356 : decode cL_law 1356 = .ok (.aload_n 2, 1) := by decide +kernel
theorem dL_law_1357 : decode cL_law 1357 = .ok (.invokevirtual 122, 3) := by decide +kernel
theorem dL_law_1360 : decode cL_law 1360 = .ok (.iload 5, 2) := by decide +kernel
theorem dL_law_1362 : decode cL_law 1362 = .ok (.if_icmp .eq 5, 3) := by decide +kernel
theorem dL_law_1365 : decode cL_law 1365 = .ok (.iconst 0, 1) := by decide +kernel
theorem dL_law_1366 : decode cL_law 1366 = .ok (.ireturn, 1) := by decide +kernel
theorem dL_law_1367 : decode cL_law 1367 = .ok (.iload 5, 2) := by decide +kernel
theorem dL_law_1369 : decode cL_law 1369 = .ok (.ifCond .ne 15, 3) := by decide +kernel
theorem dL_law_1372 : decode cL_law 1372 = .ok (.aload_n 3, 1) := by decide +kernel
theorem dL_law_1373 : decode cL_law 1373 = .ok (.iconst 0, 1) := by decide +kernel
theorem dL_law_1374 : decode cL_law 1374 = .ok (.laload, 1) := by decide +kernel
theorem dL_law_1375 : decode cL_law 1375 = .ok (.iload 6, 2) := by decide +kernel
theorem dL_law_1377 : decode cL_law 1377 = .ok (.i2l, 1) := by decide +kernel
theorem dL_law_1378 : decode cL_law 1378 = .ok (.lcmp, 1) := by decide +kernel
theorem dL_law_1379 : decode cL_law 1379 = .ok (.ifCond .eq 5, 3) := by decide +kernel
theorem dL_law_1382 : decode cL_law 1382 = .ok (.iconst 0, 1) := by decide +kernel
theorem dL_law_1383 : decode cL_law 1383 = .ok (.ireturn, 1) := by decide +kernel
theorem dL_law_1384 : decode cL_law 1384 = .ok (.goto 672, 3) := by decide +kernel
theorem dL_law_1387 : decode cL_law 1387 = .ok (.aload_n 1, 1) := by decide +kernel
theorem dL_law_1388 : decode cL_law 1388 = .ok (.aload_n 0, 1) := by decide +kernel
theorem dL_law_1389 : decode cL_law 1389 = .ok (.iload 4, 2) := by decide +kernel
theorem dL_law_1391 : decode cL_law 1391 = .ok (.iconst 1, 1) := by decide +kernel
theorem dL_law_1392 : decode cL_law 1392 = .ok (.iadd, 1) := by decide +kernel
theorem dL_law_1393 : decode cL_law 1393 = .ok (.iaload, 1) := by decide +kernel
theorem dL_law_1394 : decode cL_law 1394 = .ok (.aload_n 0, 1) := by decide +kernel
theorem dL_law_1395 : decode cL_law 1395 = .ok (.iload 4, 2) := by decide +kernel
theorem dL_law_1397 : decode cL_law 1397 = .ok (.iconst 2, 1) := by decide +kernel
theorem dL_law_1398 : decode cL_law 1398 = .ok (.iadd, 1) := by decide +kernel
theorem dL_law_1399 : decode cL_law 1399 = .ok (.iaload, 1) := by decide +kernel
theorem dL_law_1400 : decode cL_law 1400 = .ok (.aload_n 0, 1) := by decide +kernel
theorem dL_law_1401 : decode cL_law 1401 = .ok (.iload 4, 2) := by decide +kernel
theorem dL_law_1403 : decode cL_law 1403 = .ok (.iconst 3, 1) := by decide +kernel
theorem dL_law_1404 : decode cL_law 1404 = .ok (.iadd, 1) := by decide +kernel
theorem dL_law_1405 : decode cL_law 1405 = .ok (.iaload, 1) := by decide +kernel
theorem dL_law_1406 : decode cL_law 1406 = .ok (.aload_n 3, 1) := by decide +kernel
theorem dL_law_1407 : decode cL_law 1407 = .ok (.invokestatic 185, 3) := by decide +kernel
theorem dL_law_1410 : decode cL_law 1410 = .ok (.istore 5, 2) := by decide +kernel
theorem dL_law_1412 : decode cL_law 1412 = .ok (.aload_n 2, 1) := by decide +kernel
theorem dL_law_1413 : decode cL_law 1413 = .ok (.aload_n 0, 1) := by decide +kernel
theorem dL_law_1414 : decode cL_law 1414 = .ok (.iload 4, 2) := by decide +kernel
theorem dL_law_1416 : decode cL_law 1416 = .ok (.iconst 1, 1) := by decide +kernel
theorem dL_law_1417 : decode cL_law 1417 = .ok (.iadd, 1) := by decide +kernel
theorem dL_law_1418 : decode cL_law 1418 = .ok (.iaload, 1) := by decide +kernel
theorem dL_law_1419 : decode cL_law 1419 = .ok (.aload_n 0, 1) := by decide +kernel
theorem dL_law_1420 : decode cL_law 1420 = .ok (.iload 4, 2) := by decide +kernel
theorem dL_law_1422 : decode cL_law 1422 = .ok (.iconst 2, 1) := by decide +kernel
theorem dL_law_1423 : decode cL_law 1423 = .ok (.iadd, 1) := by decide +kernel
theorem dL_law_1424 : decode cL_law 1424 = .ok (.iaload, 1) := by decide +kernel
theorem dL_law_1425 : decode cL_law 1425 = .ok (.aload_n 0, 1) := by decide +kernel
theorem dL_law_1426 : decode cL_law 1426 = .ok (.iload 4, 2) := by decide +kernel
theorem dL_law_1428 : decode cL_law 1428 = .ok (.iconst 3, 1) := by decide +kernel
theorem dL_law_1429 : decode cL_law 1429 = .ok (.iadd, 1) := by decide +kernel
theorem dL_law_1430 : decode cL_law 1430 = .ok (.iaload, 1) := by decide +kernel
theorem dL_law_1431 : decode cL_law 1431 = .ok (.invokevirtual 187, 3) := by decide +kernel
theorem dL_law_1434 : decode cL_law 1434 = .ok (.istore 6, 2) := by decide +kernel
theorem dL_law_1436 : decode cL_law 1436 = .ok (.aload_n 2, 1) := by decide +kernel
theorem dL_law_1437 : decode cL_law 1437 = .ok (.invokevirtual 122, 3) := by decide +kernel
theorem dL_law_1440 : decode cL_law 1440 = .ok (.iload 5, 2) := by decide +kernel
theorem dL_law_1442 : decode cL_law 1442 = .ok (.if_icmp .eq 5, 3) := by decide +kernel
theorem dL_law_1445 : decode cL_law 1445 = .ok (.iconst 0, 1) := by decide +kernel
theorem dL_law_1446 : decode cL_law 1446 = .ok (.ireturn, 1) := by decide +kernel
theorem dL_law_1447 : decode cL_law 1447 = .ok (.iload 5, 2) := by decide +kernel
theorem dL_law_1449 : decode cL_law 1449 = .ok (.ifCond .ne 15, 3) := by decide +kernel
theorem dL_law_1452 : decode cL_law 1452 = .ok (.aload_n 3, 1) := by decide +kernel
theorem dL_law_1453 : decode cL_law 1453 = .ok (.iconst 0, 1) := by decide +kernel
theorem dL_law_1454 : decode cL_law 1454 = .ok (.laload, 1) := by decide +kernel
theorem dL_law_1455 : decode cL_law 1455 = .ok (.iload 6, 2) := by decide +kernel
theorem dL_law_1457 : decode cL_law 1457 = .ok (.i2l, 1) := by decide +kernel
theorem dL_law_1458 : decode cL_law 1458 = .ok (.lcmp, 1) := by decide +kernel
theorem dL_law_1459 : decode cL_law 1459 = .ok (.ifCond .eq 5, 3) := by decide +kernel
theorem dL_law_1462 : decode cL_law 1462 = .ok (.iconst 0, 1) := by decide +kernel
theorem dL_law_1463 : decode cL_law 1463 = .ok (.ireturn, 1) := by decide +kernel
theorem dL_law_1464 : decode cL_law 1464 = .ok (.goto 592, 3) := by decide +kernel
theorem dL_law_1467 : decode cL_law 1467 = .ok (.aload_n 1, 1) := by decide +kernel
theorem dL_law_1468 : decode cL_law 1468 = .ok (.aload_n 0, 1) := by decide +kernel
theorem dL_law_1469 : decode cL_law 1469 = .ok (.iload 4, 2) := by decide +kernel
theorem dL_law_1471 : decode cL_law 1471 = .ok (.iconst 1, 1) := by decide +kernel
theorem dL_law_1472 : decode cL_law 1472 = .ok (.iadd, 1) := by decide +kernel
theorem dL_law_1473 : decode cL_law 1473 = .ok (.iaload, 1) := by decide +kernel
theorem dL_law_1474 : decode cL_law 1474 = .ok (.aload_n 0, 1) := by decide +kernel
theorem dL_law_1475 : decode cL_law 1475 = .ok (.iload 4, 2) := by decide +kernel
theorem dL_law_1477 : decode cL_law 1477 = .ok (.iconst 2, 1) := by decide +kernel
theorem dL_law_1478 : decode cL_law 1478 = .ok (.iadd, 1) := by decide +kernel
theorem dL_law_1479 : decode cL_law 1479 = .ok (.iaload, 1) := by decide +kernel
theorem dL_law_1480 : decode cL_law 1480 = .ok (.aload_n 0, 1) := by decide +kernel
theorem dL_law_1481 : decode cL_law 1481 = .ok (.iload 4, 2) := by decide +kernel
theorem dL_law_1483 : decode cL_law 1483 = .ok (.iconst 3, 1) := by decide +kernel
theorem dL_law_1484 : decode cL_law 1484 = .ok (.iadd, 1) := by decide +kernel
theorem dL_law_1485 : decode cL_law 1485 = .ok (.iaload, 1) := by decide +kernel
theorem dL_law_1486 : decode cL_law 1486 = .ok (.aload_n 3, 1) := by decide +kernel
theorem dL_law_1487 : decode cL_law 1487 = .ok (.invokestatic 188, 3) := by decide +kernel
theorem dL_law_1490 : decode cL_law 1490 = .ok (.istore 5, 2) := by decide +kernel
theorem dL_law_1492 : decode cL_law 1492 = .ok (.aload_n 2, 1) := by decide +kernel
theorem dL_law_1493 : decode cL_law 1493 = .ok (.aload_n 0, 1) := by decide +kernel
theorem dL_law_1494 : decode cL_law 1494 = .ok (.iload 4, 2) := by decide +kernel
theorem dL_law_1496 : decode cL_law 1496 = .ok (.iconst 1, 1) := by decide +kernel
theorem dL_law_1497 : decode cL_law 1497 = .ok (.iadd, 1) := by decide +kernel
theorem dL_law_1498 : decode cL_law 1498 = .ok (.iaload, 1) := by decide +kernel
theorem dL_law_1499 : decode cL_law 1499 = .ok (.aload_n 0, 1) := by decide +kernel
theorem dL_law_1500 : decode cL_law 1500 = .ok (.iload 4, 2) := by decide +kernel
theorem dL_law_1502 : decode cL_law 1502 = .ok (.iconst 2, 1) := by decide +kernel
theorem dL_law_1503 : decode cL_law 1503 = .ok (.iadd, 1) := by decide +kernel
theorem dL_law_1504 : decode cL_law 1504 = .ok (.iaload, 1) := by decide +kernel
theorem dL_law_1505 : decode cL_law 1505 = .ok (.aload_n 0, 1) := by decide +kernel
theorem dL_law_1506 : decode cL_law 1506 = .ok (.iload 4, 2) := by decide +kernel
theorem dL_law_1508 : decode cL_law 1508 = .ok (.iconst 3, 1) := by decide +kernel
theorem dL_law_1509 : decode cL_law 1509 = .ok (.iadd, 1) := by decide +kernel
theorem dL_law_1510 : decode cL_law 1510 = .ok (.iaload, 1) := by decide +kernel
theorem dL_law_1511 : decode cL_law 1511 = .ok (.invokevirtual 190, 3) := by decide +kernel
theorem dL_law_1514 : decode cL_law 1514 = .ok (.istore 6, 2) := by decide +kernel
theorem dL_law_1516 : decode cL_law 1516 = .ok (.aload_n 2, 1) := by decide +kernel
theorem dL_law_1517 : decode cL_law 1517 = .ok (.invokevirtual 122, 3) := by decide +kernel
theorem dL_law_1520 : decode cL_law 1520 = .ok (.iload 5, 2) := by decide +kernel
theorem dL_law_1522 : decode cL_law 1522 = .ok (.if_icmp .eq 5, 3) := by decide +kernel
theorem dL_law_1525 : decode cL_law 1525 = .ok (.iconst 0, 1) := by decide +kernel
theorem dL_law_1526 : decode cL_law 1526 = .ok (.ireturn, 1) := by decide +kernel
theorem dL_law_1527 : decode cL_law 1527 = .ok (.iload 5, 2) := by decide +kernel
theorem dL_law_1529 : decode cL_law 1529 = .ok (.ifCond .ne 15, 3) := by decide +kernel
theorem dL_law_1532 : decode cL_law 1532 = .ok (.aload_n 3, 1) := by decide +kernel
theorem dL_law_1533 : decode cL_law 1533 = .ok (.iconst 0, 1) := by decide +kernel
theorem dL_law_1534 : decode cL_law 1534 = .ok (.laload, 1) := by decide +kernel
theorem dL_law_1535 : decode cL_law 1535 = .ok (.iload 6, 2) := by decide +kernel
theorem dL_law_1537 : decode cL_law 1537 = .ok (.i2l, 1) := by decide +kernel
theorem dL_law_1538 : decode cL_law 1538 = .ok (.lcmp, 1) := by decide +kernel
theorem dL_law_1539 : decode cL_law 1539 = .ok (.ifCond .eq 5, 3) := by decide +kernel
theorem dL_law_1542 : decode cL_law 1542 = .ok (.iconst 0, 1) := by decide +kernel
theorem dL_law_1543 : decode cL_law 1543 = .ok (.ireturn, 1) := by decide +kernel
theorem dL_law_1544 : decode cL_law 1544 = .ok (.goto 512, 3) := by decide +kernel
theorem dL_law_1547 : decode cL_law 1547 = .ok (.aload_n 1, 1) := by decide +kernel
theorem dL_law_1548 : decode cL_law 1548 = .ok (.aload_n 0, 1) := by decide +kernel
theorem dL_law_1549 : decode cL_law 1549 = .ok (.iload 4, 2) := by decide +kernel
theorem dL_law_1551 : decode cL_law 1551 = .ok (.iconst 1, 1) := by decide +kernel
theorem dL_law_1552 : decode cL_law 1552 = .ok (.iadd, 1) := by decide +kernel
theorem dL_law_1553 : decode cL_law 1553 = .ok (.iaload, 1) := by decide +kernel
theorem dL_law_1554 : decode cL_law 1554 = .ok (.aload_n 0, 1) := by decide +kernel
theorem dL_law_1555 : decode cL_law 1555 = .ok (.iload 4, 2) := by decide +kernel
theorem dL_law_1557 : decode cL_law 1557 = .ok (.iconst 2, 1) := by decide +kernel
theorem dL_law_1558 : decode cL_law 1558 = .ok (.iadd, 1) := by decide +kernel
theorem dL_law_1559 : decode cL_law 1559 = .ok (.iaload, 1) := by decide +kernel
theorem dL_law_1560 : decode cL_law 1560 = .ok (.aload_n 0, 1) := by decide +kernel
theorem dL_law_1561 : decode cL_law 1561 = .ok (.iload 4, 2) := by decide +kernel
theorem dL_law_1563 : decode cL_law 1563 = .ok (.iconst 3, 1) := by decide +kernel
theorem dL_law_1564 : decode cL_law 1564 = .ok (.iadd, 1) := by decide +kernel
theorem dL_law_1565 : decode cL_law 1565 = .ok (.iaload, 1) := by decide +kernel
theorem dL_law_1566 : decode cL_law 1566 = .ok (.aload_n 3, 1) := by decide +kernel
theorem dL_law_1567 : decode cL_law 1567 = .ok (.invokestatic 191, 3) := by decide +kernel
theorem dL_law_1570 : decode cL_law 1570 = .ok (.istore 5, 2) := by decide +kernel
theorem dL_law_1572 : decode cL_law 1572 = .ok (.aload_n 2, 1) := by decide +kernel
theorem dL_law_1573 : decode cL_law 1573 = .ok (.aload_n 0, 1) := by decide +kernel
theorem dL_law_1574 : decode cL_law 1574 = .ok (.iload 4, 2) := by decide +kernel
theorem dL_law_1576 : decode cL_law 1576 = .ok (.iconst 1, 1) := by decide +kernel
theorem dL_law_1577 : decode cL_law 1577 = .ok (.iadd, 1) := by decide +kernel
theorem dL_law_1578 : decode cL_law 1578 = .ok (.iaload, 1) := by decide +kernel
theorem dL_law_1579 : decode cL_law 1579 = .ok (.aload_n 0, 1) := by decide +kernel
theorem dL_law_1580 : decode cL_law 1580 = .ok (.iload 4, 2) := by decide +kernel
theorem dL_law_1582 : decode cL_law 1582 = .ok (.iconst 2, 1) := by decide +kernel
theorem dL_law_1583 : decode cL_law 1583 = .ok (.iadd, 1) := by decide +kernel
theorem dL_law_1584 : decode cL_law 1584 = .ok (.iaload, 1) := by decide +kernel
theorem dL_law_1585 : decode cL_law 1585 = .ok (.aload_n 0, 1) := by decide +kernel
theorem dL_law_1586 : decode cL_law 1586 = .ok (.iload 4, 2) := by decide +kernel
theorem dL_law_1588 : decode cL_law 1588 = .ok (.iconst 3, 1) := by decide +kernel
theorem dL_law_1589 : decode cL_law 1589 = .ok (.iadd, 1) := by decide +kernel
theorem dL_law_1590 : decode cL_law 1590 = .ok (.iaload, 1) := by decide +kernel
theorem dL_law_1591 : decode cL_law 1591 = .ok (.invokevirtual 193, 3) := by decide +kernel
theorem dL_law_1594 : decode cL_law 1594 = .ok (.istore 6, 2) := by decide +kernel
theorem dL_law_1596 : decode cL_law 1596 = .ok (.aload_n 2, 1) := by decide +kernel
theorem dL_law_1597 : decode cL_law 1597 = .ok (.invokevirtual 122, 3) := by decide +kernel
theorem dL_law_1600 : decode cL_law 1600 = .ok (.iload 5, 2) := by decide +kernel
theorem dL_law_1602 : decode cL_law 1602 = .ok (.if_icmp .eq 5, 3) := by decide +kernel
theorem dL_law_1605 : decode cL_law 1605 = .ok (.iconst 0, 1) := by decide +kernel
theorem dL_law_1606 : decode cL_law 1606 = .ok (.ireturn, 1) := by decide +kernel
theorem dL_law_1607 : decode cL_law 1607 = .ok (.iload 5, 2) := by decide +kernel
theorem dL_law_1609 : decode cL_law 1609 = .ok (.ifCond .ne 15, 3) := by decide +kernel
theorem dL_law_1612 : decode cL_law 1612 = .ok (.aload_n 3, 1) := by decide +kernel
theorem dL_law_1613 : decode cL_law 1613 = .ok (.iconst 0, 1) := by decide +kernel
theorem dL_law_1614 : decode cL_law 1614 = .ok (.laload, 1) := by decide +kernel
theorem dL_law_1615 : decode cL_law 1615 = .ok (.iload 6, 2) := by decide +kernel
theorem dL_law_1617 : decode cL_law 1617 = .ok (.i2l, 1) := by decide +kernel
theorem dL_law_1618 : decode cL_law 1618 = .ok (.lcmp, 1) := by decide +kernel
theorem dL_law_1619 : decode cL_law 1619 = .ok (.ifCond .eq 5, 3) := by decide +kernel
theorem dL_law_1622 : decode cL_law 1622 = .ok (.iconst 0, 1) := by decide +kernel
theorem dL_law_1623 : decode cL_law 1623 = .ok (.ireturn, 1) := by decide +kernel
theorem dL_law_1624 : decode cL_law 1624 = .ok (.goto 432, 3) := by decide +kernel
theorem dL_law_1627 : decode cL_law 1627 = .ok (.aload_n 1, 1) := by decide +kernel
theorem dL_law_1628 : decode cL_law 1628 = .ok (.aload_n 0, 1) := by decide +kernel
theorem dL_law_1629 : decode cL_law 1629 = .ok (.iload 4, 2) := by decide +kernel
theorem dL_law_1631 : decode cL_law 1631 = .ok (.iconst 1, 1) := by decide +kernel
theorem dL_law_1632 : decode cL_law 1632 = .ok (.iadd, 1) := by decide +kernel
theorem dL_law_1633 : decode cL_law 1633 = .ok (.iaload, 1) := by decide +kernel
theorem dL_law_1634 : decode cL_law 1634 = .ok (.aload_n 0, 1) := by decide +kernel
theorem dL_law_1635 : decode cL_law 1635 = .ok (.iload 4, 2) := by decide +kernel
theorem dL_law_1637 : decode cL_law 1637 = .ok (.iconst 2, 1) := by decide +kernel
theorem dL_law_1638 : decode cL_law 1638 = .ok (.iadd, 1) := by decide +kernel
theorem dL_law_1639 : decode cL_law 1639 = .ok (.iaload, 1) := by decide +kernel
theorem dL_law_1640 : decode cL_law 1640 = .ok (.aload_n 0, 1) := by decide +kernel
theorem dL_law_1641 : decode cL_law 1641 = .ok (.iload 4, 2) := by decide +kernel
theorem dL_law_1643 : decode cL_law 1643 = .ok (.iconst 3, 1) := by decide +kernel
theorem dL_law_1644 : decode cL_law 1644 = .ok (.iadd, 1) := by decide +kernel
theorem dL_law_1645 : decode cL_law 1645 = .ok (.iaload, 1) := by decide +kernel
theorem dL_law_1646 : decode cL_law 1646 = .ok (.aload_n 3, 1) := by decide +kernel
theorem dL_law_1647 : decode cL_law 1647 = .ok (.invokestatic 194, 3) := by decide +kernel
theorem dL_law_1650 : decode cL_law 1650 = .ok (.istore 5, 2) := by decide +kernel
theorem dL_law_1652 : decode cL_law 1652 = .ok (.aload_n 2, 1) := by decide +kernel
theorem dL_law_1653 : decode cL_law 1653 = .ok (.aload_n 0, 1) := by decide +kernel
theorem dL_law_1654 : decode cL_law 1654 = .ok (.iload 4, 2) := by decide +kernel
theorem dL_law_1656 : decode cL_law 1656 = .ok (.iconst 1, 1) := by decide +kernel
theorem dL_law_1657 : decode cL_law 1657 = .ok (.iadd, 1) := by decide +kernel
theorem dL_law_1658 : decode cL_law 1658 = .ok (.iaload, 1) := by decide +kernel
theorem dL_law_1659 : decode cL_law 1659 = .ok (.aload_n 0, 1) := by decide +kernel
theorem dL_law_1660 : decode cL_law 1660 = .ok (.iload 4, 2) := by decide +kernel
theorem dL_law_1662 : decode cL_law 1662 = .ok (.iconst 2, 1) := by decide +kernel
theorem dL_law_1663 : decode cL_law 1663 = .ok (.iadd, 1) := by decide +kernel
theorem dL_law_1664 : decode cL_law 1664 = .ok (.iaload, 1) := by decide +kernel
theorem dL_law_1665 : decode cL_law 1665 = .ok (.aload_n 0, 1) := by decide +kernel
theorem dL_law_1666 : decode cL_law 1666 = .ok (.iload 4, 2) := by decide +kernel
theorem dL_law_1668 : decode cL_law 1668 = .ok (.iconst 3, 1) := by decide +kernel
theorem dL_law_1669 : decode cL_law 1669 = .ok (.iadd, 1) := by decide +kernel
theorem dL_law_1670 : decode cL_law 1670 = .ok (.iaload, 1) := by decide +kernel
theorem dL_law_1671 : decode cL_law 1671 = .ok (.invokevirtual 196, 3) := by decide +kernel
theorem dL_law_1674 : decode cL_law 1674 = .ok (.istore 6, 2) := by decide +kernel
theorem dL_law_1676 : decode cL_law 1676 = .ok (.aload_n 2, 1) := by decide +kernel
theorem dL_law_1677 : decode cL_law 1677 = .ok (.invokevirtual 122, 3) := by decide +kernel
theorem dL_law_1680 : decode cL_law 1680 = .ok (.iload 5, 2) := by decide +kernel
theorem dL_law_1682 : decode cL_law 1682 = .ok (.if_icmp .eq 5, 3) := by decide +kernel
theorem dL_law_1685 : decode cL_law 1685 = .ok (.iconst 0, 1) := by decide +kernel
theorem dL_law_1686 : decode cL_law 1686 = .ok (.ireturn, 1) := by decide +kernel
theorem dL_law_1687 : decode cL_law 1687 = .ok (.iload 5, 2) := by decide +kernel
theorem dL_law_1689 : decode cL_law 1689 = .ok (.ifCond .ne 15, 3) := by decide +kernel
theorem dL_law_1692 : decode cL_law 1692 = .ok (.aload_n 3, 1) := by decide +kernel
theorem dL_law_1693 : decode cL_law 1693 = .ok (.iconst 0, 1) := by decide +kernel
theorem dL_law_1694 : decode cL_law 1694 = .ok (.laload, 1) := by decide +kernel
theorem dL_law_1695 : decode cL_law 1695 = .ok (.iload 6, 2) := by decide +kernel
theorem dL_law_1697 : decode cL_law 1697 = .ok (.i2l, 1) := by decide +kernel
theorem dL_law_1698 : decode cL_law 1698 = .ok (.lcmp, 1) := by decide +kernel
theorem dL_law_1699 : decode cL_law 1699 = .ok (.ifCond .eq 5, 3) := by decide +kernel
theorem dL_law_1702 : decode cL_law 1702 = .ok (.iconst 0, 1) := by decide +kernel
theorem dL_law_1703 : decode cL_law 1703 = .ok (.ireturn, 1) := by decide +kernel
theorem dL_law_1704 : decode cL_law 1704 = .ok (.goto 352, 3) := by decide +kernel
theorem dL_law_1707 : decode cL_law 1707 = .ok (.aload_n 1, 1) := by decide +kernel
theorem dL_law_1708 : decode cL_law 1708 = .ok (.aload_n 0, 1) := by decide +kernel
theorem dL_law_1709 : decode cL_law 1709 = .ok (.iload 4, 2) := by decide +kernel
theorem dL_law_1711 : decode cL_law 1711 = .ok (.iconst 1, 1) := by decide +kernel
theorem dL_law_1712 : decode cL_law 1712 = .ok (.iadd, 1) := by decide +kernel
theorem dL_law_1713 : decode cL_law 1713 = .ok (.iaload, 1) := by decide +kernel
theorem dL_law_1714 : decode cL_law 1714 = .ok (.aload_n 3, 1) := by decide +kernel
theorem dL_law_1715 : decode cL_law 1715 = .ok (.invokestatic 197, 3) := by decide +kernel
theorem dL_law_1718 : decode cL_law 1718 = .ok (.istore 5, 2) := by decide +kernel
theorem dL_law_1720 : decode cL_law 1720 = .ok (.aload_n 2, 1) := by decide +kernel
theorem dL_law_1721 : decode cL_law 1721 = .ok (.aload_n 0, 1) := by decide +kernel
theorem dL_law_1722 : decode cL_law 1722 = .ok (.iload 4, 2) := by decide +kernel
theorem dL_law_1724 : decode cL_law 1724 = .ok (.iconst 1, 1) := by decide +kernel
theorem dL_law_1725 : decode cL_law 1725 = .ok (.iadd, 1) := by decide +kernel
theorem dL_law_1726 : decode cL_law 1726 = .ok (.iaload, 1) := by decide +kernel
theorem dL_law_1727 : decode cL_law 1727 = .ok (.invokevirtual 199, 3) := by decide +kernel
theorem dL_law_1730 : decode cL_law 1730 = .ok (.istore 6, 2) := by decide +kernel
theorem dL_law_1732 : decode cL_law 1732 = .ok (.aload_n 2, 1) := by decide +kernel
theorem dL_law_1733 : decode cL_law 1733 = .ok (.invokevirtual 122, 3) := by decide +kernel
theorem dL_law_1736 : decode cL_law 1736 = .ok (.iload 5, 2) := by decide +kernel
theorem dL_law_1738 : decode cL_law 1738 = .ok (.if_icmp .eq 5, 3) := by decide +kernel
theorem dL_law_1741 : decode cL_law 1741 = .ok (.iconst 0, 1) := by decide +kernel
theorem dL_law_1742 : decode cL_law 1742 = .ok (.ireturn, 1) := by decide +kernel
theorem dL_law_1743 : decode cL_law 1743 = .ok (.iload 5, 2) := by decide +kernel
theorem dL_law_1745 : decode cL_law 1745 = .ok (.ifCond .ne 15, 3) := by decide +kernel
theorem dL_law_1748 : decode cL_law 1748 = .ok (.aload_n 3, 1) := by decide +kernel
theorem dL_law_1749 : decode cL_law 1749 = .ok (.iconst 0, 1) := by decide +kernel
theorem dL_law_1750 : decode cL_law 1750 = .ok (.laload, 1) := by decide +kernel
theorem dL_law_1751 : decode cL_law 1751 = .ok (.iload 6, 2) := by decide +kernel
theorem dL_law_1753 : decode cL_law 1753 = .ok (.i2l, 1) := by decide +kernel
theorem dL_law_1754 : decode cL_law 1754 = .ok (.lcmp, 1) := by decide +kernel
theorem dL_law_1755 : decode cL_law 1755 = .ok (.ifCond .eq 5, 3) := by decide +kernel
theorem dL_law_1758 : decode cL_law 1758 = .ok (.iconst 0, 1) := by decide +kernel
theorem dL_law_1759 : decode cL_law 1759 = .ok (.ireturn, 1) := by decide +kernel
theorem dL_law_1760 : decode cL_law 1760 = .ok (.goto 296, 3) := by decide +kernel
theorem dL_law_1763 : decode cL_law 1763 = .ok (.aload_n 1, 1) := by decide +kernel
theorem dL_law_1764 : decode cL_law 1764 = .ok (.aload_n 0, 1) := by decide +kernel
theorem dL_law_1765 : decode cL_law 1765 = .ok (.iload 4, 2) := by decide +kernel
theorem dL_law_1767 : decode cL_law 1767 = .ok (.iconst 1, 1) := by decide +kernel
theorem dL_law_1768 : decode cL_law 1768 = .ok (.iadd, 1) := by decide +kernel
theorem dL_law_1769 : decode cL_law 1769 = .ok (.iaload, 1) := by decide +kernel
theorem dL_law_1770 : decode cL_law 1770 = .ok (.aload_n 3, 1) := by decide +kernel
theorem dL_law_1771 : decode cL_law 1771 = .ok (.invokestatic 200, 3) := by decide +kernel
theorem dL_law_1774 : decode cL_law 1774 = .ok (.istore 5, 2) := by decide +kernel
theorem dL_law_1776 : decode cL_law 1776 = .ok (.aload_n 2, 1) := by decide +kernel
theorem dL_law_1777 : decode cL_law 1777 = .ok (.aload_n 0, 1) := by decide +kernel
theorem dL_law_1778 : decode cL_law 1778 = .ok (.iload 4, 2) := by decide +kernel
theorem dL_law_1780 : decode cL_law 1780 = .ok (.iconst 1, 1) := by decide +kernel
theorem dL_law_1781 : decode cL_law 1781 = .ok (.iadd, 1) := by decide +kernel
theorem dL_law_1782 : decode cL_law 1782 = .ok (.iaload, 1) := by decide +kernel
theorem dL_law_1783 : decode cL_law 1783 = .ok (.invokevirtual 202, 3) := by decide +kernel
theorem dL_law_1786 : decode cL_law 1786 = .ok (.istore 6, 2) := by decide +kernel
theorem dL_law_1788 : decode cL_law 1788 = .ok (.aload_n 2, 1) := by decide +kernel
theorem dL_law_1789 : decode cL_law 1789 = .ok (.invokevirtual 122, 3) := by decide +kernel
theorem dL_law_1792 : decode cL_law 1792 = .ok (.iload 5, 2) := by decide +kernel
theorem dL_law_1794 : decode cL_law 1794 = .ok (.if_icmp .eq 5, 3) := by decide +kernel
theorem dL_law_1797 : decode cL_law 1797 = .ok (.iconst 0, 1) := by decide +kernel
theorem dL_law_1798 : decode cL_law 1798 = .ok (.ireturn, 1) := by decide +kernel
theorem dL_law_1799 : decode cL_law 1799 = .ok (.iload 5, 2) := by decide +kernel
theorem dL_law_1801 : decode cL_law 1801 = .ok (.ifCond .ne 15, 3) := by decide +kernel
theorem dL_law_1804 : decode cL_law 1804 = .ok (.aload_n 3, 1) := by decide +kernel
theorem dL_law_1805 : decode cL_law 1805 = .ok (.iconst 0, 1) := by decide +kernel
theorem dL_law_1806 : decode cL_law 1806 = .ok (.laload, 1) := by decide +kernel
theorem dL_law_1807 : decode cL_law 1807 = .ok (.iload 6, 2) := by decide +kernel
theorem dL_law_1809 : decode cL_law 1809 = .ok (.i2l, 1) := by decide +kernel
theorem dL_law_1810 : decode cL_law 1810 = .ok (.lcmp, 1) := by decide +kernel
theorem dL_law_1811 : decode cL_law 1811 = .ok (.ifCond .eq 5, 3) := by decide +kernel
theorem dL_law_1814 : decode cL_law 1814 = .ok (.iconst 0, 1) := by decide +kernel
theorem dL_law_1815 : decode cL_law 1815 = .ok (.ireturn, 1) := by decide +kernel
theorem dL_law_1816 : decode cL_law 1816 = .ok (.goto 240, 3) := by decide +kernel
theorem dL_law_1819 : decode cL_law 1819 = .ok (.aload_n 1, 1) := by decide +kernel
theorem dL_law_1820 : decode cL_law 1820 = .ok (.aload_n 0, 1) := by decide +kernel
theorem dL_law_1821 : decode cL_law 1821 = .ok (.iload 4, 2) := by decide +kernel
theorem dL_law_1823 : decode cL_law 1823 = .ok (.iconst 1, 1) := by decide +kernel
theorem dL_law_1824 : decode cL_law 1824 = .ok (.iadd, 1) := by decide +kernel
theorem dL_law_1825 : decode cL_law 1825 = .ok (.iaload, 1) := by decide +kernel
theorem dL_law_1826 : decode cL_law 1826 = .ok (.aload_n 3, 1) := by decide +kernel
theorem dL_law_1827 : decode cL_law 1827 = .ok (.invokestatic 203, 3) := by decide +kernel
theorem dL_law_1830 : decode cL_law 1830 = .ok (.istore 5, 2) := by decide +kernel
theorem dL_law_1832 : decode cL_law 1832 = .ok (.aload_n 2, 1) := by decide +kernel
theorem dL_law_1833 : decode cL_law 1833 = .ok (.aload_n 0, 1) := by decide +kernel
theorem dL_law_1834 : decode cL_law 1834 = .ok (.iload 4, 2) := by decide +kernel
theorem dL_law_1836 : decode cL_law 1836 = .ok (.iconst 1, 1) := by decide +kernel
theorem dL_law_1837 : decode cL_law 1837 = .ok (.iadd, 1) := by decide +kernel
theorem dL_law_1838 : decode cL_law 1838 = .ok (.iaload, 1) := by decide +kernel
theorem dL_law_1839 : decode cL_law 1839 = .ok (.invokevirtual 205, 3) := by decide +kernel
theorem dL_law_1842 : decode cL_law 1842 = .ok (.istore 6, 2) := by decide +kernel
theorem dL_law_1844 : decode cL_law 1844 = .ok (.aload_n 2, 1) := by decide +kernel
theorem dL_law_1845 : decode cL_law 1845 = .ok (.invokevirtual 122, 3) := by decide +kernel
theorem dL_law_1848 : decode cL_law 1848 = .ok (.iload 5, 2) := by decide +kernel
theorem dL_law_1850 : decode cL_law 1850 = .ok (.if_icmp .eq 5, 3) := by decide +kernel
theorem dL_law_1853 : decode cL_law 1853 = .ok (.iconst 0, 1) := by decide +kernel
theorem dL_law_1854 : decode cL_law 1854 = .ok (.ireturn, 1) := by decide +kernel
theorem dL_law_1855 : decode cL_law 1855 = .ok (.iload 5, 2) := by decide +kernel
theorem dL_law_1857 : decode cL_law 1857 = .ok (.ifCond .ne 15, 3) := by decide +kernel
theorem dL_law_1860 : decode cL_law 1860 = .ok (.aload_n 3, 1) := by decide +kernel
theorem dL_law_1861 : decode cL_law 1861 = .ok (.iconst 0, 1) := by decide +kernel
theorem dL_law_1862 : decode cL_law 1862 = .ok (.laload, 1) := by decide +kernel
theorem dL_law_1863 : decode cL_law 1863 = .ok (.iload 6, 2) := by decide +kernel
theorem dL_law_1865 : decode cL_law 1865 = .ok (.i2l, 1) := by decide +kernel
theorem dL_law_1866 : decode cL_law 1866 = .ok (.lcmp, 1) := by decide +kernel
theorem dL_law_1867 : decode cL_law 1867 = .ok (.ifCond .eq 5, 3) := by decide +kernel
theorem dL_law_1870 : decode cL_law 1870 = .ok (.iconst 0, 1) := by decide +kernel
theorem dL_law_1871 : decode cL_law 1871 = .ok (.ireturn, 1) := by decide +kernel
theorem dL_law_1872 : decode cL_law 1872 = .ok (.goto 184, 3) := by decide +kernel
theorem dL_law_1875 : decode cL_law 1875 = .ok (.aload_n 1, 1) := by decide +kernel
theorem dL_law_1876 : decode cL_law 1876 = .ok (.aload_n 0, 1) := by decide +kernel
theorem dL_law_1877 : decode cL_law 1877 = .ok (.iload 4, 2) := by decide +kernel
theorem dL_law_1879 : decode cL_law 1879 = .ok (.iconst 1, 1) := by decide +kernel
theorem dL_law_1880 : decode cL_law 1880 = .ok (.iadd, 1) := by decide +kernel
theorem dL_law_1881 : decode cL_law 1881 = .ok (.iaload, 1) := by decide +kernel
theorem dL_law_1882 : decode cL_law 1882 = .ok (.aload_n 3, 1) := by decide +kernel
theorem dL_law_1883 : decode cL_law 1883 = .ok (.invokestatic 206, 3) := by decide +kernel
theorem dL_law_1886 : decode cL_law 1886 = .ok (.istore 5, 2) := by decide +kernel
theorem dL_law_1888 : decode cL_law 1888 = .ok (.aload_n 2, 1) := by decide +kernel
theorem dL_law_1889 : decode cL_law 1889 = .ok (.aload_n 0, 1) := by decide +kernel
theorem dL_law_1890 : decode cL_law 1890 = .ok (.iload 4, 2) := by decide +kernel
theorem dL_law_1892 : decode cL_law 1892 = .ok (.iconst 1, 1) := by decide +kernel
theorem dL_law_1893 : decode cL_law 1893 = .ok (.iadd, 1) := by decide +kernel
theorem dL_law_1894 : decode cL_law 1894 = .ok (.iaload, 1) := by decide +kernel
theorem dL_law_1895 : decode cL_law 1895 = .ok (.invokevirtual 208, 3) := by decide +kernel
theorem dL_law_1898 : decode cL_law 1898 = .ok (.istore 6, 2) := by decide +kernel
theorem dL_law_1900 : decode cL_law 1900 = .ok (.aload_n 2, 1) := by decide +kernel
theorem dL_law_1901 : decode cL_law 1901 = .ok (.invokevirtual 122, 3) := by decide +kernel
theorem dL_law_1904 : decode cL_law 1904 = .ok (.iload 5, 2) := by decide +kernel
theorem dL_law_1906 : decode cL_law 1906 = .ok (.if_icmp .eq 5, 3) := by decide +kernel
theorem dL_law_1909 : decode cL_law 1909 = .ok (.iconst 0, 1) := by decide +kernel
theorem dL_law_1910 : decode cL_law 1910 = .ok (.ireturn, 1) := by decide +kernel
theorem dL_law_1911 : decode cL_law 1911 = .ok (.iload 5, 2) := by decide +kernel
theorem dL_law_1913 : decode cL_law 1913 = .ok (.ifCond .ne 15, 3) := by decide +kernel
theorem dL_law_1916 : decode cL_law 1916 = .ok (.aload_n 3, 1) := by decide +kernel
theorem dL_law_1917 : decode cL_law 1917 = .ok (.iconst 0, 1) := by decide +kernel
theorem dL_law_1918 : decode cL_law 1918 = .ok (.laload, 1) := by decide +kernel
theorem dL_law_1919 : decode cL_law 1919 = .ok (.iload 6, 2) := by decide +kernel
theorem dL_law_1921 : decode cL_law 1921 = .ok (.i2l, 1) := by decide +kernel
theorem dL_law_1922 : decode cL_law 1922 = .ok (.lcmp, 1) := by decide +kernel
theorem dL_law_1923 : decode cL_law 1923 = .ok (.ifCond .eq 5, 3) := by decide +kernel
theorem dL_law_1926 : decode cL_law 1926 = .ok (.iconst 0, 1) := by decide +kernel
theorem dL_law_1927 : decode cL_law 1927 = .ok (.ireturn, 1) := by decide +kernel
theorem dL_law_1928 : decode cL_law 1928 = .ok (.goto 128, 3) := by decide +kernel
theorem dL_law_1931 : decode cL_law 1931 = .ok (.aload_n 1, 1) := by decide +kernel
theorem dL_law_1932 : decode cL_law 1932 = .ok (.aload_n 0, 1) := by decide +kernel
theorem dL_law_1933 : decode cL_law 1933 = .ok (.iload 4, 2) := by decide +kernel
theorem dL_law_1935 : decode cL_law 1935 = .ok (.iconst 1, 1) := by decide +kernel
theorem dL_law_1936 : decode cL_law 1936 = .ok (.iadd, 1) := by decide +kernel
theorem dL_law_1937 : decode cL_law 1937 = .ok (.iaload, 1) := by decide +kernel
theorem dL_law_1938 : decode cL_law 1938 = .ok (.aload_n 3, 1) := by decide +kernel
theorem dL_law_1939 : decode cL_law 1939 = .ok (.invokestatic 209, 3) := by decide +kernel
theorem dL_law_1942 : decode cL_law 1942 = .ok (.istore 5, 2) := by decide +kernel
theorem dL_law_1944 : decode cL_law 1944 = .ok (.aload_n 2, 1) := by decide +kernel
theorem dL_law_1945 : decode cL_law 1945 = .ok (.aload_n 0, 1) := by decide +kernel
theorem dL_law_1946 : decode cL_law 1946 = .ok (.iload 4, 2) := by decide +kernel
theorem dL_law_1948 : decode cL_law 1948 = .ok (.iconst 1, 1) := by decide +kernel
theorem dL_law_1949 : decode cL_law 1949 = .ok (.iadd, 1) := by decide +kernel
theorem dL_law_1950 : decode cL_law 1950 = .ok (.iaload, 1) := by decide +kernel
theorem dL_law_1951 : decode cL_law 1951 = .ok (.invokevirtual 211, 3) := by decide +kernel
theorem dL_law_1954 : decode cL_law 1954 = .ok (.istore 6, 2) := by decide +kernel
theorem dL_law_1956 : decode cL_law 1956 = .ok (.aload_n 2, 1) := by decide +kernel
theorem dL_law_1957 : decode cL_law 1957 = .ok (.invokevirtual 122, 3) := by decide +kernel
theorem dL_law_1960 : decode cL_law 1960 = .ok (.iload 5, 2) := by decide +kernel
theorem dL_law_1962 : decode cL_law 1962 = .ok (.if_icmp .eq 5, 3) := by decide +kernel
theorem dL_law_1965 : decode cL_law 1965 = .ok (.iconst 0, 1) := by decide +kernel
theorem dL_law_1966 : decode cL_law 1966 = .ok (.ireturn, 1) := by decide +kernel
theorem dL_law_1967 : decode cL_law 1967 = .ok (.iload 5, 2) := by decide +kernel
theorem dL_law_1969 : decode cL_law 1969 = .ok (.ifCond .ne 15, 3) := by decide +kernel
theorem dL_law_1972 : decode cL_law 1972 = .ok (.aload_n 3, 1) := by decide +kernel
theorem dL_law_1973 : decode cL_law 1973 = .ok (.iconst 0, 1) := by decide +kernel
theorem dL_law_1974 : decode cL_law 1974 = .ok (.laload, 1) := by decide +kernel
theorem dL_law_1975 : decode cL_law 1975 = .ok (.iload 6, 2) := by decide +kernel
theorem dL_law_1977 : decode cL_law 1977 = .ok (.i2l, 1) := by decide +kernel
theorem dL_law_1978 : decode cL_law 1978 = .ok (.lcmp, 1) := by decide +kernel
theorem dL_law_1979 : decode cL_law 1979 = .ok (.ifCond .eq 5, 3) := by decide +kernel
theorem dL_law_1982 : decode cL_law 1982 = .ok (.iconst 0, 1) := by decide +kernel
theorem dL_law_1983 : decode cL_law 1983 = .ok (.ireturn, 1) := by decide +kernel
theorem dL_law_1984 : decode cL_law 1984 = .ok (.goto 72, 3) := by decide +kernel
theorem dL_law_1987 : decode cL_law 1987 = .ok (.aload_n 1, 1) := by decide +kernel
theorem dL_law_1988 : decode cL_law 1988 = .ok (.aload_n 0, 1) := by decide +kernel
theorem dL_law_1989 : decode cL_law 1989 = .ok (.iload 4, 2) := by decide +kernel
theorem dL_law_1991 : decode cL_law 1991 = .ok (.iconst 1, 1) := by decide +kernel
theorem dL_law_1992 : decode cL_law 1992 = .ok (.iadd, 1) := by decide +kernel
theorem dL_law_1993 : decode cL_law 1993 = .ok (.iaload, 1) := by decide +kernel
theorem dL_law_1994 : decode cL_law 1994 = .ok (.aload_n 3, 1) := by decide +kernel
theorem dL_law_1995 : decode cL_law 1995 = .ok (.invokestatic 212, 3) := by decide +kernel
theorem dL_law_1998 : decode cL_law 1998 = .ok (.istore 5, 2) := by decide +kernel
theorem dL_law_2000 : decode cL_law 2000 = .ok (.aload_n 2, 1) := by decide +kernel
theorem dL_law_2001 : decode cL_law 2001 = .ok (.aload_n 0, 1) := by decide +kernel
theorem dL_law_2002 : decode cL_law 2002 = .ok (.iload 4, 2) := by decide +kernel
theorem dL_law_2004 : decode cL_law 2004 = .ok (.iconst 1, 1) := by decide +kernel
theorem dL_law_2005 : decode cL_law 2005 = .ok (.iadd, 1) := by decide +kernel
theorem dL_law_2006 : decode cL_law 2006 = .ok (.iaload, 1) := by decide +kernel
theorem dL_law_2007 : decode cL_law 2007 = .ok (.invokevirtual 214, 3) := by decide +kernel
theorem dL_law_2010 : decode cL_law 2010 = .ok (.istore 6, 2) := by decide +kernel
theorem dL_law_2012 : decode cL_law 2012 = .ok (.aload_n 2, 1) := by decide +kernel
theorem dL_law_2013 : decode cL_law 2013 = .ok (.invokevirtual 122, 3) := by decide +kernel
theorem dL_law_2016 : decode cL_law 2016 = .ok (.iload 5, 2) := by decide +kernel
theorem dL_law_2018 : decode cL_law 2018 = .ok (.if_icmp .eq 5, 3) := by decide +kernel
theorem dL_law_2021 : decode cL_law 2021 = .ok (.iconst 0, 1) := by decide +kernel
theorem dL_law_2022 : decode cL_law 2022 = .ok (.ireturn, 1) := by decide +kernel
theorem dL_law_2023 : decode cL_law 2023 = .ok (.iload 5, 2) := by decide +kernel
theorem dL_law_2025 : decode cL_law 2025 = .ok (.ifCond .ne 15, 3) := by decide +kernel
theorem dL_law_2028 : decode cL_law 2028 = .ok (.aload_n 3, 1) := by decide +kernel
theorem dL_law_2029 : decode cL_law 2029 = .ok (.iconst 0, 1) := by decide +kernel
theorem dL_law_2030 : decode cL_law 2030 = .ok (.laload, 1) := by decide +kernel
theorem dL_law_2031 : decode cL_law 2031 = .ok (.iload 6, 2) := by decide +kernel
theorem dL_law_2033 : decode cL_law 2033 = .ok (.i2l, 1) := by decide +kernel
theorem dL_law_2034 : decode cL_law 2034 = .ok (.lcmp, 1) := by decide +kernel
theorem dL_law_2035 : decode cL_law 2035 = .ok (.ifCond .eq 5, 3) := by decide +kernel
theorem dL_law_2038 : decode cL_law 2038 = .ok (.iconst 0, 1) := by decide +kernel
theorem dL_law_2039 : decode cL_law 2039 = .ok (.ireturn, 1) := by decide +kernel
theorem dL_law_2040 : decode cL_law 2040 = .ok (.goto 16, 3) := by decide +kernel
theorem dL_law_2043 : decode cL_law 2043 = .ok (.aload_n 1, 1) := by decide +kernel
theorem dL_law_2044 : decode cL_law 2044 = .ok (.invokevirtual 215, 3) := by decide +kernel
theorem dL_law_2047 : decode cL_law 2047 = .ok (.aload_n 2, 1) := by decide +kernel
theorem dL_law_2048 : decode cL_law 2048 = .ok (.invokevirtual 218, 3) := by decide +kernel
theorem dL_law_2051 : decode cL_law 2051 = .ok (.if_icmp .eq 5, 3) := by decide +kernel
theorem dL_law_2054 : decode cL_law 2054 = .ok (.iconst 0, 1) := by decide +kernel
theorem dL_law_2055 : decode cL_law 2055 = .ok (.ireturn, 1) := by decide +kernel
theorem dL_law_2056 : decode cL_law 2056 = .ok (.iinc 4 4, 3) := by decide +kernel
theorem dL_law_2059 : decode cL_law 2059 = .ok (.goto (-2036), 3) := by decide +kernel
theorem dL_law_2062 : decode cL_law 2062 = .ok (.iconst 1, 1) := by decide +kernel
theorem dL_law_2063 : decode cL_law 2063 = .ok (.ireturn, 1) := by decide +kernel
end
section
-- ===== the numbers: an int as Z32 of an integer =====
def Z32 (z : Int) : Int32 := Int32.ofInt z
abbrev inR (z : Int) : Prop := -2147483648 ≤ z ∧ z < 2147483648
theorem Z32_toInt {z : Int} (h : inR z) : (Z32 z).toInt = z := by
  show (Int32.ofInt z).toInt = z
  rw [Int32.toInt_ofInt]
  show z.bmod 4294967296 = z
  rw [Int.bmod_eq_of_le (by omega) (by omega)]
theorem Z32_as (x : Int32) : Z32 x.toInt = x := Int32.ofInt_toInt x
theorem Z32_rng (x : Int32) : inR x.toInt := ⟨Int32.le_toInt x, Int32.toInt_lt x⟩
theorem Z32_add (a b : Int) : Z32 a + Z32 b = Z32 (a + b) := (Int32.ofInt_add a b).symm
theorem Z32_sub (a b : Int) : Z32 a - Z32 b = Z32 (a - b) := (Int32.ofInt_sub a b).symm
theorem Z32_mul (a b : Int) : Z32 a * Z32 b = Z32 (a * b) := (Int32.ofInt_mul a b).symm
theorem Z32_lt {a b : Int} (ha : inR a) (hb : inR b) : Z32 a < Z32 b ↔ a < b := by
  rw [Int32.lt_iff_toInt_lt, Z32_toInt ha, Z32_toInt hb]
theorem Z32_le {a b : Int} (ha : inR a) (hb : inR b) : Z32 a ≤ Z32 b ↔ a ≤ b := by
  rw [Int32.le_iff_toInt_le, Z32_toInt ha, Z32_toInt hb]
theorem Z32_eq {a b : Int} (ha : inR a) (hb : inR b) : Z32 a = Z32 b ↔ a = b := by
  rw [← Int32.toInt_inj, Z32_toInt ha, Z32_toInt hb]
theorem Z32_0 : Z32 0 = 0 := rfl
theorem Z32_1 : Z32 1 = 1 := rfl
theorem Z32_n (n : Nat) : Z32 (n : Int) = nI n := rfl
theorem Z32_cl {a : Int} (h0 : 0 ≤ a) (h1 : a < 2147483648) : (Z32 a).toNatClampNeg = a.toNat := by
  obtain ⟨n, rfl⟩ := Int.eq_ofNat_of_zero_le h0
  rw [Z32_n, nI_clamp (by omega)]
  rfl
theorem Z32_in {a : Int} {N : Nat} (h0 : 0 ≤ a) (h1 : a < N) (h2 : a < 2147483648) : ¬ (Z32 a < 0 ∨ N ≤ (Z32 a).toNatClampNeg) := by
  rw [Z32_cl h0 h2, ← Z32_0, Z32_lt ⟨by omega, h2⟩ ⟨by omega, by omega⟩]
  omega
theorem Z32_div {a b : Int} (ha : 0 ≤ a) (ha2 : a < 2147483648) (hb : 0 < b) (hb2 : b < 2147483648) : Z32 a / Z32 b = Z32 (a / b) := by
  obtain ⟨n, rfl⟩ := Int.eq_ofNat_of_zero_le ha
  obtain ⟨k, rfl⟩ := Int.eq_ofNat_of_zero_le (Int.le_of_lt hb)
  rw [Z32_n, Z32_n, pk_div (by omega) (by omega) (by omega)]
  rfl
theorem Z32_rem {a b : Int} (ha : 0 ≤ a) (ha2 : a < 2147483648) (hb : 0 < b) (hb2 : b < 2147483648) : Z32 a - Z32 a / Z32 b * Z32 b = Z32 (a % b) := by
  obtain ⟨n, rfl⟩ := Int.eq_ofNat_of_zero_le ha
  obtain ⟨k, rfl⟩ := Int.eq_ofNat_of_zero_le (Int.le_of_lt hb)
  rw [Z32_n, Z32_n, pk_rem (by omega) (by omega) (by omega)]
  rfl
theorem Z32_or (a b : Nat) : Z32 (a : Int) ||| Z32 (b : Int) = Z32 ((a ||| b : Nat) : Int) := by
  apply Int32.toBitVec_inj.1
  show BitVec.ofNat 32 a ||| BitVec.ofNat 32 b = BitVec.ofNat 32 (a ||| b)
  exact BitVec.ofNat_or.symm
theorem Z32_and (a b : Nat) : Z32 (a : Int) &&& Z32 (b : Int) = Z32 ((a &&& b : Nat) : Int) := by
  apply Int32.toBitVec_inj.1
  show BitVec.ofNat 32 a &&& BitVec.ofNat 32 b = BitVec.ofNat 32 (a &&& b)
  exact BitVec.ofNat_and.symm
-- ===== the locals: a row of values, none where nothing is known =====
def lw_has (ls : Array Slot) (L : List (Option Value)) : Prop := ls.size = L.length ∧ lv_wf ls ∧ ∀ (i : Nat) (v : Value), L[i]? = some (some v) → ls[i]? = some (.val v) ∧ v.category = 1
def lw_as (L : List (Option Value)) : List (Nat × Value) := (List.range L.length).filterMap (fun i => match L[i]? with | some (some v) => some (i, v) | _ => none)
theorem lw_as_in {L : List (Option Value)} {i : Nat} {v : Value} : (i, v) ∈ lw_as L ↔ L[i]? = some (some v) := by
  unfold lw_as
  rw [List.mem_filterMap]
  constructor
  · rintro ⟨j, hj, h⟩
    split at h
    · rename_i w hw
      cases h
      exact hw
    · cases h
  · intro h
    have hi : i < L.length := (List.getElem?_eq_some_iff.mp h).1
    exact ⟨i, List.mem_range.mpr hi, by rw [h]⟩
theorem lw_to {ls : Array Slot} {L : List (Option Value)} (h : lw_has ls L) : lv_has ls L.length (lw_as L) := ⟨h.1, h.2.1, fun q hq => (h.2.2 q.1 q.2 (lw_as_in.mp hq)).1⟩
theorem lw_of {ls ls' : Array Slot} {L : List (Option Value)} {i : Nat} {v : Value} (h0 : lw_has ls L) (hi : i < L.length) (hc : v.category = 1) (h : lv_has ls' L.length ((i, v) :: (lw_as L).filter (fun q => !(q.1 == i) && !(q.1 + 1 == i && q.2.category == 2)))) : lw_has ls' (L.set i (some v)) := by
  refine ⟨by rw [List.length_set]; exact h.1, h.2.1, fun j u hj => ?_⟩
  by_cases hji : j = i
  · subst hji
    rw [List.getElem?_set_self hi] at hj
    cases hj
    exact ⟨h.2.2 (j, v) List.mem_cons_self, hc⟩
  · rw [List.getElem?_set_ne (Ne.symm hji)] at hj
    have hu := (h0.2.2 j u hj).2
    refine ⟨h.2.2 (j, u) (List.mem_cons_of_mem _ (List.mem_filter.mpr ⟨lw_as_in.mpr hj, ?_⟩)), hu⟩
    simp [hji, hu]
theorem lw_at {ls : Array Slot} {L : List (Option Value)} {i : Nat} {v : Value} (h : lw_has ls L) (hi : L[i]? = some (some v)) : ls[i]? = some (.val v) := (h.2.2 i v hi).1
theorem lw_sl : ∀ (vs : List Value), vs.all (fun v => v.category == 1) = true → lg_sl vs = vs.map Slot.val
  | [], _ => rfl
  | v :: vs, h => by
    simp only [List.all_cons, Bool.and_eq_true, beq_iff_eq] at h
    have e : lg_sl (v :: vs) = (if v.category = 2 then [Slot.val v, Slot.second] else [Slot.val v]) ++ lg_sl vs := rfl
    rw [e, if_neg (by omega), lw_sl vs (by simpa using h.2)]
    rfl
theorem lw_entry (vs : List Value) {n : Nat} (hc : vs.all (fun v => v.category == 1) = true) (h : vs.length ≤ n) : lw_has ((lg_sl vs ++ List.replicate (n - (lg_sl vs).length) Slot.unset).toArray) (vs.map some ++ List.replicate (n - vs.length) none) := by
  have e := lw_sl vs hc
  have hl : (lg_sl vs).length = vs.length := by rw [e, List.length_map]
  have h1 := lv_entry vs (n := n) (by rw [hl]; exact h)
  refine ⟨by rw [h1.1, List.length_append, List.length_map, List.length_replicate]; omega, h1.2.1, fun i v hv => ?_⟩
  by_cases hi : i < vs.length
  · rw [List.getElem?_append_left (by rw [List.length_map]; exact hi), List.getElem?_map] at hv
    have hv2 : vs[i]? = some v := by
      cases hx : vs[i]? with
      | none => rw [hx] at hv; cases hv
      | some u => rw [hx] at hv; cases hv; rfl
    refine ⟨?_, ?_⟩
    · rw [List.getElem?_toArray, List.getElem?_append_left (by rw [hl]; exact hi), e, List.getElem?_map, hv2]
      rfl
    · have := List.all_eq_true.mp hc v (List.mem_of_getElem? hv2)
      simpa using this
  · rw [List.getElem?_append_right (by rw [List.length_map]; omega), List.getElem?_replicate] at hv
    split at hv
    · cases hv
    · cases hv
-- ===== the world: a function of addresses =====
abbrev wW : Type := Nat → Option va_E
def wset (w : wW) (a : Nat) (e : va_E) : wW := fun b => if b = a then some e else w b
theorem wset_eq {w : wW} {a : Nat} {e : va_E} : wset w a e a = some e := if_pos rfl
theorem wset_ne {w : wW} {a b : Nat} {e : va_E} (h : b ≠ a) : wset w a e b = w b := if_neg h
abbrev gD : Type := va_G × ClassId × ClassId × ClassId
def wH (D : gD) (w : wW) (H : Heap) : Prop := ∀ (a : Nat) (e : va_E), w a = some e → va_at D.1 vwCl (a, e) H
theorem wH.lt {D : gD} {w : wW} {H : Heap} (h : wH D w H) {a : Nat} {e : va_E} (ha : w a = some e) : a < H.size := (h a e ha).lt
theorem wH.set {D : gD} {w : wW} {H H1 : Heap} {a : Nat} {e : va_E} (h : wH D w H) (ha : va_at D.1 vwCl (a, e) H1) (ho : ∀ q : Nat, q ≠ a → H1[q]? = H[q]?) : wH D (wset w a e) H1 := by
  intro b f hb
  by_cases hba : b = a
  · subst hba
    rw [wset_eq] at hb
    cases hb
    exact ha
  · rw [wset_ne hba] at hb
    exact (h b f hb).kept (ho b hba)
theorem wH.push {D : gD} {w : wW} {H H1 : Heap} {e : va_E} (h : wH D w H) (ha : va_at D.1 vwCl (H.size, e) H1) (ho : ∀ q : Nat, q < H.size → H1[q]? = H[q]?) : wH D (wset w H.size e) H1 := by
  intro b f hb
  by_cases hba : b = H.size
  · subst hba
    rw [wset_eq] at hb
    cases hb
    exact ha
  · rw [wset_ne hba] at hb
    exact (h b f hb).kept (ho b (h.lt hb))
theorem wH.none {D : gD} {w : wW} {H : Heap} (h : wH D w H) : w H.size = none := by
  cases hw : w H.size with
  | none => rfl
  | some e => exact absurd (h.lt hw) (Nat.lt_irrefl _)
/-- an int array, a long array, an array of pages -/
def iar (D : gD) (n : Nat) (f : Nat → Int) : va_E := .inl (D.2.1, n, .inl (fun j => Z32 (f j)))
def lar (D : gD) (n : Nat) (f : Nat → Int64) : va_E := .inl (D.2.2.1, n, .inr (.inl f))
def par (D : gD) (n : Nat) (f : Nat → Option Nat) : va_E := .inl (D.2.2.2, n, .inr (.inr (.inr (.inr f))))
def upz {α : Type} (f : Nat → α) (k : Nat) (x : α) : Nat → α := fun j => if j = k then x else f j
theorem upz_eq {α : Type} {f : Nat → α} {k : Nat} {x : α} : upz f k x k = x := if_pos rfl
theorem upz_ne {α : Type} {f : Nat → α} {k j : Nat} {x : α} (h : j ≠ k) : upz f k x j = f j := if_neg h
def tysD (D : gD) : List (ClassId × FieldType) := [(D.2.1, .int), (D.2.2.1, .long), (D.2.2.2, .object "MacroWiki$Page")]
-- ===== the tables' words: the good ones go along with every call; of the others we keep those of four kinds =====
def gT : List Cond := lw_tbl.filter goodWord
def g_isN : Cond → Bool
  | .methodLinkNest .. | .fieldLinkNest .. | .declares _ | .castable .. => true
  | _ => false
def gN : List Cond := tables_1.filter g_isN
theorem gT_good {w : Cond} (h : w ∈ gT) : goodWord w = true := (List.mem_filter.mp h).2
theorem gT_of {w : Cond} (i : Nat) (h : lw_tbl[i]? = some w) (hg : goodWord w = true) : w ∈ gT := List.mem_filter.mpr ⟨List.mem_of_getElem? h, hg⟩
theorem gN_of {w : Cond} (i : Nat) (h : tables_1[i]? = some w) (hg : g_isN w = true) : w ∈ gN := List.mem_filter.mpr ⟨List.mem_of_getElem? h, hg⟩
theorem gN_tab {w : Cond} (h : w ∈ gN) : w.onTables = true := by
  have h1 := (List.mem_filter.mp h).2
  cases w <;> first | rfl | (simp [g_isN] at h1)
theorem gT_in {ws : List Cond} (h : ∀ w ∈ ws, w ∈ gT) : GoodIn gT ws := fun w hw => ⟨h w hw, good_of_word (gT_good (h w hw))⟩
theorem gN_warm {s U : State} (hW : s.WarmedH U.vm) {w : Cond} (hw : w ∈ gN) (h : va_Nw w s) : va_Nw w U := by
  have h1 := (List.mem_filter.mp hw).2
  cases w <;> first | (simp [g_isN] at h1; done) | exact va_Nw.warmM hW h | exact va_Nw.warmF hW h | exact va_Nw.warmD hW h | exact va_Nw.warmC hW h
-- ===== what a state's tables say, carried from call to call =====
def KX (gS : List (String × Nat × String)) (gC : List (String × String)) (D : gD) (s : State) : Prop := (∀ w ∈ gN, va_Nw w s) ∧ va_K D.1 vwCl (tysD D) s ∧ va_AO "MacroWiki$Page" s ∧ (∀ q ∈ gS, ∃ a : Nat, vk_R q.1 q.2.1 q.2.2 a s) ∧ ∀ q ∈ gC, va_Nc q.1 q.2 s
def gS : List (String × Nat × String) := (tables_1.filterMap (fun w => match w with | .stringRef a k t => some (a, k, t) | _ => none))
def gX : List String := ["java/lang/IllegalArgumentException", "java/lang/IllegalStateException", "java/lang/IndexOutOfBoundsException", "java/util/NoSuchElementException"]
def gC : List (String × String) := gX.flatMap (fun a => (gX.filter (fun b => decide (b ≠ a))).map (fun b => (a, b)))
abbrev KD (D : gD) (s : State) : Prop := KX gS gC D s
theorem KX.warm {gS : List (String × Nat × String)} {gC : List (String × String)} {D : gD} {s U : State} (hW : s.WarmedH U.vm) (h : KX gS gC D s) : KX gS gC D U :=
  ⟨fun w hw => gN_warm hW hw (h.1 w hw), va_K.moved hW.alike h.2.1, va_AO.moved hW.alike h.2.2.1, fun q hq => by obtain ⟨a, ha⟩ := h.2.2.2.1 q hq; exact ⟨a, vk_R.warm hW ha⟩, fun q hq => va_Nc.moved hW.alike (h.2.2.2.2 q hq)⟩
theorem KX.same {gS : List (String × Nat × String)} {gC : List (String × String)} {D : gD} {s U : State} (hv : U.vm = s.vm) (h : KX gS gC D s) : KX gS gC D U :=
  ⟨fun w hw => va_Nw.same (gN_tab hw) hv.symm (h.1 w hw), va_K.moved (by rw [hv]; exact Vm.Alike.refl _) h.2.1, va_AO.moved (by rw [hv]; exact Vm.Alike.refl _) h.2.2.1, fun q hq => by obtain ⟨a, ha⟩ := h.2.2.2.1 q hq; exact ⟨a, vk_R.same hv ha⟩, fun q hq => va_Nc.moved (by rw [hv]; exact Vm.Alike.refl _) (h.2.2.2.2 q hq)⟩
def ST (A : Nat → Prop) (U : State) (H : Heap) : Prop := vx_Zq Bundle.tN "UNASSIGNED_STACK" Bundle.steD A U H ∧ vx_Zq Bundle.tN "SUPPRESSED_SENTINEL" Bundle.listD A U H
theorem ST.moved {A : Nat → Prop} {u U : State} {H : Heap} (hvm : u.vm.Alike U.vm) (h : ST A u H) : ST A U H := ⟨vx_Zq.moved hvm h.1, vx_Zq.moved hvm h.2⟩
theorem ST.kept {A : Nat → Prop} {U : State} {H H1 : Heap} (h : ST A U H) (hq : ∀ a : Nat, a < H.size → ¬ A a → H1[a]? = H[a]?) : ST A U H1 := ⟨h.1.kept hq, h.2.kept hq⟩
theorem ST.narrow {A B : Nat → Prop} {U : State} {H : Heap} (h : ST A U H) (hAB : ∀ q, B q → A q) : ST B U H := ⟨h.1.narrow hAB, h.2.narrow hAB⟩
-- ===== contracts =====
def wA (w : wW) (sz : Nat) : Nat → Prop := fun q => (∃ e, w q = some e) ∨ sz ≤ q
def cP (D : gD) (w : wW) (sz : Nat) : State → Prop := fun U => U.heap.size = sz ∧ wH D w U.heap ∧ KD D U ∧ ST (wA w sz) U U.heap
def cQ (D : gD) (A : Nat → Prop) (Rp : Option Value → wW → Prop) : Array Value → State → Outcome → State → Prop := fun _ st o t =>
  (∃ (v : Option Value) (w1 : wW), o = .returned v ∧ Rp v w1 ∧ wH D w1 t.heap ∧ ∀ a e, w1 a = some e → A a) ∧ va_F A st t
def cXC (D : gD) (A : Nat → Prop) (Xp : String → wW → Prop) : String → State → State → Prop := fun E st t =>
  (∃ w1 : wW, Xp E w1 ∧ wH D w1 t.heap ∧ ∀ a e, w1 a = some e → A a) ∧ va_F A st t
/-- a contract of a method that returns -/
def CTm (l : Launch) (D : gD) (y : MethodName) (b : ByteArray) (mL : Nat) (rt : Option FieldType) (rm : Room) (av : List Value) (w : wW) (Rp : Option Value → wW → Prop) : Prop :=
  ∀ sz : Nat, Met l y (.code y b mL rt :: gT) rm (va_Pc av (cP D w sz)) (cQ D (wA w sz) Rp) rm.cells rm.slots (wA w sz)
/-- a contract of a method that returns or throws -/
def CTx (l : Launch) (D : gD) (y : MethodName) (b : ByteArray) (mL : Nat) (rt : Option FieldType) (rm : Room) (av : List Value) (w : wW) (Rp : Option Value → wW → Prop) (Xp : String → wW → Prop) : Prop :=
  ∀ sz : Nat, vx_Met l y (.code y b mL rt :: gT) rm (va_Pc av (cP D w sz)) (cQ D (wA w sz) Rp) (cXC D (wA w sz) Xp) rm.cells rm.slots (wA w sz)
/-- the same of a method with handlers -/
def CTh (l : Launch) (D : gD) (y : MethodName) (b : ByteArray) (mL : Nat) (rt : Option FieldType) (hh : List (Nat × Nat × Nat × Nat)) (rm : Room) (av : List Value) (w : wW) (Rp : Option Value → wW → Prop) : Prop :=
  ∀ sz : Nat, vx_Met l y (.codeWith y b mL rt hh :: gT) rm (va_Pc av (cP D w sz)) (cQ D (wA w sz) Rp) (cXC D (wA w sz) (fun _ _ => False)) rm.cells rm.slots (wA w sz)
theorem cP_blind {D : gD} {w : wW} {sz : Nat} {av : List Value} : FrameBlind (va_Pc av (cP D w sz)) := by
  rintro a U g mk ⟨h0, h1, h2, h3, h4⟩
  exact ⟨h0, h1, h2, KX.same (s := U) rfl h3, ST.moved (Vm.Alike.refl _) h4⟩
theorem cP_at {D : gD} {w : wW} {s U : State} {A : Nat → Prop} {H : Heap} {locs : List Loc} (hH : wH D w H) (hw : ∀ a e, w a = some e → A a) (hA : ∀ q, s.heap.size ≤ q → A q) (hS : va_S A s.heap H locs) (hK : KD D s) (hT : ST A s s.heap) (hU : U.heap = H) (hW : s.WarmedH U.vm) : cP D w H.size U := by
  subst hU
  refine ⟨rfl, hH, KX.warm hW hK, ?_⟩
  refine ST.moved hW.alike ((hT.kept hS.2.1).narrow ?_)
  rintro q (⟨e, he⟩ | hq)
  · exact hw q e he
  · exact hA q (Nat.le_trans hS.1 hq)
theorem wA_in {D : gD} {w : wW} {A : Nat → Prop} {H H0 : Heap} {locs : List Loc} (hw : ∀ a e, w a = some e → A a) (hA : ∀ q, H0.size ≤ q → A q) (hS : va_S A H0 H locs) : ∀ q, wA w H.size q → A q := by
  rintro q (⟨e, he⟩ | hq)
  · exact hw q e he
  · exact hA q (Nat.le_trans hS.1 hq)
-- ===== the walk's judgement =====
def JJ (p : Program) (l : Launch) (e : Env) (R : Room) (s : State) (m : MethodId) (args : Array Value) (below : List Frame) (meth : Method) (c : Code) (A : Nat → Prop) (D : gD) (Q : State → Prop) (n k : Nat) (w : wW) (L : List (Option Value)) (pc : Nat) (st : List Value) : Prop :=
  ∀ (H : Heap) (locs : List Loc) (ls : Array Slot), wH D w H → (∀ a x, w a = some x → A a) → va_S A s.heap H locs → lw_has ls L → W p l e R s m args below meth c H locs n k Q (F0 m pc ls st)
abbrev gG : Type := Nat → Nat → wW → List (Option Value) → Nat → List Value → Prop
def CxF (p : Program) (l : Launch) (e : Env) (R : Room) (s : State) (m : MethodId) (args : Array Value) (below : List Frame) (meth : Method) (c : Code) (A : Nat → Prop) (D : gD) (Q : State → Prop) (own : String) (cc : ByteArray) (nL : Nat) (rt : Option FieldType) (ini : Bool) (hh : Option (List (Nat × Nat × Nat × Nat))) (Rp : Option Value → wW → Prop) (Xp : String → wW → Prop) : Prop :=
  p.tables.exec = Jvm.exec ∧ c.code = cc ∧ c.maxLocals = nL ∧ s.vm.findClass own = some m.cls ∧ (∀ w ∈ gT, w.before args s = true) ∧ KD D s ∧ ST A s s.heap ∧ (∀ q, s.heap.size ≤ q → A q) ∧ meth.locks = false ∧ meth.sig.returnType = rt ∧ (ini = true → meth.name = "<init>") ∧ l.stackTraces = false ∧
  (∀ h, hh = some h → c.exceptionTable.toList = tableOf h) ∧ (∀ H locs n k g, W p l e R s m args below meth c H locs n k (MQ below (cQ D A Rp) args s R.cells R.slots A) g → W p l e R s m args below meth c H locs n k Q g) ∧
  (Q = vx_MQ below (cQ D A Rp) (cXC D A Xp) args s R.cells R.slots A ∨ hh = none)
/-- the context of a walk: G n k w L pc st says: from there, the method's end is come to -/
def Cx (l : Launch) (D : gD) (own : String) (cc : ByteArray) (nL : Nat) (R : Room) (rt : Option FieldType) (ini : Bool) (hh : Option (List (Nat × Nat × Nat × Nat))) (Rp : Option Value → wW → Prop) (Xp : String → wW → Prop) (G : gG) : Prop :=
  ∃ (p : Program) (e : Env) (s : State) (m : MethodId) (args : Array Value) (below : List Frame) (meth : Method) (c : Code) (A : Nat → Prop) (Q : State → Prop), G = JJ p l e R s m args below meth c A D Q ∧ CxF p l e R s m args below meth c A D Q own cc nL rt ini hh Rp Xp
theorem CTm_of {l : Launch} {D : gD} {y : MethodName} {b : ByteArray} {mL : Nat} {rt : Option FieldType} {rm : Room} {av : List Value} {w : wW} {Rp : Option Value → wW → Prop} (hl : l.stackTraces = false) (ini : Bool) (hy : plainName y.cls = true) (hc1 : av.all (fun v => v.category == 1) = true) (hlen : av.length ≤ mL) (hini : ini = true → y.name = "<init>")
    (body : ∀ G : gG, Cx l D y.cls b mL rm rt ini none Rp (fun _ _ => False) G → G 0 0 w (av.map some ++ List.replicate (mL - av.length) none) 0 []) : CTm l D y b mL rt rm av w Rp := by
  intro sz
  refine Met.ofW (cc := b) (maxL := mL) (ret := rt) hy rfl ?_
  intro p e s m args below meth c s₁ B hml hv
  obtain ⟨rfl, hsz, hH, hK, hS⟩ := hv
  subst hsz
  have hts := atoms_spec (ws := Jvm.Cond.code y b mL rt :: gT) B.pre
  rw [lg_entry_eq]
  refine body (JJ p l e rm s m av.toArray below meth c (wA w s.heap.size) D (MQ below (cQ D (wA w s.heap.size) Rp) av.toArray s rm.cells rm.slots (wA w s.heap.size))) ⟨p, e, s, m, av.toArray, below, meth, c, wA w s.heap.size, _, rfl, ?_⟩ s.heap [] _ hH (fun a x h => Or.inl ⟨x, h⟩) va_S.rf (lw_entry av hc1 hlen)
  exact ⟨B.exec, B.bytes, hml, findClass_of_methodNamed B.named, fun w9 h9 => hts w9 (List.mem_cons_of_mem _ h9), hK, hS, fun q h => Or.inr h, B.notSynchronized, B.returns, fun h => ((name_of_methodNamed B.named B.method).1).trans (hini h), hl, (fun h hh => nomatch hh), fun _ _ _ _ _ h => h, Or.inr rfl⟩
theorem CTx_of {l : Launch} {D : gD} {y : MethodName} {b : ByteArray} {mL : Nat} {rt : Option FieldType} {rm : Room} {av : List Value} {w : wW} {Rp : Option Value → wW → Prop} {Xp : String → wW → Prop} (hl : l.stackTraces = false) (hy : plainName y.cls = true) (hc1 : av.all (fun v => v.category == 1) = true) (hlen : av.length ≤ mL)
    (body : ∀ G : gG, Cx l D y.cls b mL rm rt false (some []) Rp Xp G → G 0 0 w (av.map some ++ List.replicate (mL - av.length) none) 0 []) : CTx l D y b mL rt rm av w Rp Xp := by
  intro sz
  refine vx_ofW (cc := b) (maxL := mL) (ret := rt) hy rfl ?_
  intro p e s m args below meth c s₁ B hml htab hv
  obtain ⟨rfl, hsz, hH, hK, hS⟩ := hv
  subst hsz
  have hts := atoms_spec (ws := Jvm.Cond.code y b mL rt :: gT) B.pre
  rw [lg_entry_eq]
  refine body (JJ p l e rm s m av.toArray below meth c (wA w s.heap.size) D (vx_MQ below (cQ D (wA w s.heap.size) Rp) (cXC D (wA w s.heap.size) Xp) av.toArray s rm.cells rm.slots (wA w s.heap.size))) ⟨p, e, s, m, av.toArray, below, meth, c, wA w s.heap.size, _, rfl, ?_⟩ s.heap [] _ hH (fun a x h => Or.inl ⟨x, h⟩) va_S.rf (lw_entry av hc1 hlen)
  refine ⟨B.exec, B.bytes, hml, findClass_of_methodNamed B.named, fun w9 h9 => hts w9 (List.mem_cons_of_mem _ h9), hK, hS, fun q h => Or.inr h, B.notSynchronized, B.returns, (fun h => nomatch h), hl, ?_, fun _ _ _ _ _ h => vx_ret h, Or.inl rfl⟩
  intro h hh
  cases hh
  exact List.eq_nil_iff_forall_not_mem.mpr htab
theorem CTh_of {l : Launch} {D : gD} {y : MethodName} {b : ByteArray} {mL : Nat} {rt : Option FieldType} {hh : List (Nat × Nat × Nat × Nat)} {rm : Room} {av : List Value} {w : wW} {Rp : Option Value → wW → Prop} (hl : l.stackTraces = false) (hy : plainName y.cls = true) (hc1 : av.all (fun v => v.category == 1) = true) (hlen : av.length ≤ mL)
    (body : ∀ G : gG, Cx l D y.cls b mL rm rt false (some hh) Rp (fun _ _ => False) G → G 0 0 w (av.map some ++ List.replicate (mL - av.length) none) 0 []) : CTh l D y b mL rt hh rm av w Rp := by
  intro sz
  refine vx_ofWH (cc := b) (maxL := mL) (ret := rt) (hh := hh) hy rfl ?_
  intro p e s m args below meth c s₁ B hml hv
  obtain ⟨rfl, hsz, hH, hK, hS⟩ := hv
  subst hsz
  have hts := atoms_spec (ws := Jvm.Cond.codeWith y b mL rt hh :: gT) B.pre
  have htab := vx_table (x := y) B (hts _ List.mem_cons_self)
  rw [lg_entry_eq]
  refine body (JJ p l e rm s m av.toArray below meth c (wA w s.heap.size) D (vx_MQ below (cQ D (wA w s.heap.size) Rp) (cXC D (wA w s.heap.size) (fun _ _ => False)) av.toArray s rm.cells rm.slots (wA w s.heap.size))) ⟨p, e, s, m, av.toArray, below, meth, c, wA w s.heap.size, _, rfl, ?_⟩ s.heap [] _ hH (fun a x h => Or.inl ⟨x, h⟩) va_S.rf (lw_entry av hc1 hlen)
  refine ⟨B.exec, B.bytes, hml, findClass_of_methodNamed B.named, fun w9 h9 => hts w9 (List.mem_cons_of_mem _ h9), hK, hS, fun q h => Or.inr h, B.notSynchronized, B.returns, (fun h => nomatch h), hl, ?_, fun _ _ _ _ _ h => vx_ret h, Or.inl rfl⟩
  intro h h9
  cases h9
  exact htab
end
section
-- ===== the rows of the walk =====
section IR
variable {l : Launch} {D : gD} {own : String} {cc : ByteArray} {nL : Nat} {R : Room} {rt : Option FieldType} {ini : Bool} {hh : Option (List (Nat × Nat × Nat × Nat))} {Rp : Option Value → wW → Prop} {Xp : String → wW → Prop} {G : gG} {n k : Nat} {w : wW} {L : List (Option Value)} {pc : Nat} {st : List Value}
theorem i_iconst (C : Cx l D own cc nL R rt ini hh Rp Xp G) {a : Int} (d : decode cc pc = .ok (.iconst a, 1)) (kk : G n k w L (pc + 1) (.int (Z32 a) :: st)) : G n k w L pc st := by
  obtain ⟨p, e, s, m, args, below, meth, c, A, Q, rfl, hx, hb, F⟩ := C
  intro H locs ls hH hA hS hl
  exact lv_iconst hx hb d rfl (kk H locs ls hH hA hS hl)
theorem i_bipush (C : Cx l D own cc nL R rt ini hh Rp Xp G) {a : Int} (d : decode cc pc = .ok (.bipush a, 2)) (hv : (Int8.ofInt a).toInt32 = Z32 a := by decide +kernel) (kk : G n k w L (pc + 2) (.int (Z32 a) :: st)) : G n k w L pc st := by
  obtain ⟨p, e, s, m, args, below, meth, c, A, Q, rfl, hx, hb, F⟩ := C
  intro H locs ls hH hA hS hl
  exact lv_bipush hx hb d hv (kk H locs ls hH hA hS hl)
theorem i_sipush (C : Cx l D own cc nL R rt ini hh Rp Xp G) {a : Int} (d : decode cc pc = .ok (.sipush a, 3)) (hv : (Int16.ofInt a).toInt32 = Z32 a := by decide +kernel) (kk : G n k w L (pc + 3) (.int (Z32 a) :: st)) : G n k w L pc st := by
  obtain ⟨p, e, s, m, args, below, meth, c, A, Q, rfl, hx, hb, F⟩ := C
  intro H locs ls hH hA hS hl
  exact lv_sipush hx hb d hv (kk H locs ls hH hA hS hl)
theorem i_null (C : Cx l D own cc nL R rt ini hh Rp Xp G) (d : decode cc pc = .ok (.aconst_null, 1)) (kk : G n k w L (pc + 1) (.null :: st)) : G n k w L pc st := by
  obtain ⟨p, e, s, m, args, below, meth, c, A, Q, rfl, hx, hb, F⟩ := C
  intro H locs ls hH hA hS hl
  exact lv_null hx hb d (kk H locs ls hH hA hS hl)
theorem i_iload_n (C : Cx l D own cc nL R rt ini hh Rp Xp G) {i : Fin 4} {x : Int32} (d : decode cc pc = .ok (.iload_n i, 1)) (hi : L[(i : Nat)]? = some (some (.int x)) := by rfl) (kk : G n k w L (pc + 1) (.int x :: st)) : G n k w L pc st := by
  obtain ⟨p, e, s, m, args, below, meth, c, A, Q, rfl, hx, hb, F⟩ := C
  intro H locs ls hH hA hS hl
  exact lv_iload_n hx hb d rfl (lw_at hl hi) (kk H locs ls hH hA hS hl)
theorem i_iload (C : Cx l D own cc nL R rt ini hh Rp Xp G) {i : Nat} {x : Int32} (d : decode cc pc = .ok (.iload i, 2)) (hi : L[i]? = some (some (.int x)) := by rfl) (kk : G n k w L (pc + 2) (.int x :: st)) : G n k w L pc st := by
  obtain ⟨p, e, s, m, args, below, meth, c, A, Q, rfl, hx, hb, F⟩ := C
  intro H locs ls hH hA hS hl
  exact lv_iload hx hb d (lw_at hl hi) (kk H locs ls hH hA hS hl)
theorem i_aload_n (C : Cx l D own cc nL R rt ini hh Rp Xp G) {i : Fin 4} {x : Nat} (d : decode cc pc = .ok (.aload_n i, 1)) (hi : L[(i : Nat)]? = some (some (.ref x)) := by rfl) (kk : G n k w L (pc + 1) (.ref x :: st)) : G n k w L pc st := by
  obtain ⟨p, e, s, m, args, below, meth, c, A, Q, rfl, hx, hb, F⟩ := C
  intro H locs ls hH hA hS hl
  exact lv_aload_n hx hb d rfl (lw_at hl hi) (kk H locs ls hH hA hS hl)
theorem i_aload (C : Cx l D own cc nL R rt ini hh Rp Xp G) {i : Nat} {x : Nat} (d : decode cc pc = .ok (.aload i, 2)) (hi : L[i]? = some (some (.ref x)) := by rfl) (kk : G n k w L (pc + 2) (.ref x :: st)) : G n k w L pc st := by
  obtain ⟨p, e, s, m, args, below, meth, c, A, Q, rfl, hx, hb, F⟩ := C
  intro H locs ls hH hA hS hl
  exact lv_aload hx hb d (lw_at hl hi) (kk H locs ls hH hA hS hl)
theorem i_istore_n (C : Cx l D own cc nL R rt ini hh Rp Xp G) {i : Fin 4} {x : Int32} {L' : List (Option Value)} (d : decode cc pc = .ok (.istore_n i, 1)) (hL : L.set (i : Nat) (some (.int x)) = L' := by rfl) (hi : (i : Nat) < L.length := by exact Nat.lt_of_sub_eq_succ rfl) (kk : G n k w L' (pc + 1) st) : G n k w L pc (.int x :: st) := by
  obtain ⟨p, e, s, m, args, below, meth, c, A, Q, rfl, hx, hb, F⟩ := C
  intro H locs ls hH hA hS hl
  exact lv_istore_n hx hb d rfl (lw_to hl) hi rfl (fun ls' hl' => kk H locs ls' hH hA hS (hL ▸ lw_of hl hi rfl hl'))
theorem i_istore (C : Cx l D own cc nL R rt ini hh Rp Xp G) {i : Nat} {x : Int32} {L' : List (Option Value)} (d : decode cc pc = .ok (.istore i, 2)) (hL : L.set i (some (.int x)) = L' := by rfl) (hi : i < L.length := by exact Nat.lt_of_sub_eq_succ rfl) (kk : G n k w L' (pc + 2) st) : G n k w L pc (.int x :: st) := by
  obtain ⟨p, e, s, m, args, below, meth, c, A, Q, rfl, hx, hb, F⟩ := C
  intro H locs ls hH hA hS hl
  exact lv_istore hx hb d (lw_to hl) hi rfl (fun ls' hl' => kk H locs ls' hH hA hS (hL ▸ lw_of hl hi rfl hl'))
theorem i_astore_n (C : Cx l D own cc nL R rt ini hh Rp Xp G) {i : Fin 4} {x : Nat} {L' : List (Option Value)} (d : decode cc pc = .ok (.astore_n i, 1)) (hL : L.set (i : Nat) (some (.ref x)) = L' := by rfl) (hi : (i : Nat) < L.length := by exact Nat.lt_of_sub_eq_succ rfl) (kk : G n k w L' (pc + 1) st) : G n k w L pc (.ref x :: st) := by
  obtain ⟨p, e, s, m, args, below, meth, c, A, Q, rfl, hx, hb, F⟩ := C
  intro H locs ls hH hA hS hl
  exact lv_astore_n hx hb d rfl (lw_to hl) hi rfl (fun ls' hl' => kk H locs ls' hH hA hS (hL ▸ lw_of hl hi rfl hl'))
theorem i_astore (C : Cx l D own cc nL R rt ini hh Rp Xp G) {i : Nat} {x : Nat} {L' : List (Option Value)} (d : decode cc pc = .ok (.astore i, 2)) (hL : L.set i (some (.ref x)) = L' := by rfl) (hi : i < L.length := by exact Nat.lt_of_sub_eq_succ rfl) (kk : G n k w L' (pc + 2) st) : G n k w L pc (.ref x :: st) := by
  obtain ⟨p, e, s, m, args, below, meth, c, A, Q, rfl, hx, hb, F⟩ := C
  intro H locs ls hH hA hS hl
  exact lv_astore hx hb d (lw_to hl) hi rfl (fun ls' hl' => kk H locs ls' hH hA hS (hL ▸ lw_of hl hi rfl hl'))
theorem i_iinc (C : Cx l D own cc nL R rt ini hh Rp Xp G) {i : Nat} {x z : Int} {L' : List (Option Value)} (d : decode cc pc = .ok (.iinc i z, 3)) (hi : L[i]? = some (some (.int (Z32 x))) := by rfl) (hL : L.set i (some (.int (Z32 (x + z)))) = L' := by rfl) (kk : G n k w L' (pc + 3) st) : G n k w L pc st := by
  obtain ⟨p, e, s, m, args, below, meth, c, A, Q, rfl, hx, hb, F⟩ := C
  intro H locs ls hH hA hS hl
  have hlen : i < L.length := (List.getElem?_eq_some_iff.mp hi).1
  obtain ⟨j, hj⟩ := List.getElem?_of_mem (lw_as_in.mpr hi)
  exact lv_iinc hx hb d (lw_to hl) hj (show Z32 x + Int32.ofInt z = Z32 (x + z) from Z32_add x z) hlen rfl (fun ls' hl' => kk H locs ls' hH hA hS (hL ▸ lw_of hl hlen rfl hl'))
theorem i_iadd (C : Cx l D own cc nL R rt ini hh Rp Xp G) {a b : Int} (d : decode cc pc = .ok (.iadd, 1)) (kk : G n k w L (pc + 1) (.int (Z32 (a + b)) :: st)) : G n k w L pc (.int (Z32 b) :: .int (Z32 a) :: st) := by
  obtain ⟨p, e, s, m, args, below, meth, c, A, Q, rfl, hx, hb, F⟩ := C
  intro H locs ls hH hA hS hl
  refine lv_iadd hx hb d ?_
  rw [Z32_add]
  exact kk H locs ls hH hA hS hl
theorem i_isub (C : Cx l D own cc nL R rt ini hh Rp Xp G) {a b : Int} (d : decode cc pc = .ok (.isub, 1)) (kk : G n k w L (pc + 1) (.int (Z32 (a - b)) :: st)) : G n k w L pc (.int (Z32 b) :: .int (Z32 a) :: st) := by
  obtain ⟨p, e, s, m, args, below, meth, c, A, Q, rfl, hx, hb, F⟩ := C
  intro H locs ls hH hA hS hl
  refine lv_isub hx hb d ?_
  rw [Z32_sub]
  exact kk H locs ls hH hA hS hl
theorem i_imul (C : Cx l D own cc nL R rt ini hh Rp Xp G) {a b : Int} (d : decode cc pc = .ok (.imul, 1)) (kk : G n k w L (pc + 1) (.int (Z32 (a * b)) :: st)) : G n k w L pc (.int (Z32 b) :: .int (Z32 a) :: st) := by
  obtain ⟨p, e, s, m, args, below, meth, c, A, Q, rfl, hx, hb, F⟩ := C
  intro H locs ls hH hA hS hl
  refine lv_imul hx hb d ?_
  rw [Z32_mul]
  exact kk H locs ls hH hA hS hl
theorem i_idiv (C : Cx l D own cc nL R rt ini hh Rp Xp G) {a b : Int} (d : decode cc pc = .ok (.idiv, 1)) (ha : 0 ≤ a := by omega) (ha2 : a < 2147483648 := by omega) (hb0 : 0 < b := by omega) (hb2 : b < 2147483648 := by omega) (kk : G n k w L (pc + 1) (.int (Z32 (a / b)) :: st)) : G n k w L pc (.int (Z32 b) :: .int (Z32 a) :: st) := by
  obtain ⟨p, e, s, m, args, below, meth, c, A, Q, rfl, hx, hb, F⟩ := C
  intro H locs ls hH hA hS hl
  have hne : ¬ Z32 b = 0 := by rw [← Z32_0, Z32_eq ⟨by omega, hb2⟩ ⟨by omega, by omega⟩]; omega
  refine lv_idiv hx hb d hne ?_
  rw [Z32_div ha ha2 hb0 hb2]
  exact kk H locs ls hH hA hS hl
theorem i_irem (C : Cx l D own cc nL R rt ini hh Rp Xp G) {a b : Int} (d : decode cc pc = .ok (.irem, 1)) (ha : 0 ≤ a := by omega) (ha2 : a < 2147483648 := by omega) (hb0 : 0 < b := by omega) (hb2 : b < 2147483648 := by omega) (kk : G n k w L (pc + 1) (.int (Z32 (a % b)) :: st)) : G n k w L pc (.int (Z32 b) :: .int (Z32 a) :: st) := by
  obtain ⟨p, e, s, m, args, below, meth, c, A, Q, rfl, hx, hb, F⟩ := C
  intro H locs ls hH hA hS hl
  have hne : ¬ Z32 b = 0 := by rw [← Z32_0, Z32_eq ⟨by omega, hb2⟩ ⟨by omega, by omega⟩]; omega
  refine lv_irem hx hb d hne ?_
  rw [Z32_rem ha ha2 hb0 hb2]
  exact kk H locs ls hH hA hS hl
theorem i_iand (C : Cx l D own cc nL R rt ini hh Rp Xp G) {x y z : Int32} (d : decode cc pc = .ok (.iand, 1)) (hz : x &&& y = z) (kk : G n k w L (pc + 1) (.int z :: st)) : G n k w L pc (.int y :: .int x :: st) := by
  obtain ⟨p, e, s, m, args, below, meth, c, A, Q, rfl, hx, hb, F⟩ := C
  intro H locs ls hH hA hS hl
  refine lv_iand hx hb d ?_
  rw [hz]
  exact kk H locs ls hH hA hS hl
theorem i_ior (C : Cx l D own cc nL R rt ini hh Rp Xp G) {x y z : Int32} (d : decode cc pc = .ok (.ior, 1)) (hz : x ||| y = z) (kk : G n k w L (pc + 1) (.int z :: st)) : G n k w L pc (.int y :: .int x :: st) := by
  obtain ⟨p, e, s, m, args, below, meth, c, A, Q, rfl, hx, hb, F⟩ := C
  intro H locs ls hH hA hS hl
  refine lv_ior hx hb d ?_
  rw [hz]
  exact kk H locs ls hH hA hS hl
theorem i_ixor (C : Cx l D own cc nL R rt ini hh Rp Xp G) {x y z : Int32} (d : decode cc pc = .ok (.ixor, 1)) (hz : x ^^^ y = z) (kk : G n k w L (pc + 1) (.int z :: st)) : G n k w L pc (.int y :: .int x :: st) := by
  obtain ⟨p, e, s, m, args, below, meth, c, A, Q, rfl, hx, hb, F⟩ := C
  intro H locs ls hH hA hS hl
  refine lv_ixor hx hb d ?_
  rw [hz]
  exact kk H locs ls hH hA hS hl
theorem i_ishl (C : Cx l D own cc nL R rt ini hh Rp Xp G) {x y z : Int32} (d : decode cc pc = .ok (.ishl, 1)) (hz : x <<< (y &&& 31) = z) (kk : G n k w L (pc + 1) (.int z :: st)) : G n k w L pc (.int y :: .int x :: st) := by
  obtain ⟨p, e, s, m, args, below, meth, c, A, Q, rfl, hx, hb, F⟩ := C
  intro H locs ls hH hA hS hl
  refine lv_ishl hx hb d ?_
  rw [hz]
  exact kk H locs ls hH hA hS hl
theorem i_ishr (C : Cx l D own cc nL R rt ini hh Rp Xp G) {x y z : Int32} (d : decode cc pc = .ok (.ishr, 1)) (hz : x >>> (y &&& 31) = z) (kk : G n k w L (pc + 1) (.int z :: st)) : G n k w L pc (.int y :: .int x :: st) := by
  obtain ⟨p, e, s, m, args, below, meth, c, A, Q, rfl, hx, hb, F⟩ := C
  intro H locs ls hH hA hS hl
  refine lv_ishr hx hb d ?_
  rw [hz]
  exact kk H locs ls hH hA hS hl
theorem i_dup (C : Cx l D own cc nL R rt ini hh Rp Xp G) {v : Value} (d : decode cc pc = .ok (.dup, 1)) (hv : v.category = 1 := by rfl) (kk : G n k w L (pc + 1) (v :: v :: st)) : G n k w L pc (v :: st) := by
  obtain ⟨p, e, s, m, args, below, meth, c, A, Q, rfl, hx, hb, F⟩ := C
  intro H locs ls hH hA hS hl
  exact lv_dup hx hb d hv (kk H locs ls hH hA hS hl)
theorem i_dup2 (C : Cx l D own cc nL R rt ini hh Rp Xp G) {v u : Value} (d : decode cc pc = .ok (.dup2, 1)) (hv : v.category = 1 := by rfl) (hu : u.category = 1 := by rfl) (kk : G n k w L (pc + 1) (v :: u :: v :: u :: st)) : G n k w L pc (v :: u :: st) := by
  obtain ⟨p, e, s, m, args, below, meth, c, A, Q, rfl, hx, hb, F⟩ := C
  intro H locs ls hH hA hS hl
  exact lv_dup2_11 hx hb d hv hu (kk H locs ls hH hA hS hl)
theorem i_pop (C : Cx l D own cc nL R rt ini hh Rp Xp G) {v : Value} (d : decode cc pc = .ok (.pop, 1)) (hv : v.category = 1 := by rfl) (kk : G n k w L (pc + 1) st) : G n k w L pc (v :: st) := by
  obtain ⟨p, e, s, m, args, below, meth, c, A, Q, rfl, hx, hb, F⟩ := C
  intro H locs ls hH hA hS hl
  exact lv_pop hx hb d hv (kk H locs ls hH hA hS hl)
theorem i_i2l (C : Cx l D own cc nL R rt ini hh Rp Xp G) {x : Int32} (d : decode cc pc = .ok (.i2l, 1)) (kk : G n k w L (pc + 1) (.long x.toInt64 :: st)) : G n k w L pc (.int x :: st) := by
  obtain ⟨p, e, s, m, args, below, meth, c, A, Q, rfl, hx, hb, F⟩ := C
  intro H locs ls hH hA hS hl
  exact lv_i2l hx hb d rfl (kk H locs ls hH hA hS hl)
theorem i_lconst (C : Cx l D own cc nL R rt ini hh Rp Xp G) {i : Fin 2} (d : decode cc pc = .ok (.lconst i, 1)) (kk : G n k w L (pc + 1) (.long (Int64.ofNat (i : Nat)) :: st)) : G n k w L pc st := by
  obtain ⟨p, e, s, m, args, below, meth, c, A, Q, rfl, hx, hb, F⟩ := C
  intro H locs ls hH hA hS hl
  exact lv_lconst hx hb d rfl (kk H locs ls hH hA hS hl)
theorem i_lcmp (C : Cx l D own cc nL R rt ini hh Rp Xp G) {x y : Int64} (d : decode cc pc = .ok (.lcmp, 1)) (kk : G n k w L (pc + 1) (.int (lg_cmp x y) :: st)) : G n k w L pc (.long y :: .long x :: st) := by
  obtain ⟨p, e, s, m, args, below, meth, c, A, Q, rfl, hx, hb, F⟩ := C
  intro H locs ls hH hA hS hl
  exact W.lcmp hx hb d (kk H locs ls hH hA hS hl)
theorem i_if_eq (C : Cx l D own cc nL R rt ini hh Rp Xp G) {a : Int} {off : Int} {tgt : Nat} (d : decode cc pc = .ok (.ifCond .eq off, 3)) (ht : (pc : Int) + off = (tgt : Int) := by decide) (ha : inR a := by omega) (kt : a = 0 → G n k w L tgt st) (kf : ¬ a = 0 → G n k w L (pc + 3) st) : G n k w L pc (.int (Z32 a) :: st) := by
  obtain ⟨p, e, s, m, args, below, meth, c, A, Q, rfl, hx, hb, F⟩ := C
  intro H locs ls hH hA hS hl
  exact lv_if_eq hx hb d ht (fun h => kt ((Z32_eq ha ⟨by decide, by decide⟩).mp h) H locs ls hH hA hS hl) (fun h => kf (fun q => h ((Z32_eq ha ⟨by decide, by decide⟩).mpr q)) H locs ls hH hA hS hl)
theorem i_icmp_eq (C : Cx l D own cc nL R rt ini hh Rp Xp G) {a b : Int} {off : Int} {tgt : Nat} (d : decode cc pc = .ok (.if_icmp .eq off, 3)) (ht : (pc : Int) + off = (tgt : Int) := by decide) (ha : inR a := by omega) (hb2 : inR b := by omega) (kt : a = b → G n k w L tgt st) (kf : ¬ a = b → G n k w L (pc + 3) st) : G n k w L pc (.int (Z32 b) :: .int (Z32 a) :: st) := by
  obtain ⟨p, e, s, m, args, below, meth, c, A, Q, rfl, hx, hb, F⟩ := C
  intro H locs ls hH hA hS hl
  exact lv_icmp_eq hx hb d ht (fun h => kt ((Z32_eq ha hb2).mp h) H locs ls hH hA hS hl) (fun h => kf (fun q => h ((Z32_eq ha hb2).mpr q)) H locs ls hH hA hS hl)
theorem i_if_ne (C : Cx l D own cc nL R rt ini hh Rp Xp G) {a : Int} {off : Int} {tgt : Nat} (d : decode cc pc = .ok (.ifCond .ne off, 3)) (ht : (pc : Int) + off = (tgt : Int) := by decide) (ha : inR a := by omega) (kt : ¬ a = 0 → G n k w L tgt st) (kf : a = 0 → G n k w L (pc + 3) st) : G n k w L pc (.int (Z32 a) :: st) := by
  obtain ⟨p, e, s, m, args, below, meth, c, A, Q, rfl, hx, hb, F⟩ := C
  intro H locs ls hH hA hS hl
  exact lv_if_ne hx hb d ht (fun h => kt (fun q => h ((Z32_eq ha ⟨by decide, by decide⟩).mpr q)) H locs ls hH hA hS hl) (fun h => kf ((Z32_eq ha ⟨by decide, by decide⟩).mp h) H locs ls hH hA hS hl)
theorem i_icmp_ne (C : Cx l D own cc nL R rt ini hh Rp Xp G) {a b : Int} {off : Int} {tgt : Nat} (d : decode cc pc = .ok (.if_icmp .ne off, 3)) (ht : (pc : Int) + off = (tgt : Int) := by decide) (ha : inR a := by omega) (hb2 : inR b := by omega) (kt : ¬ a = b → G n k w L tgt st) (kf : a = b → G n k w L (pc + 3) st) : G n k w L pc (.int (Z32 b) :: .int (Z32 a) :: st) := by
  obtain ⟨p, e, s, m, args, below, meth, c, A, Q, rfl, hx, hb, F⟩ := C
  intro H locs ls hH hA hS hl
  exact lv_icmp_ne hx hb d ht (fun h => kt (fun q => h ((Z32_eq ha hb2).mpr q)) H locs ls hH hA hS hl) (fun h => kf ((Z32_eq ha hb2).mp h) H locs ls hH hA hS hl)
theorem i_if_lt (C : Cx l D own cc nL R rt ini hh Rp Xp G) {a : Int} {off : Int} {tgt : Nat} (d : decode cc pc = .ok (.ifCond .lt off, 3)) (ht : (pc : Int) + off = (tgt : Int) := by decide) (ha : inR a := by omega) (kt : a < 0 → G n k w L tgt st) (kf : 0 ≤ a → G n k w L (pc + 3) st) : G n k w L pc (.int (Z32 a) :: st) := by
  obtain ⟨p, e, s, m, args, below, meth, c, A, Q, rfl, hx, hb, F⟩ := C
  intro H locs ls hH hA hS hl
  exact lv_if_lt hx hb d ht (fun h => kt ((Z32_lt ha ⟨by decide, by decide⟩).mp h) H locs ls hH hA hS hl) (fun h => kf (Int.not_lt.mp fun q => h ((Z32_lt ha ⟨by decide, by decide⟩).mpr q)) H locs ls hH hA hS hl)
theorem i_icmp_lt (C : Cx l D own cc nL R rt ini hh Rp Xp G) {a b : Int} {off : Int} {tgt : Nat} (d : decode cc pc = .ok (.if_icmp .lt off, 3)) (ht : (pc : Int) + off = (tgt : Int) := by decide) (ha : inR a := by omega) (hb2 : inR b := by omega) (kt : a < b → G n k w L tgt st) (kf : b ≤ a → G n k w L (pc + 3) st) : G n k w L pc (.int (Z32 b) :: .int (Z32 a) :: st) := by
  obtain ⟨p, e, s, m, args, below, meth, c, A, Q, rfl, hx, hb, F⟩ := C
  intro H locs ls hH hA hS hl
  exact lv_icmp_lt hx hb d ht (fun h => kt ((Z32_lt ha hb2).mp h) H locs ls hH hA hS hl) (fun h => kf (Int.not_lt.mp fun q => h ((Z32_lt ha hb2).mpr q)) H locs ls hH hA hS hl)
theorem i_if_ge (C : Cx l D own cc nL R rt ini hh Rp Xp G) {a : Int} {off : Int} {tgt : Nat} (d : decode cc pc = .ok (.ifCond .ge off, 3)) (ht : (pc : Int) + off = (tgt : Int) := by decide) (ha : inR a := by omega) (kt : 0 ≤ a → G n k w L tgt st) (kf : a < 0 → G n k w L (pc + 3) st) : G n k w L pc (.int (Z32 a) :: st) := by
  obtain ⟨p, e, s, m, args, below, meth, c, A, Q, rfl, hx, hb, F⟩ := C
  intro H locs ls hH hA hS hl
  exact lv_if_ge hx hb d ht (fun h => kt ((Z32_le ⟨by decide, by decide⟩ ha).mp h) H locs ls hH hA hS hl) (fun h => kf (Int.not_le.mp fun q => h ((Z32_le ⟨by decide, by decide⟩ ha).mpr q)) H locs ls hH hA hS hl)
theorem i_icmp_ge (C : Cx l D own cc nL R rt ini hh Rp Xp G) {a b : Int} {off : Int} {tgt : Nat} (d : decode cc pc = .ok (.if_icmp .ge off, 3)) (ht : (pc : Int) + off = (tgt : Int) := by decide) (ha : inR a := by omega) (hb2 : inR b := by omega) (kt : b ≤ a → G n k w L tgt st) (kf : a < b → G n k w L (pc + 3) st) : G n k w L pc (.int (Z32 b) :: .int (Z32 a) :: st) := by
  obtain ⟨p, e, s, m, args, below, meth, c, A, Q, rfl, hx, hb, F⟩ := C
  intro H locs ls hH hA hS hl
  exact lv_icmp_ge hx hb d ht (fun h => kt ((Z32_le hb2 ha).mp h) H locs ls hH hA hS hl) (fun h => kf (Int.not_le.mp fun q => h ((Z32_le hb2 ha).mpr q)) H locs ls hH hA hS hl)
theorem i_if_gt (C : Cx l D own cc nL R rt ini hh Rp Xp G) {a : Int} {off : Int} {tgt : Nat} (d : decode cc pc = .ok (.ifCond .gt off, 3)) (ht : (pc : Int) + off = (tgt : Int) := by decide) (ha : inR a := by omega) (kt : 0 < a → G n k w L tgt st) (kf : a ≤ 0 → G n k w L (pc + 3) st) : G n k w L pc (.int (Z32 a) :: st) := by
  obtain ⟨p, e, s, m, args, below, meth, c, A, Q, rfl, hx, hb, F⟩ := C
  intro H locs ls hH hA hS hl
  exact lv_if_gt hx hb d ht (fun h => kt ((Z32_lt ⟨by decide, by decide⟩ ha).mp h) H locs ls hH hA hS hl) (fun h => kf (Int.not_lt.mp fun q => h ((Z32_lt ⟨by decide, by decide⟩ ha).mpr q)) H locs ls hH hA hS hl)
theorem i_icmp_gt (C : Cx l D own cc nL R rt ini hh Rp Xp G) {a b : Int} {off : Int} {tgt : Nat} (d : decode cc pc = .ok (.if_icmp .gt off, 3)) (ht : (pc : Int) + off = (tgt : Int) := by decide) (ha : inR a := by omega) (hb2 : inR b := by omega) (kt : b < a → G n k w L tgt st) (kf : a ≤ b → G n k w L (pc + 3) st) : G n k w L pc (.int (Z32 b) :: .int (Z32 a) :: st) := by
  obtain ⟨p, e, s, m, args, below, meth, c, A, Q, rfl, hx, hb, F⟩ := C
  intro H locs ls hH hA hS hl
  exact lv_icmp_gt hx hb d ht (fun h => kt ((Z32_lt hb2 ha).mp h) H locs ls hH hA hS hl) (fun h => kf (Int.not_lt.mp fun q => h ((Z32_lt hb2 ha).mpr q)) H locs ls hH hA hS hl)
theorem i_if_le (C : Cx l D own cc nL R rt ini hh Rp Xp G) {a : Int} {off : Int} {tgt : Nat} (d : decode cc pc = .ok (.ifCond .le off, 3)) (ht : (pc : Int) + off = (tgt : Int) := by decide) (ha : inR a := by omega) (kt : a ≤ 0 → G n k w L tgt st) (kf : 0 < a → G n k w L (pc + 3) st) : G n k w L pc (.int (Z32 a) :: st) := by
  obtain ⟨p, e, s, m, args, below, meth, c, A, Q, rfl, hx, hb, F⟩ := C
  intro H locs ls hH hA hS hl
  exact lv_if_le hx hb d ht (fun h => kt ((Z32_le ha ⟨by decide, by decide⟩).mp h) H locs ls hH hA hS hl) (fun h => kf (Int.not_le.mp fun q => h ((Z32_le ha ⟨by decide, by decide⟩).mpr q)) H locs ls hH hA hS hl)
theorem i_icmp_le (C : Cx l D own cc nL R rt ini hh Rp Xp G) {a b : Int} {off : Int} {tgt : Nat} (d : decode cc pc = .ok (.if_icmp .le off, 3)) (ht : (pc : Int) + off = (tgt : Int) := by decide) (ha : inR a := by omega) (hb2 : inR b := by omega) (kt : a ≤ b → G n k w L tgt st) (kf : b < a → G n k w L (pc + 3) st) : G n k w L pc (.int (Z32 b) :: .int (Z32 a) :: st) := by
  obtain ⟨p, e, s, m, args, below, meth, c, A, Q, rfl, hx, hb, F⟩ := C
  intro H locs ls hH hA hS hl
  exact lv_icmp_le hx hb d ht (fun h => kt ((Z32_le ha hb2).mp h) H locs ls hH hA hS hl) (fun h => kf (Int.not_le.mp fun q => h ((Z32_le ha hb2).mpr q)) H locs ls hH hA hS hl)
theorem i_goto (C : Cx l D own cc nL R rt ini hh Rp Xp G) {off : Int} {tgt : Nat} (d : decode cc pc = .ok (.goto off, 3)) (ht : (pc : Int) + off = (tgt : Int) := by decide) (kk : G n k w L tgt st) : G n k w L pc st := by
  obtain ⟨p, e, s, m, args, below, meth, c, A, Q, rfl, hx, hb, F⟩ := C
  intro H locs ls hH hA hS hl
  exact lv_goto hx hb d ht (kk H locs ls hH hA hS hl)
theorem i_ifnonnull (C : Cx l D own cc nL R rt ini hh Rp Xp G) {x : Nat} {off : Int} {tgt : Nat} (d : decode cc pc = .ok (.ifnonnull off, 3)) (ht : (pc : Int) + off = (tgt : Int) := by decide) (kk : G n k w L tgt st) : G n k w L pc (.ref x :: st) := by
  obtain ⟨p, e, s, m, args, below, meth, c, A, Q, rfl, hx, hb, F⟩ := C
  intro H locs ls hH hA hS hl
  exact lv_ifnonnull hx hb d ht (kk H locs ls hH hA hS hl)
theorem i_ifnonnullN (C : Cx l D own cc nL R rt ini hh Rp Xp G) {off : Int} (d : decode cc pc = .ok (.ifnonnull off, 3)) (kk : G n k w L (pc + 3) st) : G n k w L pc (.null :: st) := by
  obtain ⟨p, e, s, m, args, below, meth, c, A, Q, rfl, hx, hb, F⟩ := C
  intro H locs ls hH hA hS hl
  exact lv_ifnonnullN hx hb d (kk H locs ls hH hA hS hl)
theorem i_aload_nN (C : Cx l D own cc nL R rt ini hh Rp Xp G) {i : Fin 4} (d : decode cc pc = .ok (.aload_n i, 1)) (hi : L[(i : Nat)]? = some (some .null) := by rfl) (kk : G n k w L (pc + 1) (.null :: st)) : G n k w L pc st := by
  obtain ⟨p, e, s, m, args, below, meth, c, A, Q, rfl, hx, hb, F⟩ := C
  intro H locs ls hH hA hS hl
  exact lv_aload_nN hx hb d rfl (lw_at hl hi) (kk H locs ls hH hA hS hl)
theorem i_astore_nN (C : Cx l D own cc nL R rt ini hh Rp Xp G) {i : Fin 4} {L' : List (Option Value)} (d : decode cc pc = .ok (.astore_n i, 1)) (hL : L.set (i : Nat) (some .null) = L' := by rfl) (hi : (i : Nat) < L.length := by exact Nat.lt_of_sub_eq_succ rfl) (kk : G n k w L' (pc + 1) st) : G n k w L pc (.null :: st) := by
  obtain ⟨p, e, s, m, args, below, meth, c, A, Q, rfl, hx, hb, F⟩ := C
  intro H locs ls hH hA hS hl
  exact lv_astore_nN hx hb d rfl (lw_to hl) hi rfl (fun ls' hl' => kk H locs ls' hH hA hS (hL ▸ lw_of hl hi rfl hl'))
theorem i_tableIn (C : Cx l D own cc nL R rt ini hh Rp Xp G) {a dflt lo hi off : Int} {offs : Array Int} {len tgt : Nat} (d : decode cc pc = .ok (.tableswitch dflt lo hi offs, len)) (ha : inR a := by omega) (h1 : lo ≤ a) (h2 : a ≤ hi) (ho : offs[(a - lo).toNat]? = some off) (ht : (pc : Int) + off = (tgt : Int)) (kk : G n k w L tgt st) : G n k w L pc (.int (Z32 a) :: st) := by
  obtain ⟨p, e, s, m, args, below, meth, c, A, Q, rfl, hx, hb, F⟩ := C
  intro H locs ls hH hA hS hl
  exact lv_tableIn hx hb d (by rw [Z32_toInt ha]; omega) (by rw [Z32_toInt ha]; omega) (by rw [Z32_toInt ha]; exact ho) ht (kk H locs ls hH hA hS hl)
theorem i_tableOut (C : Cx l D own cc nL R rt ini hh Rp Xp G) {a dflt lo hi : Int} {offs : Array Int} {len tgt : Nat} (d : decode cc pc = .ok (.tableswitch dflt lo hi offs, len)) (ha : inR a := by omega) (h1 : a < lo ∨ hi < a) (ht : (pc : Int) + dflt = (tgt : Int)) (kk : G n k w L tgt st) : G n k w L pc (.int (Z32 a) :: st) := by
  obtain ⟨p, e, s, m, args, below, meth, c, A, Q, rfl, hx, hb, F⟩ := C
  intro H locs ls hH hA hS hl
  exact lv_tableOut hx hb d (by rw [Z32_toInt ha]; exact h1) ht (kk H locs ls hH hA hS hl)
theorem i_widen (C : Cx l D own cc nL R rt ini hh Rp Xp G) {n' k' : Nat} (hn : n ≤ n') (hk : k ≤ k') (kk : G n' k' w L pc st) : G n k w L pc st := by
  obtain ⟨p, e, s, m, args, below, meth, c, A, Q, rfl, hx, hb, F⟩ := C
  intro H locs ls hH hA hS hl
  exact W.widen hn hk (kk H locs ls hH hA hS hl)
theorem i_iret (C : Cx l D own cc nL R rt ini hh Rp Xp G) {x : Int32} (hrt : rt = some .int := by rfl) (d : decode cc pc = .ok (.ireturn, 1)) (hn : n ≤ R.cells := by exact Nat.le_of_ble_eq_true rfl) (hk : k ≤ R.slots := by exact Nat.le_of_ble_eq_true rfl) (h : Rp (some (.int x)) w) : G n k w L pc [.int x] := by
  subst hrt
  obtain ⟨p, e, s, m, args, below, meth, c, A, Q, rfl, hx, hb, hml, hown, hts, hKX, hST, hAA, hlo, hr, hin, hst, htab, habs, hthr⟩ := C
  intro H locs ls hH hA hS hl
  exact habs H locs n k _ (W.widen hn hk (W.iret hx hb hr (fun t ht hW => ⟨⟨some (.int x), w, rfl, h, by rw [ht]; exact hH, hA⟩, hS.F ht⟩) hS.2.2 d hlo))
theorem i_zret (C : Cx l D own cc nL R rt ini hh Rp Xp G) {a : Int} (hrt : rt = some .boolean := by rfl) (d : decode cc pc = .ok (.ireturn, 1)) (hn : n ≤ R.cells := by exact Nat.le_of_ble_eq_true rfl) (hk : k ≤ R.slots := by exact Nat.le_of_ble_eq_true rfl) (ha : a = 0 ∨ a = 1) (h : Rp (some (.int (Z32 a))) w) : G n k w L pc [.int (Z32 a)] := by
  subst hrt
  obtain ⟨p, e, s, m, args, below, meth, c, A, Q, rfl, hx, hb, hml, hown, hts, hKX, hST, hAA, hlo, hr, hin, hst, htab, habs, hthr⟩ := C
  intro H locs ls hH hA hS hl
  exact habs H locs n k _ (W.widen hn hk (W.zret hx hb hr (by rcases ha with rfl | rfl <;> rfl) (fun t ht hW => ⟨⟨some (.int (Z32 a)), w, rfl, h, by rw [ht]; exact hH, hA⟩, hS.F ht⟩) hS.2.2 d hlo))
theorem i_vret (C : Cx l D own cc nL R rt ini hh Rp Xp G) (hrt : rt = none := by rfl) (d : decode cc pc = .ok (.return_, 1)) (hn : n ≤ R.cells := by exact Nat.le_of_ble_eq_true rfl) (hk : k ≤ R.slots := by exact Nat.le_of_ble_eq_true rfl) (h : Rp none w) : G n k w L pc [] := by
  subst hrt
  obtain ⟨p, e, s, m, args, below, meth, c, A, Q, rfl, hx, hb, hml, hown, hts, hKX, hST, hAA, hlo, hr, hin, hst, htab, habs, hthr⟩ := C
  intro H locs ls hH hA hS hl
  exact habs H locs n k _ (W.widen hn hk (W.vret hx hb hr (fun t ht hW => ⟨⟨none, w, rfl, h, by rw [ht]; exact hH, hA⟩, hS.F ht⟩) hS.2.2 d hlo))
theorem i_aret (C : Cx l D own cc nL R rt ini hh Rp Xp G) {a : Nat} {N : String} (hrt : rt = some (.object N) := by rfl) (d : decode cc pc = .ok (.areturn, 1)) (hn : n ≤ R.cells := by exact Nat.le_of_ble_eq_true rfl) (hk : k ≤ R.slots := by exact Nat.le_of_ble_eq_true rfl) (h : Rp (some (.ref a)) w) : G n k w L pc [.ref a] := by
  subst hrt
  obtain ⟨p, e, s, m, args, below, meth, c, A, Q, rfl, hx, hb, hml, hown, hts, hKX, hST, hAA, hlo, hr, hin, hst, htab, habs, hthr⟩ := C
  intro H locs ls hH hA hS hl
  exact habs H locs n k _ (W.widen hn hk (W.aret hx hb hr (Or.inl ⟨_, rfl⟩) (Or.inr ⟨a, rfl⟩) (fun t ht hW => ⟨⟨some (.ref a), w, rfl, h, by rw [ht]; exact hH, hA⟩, hS.F ht⟩) hS.2.2 d hlo))
end IR
end
section
-- ===== fields, arrays, new things =====
def FLk (own : String) (ix ci kf : Nat) (ty : FieldType) (fin : Bool) : Prop := ∃ (Cn : String) (T : u_T) (N : Nat) (ty0 : Nat → FieldType), vwCl[ci]? = some (Cn, T, N) ∧ kf < N ∧ (∀ w ∈ u_ws Cn T N, w ∈ gT) ∧ (∀ k, k < N → parseFieldDescriptor (T k).2.2.1 = some (ty0 k)) ∧ (∀ a, a < N → ∀ b, b < N → a ≠ b → (T a).2.1 ≠ (T b).2.1) ∧ ty0 kf = ty ∧ (T kf).2.2.2 = fin ∧ (fin = true → (T kf).1 = own) ∧
  (Cond.fieldLink own ix (T kf).1 (T kf).2.1 (T kf).2.2.1 ∈ gT ∨ ∃ host, Cond.fieldLinkNest own ix (T kf).1 (T kf).2.1 (T kf).2.2.1 host ∈ gN)
def FLf (own : String) (ix ci kf : Nat) (ty : FieldType) : Prop := FLk own ix ci kf ty true ∧ ∃ (Cn : String) (T : u_T) (N : Nat), vwCl[ci]? = some (Cn, T, N) ∧ Cond.fieldLink own ix (T kf).1 (T kf).2.1 (T kf).2.2.1 ∈ gT
def FLr (own : String) (ix ci kf : Nat) : Prop := ∃ (Cn : String) (T : u_T) (N : Nat), vwCl[ci]? = some (Cn, T, N) ∧ kf < N ∧ (∀ w ∈ u_ws Cn T N, w ∈ gT) ∧ (Cond.fieldLink own ix (T kf).1 (T kf).2.1 (T kf).2.2.1 ∈ gT ∨ ∃ host, Cond.fieldLinkNest own ix (T kf).1 (T kf).2.1 (T kf).2.2.1 host ∈ gN)
theorem FLk.r {own : String} {ix ci kf : Nat} {ty : FieldType} {fin : Bool} (h : FLk own ix ci kf ty fin) : FLr own ix ci kf := by
  obtain ⟨Cn, T, N, ty0, hc, hk, hT, -, -, -, -, -, hlink⟩ := h
  exact ⟨Cn, T, N, hc, hk, hT, hlink⟩
section IH
variable {l : Launch} {D : gD} {own : String} {cc : ByteArray} {nL : Nat} {R : Room} {rt : Option FieldType} {ini : Bool} {hh : Option (List (Nat × Nat × Nat × Nat))} {Rp : Option Value → wW → Prop} {Xp : String → wW → Prop} {G : gG} {n k : Nat} {w : wW} {L : List (Option Value)} {pc : Nat} {st : List Value}
theorem i_getf (C : Cx l D own cc nL R rt ini hh Rp Xp G) {ix ci kf a : Nat} {fs : List Value} {v : Value} (fl : FLr own ix ci kf) (d : decode cc pc = .ok (.getfield ix, 3)) (hw : w a = some (.inr (ci, fs)) := by assumption) (hv : fs[kf]? = some v := by rfl) (kk : G n k w L (pc + 3) (v :: st)) : G n k w L pc (.ref a :: st) := by
  obtain ⟨p, e, s, m, args, below, meth, c, A, Q, rfl, hx, hb, hml, hown, hts, hKX, hST, hAA, hlo, hr, hin, hst, htab, habs, hthr⟩ := C
  obtain ⟨Cn, T, N, hc, hk, hT, hlink⟩ := fl
  intro H locs ls hH hA hS hl
  have hP : va_P D.1 vwCl [(a, .inr (ci, fs))] H := fun i q hq => by
    have hz : i < 1 := (List.getElem?_eq_some_iff.mp hq).1
    rw [show i = 0 by omega] at hq
    cases hq
    exact hH _ _ hw
  rcases hlink with hlk | ⟨host, hlk⟩
  · exact va_get hx hb hts hT hown hKX.2.1 hP 0 rfl hc kf hk (hts _ hlk) (fun _ h => h) hv d (kk H locs ls hH hA hS hl)
  · exact va_getN hx hb hts hT hown hKX.2.1 hP 0 rfl hc kf hk (va_Nw.use (gN_tab hlk) (hKX.1 _ hlk)) (fun _ h => h) hv d (kk H locs ls hH hA hS hl)
theorem i_putf (C : Cx l D own cc nL R rt ini hh Rp Xp G) {ix ci kf a : Nat} {ty : FieldType} {fs : List Value} {v : Value} {fs' : List Value} (fl : FLk own ix ci kf ty false) (d : decode cc pc = .ok (.putfield ix, 3)) (hw : w a = some (.inr (ci, fs)) := by assumption) (hl9 : kf < fs.length := by exact Nat.lt_of_sub_eq_succ rfl) (hn : narrow ty v = v := by rfl) (hfit : fits ty v = true := by rfl) (hfs : fs.set kf v = fs' := by rfl) (kk : G n k (wset w a (.inr (ci, fs'))) L (pc + 3) st) : G n k w L pc (v :: .ref a :: st) := by
  subst hfs
  obtain ⟨p, e, s, m, args, below, meth, c, A, Q, rfl, hx, hb, hml, hown, hts, hKX, hST, hAA, hlo, hr, hin, hst, htab, habs, hthr⟩ := C
  obtain ⟨Cn, T, N, ty0, hc, hk, hT, hty, hnm, h1, h2, h3, hlink⟩ := fl
  intro H locs ls hH hA hS hl
  have hap := va_apart (own := own) hts hT ty0 hty hnm hKX.2.1 hc
  obtain ⟨r, hr1, cell, q1, q2, q3, q4⟩ := hH _ _ hw
  have hr2 : r = (Cn, T, N) := Option.some.inj (hr1.symm.trans hc)
  subst hr2
  obtain ⟨hSl, hfc, kC, hkC, hkind⟩ := hKX.2.1.1 ci _ hc
  obtain ⟨cf, kf2, fi, f, hi, hsl⟩ := hSl kf hk
  have hlay := hts _ (hT _ (u_in_lay hk))
  unfold u_lay at hlay
  rw [if_neg (by rw [h2]; decide)] at hlay
  have hst9 := (u_facts hfc hkC (u_lays hts hT hk) hi).1
  have h6 := u_store hfc hkC hkind hlay hi ((hty kf hk).trans (by rw [h1])) hn hfit
  have fin : ∀ H' : Heap, H'[a]? = some (cell.setSlot f.slot v) → H'.size = H.size → (∀ q, q ≠ a → H'[q]? = H[q]?) → W p l e R s m args below meth c H' (locs ++ [⟨a, f.slot⟩]) n k Q (F0 m (pc + 3) ls st) := by
    intro H' e1 e2 e3
    rw [hsl] at e1
    refine kk H' _ ls (hH.set ⟨_, hc, t_OB.to (V := updV (vp_V fs) kf v) ⟨_, e1, q2, q3, t_set q4 hap hk v⟩ (fun j _ => vp_updV_set hl9 v j)⟩ e3) ?_ (hS.put e2 e3 (hA _ _ hw)) hl
    intro b x hbx
    by_cases hba : b = a
    · subst hba; exact hA _ _ hw
    · rw [wset_ne hba] at hbx; exact hA _ _ hbx
  rcases hlink with hlk | ⟨host, hlk⟩
  · exact W.putK hx hb (f := f) ⟨hown, hts _ hlk, ⟨_, _, _, hi⟩, hst9⟩ (by rw [q2]; exact h6) q1 q3 (by rw [hsl]; exact k2_hasslot (q4 kf hk)) rfl rfl d fin
  · exact va_WputK hx hb (f := f) hown (va_Nw.use (gN_tab hlk) (hKX.1 _ hlk)) hi hst9 (by rw [q2]; exact h6) q1 q3 (by rw [hsl]; exact k2_hasslot (q4 kf hk)) rfl rfl d fin
theorem i_putF (C : Cx l D own cc nL R rt true hh Rp Xp G) {ix ci kf a : Nat} {ty : FieldType} {fs : List Value} {v : Value} {fs' : List Value} (fl : FLf own ix ci kf ty) (d : decode cc pc = .ok (.putfield ix, 3)) (hw : w a = some (.inr (ci, fs)) := by assumption) (hl9 : kf < fs.length := by exact Nat.lt_of_sub_eq_succ rfl) (hn : narrow ty v = v := by rfl) (hfit : fits ty v = true := by rfl) (hfs : fs.set kf v = fs' := by rfl) (kk : G n k (wset w a (.inr (ci, fs'))) L (pc + 3) st) : G n k w L pc (v :: .ref a :: st) := by
  subst hfs
  obtain ⟨p, e, s, m, args, below, meth, c, A, Q, rfl, hx, hb, hml, hown, hts, hKX, hST, hAA, hlo, hr, hin, hst, htab, habs, hthr⟩ := C
  obtain ⟨⟨Cn, T, N, ty0, hc, hk, hT, hty, hnm, h1, h2, h3, -⟩, C9, T9, N9, hc9, hnest⟩ := fl
  cases hc.symm.trans hc9
  intro H locs ls hH hA hS hl
  have hap := va_apart (own := own) hts hT ty0 hty hnm hKX.2.1 hc
  obtain ⟨r, hr1, cell, q1, q2, q3, q4⟩ := hH _ _ hw
  have hr2 : r = (Cn, T, N) := Option.some.inj (hr1.symm.trans hc)
  subst hr2
  obtain ⟨hSl, hfc, kC, hkC, hkind⟩ := hKX.2.1.1 ci _ hc
  obtain ⟨cf, kf2, fi, f, hi, hsl⟩ := hSl kf hk
  have hlay := hts _ (hT _ (u_in_lay hk))
  unfold u_lay at hlay
  rw [if_pos h2] at hlay
  have hst9 := (u_facts hfc hkC (u_lays hts hT hk) hi).1
  have hcf : m.cls = cf := by
    obtain ⟨_, _, c', _, _, _, -, -, hf', -, -, -, hown2, -⟩ := Cond.laysFinal_spec hlay
    have e1 : c' = cf := by have := hi.symm.trans hf'; simp at this; exact this.1.symm
    rw [h3 rfl] at hown2
    rw [← e1]; exact Option.some.inj (hown.symm.trans hown2)
  have h6 := u_fits hfc hkC hkind (Or.inr hlay) hi ((hty kf hk).trans (by rw [h1])) hn hfit
  refine W.putFinK hx hb hown (hts _ hnest) hi hst9 hcf (hin rfl) (by rw [q2]; exact h6) q1 q3 (by rw [hsl]; exact k2_hasslot (q4 kf hk)) rfl rfl d fun H' e1 e2 e3 => ?_
  rw [hsl] at e1 ⊢
  refine kk H' _ ls (hH.set ⟨_, hc, t_OB.to (V := updV (vp_V fs) kf v) ⟨_, e1, q2, q3, t_set q4 hap hk v⟩ (fun j _ => vp_updV_set hl9 v j)⟩ e3) ?_ (hS.put e2 e3 (hA _ _ hw)) hl
  intro b x hbx
  by_cases hba : b = a
  · subst hba; exact hA _ _ hw
  · rw [wset_ne hba] at hbx; exact hA _ _ hbx
theorem i_iaload (C : Cx l D own cc nL R rt ini hh Rp Xp G) {a N : Nat} {i : Int} {f : Nat → Int} (d : decode cc pc = .ok (.iaload, 1)) (hw : w a = some (iar D N f) := by assumption) (h0 : 0 ≤ i := by omega) (h1 : i < N := by omega) (h2 : i < 2147483648 := by omega) (kk : G n k w L (pc + 1) (.int (Z32 (f i.toNat)) :: st)) : G n k w L pc (.int (Z32 i) :: .ref a :: st) := by
  obtain ⟨p, e, s, m, args, below, meth, c, A, Q, rfl, hx, hb, hml, hown, hts, hKX, hST, hAA, hlo, hr, hin, hst, htab, habs, hthr⟩ := C
  intro H locs ls hH hA hS hl
  have hlt : (Z32 i).toNatClampNeg < N := by rw [Z32_cl h0 h2]; omega
  have e9 : Z32 (f i.toNat) = Z32 (f (Z32 i).toNatClampNeg) := by rw [Z32_cl h0 h2]
  rw [e9] at kk
  exact W.iald (v := .int (Z32 (f (Z32 i).toNatClampNeg))) hx hb (hH _ _ hw) ((hKX.2.1.2 0 _ rfl).1 N (fun j => .int (Z32 (f j)))) (fun q => by cases q) (by show ¬ (Z32 i < 0 ∨ (arrV _ _ _).slots.size ≤ _); rw [arrV_size]; exact Z32_in h0 h1 h2) (by show (arrV _ _ _).slots[_]? = _; rw [arrV_read _ _ hlt]) rfl rfl d (kk H locs ls hH hA hS hl)
theorem i_iastore (C : Cx l D own cc nL R rt ini hh Rp Xp G) {a N : Nat} {i x : Int} {f : Nat → Int} (d : decode cc pc = .ok (.iastore, 1)) (hw : w a = some (iar D N f) := by assumption) (h0 : 0 ≤ i := by omega) (h1 : i < N := by omega) (h2 : i < 2147483648 := by omega) (kk : G n k (wset w a (iar D N (upz f i.toNat x))) L (pc + 1) st) : G n k w L pc (.int (Z32 x) :: .int (Z32 i) :: .ref a :: st) := by
  obtain ⟨p, e, s, m, args, below, meth, c, A, Q, rfl, hx, hb, hml, hown, hts, hKX, hST, hAA, hlo, hr, hin, hst, htab, habs, hthr⟩ := C
  intro H locs ls hH hA hS hl
  refine W.iast hx hb (hH _ _ hw) ((hKX.2.1.2 0 _ rfl).1 N (fun j => .int (Z32 (f j)))) (fun q => by cases q) (by show ¬ (Z32 i < 0 ∨ (arrV _ _ _).slots.size ≤ _); rw [arrV_size]; exact Z32_in h0 h1 h2) rfl rfl d fun H1 e1 z oq => ?_
  refine kk H1 _ ls (hH.set ?_ oq) ?_ (hS.put z oq (hA _ _ hw)) hl
  · show H1[a]? = some (vp_cell _ _)
    rw [e1]
    show some (Cell.setSlot (vp_cell D.2.1 (N, .inl (fun j => Z32 (f j)))) _ _) = some (vp_cell D.2.1 (N, .inl (fun j => Z32 (upz f i.toNat x j))))
    rw [vp_cell_i, vp_cell_i, arrV_store, Z32_cl h0 h2]
    congr 2
    funext q
    by_cases hq : q = i.toNat
    · subst hq
      simp [updV, upz]
    · simp [updV, upz, hq]
  · intro b x hbx
    by_cases hba : b = a
    · subst hba; exact hA _ _ hw
    · rw [wset_ne hba] at hbx; exact hA _ _ hbx
theorem i_laload (C : Cx l D own cc nL R rt ini hh Rp Xp G) {a N : Nat} {i : Int} {f : Nat → Int64} (d : decode cc pc = .ok (.laload, 1)) (hw : w a = some (lar D N f) := by assumption) (h0 : 0 ≤ i := by omega) (h1 : i < N := by omega) (h2 : i < 2147483648 := by omega) (kk : G n k w L (pc + 1) (.long (f i.toNat) :: st)) : G n k w L pc (.int (Z32 i) :: .ref a :: st) := by
  obtain ⟨p, e, s, m, args, below, meth, c, A, Q, rfl, hx, hb, hml, hown, hts, hKX, hST, hAA, hlo, hr, hin, hst, htab, habs, hthr⟩ := C
  intro H locs ls hH hA hS hl
  have hlt : (Z32 i).toNatClampNeg < N := by rw [Z32_cl h0 h2]; omega
  have hP : va_P D.1 vwCl [(a, lar D N f)] H := fun j q hq => by
    have hz : j < 1 := (List.getElem?_eq_some_iff.mp hq).1
    rw [show j = 0 by omega] at hq
    cases hq
    exact hH _ _ hw
  have e9 : f i.toNat = f (Z32 i).toNatClampNeg := by rw [Z32_cl h0 h2]
  rw [e9] at kk
  exact va_lald hx hb hKX.2.1 hP 0 1 rfl rfl (Z32_in h0 h1 h2) d (kk H locs ls hH hA hS hl)
theorem i_lastore (C : Cx l D own cc nL R rt ini hh Rp Xp G) {a N : Nat} {i : Int} {x : Int64} {f : Nat → Int64} (d : decode cc pc = .ok (.lastore, 1)) (hw : w a = some (lar D N f) := by assumption) (h0 : 0 ≤ i := by omega) (h1 : i < N := by omega) (h2 : i < 2147483648 := by omega) (kk : G n k (wset w a (lar D N (upz f i.toNat x))) L (pc + 1) st) : G n k w L pc (.long x :: .int (Z32 i) :: .ref a :: st) := by
  obtain ⟨p, e, s, m, args, below, meth, c, A, Q, rfl, hx, hb, hml, hown, hts, hKX, hST, hAA, hlo, hr, hin, hst, htab, habs, hthr⟩ := C
  intro H locs ls hH hA hS hl
  refine W.last hx hb (hH _ _ hw) ((hKX.2.1.2 1 _ rfl).1 N (fun j => .long (f j))) (fun q => by cases q) (by show ¬ (Z32 i < 0 ∨ (arrV _ _ _).slots.size ≤ _); rw [arrV_size]; exact Z32_in h0 h1 h2) rfl rfl d fun H1 e1 z oq => ?_
  refine kk H1 _ ls (hH.set ?_ oq) ?_ (hS.put z oq (hA _ _ hw)) hl
  · show H1[a]? = some (vp_cell _ _)
    rw [e1]
    show some (Cell.setSlot (vp_cell D.2.2.1 (N, .inr (.inl f))) _ _) = some (vp_cell D.2.2.1 (N, .inr (.inl (upz f i.toNat x))))
    rw [vp_cell_l, vp_cell_l, arrV_store, Z32_cl h0 h2]
    congr 2
    funext q
    by_cases hq : q = i.toNat
    · subst hq
      simp [updV, upz]
    · simp [updV, upz, hq]
  · intro b x hbx
    by_cases hba : b = a
    · subst hba; exact hA _ _ hw
    · rw [wset_ne hba] at hbx; exact hA _ _ hbx
theorem i_aaload (C : Cx l D own cc nL R rt ini hh Rp Xp G) {a N : Nat} {i : Int} {f : Nat → Option Nat} (d : decode cc pc = .ok (.aaload, 1)) (hw : w a = some (par D N f) := by assumption) (h0 : 0 ≤ i := by omega) (h1 : i < N := by omega) (h2 : i < 2147483648 := by omega) {v : Value} (hv : va_rf (f i.toNat) = v) (kk : G n k w L (pc + 1) (v :: st)) : G n k w L pc (.int (Z32 i) :: .ref a :: st) := by
  subst hv
  obtain ⟨p, e, s, m, args, below, meth, c, A, Q, rfl, hx, hb, hml, hown, hts, hKX, hST, hAA, hlo, hr, hin, hst, htab, habs, hthr⟩ := C
  intro H locs ls hH hA hS hl
  have hP : va_P D.1 vwCl [(a, par D N f)] H := fun j q hq => by
    have hz : j < 1 := (List.getElem?_eq_some_iff.mp hq).1
    rw [show j = 0 by omega] at hq
    cases hq
    exact hH _ _ hw
  have e9 : f i.toNat = f (Z32 i).toNatClampNeg := by rw [Z32_cl h0 h2]
  rw [e9] at kk
  exact va_aldq hx hb hKX.2.1 hP 0 2 rfl rfl (Z32_in h0 h1 h2) d (kk H locs ls hH hA hS hl)
theorem i_aastore (C : Cx l D own cc nL R rt ini hh Rp Xp G) {a N v : Nat} {i : Int} {f : Nat → Option Nat} {vs : List Value} (d : decode cc pc = .ok (.aastore, 1)) (hw : w a = some (par D N f) := by assumption) (hv : w v = some (.inr (1, vs)) := by assumption) (h0 : 0 ≤ i := by omega) (h1 : i < N := by omega) (h2 : i < 2147483648 := by omega) (kk : G n k (wset w a (par D N (upz f i.toNat (some v)))) L (pc + 1) st) : G n k w L pc (.ref v :: .int (Z32 i) :: .ref a :: st) := by
  obtain ⟨p, e, s, m, args, below, meth, c, A, Q, rfl, hx, hb, hml, hown, hts, hKX, hST, hAA, hlo, hr, hin, hst, htab, habs, hthr⟩ := C
  intro H locs ls hH hA hS hl
  have hlt : (Z32 i).toNatClampNeg < N := by rw [Z32_cl h0 h2]; omega
  have h00 : ¬ Z32 i < 0 := fun q => (Z32_in h0 h1 h2) (Or.inl q)
  obtain ⟨r', hr', cellV, g1, g2, g3, -⟩ := hH _ _ hv
  have hcls := (hKX.2.1.1 1 _ rfl).2
  obtain ⟨kA, comp, k1, k2, k3, -⟩ := (hKX.2.1.2 2 _ rfl).2
  have hcomp : comp = D.1.1 1 := Option.some.inj (k3.symm.trans hcls.1)
  subst hcomp
  obtain ⟨kC, hkC, -⟩ := hcls.2
  refine W.aast hx hb (hH _ _ hw) (fun q h => by cases h) (fun h => by cases h) k1 k2 rfl hkC ⟨h00, by show _ < (arrV _ _ _).slots.size; rw [arrV_size]; exact hlt⟩ g1 (fun q h => by rw [g3] at h; cases h) (by rw [g2]; exact hkC) (by rw [g2]; exact va_assign hcls) rfl rfl d fun H1 e1 z oq => ?_
  refine kk H1 _ ls (hH.set ?_ oq) ?_ (hS.put z oq (hA _ _ hw)) hl
  · show H1[a]? = some (vp_cell _ _)
    rw [e1]
    show some (Cell.setSlot (vp_cell D.2.2.2 (N, .inr (.inr (.inr (.inr f))))) _ _) = some (vp_cell D.2.2.2 (N, .inr (.inr (.inr (.inr (upz f i.toNat (some v)))))))
    rw [vp_cell_q, vp_cell_q, arrV_store, Z32_cl h0 h2]
    congr 2
    funext q
    by_cases hq : q = i.toNat
    · subst hq
      simp [updV, upz, va_rf]
    · simp [updV, upz, hq]
  · intro b x hbx
    by_cases hba : b = a
    · subst hba; exact hA _ _ hw
    · rw [wset_ne hba] at hbx; exact hA _ _ hbx
theorem i_alen (C : Cx l D own cc nL R rt ini hh Rp Xp G) {a N : Nat} {f : Nat → Int} (d : decode cc pc = .ok (.arraylength, 1)) (hw : w a = some (iar D N f) := by assumption) (kk : G n k w L (pc + 1) (.int (Z32 (N : Int)) :: st)) : G n k w L pc (.ref a :: st) := by
  obtain ⟨p, e, s, m, args, below, meth, c, A, Q, rfl, hx, hb, hml, hown, hts, hKX, hST, hAA, hlo, hr, hin, hst, htab, habs, hthr⟩ := C
  intro H locs ls hH hA hS hl
  have hP : va_P D.1 vwCl [(a, iar D N f)] H := fun j q hq => by
    have hz : j < 1 := (List.getElem?_eq_some_iff.mp hq).1
    rw [show j = 0 by omega] at hq
    cases hq
    exact hH _ _ hw
  exact va_alen hx hb hKX.2.1 hP 0 0 rfl rfl rfl d (kk H locs ls hH hA hS hl)
theorem i_alenP (C : Cx l D own cc nL R rt ini hh Rp Xp G) {a N : Nat} {f : Nat → Option Nat} (d : decode cc pc = .ok (.arraylength, 1)) (hw : w a = some (par D N f) := by assumption) (kk : G n k w L (pc + 1) (.int (Z32 (N : Int)) :: st)) : G n k w L pc (.ref a :: st) := by
  obtain ⟨p, e, s, m, args, below, meth, c, A, Q, rfl, hx, hb, hml, hown, hts, hKX, hST, hAA, hlo, hr, hin, hst, htab, habs, hthr⟩ := C
  intro H locs ls hH hA hS hl
  have hP : va_P D.1 vwCl [(a, par D N f)] H := fun j q hq => by
    have hz : j < 1 := (List.getElem?_eq_some_iff.mp hq).1
    rw [show j = 0 by omega] at hq
    cases hq
    exact hH _ _ hw
  exact va_alen hx hb hKX.2.1 hP 0 2 rfl rfl rfl d (kk H locs ls hH hA hS hl)
theorem i_newint (C : Cx l D own cc nL R rt ini hh Rp Xp G) {N : Nat} {x : Int} (hx9 : x = (N : Int) := by rfl) (hN : N ≤ 8388608 := by decide) (harr : Cond.arrayClass .int ∈ gT) (d : decode cc pc = .ok (.newarray .int, 2)) (hcells : n + 1 ≤ R.cells := by exact Nat.le_of_ble_eq_true rfl) (hslots : k + N ≤ R.slots := by exact Nat.le_of_ble_eq_true rfl) (kk : ∀ q : Nat, w q = none → G (n + 1) (k + N) (wset w q (iar D N (fun _ => 0))) L (pc + 2) (.ref q :: st)) : G n k w L pc (.int (Z32 x) :: st) := by
  subst hx9
  obtain ⟨p, e, s, m, args, below, meth, c, A, Q, rfl, hx, hb, hml, hown, hts, hKX, hST, hAA, hlo, hr, hin, hst, htab, habs, hthr⟩ := C
  intro H locs ls hH hA hS hl
  have hcl : (Z32 (N : Int)).toNatClampNeg = N := by rw [Z32_cl (by omega) (by omega)]; rfl
  refine va_newaK (cc := cc) (atype := .int) hx hb (hts _ harr) (g := F0 m pc ls (.int (Z32 (N : Int)) :: st)) rfl d (rest := st) rfl (n := Z32 (N : Int)) (N := N) (by rw [← Z32_0, Z32_lt ⟨by omega, by omega⟩ ⟨by omega, by omega⟩]; omega) hcl (by show N * 4 ≤ 536870912; omega) hcells hslots rfl fun H1 cA e1 z1 o1 hAr hNm => ?_
  have hcA : cA = D.2.1 := Option.some.inj ((show s.vm.findClass _ = some cA from hNm).symm.trans (hKX.2.1.2 0 _ rfl).2)
  subst hcA
  refine kk H.size hH.none H1 locs ls (hH.push ?_ o1) ?_ ⟨Nat.le_trans hS.1 (by omega), fun x h1 h2 => (o1 x (Nat.lt_of_lt_of_le h1 hS.1)).trans (hS.2.1 x h1 h2), hS.2.2⟩ hl
  · show H1[H.size]? = some (vp_cell _ _)
    exact e1
  · intro b x hbx
    by_cases hba : b = H.size
    · subst hba; exact hAA _ hS.1
    · rw [wset_ne hba] at hbx; exact hA _ _ hbx
theorem i_newlong (C : Cx l D own cc nL R rt ini hh Rp Xp G) {N : Nat} {x : Int} (hx9 : x = (N : Int) := by rfl) (hN : N ≤ 8388608 := by decide) (harr : Cond.arrayClass .long ∈ gT) (d : decode cc pc = .ok (.newarray .long, 2)) (hcells : n + 1 ≤ R.cells := by exact Nat.le_of_ble_eq_true rfl) (hslots : k + N ≤ R.slots := by exact Nat.le_of_ble_eq_true rfl) (kk : ∀ q : Nat, w q = none → G (n + 1) (k + N) (wset w q (lar D N (fun _ => 0))) L (pc + 2) (.ref q :: st)) : G n k w L pc (.int (Z32 x) :: st) := by
  subst hx9
  obtain ⟨p, e, s, m, args, below, meth, c, A, Q, rfl, hx, hb, hml, hown, hts, hKX, hST, hAA, hlo, hr, hin, hst, htab, habs, hthr⟩ := C
  intro H locs ls hH hA hS hl
  have hcl : (Z32 (N : Int)).toNatClampNeg = N := by rw [Z32_cl (by omega) (by omega)]; rfl
  refine va_newaK (cc := cc) (atype := .long) hx hb (hts _ harr) (g := F0 m pc ls (.int (Z32 (N : Int)) :: st)) rfl d (rest := st) rfl (n := Z32 (N : Int)) (N := N) (by rw [← Z32_0, Z32_lt ⟨by omega, by omega⟩ ⟨by omega, by omega⟩]; omega) hcl (by show N * 8 ≤ 536870912; omega) hcells hslots rfl fun H1 cA e1 z1 o1 hAr hNm => ?_
  have hcA : cA = D.2.2.1 := Option.some.inj ((show s.vm.findClass _ = some cA from hNm).symm.trans (hKX.2.1.2 1 _ rfl).2)
  subst hcA
  refine kk H.size hH.none H1 locs ls (hH.push ?_ o1) ?_ ⟨Nat.le_trans hS.1 (by omega), fun x h1 h2 => (o1 x (Nat.lt_of_lt_of_le h1 hS.1)).trans (hS.2.1 x h1 h2), hS.2.2⟩ hl
  · show H1[H.size]? = some (vp_cell _ _)
    exact e1
  · intro b x hbx
    by_cases hba : b = H.size
    · subst hba; exact hAA _ hS.1
    · rw [wset_ne hba] at hbx; exact hA _ _ hbx
theorem i_newpages (C : Cx l D own cc nL R rt ini hh Rp Xp G) {ix N : Nat} {x : Int} (hx9 : x = (N : Int) := by rfl) (hN : N ≤ 8388608 := by decide) (hlk : Cond.classLink own ix "MacroWiki$Page" ∈ gT) (d : decode cc pc = .ok (.anewarray ix, 3)) (hcells : n + 1 ≤ R.cells := by exact Nat.le_of_ble_eq_true rfl) (hslots : k + N ≤ R.slots := by exact Nat.le_of_ble_eq_true rfl) (kk : ∀ q : Nat, w q = none → G (n + 1) (k + N) (wset w q (par D N (fun _ => none))) L (pc + 3) (.ref q :: st)) : G n k w L pc (.int (Z32 x) :: st) := by
  subst hx9
  obtain ⟨p, e, s, m, args, below, meth, c, A, Q, rfl, hx, hb, hml, hown, hts, hKX, hST, hAA, hlo, hr, hin, hst, htab, habs, hthr⟩ := C
  intro H locs ls hH hA hS hl
  have hcl : (Z32 (N : Int)).toNatClampNeg = N := by rw [Z32_cl (by omega) (by omega)]; rfl
  refine W.anew hx hb hown (hts _ hlk) (va_AO.use hKX.2.2.1) (g := F0 m pc ls (.int (Z32 (N : Int)) :: st)) rfl d (rest := st) rfl (n := Z32 (N : Int)) (by rw [← Z32_0, Z32_lt ⟨by omega, by omega⟩ ⟨by omega, by omega⟩]; omega) (by rw [hcl]; omega) hcells (by rw [hcl]; exact hslots) fun cA kA comp f1 f2 f3 f4 => ?_
  rw [hcl]
  obtain ⟨kA9, comp9, k1, k2, k3, k4⟩ := (hKX.2.1.2 2 _ rfl).2
  have hcA : cA = D.2.2.2 := Option.some.inj (f1.symm.trans k4)
  subst hcA
  generalize hH1 : H.push ({ cls := D.2.2.2, slots := Array.replicate N .null, vm := .none } : Cell) = H1
  have z1 : H1.size = H.size + 1 := by rw [← hH1, Array.size_push]
  have e1 : H1[H.size]? = some (arrV D.2.2.2 N (fun _ => .null)) := by rw [← hH1, Array.getElem?_push_size, ← arrV_new]
  have o1 : ∀ q : Nat, q < H.size → H1[q]? = H[q]? := fun q hq => by rw [← hH1, Array.getElem?_push, if_neg (Nat.ne_of_lt hq)]
  refine kk H.size hH.none H1 locs ls (hH.push ?_ o1) ?_ ⟨Nat.le_trans hS.1 (by omega), fun x h1 h2 => (o1 x (Nat.lt_of_lt_of_le h1 hS.1)).trans (hS.2.1 x h1 h2), hS.2.2⟩ hl
  · show H1[H.size]? = some (vp_cell _ _)
    exact e1
  · intro b x hbx
    by_cases hba : b = H.size
    · subst hba; exact hAA _ hS.1
    · rw [wset_ne hba] at hbx; exact hA _ _ hbx
def NWk (own : String) (ix ci : Nat) (fs : List Value) : Prop := ∃ (Cn : String) (T : u_T) (N : Nat) (ty0 : Nat → FieldType), vwCl[ci]? = some (Cn, T, N) ∧ fs.length = N ∧ (∀ w ∈ u_ws Cn T N, w ∈ gT) ∧ (∀ k, k < N → parseFieldDescriptor (T k).2.2.1 = some (ty0 k)) ∧ (∀ j, j < N → defaultValue (ty0 j) = vp_V fs j) ∧ Cond.classLink own ix Cn ∈ gT ∧ Cond.instantiable Cn N ∈ gT ∧ Cond.initialized Cn ∈ gT
theorem i_new (C : Cx l D own cc nL R rt ini hh Rp Xp G) {ix ci : Nat} {fs : List Value} (nw : NWk own ix ci fs) (d : decode cc pc = .ok (.new ix, 3)) (hcells : n + 1 ≤ R.cells := by exact Nat.le_of_ble_eq_true rfl) (hslots : k + fs.length ≤ R.slots := by exact Nat.le_of_ble_eq_true rfl) (kk : ∀ q : Nat, w q = none → G (n + 1) (k + fs.length) (wset w q (.inr (ci, fs))) L (pc + 3) (.ref q :: st)) : G n k w L pc st := by
  obtain ⟨p, e, s, m, args, below, meth, c, A, Q, rfl, hx, hb, hml, hown, hts, hKX, hST, hAA, hlo, hr, hin, hst, htab, habs, hthr⟩ := C
  obtain ⟨Cn, T, N, ty0, hc, hlen, hT, hty, hdef, hlk, hinst, hini⟩ := nw
  subst hlen
  intro H locs ls hH hA hS hl
  have hKn := hKX.2.1.1 ci _ hc
  refine W.newcK hx hb hown (hts _ hlk) (hts _ hinst) (hts _ hini) rfl d hcells hslots hKn.2.1 rfl fun H1 kC hkC e1 z1 o1 => ?_
  refine kk H.size hH.none H1 locs ls (hH.push ⟨_, hc, (u_born ty0 hts hT hKn hkC e1 hty).to hdef⟩ o1) ?_ ⟨Nat.le_trans hS.1 (by omega), fun x h1 h2 => (o1 x (Nat.lt_of_lt_of_le h1 hS.1)).trans (hS.2.1 x h1 h2), hS.2.2⟩ hl
  intro b x hbx
  by_cases hba : b = H.size
  · subst hba; exact hAA _ hS.1
  · rw [wset_ne hba] at hbx; exact hA _ _ hbx
end IH
end
section
-- ===== calls =====
theorem wH.P1 {D : gD} {w : wW} {H : Heap} (hH : wH D w H) {a : Nat} {x : va_E} (hw : w a = some x) : va_P D.1 vwCl [(a, x)] H := fun i q hq => by
  have hz : i < 1 := (List.getElem?_eq_some_iff.mp hq).1
  rw [show i = 0 by omega] at hq
  cases hq
  exact hH _ _ hw
def gOk (y : MethodName) (na : Nat) : Prop := y.cls ≠ "java/lang/invoke/MethodHandle" ∧ y.cls ≠ "java/lang/invoke/VarHandle" ∧ (parseMethodDescriptor y.desc).map (fun d => d.parameters.length) = some na
def LkV (own : String) (ix : Nat) (y : MethodName) (b : ByteArray) (mL : Nat) (rt : Option FieldType) (na : Nat) : Prop := Cond.methodLink own ix y ∈ gT ∧ Cond.instanceMethod y ∈ gT ∧ Cond.selects y.cls y y ∈ gT ∧ Cond.initialized y.cls ∈ gT ∧ Cond.code y b mL rt ∈ gT ∧ gOk y na
def LkS (own : String) (ix : Nat) (y : MethodName) (b : ByteArray) (mL : Nat) (rt : Option FieldType) (na : Nat) : Prop := Cond.methodLink own ix y ∈ gT ∧ Cond.static y ∈ gT ∧ Cond.initialized y.cls ∈ gT ∧ Cond.code y b mL rt ∈ gT ∧ gOk y na
def LkH (own : String) (ix : Nat) (y : MethodName) (b : ByteArray) (mL : Nat) (rt : Option FieldType) (hs : List (Nat × Nat × Nat × Nat)) (na : Nat) : Prop := Cond.methodLink own ix y ∈ gT ∧ Cond.static y ∈ gT ∧ Cond.initialized y.cls ∈ gT ∧ Cond.codeWith y b mL rt hs ∈ gT ∧ gOk y na
def LkN (own : String) (ix : Nat) (y : MethodName) (b : ByteArray) (mL : Nat) (rt : Option FieldType) (na : Nat) : Prop := (∃ host, Cond.methodLinkNest own ix y host ∈ gN) ∧ Cond.static y ∈ gT ∧ Cond.initialized y.cls ∈ gT ∧ Cond.code y b mL rt ∈ gT ∧ gOk y na
def LkI (own : String) (ix : Nat) (y : MethodName) (b : ByteArray) (mL : Nat) (na : Nat) : Prop := (Cond.methodLink own ix y ∈ gT ∨ ∃ host, Cond.methodLinkNest own ix y host ∈ gN) ∧ y.name = "<init>" ∧ Cond.instanceMethod y ∈ gT ∧ Cond.initialized y.cls ∈ gT ∧ Cond.code y b mL none ∈ gT ∧ gOk y na
theorem gW_code {y : MethodName} {b : ByteArray} {mL : Nat} {rt : Option FieldType} (h : Cond.code y b mL rt ∈ gT) : ∀ w ∈ (Cond.code y b mL rt :: gT), w ∈ gT := fun w hw => (List.mem_cons.mp hw).elim (fun q => q ▸ h) id
theorem gW_codeW {y : MethodName} {b : ByteArray} {mL : Nat} {rt : Option FieldType} {hs : List (Nat × Nat × Nat × Nat)} (h : Cond.codeWith y b mL rt hs ∈ gT) : ∀ w ∈ (Cond.codeWith y b mL rt hs :: gT), w ∈ gT := fun w hw => (List.mem_cons.mp hw).elim (fun q => q ▸ h) id
theorem gG_V {own : String} {ix mL : Nat} {y : MethodName} {b : ByteArray} {rt : Option FieldType} (l1 : Cond.methodLink own ix y ∈ gT) (l2 : Cond.instanceMethod y ∈ gT) (l3 : Cond.selects y.cls y y ∈ gT) (l4 : Cond.initialized y.cls ∈ gT) (l5 : Cond.code y b mL rt ∈ gT) : GoodIn gT (wsV own ix y.cls y (Cond.code y b mL rt :: gT)) := gT_in (by
  intro w9 h9
  simp only [wsV, List.cons_append, List.nil_append, List.mem_cons] at h9
  rcases h9 with rfl | rfl | rfl | rfl | rfl | h9
  · exact l1
  · exact l2
  · exact l3
  · exact l4
  · exact l5
  · exact h9)
theorem gG_S {own : String} {ix : Nat} {y : MethodName} {cw : Cond} (l1 : Cond.methodLink own ix y ∈ gT) (l2 : Cond.static y ∈ gT) (l4 : Cond.initialized y.cls ∈ gT) (l5 : cw ∈ gT) : GoodIn gT (va_wsS own ix y (cw :: gT)) := gT_in (by
  intro w9 h9
  simp only [va_wsS, List.cons_append, List.nil_append, List.mem_cons] at h9
  rcases h9 with rfl | rfl | rfl | rfl | h9
  · exact l1
  · exact l2
  · exact l4
  · exact l5
  · exact h9)
section IC
variable {l : Launch} {D : gD} {own : String} {cc : ByteArray} {nL : Nat} {R : Room} {rt : Option FieldType} {ini : Bool} {hh : Option (List (Nat × Nat × Nat × Nat))} {Rp : Option Value → wW → Prop} {Xp : String → wW → Prop} {G : gG} {n k : Nat} {w : wW} {L : List (Option Value)} {pc : Nat} {st rest As : List Value}
variable {y : MethodName} {b : ByteArray} {mL ix : Nat} {rt' : Option FieldType} {rm : Room} {Rp' : Option Value → wW → Prop} {Xp' : String → wW → Prop}
theorem i_runM {p : Program} {e : Env} {s : State} {m : MethodId} {args : Array Value} {below : List Frame} {meth : Method} {c : Code} {A : Nat → Prop} {Q : State → Prop} {av : List Value} (hAA : ∀ q, s.heap.size ≤ q → A q)
    (hr : ∀ (H : Heap) (locs : List Loc) (ls : Array Slot), wH D w H → (∀ a x, w a = some x → A a) → va_S A s.heap H locs → lw_has ls L → va_Run p l e R s m args below meth c H locs n k rm.cells rm.slots (F0 m pc ls st) rest (cQ D (wA w H.size) Rp' av.toArray) (wA w H.size))
    (kk : ∀ (v : Option Value) (w1 : wW), Rp' v w1 → JJ p l e R s m args below meth c A D Q (n + rm.cells) (k + rm.slots) w1 L (pc + 3) (v.toList ++ rest)) : JJ p l e R s m args below meth c A D Q n k w L pc st := by
  intro H locs ls hH hA hS hl T hT X
  obtain ⟨v, st₀, t, T', Lx, h0, X', hL, e1, e2, ⟨⟨v', w1, hv, hp, hH1, hd1⟩, hF⟩, st9⟩ := hr H locs ls hH hA hS hl T hT X
  cases hv
  have hAA9 := wA_in (D := D) hA hAA hS
  obtain ⟨k1, k2, k3⟩ := vx_keep h0 e1 hS (fun q _ h => hAA9 q h) hAA9 hL hF
  obtain ⟨t2, a1, b1⟩ := kk v w1 hp T'.heap (locs ++ Lx) ls (by rw [e1]; exact hH1) (fun a x h => hAA9 a (hd1 a x h)) k3 hl T' rfl X'
  exact ⟨t2, st9 t2 a1, b1⟩
theorem i_runX {p : Program} {e : Env} {s : State} {m : MethodId} {args : Array Value} {below : List Frame} {meth : Method} {c : Code} {A : Nat → Prop} {Q : State → Prop} {av : List Value} (hAA : ∀ q, s.heap.size ≤ q → A q)
    (hr : ∀ (H : Heap) (locs : List Loc) (ls : Array Slot), wH D w H → (∀ a x, w a = some x → A a) → va_S A s.heap H locs → lw_has ls L → vx_Run p l e R s m args below meth c H locs n k rm.cells rm.slots (F0 m pc ls st) rest (cQ D (wA w H.size) Rp' av.toArray) (cXC D (wA w H.size) Xp') (wA w H.size))
    (kx : ∀ (E : String) (w1 : wW) (H1 : Heap) (locs1 : List Loc) (ls : Array Slot) (ce : Cell) (q9 : Addr), Xp' E w1 → wH D w1 H1 → (∀ a x, w1 a = some x → A a) → va_S A s.heap H1 locs1 → lw_has ls L → H1[q9]? = some ce → ce.vm = .none → s.vm.findClass E = some ce.cls → vx_W p l e R s m args below meth c H1 locs1 (n + rm.cells) (k + rm.slots) Q (F0 m pc ls rest) q9)
    (kk : ∀ (v : Option Value) (w1 : wW), Rp' v w1 → JJ p l e R s m args below meth c A D Q (n + rm.cells) (k + rm.slots) w1 L (pc + 3) (v.toList ++ rest)) : JJ p l e R s m args below meth c A D Q n k w L pc st := by
  intro H locs ls hH hA hS hl T hT X
  have hAA9 := wA_in (D := D) hA hAA hS
  rcases hr H locs ls hH hA hS hl T hT X with ⟨v, st₀, t, T', Lx, h0, X', hL, e1, e2, ⟨⟨v', w1, hv, hp, hH1, hd1⟩, hF⟩, st9⟩ | ⟨q, st₀, t, T', Lx, E, ce, h0, X', hL, e1, e2, ⟨⟨w1, hp, hH1, hd1⟩, hF⟩, hce, hcv, hcl, st9⟩
  · cases hv
    obtain ⟨k1, k2, k3⟩ := vx_keep h0 e1 hS (fun q _ h => hAA9 q h) hAA9 hL hF
    obtain ⟨t2, a1, b1⟩ := kk v w1 hp T'.heap (locs ++ Lx) ls (by rw [e1]; exact hH1) (fun a x h => hAA9 a (hd1 a x h)) k3 hl T' rfl X'
    exact ⟨t2, st9 t2 a1, b1⟩
  · obtain ⟨k1, k2, k3⟩ := vx_keep h0 e1 hS (fun q _ h => hAA9 q h) hAA9 hL hF
    obtain ⟨t2, a1, b1⟩ := kx E w1 T'.heap (locs ++ Lx) ls ce q hp (by rw [e1]; exact hH1) (fun a x h => hAA9 a (hd1 a x h)) k3 hl (by rw [e1]; exact hce) hcv hcl T' rfl X'
    exact ⟨t2, st9.trans a1, b1⟩
/-- a call of an instance method that returns -/
theorem i_callV (C : Cx l D own cc nL R rt ini hh Rp Xp G) {na a ci : Nat} {fs : List Value} {T9 : u_T} {N9 : Nat} (lk : LkV own ix y b mL rt' na) (hc : CTm l D y b mL rt' rm (.ref a :: As) w Rp') (hcl : vwCl[ci]? = some (y.cls, T9, N9)) (hst : st = As.reverse ++ .ref a :: rest) (d : decode cc pc = .ok (.invokevirtual ix, 3)) (hw : w a = some (.inr (ci, fs)) := by assumption) (hna : As.length = na := by rfl) (hLn : L.length = nL := by rfl) (hR : rm.frames + 1 ≤ R.frames ∧ 8 + (mL + 11) + rm.locals ≤ R.locals := by exact ⟨Nat.le_of_ble_eq_true rfl, Nat.le_of_ble_eq_true rfl⟩) (hsum : (rest.map fun v => v.category).sum ≤ 8 := by exact Nat.le_of_ble_eq_true rfl) (hf : n + rm.cells ≤ R.cells ∧ k + rm.slots ≤ R.slots := by exact ⟨Nat.le_of_ble_eq_true rfl, Nat.le_of_ble_eq_true rfl⟩)
    (kk : ∀ (v : Option Value) (w1 : wW), Rp' v w1 → G (n + rm.cells) (k + rm.slots) w1 L (pc + 3) (v.toList ++ rest)) : G n k w L pc st := by
  subst hst
  obtain ⟨p, e, s, m, args, below, meth, c, A, Q, rfl, hx, hb, hml, hown, hts, hKX, hST, hAA, hlo, hr, hin, hst9, htab, habs, hthr⟩ := C
  obtain ⟨l1, l2, l3, l4, l5, l6⟩ := lk
  exact i_runM (av := .ref a :: As) hAA (fun H locs ls hH hA hS hl => va_runV ⟨hx, hb, hml, hown, hts⟩ (hc H.size) (cwV na hts (gG_V l1 l2 l3 l4 l5) rfl rfl rfl ⟨rfl, l6⟩ hR) ⟨cP_blind, va_recv (q0 := 0) hKX.2.1 (hH.P1 hw) hcl rfl, fun U hU hW => ⟨rfl, cP_at hH hA hAA hS hKX hST hU hW⟩⟩ rfl hna (hl.1.trans hLn) rfl (lv_room hsum) d hf) kk

/-- a call of a static method that returns -/
theorem i_callS (C : Cx l D own cc nL R rt ini hh Rp Xp G) {na : Nat} (lk : LkS own ix y b mL rt' na) (hc : CTm l D y b mL rt' rm As w Rp') (hst : st = As.reverse ++ rest) (d : decode cc pc = .ok (.invokestatic ix, 3)) (hna : As.length = na := by rfl) (hLn : L.length = nL := by rfl) (hR : rm.frames + 1 ≤ R.frames ∧ 8 + (mL + 11) + rm.locals ≤ R.locals := by exact ⟨Nat.le_of_ble_eq_true rfl, Nat.le_of_ble_eq_true rfl⟩) (hsum : (rest.map fun v => v.category).sum ≤ 8 := by exact Nat.le_of_ble_eq_true rfl) (hf : n + rm.cells ≤ R.cells ∧ k + rm.slots ≤ R.slots := by exact ⟨Nat.le_of_ble_eq_true rfl, Nat.le_of_ble_eq_true rfl⟩)
    (kk : ∀ (v : Option Value) (w1 : wW), Rp' v w1 → G (n + rm.cells) (k + rm.slots) w1 L (pc + 3) (v.toList ++ rest)) : G n k w L pc st := by
  subst hst
  obtain ⟨p, e, s, m, args, below, meth, c, A, Q, rfl, hx, hb, hml, hown, hts, hKX, hST, hAA, hlo, hr, hin, hst9, htab, habs, hthr⟩ := C
  obtain ⟨l1, l2, l3, l4, l6⟩ := lk
  exact i_runM (av := As) hAA (fun H locs ls hH hA hS hl => va_runS ⟨hx, hb, hml, hown, hts⟩ (hc H.size) (va_cwS na hts (gG_S l1 l2 l3 l4) rfl rfl rfl l6 hR) ⟨cP_blind, fun U hU hW => ⟨rfl, cP_at hH hA hAA hS hKX hST hU hW⟩⟩ rfl hna (hl.1.trans hLn) rfl (lv_room hsum) d hf) kk

/-- a call of a nest mate's private static method -/
theorem i_callSN (C : Cx l D own cc nL R rt ini hh Rp Xp G) {na : Nat} (lk : LkN own ix y b mL rt' na) (hc : CTm l D y b mL rt' rm As w Rp') (hst : st = As.reverse ++ rest) (d : decode cc pc = .ok (.invokestatic ix, 3)) (hna : As.length = na := by rfl) (hLn : L.length = nL := by rfl) (hR : rm.frames + 1 ≤ R.frames ∧ 8 + (mL + 11) + rm.locals ≤ R.locals := by exact ⟨Nat.le_of_ble_eq_true rfl, Nat.le_of_ble_eq_true rfl⟩) (hsum : (rest.map fun v => v.category).sum ≤ 8 := by exact Nat.le_of_ble_eq_true rfl) (hf : n + rm.cells ≤ R.cells ∧ k + rm.slots ≤ R.slots := by exact ⟨Nat.le_of_ble_eq_true rfl, Nat.le_of_ble_eq_true rfl⟩)
    (kk : ∀ (v : Option Value) (w1 : wW), Rp' v w1 → G (n + rm.cells) (k + rm.slots) w1 L (pc + 3) (v.toList ++ rest)) : G n k w L pc st := by
  subst hst
  obtain ⟨p, e, s, m, args, below, meth, c, A, Q, rfl, hx, hb, hml, hown, hts, hKX, hST, hAA, hlo, hr, hin, hst9, htab, habs, hthr⟩ := C
  obtain ⟨⟨host, l1⟩, l2, l3, l4, l6⟩ := lk
  exact i_runM (av := As) hAA (fun H locs ls hH hA hS hl => va_runSN ⟨hx, hb, hml, hown, hts⟩ (hc H.size) ⟨va_cnB na hts (gT_in (gW_code l4)) rfl rfl rfl (hKX.1 _ l1) (hts _ l3) l6 hR, hts _ l2, trivial⟩ ⟨cP_blind, fun U hU hW => ⟨rfl, cP_at hH hA hAA hS hKX hST hU hW⟩⟩ rfl hna (hl.1.trans hLn) rfl (lv_room hsum) d hf) kk

/-- a constructor -/
theorem i_callI (C : Cx l D own cc nL R rt ini hh Rp Xp G) {na a : Nat} (lk : LkI own ix y b mL na) (hc : CTm l D y b mL none rm (.ref a :: As) w Rp') (hst : st = As.reverse ++ .ref a :: rest) (d : decode cc pc = .ok (.invokespecial ix, 3)) (hna : As.length = na := by rfl) (hLn : L.length = nL := by rfl) (hR : rm.frames + 1 ≤ R.frames ∧ 8 + (mL + 11) + rm.locals ≤ R.locals := by exact ⟨Nat.le_of_ble_eq_true rfl, Nat.le_of_ble_eq_true rfl⟩) (hsum : (rest.map fun v => v.category).sum ≤ 8 := by exact Nat.le_of_ble_eq_true rfl) (hf : n + rm.cells ≤ R.cells ∧ k + rm.slots ≤ R.slots := by exact ⟨Nat.le_of_ble_eq_true rfl, Nat.le_of_ble_eq_true rfl⟩)
    (kk : ∀ (v : Option Value) (w1 : wW), Rp' v w1 → G (n + rm.cells) (k + rm.slots) w1 L (pc + 3) (v.toList ++ rest)) : G n k w L pc st := by
  subst hst
  obtain ⟨p, e, s, m, args, below, meth, c, A, Q, rfl, hx, hb, hml, hown, hts, hKX, hST, hAA, hlo, hr, hin, hst9, htab, habs, hthr⟩ := C
  obtain ⟨l1, l2, l3, l4, l5, l6⟩ := lk
  rcases l1 with l1 | ⟨host, l1⟩
  · exact i_runM (av := .ref a :: As) hAA (fun H locs ls hH hA hS hl => va_runI ⟨hx, hb, hml, hown, hts⟩ (hc H.size) (cwI na hts (gT_in (gW_code l5)) rfl rfl rfl (hts _ l4) (hts _ l1) (hts _ l3) l2 l6 hR) ⟨cP_blind, fun U hU hW => ⟨rfl, cP_at hH hA hAA hS hKX hST hU hW⟩⟩ rfl hna (hl.1.trans hLn) rfl (lv_room hsum) d hf) kk
  · exact i_runM (av := .ref a :: As) hAA (fun H locs ls hH hA hS hl => va_runIN ⟨hx, hb, hml, hown, hts⟩ (hc H.size) ⟨va_cnB na hts (gT_in (gW_code l5)) rfl rfl rfl (hKX.1 _ l1) (hts _ l4) l6 hR, l2, hts _ l3⟩ ⟨cP_blind, fun U hU hW => ⟨rfl, cP_at hH hA hAA hS hKX hST hU hW⟩⟩ rfl hna (hl.1.trans hLn) rfl (lv_room hsum) d hf) kk

/-- calls of methods that may throw: what they throw goes on to the caller -/
theorem i_callVX (C : Cx l D own cc nL R rt ini (some []) Rp Xp G) {na a ci : Nat} {fs : List Value} {T9 : u_T} {N9 : Nat} (lk : LkV own ix y b mL rt' na) (hc : CTx l D y b mL rt' rm (.ref a :: As) w Rp' Xp') (hcl : vwCl[ci]? = some (y.cls, T9, N9)) (hst : st = As.reverse ++ .ref a :: rest) (d : decode cc pc = .ok (.invokevirtual ix, 3)) (hw : w a = some (.inr (ci, fs)) := by assumption) (hxx : ∀ E w1, Xp' E w1 → Xp E w1) (hna : As.length = na := by rfl) (hLn : L.length = nL := by rfl) (hR : rm.frames + 1 ≤ R.frames ∧ 8 + (mL + 11) + rm.locals ≤ R.locals := by exact ⟨Nat.le_of_ble_eq_true rfl, Nat.le_of_ble_eq_true rfl⟩) (hsum : (rest.map fun v => v.category).sum ≤ 8 := by exact Nat.le_of_ble_eq_true rfl) (hf : n + rm.cells ≤ R.cells ∧ k + rm.slots ≤ R.slots := by exact ⟨Nat.le_of_ble_eq_true rfl, Nat.le_of_ble_eq_true rfl⟩)
    (kk : ∀ (v : Option Value) (w1 : wW), Rp' v w1 → G (n + rm.cells) (k + rm.slots) w1 L (pc + 3) (v.toList ++ rest)) : G n k w L pc st := by
  subst hst
  obtain ⟨p, e, s, m, args, below, meth, c, A, Q, rfl, hx, hb, hml, hown, hts, hKX, hST, hAA, hlo, hr, hin, hst9, htab, habs, hthr⟩ := C
  obtain ⟨l1, l2, l3, l4, l5, l6⟩ := lk
  exact i_runX (av := .ref a :: As) (Xp' := Xp') hAA (fun H locs ls hH hA hS hl => vx_runV ⟨hx, hb, hml, hown, hts⟩ (hc H.size) (cwV na hts (gG_V l1 l2 l3 l4 l5) rfl rfl rfl ⟨rfl, l6⟩ hR) ⟨cP_blind, va_recv (q0 := 0) hKX.2.1 (hH.P1 hw) hcl rfl, fun U hU hW => ⟨rfl, cP_at hH hA hAA hS hKX hST hU hW⟩⟩ rfl hna (hl.1.trans hLn) rfl (lv_room hsum) d hf) (fun E w1 H1 locs1 ls ce q9 hX9 hH1 hA1 hS1 hl1 hce hcv hcl9 => by
    rcases hthr with rfl | hthr
    · exact vx_out (by rw [htab [] rfl]; intro x hx9; cases hx9) hlo hce hcv hcl9 (fun t ht hAl => ⟨⟨w1, hxx E w1 hX9, by rw [ht]; exact hH1, hA1⟩, hS1.F ht⟩) hS1.2.2 hf.1 hf.2
    · cases hthr) kk

theorem i_callSX (C : Cx l D own cc nL R rt ini (some []) Rp Xp G) {na : Nat} (lk : LkS own ix y b mL rt' na) (hc : CTx l D y b mL rt' rm As w Rp' Xp') (hst : st = As.reverse ++ rest) (d : decode cc pc = .ok (.invokestatic ix, 3)) (hxx : ∀ E w1, Xp' E w1 → Xp E w1) (hna : As.length = na := by rfl) (hLn : L.length = nL := by rfl) (hR : rm.frames + 1 ≤ R.frames ∧ 8 + (mL + 11) + rm.locals ≤ R.locals := by exact ⟨Nat.le_of_ble_eq_true rfl, Nat.le_of_ble_eq_true rfl⟩) (hsum : (rest.map fun v => v.category).sum ≤ 8 := by exact Nat.le_of_ble_eq_true rfl) (hf : n + rm.cells ≤ R.cells ∧ k + rm.slots ≤ R.slots := by exact ⟨Nat.le_of_ble_eq_true rfl, Nat.le_of_ble_eq_true rfl⟩)
    (kk : ∀ (v : Option Value) (w1 : wW), Rp' v w1 → G (n + rm.cells) (k + rm.slots) w1 L (pc + 3) (v.toList ++ rest)) : G n k w L pc st := by
  subst hst
  obtain ⟨p, e, s, m, args, below, meth, c, A, Q, rfl, hx, hb, hml, hown, hts, hKX, hST, hAA, hlo, hr, hin, hst9, htab, habs, hthr⟩ := C
  obtain ⟨l1, l2, l3, l4, l6⟩ := lk
  exact i_runX (av := As) (Xp' := Xp') hAA (fun H locs ls hH hA hS hl => vx_runS ⟨hx, hb, hml, hown, hts⟩ (hc H.size) (va_cwS na hts (gG_S l1 l2 l3 l4) rfl rfl rfl l6 hR) ⟨cP_blind, fun U hU hW => ⟨rfl, cP_at hH hA hAA hS hKX hST hU hW⟩⟩ rfl hna (hl.1.trans hLn) rfl (lv_room hsum) d hf) (fun E w1 H1 locs1 ls ce q9 hX9 hH1 hA1 hS1 hl1 hce hcv hcl9 => by
    rcases hthr with rfl | hthr
    · exact vx_out (by rw [htab [] rfl]; intro x hx9; cases hx9) hlo hce hcv hcl9 (fun t ht hAl => ⟨⟨w1, hxx E w1 hX9, by rw [ht]; exact hH1, hA1⟩, hS1.F ht⟩) hS1.2.2 hf.1 hf.2
    · cases hthr) kk

/-- a static method with handlers, that lets nothing out -/
theorem i_callSH (C : Cx l D own cc nL R rt ini hh Rp Xp G) {hs : List (Nat × Nat × Nat × Nat)} {na : Nat} (lk : LkH own ix y b mL rt' hs na) (hc : CTh l D y b mL rt' hs rm As w Rp') (hst : st = As.reverse ++ rest) (d : decode cc pc = .ok (.invokestatic ix, 3)) (hna : As.length = na := by rfl) (hLn : L.length = nL := by rfl) (hR : rm.frames + 1 ≤ R.frames ∧ 8 + (mL + 11) + rm.locals ≤ R.locals := by exact ⟨Nat.le_of_ble_eq_true rfl, Nat.le_of_ble_eq_true rfl⟩) (hsum : (rest.map fun v => v.category).sum ≤ 8 := by exact Nat.le_of_ble_eq_true rfl) (hf : n + rm.cells ≤ R.cells ∧ k + rm.slots ≤ R.slots := by exact ⟨Nat.le_of_ble_eq_true rfl, Nat.le_of_ble_eq_true rfl⟩)
    (kk : ∀ (v : Option Value) (w1 : wW), Rp' v w1 → G (n + rm.cells) (k + rm.slots) w1 L (pc + 3) (v.toList ++ rest)) : G n k w L pc st := by
  subst hst
  obtain ⟨p, e, s, m, args, below, meth, c, A, Q, rfl, hx, hb, hml, hown, hts, hKX, hST, hAA, hlo, hr, hin, hst9, htab, habs, hthr⟩ := C
  obtain ⟨l1, l2, l3, l4, l6⟩ := lk
  exact i_runX (av := As) (Xp' := fun _ _ => False) hAA (fun H locs ls hH hA hS hl => vx_runSX ⟨hx, hb, hml, hown, hts⟩ (hc H.size) (vx_cwSW na hts (gG_S l1 l2 l3 l4) rfl rfl rfl l6 hR) ⟨cP_blind, fun U hU hW => ⟨rfl, cP_at hH hA hAA hS hKX hST hU hW⟩⟩ rfl hna (hl.1.trans hLn) rfl (lv_room hsum) d hf) (fun E w1 H1 locs1 ls ce q9 hX9 => hX9.elim) kk

/-- a call of a method that may throw, in a method with handlers: each class that it throws comes to its handler -/
def gH (own : String) (hs : List (Nat × Nat × Nat × Nat)) (pc : Nat) (E : String) (h : Nat) : Prop := ∃ (pre suf : List (Nat × Nat × Nat × Nat)) (x : Nat × Nat × Nat × Nat), hs = pre ++ x :: suf ∧ (∀ z ∈ tableOf pre, z.catchType ≠ 0 ∧ ∃ nm : String, Cond.classLink own z.catchType nm ∈ gT ∧ (E, nm) ∈ gC) ∧ covers (tableOf [x]).head! pc = true ∧ x.2.2.2 ≠ 0 ∧ x.2.2.1 = h ∧ Cond.classLink own x.2.2.2 E ∈ gT ∧ Cond.castable E E ∈ gN
theorem i_callVC {hs : List (Nat × Nat × Nat × Nat)} (C : Cx l D own cc nL R rt ini (some hs) Rp Xp G) {na a ci : Nat} {fs : List Value} {T9 : u_T} {N9 : Nat} (lk : LkV own ix y b mL rt' na) (hc : CTx l D y b mL rt' rm (.ref a :: As) w Rp' Xp') (hcl : vwCl[ci]? = some (y.cls, T9, N9)) (hst : st = As.reverse ++ .ref a :: rest) (d : decode cc pc = .ok (.invokevirtual ix, 3)) (hw : w a = some (.inr (ci, fs)) := by assumption) (hxx : ∀ E w1, Xp' E w1 → ∃ h, gH own hs pc E h ∧ ∀ q : Nat, G (n + rm.cells) (k + rm.slots) w1 L h [.ref q]) (hna : As.length = na := by rfl) (hLn : L.length = nL := by rfl) (hR : rm.frames + 1 ≤ R.frames ∧ 8 + (mL + 11) + rm.locals ≤ R.locals := by exact ⟨Nat.le_of_ble_eq_true rfl, Nat.le_of_ble_eq_true rfl⟩) (hsum : (rest.map fun v => v.category).sum ≤ 8 := by exact Nat.le_of_ble_eq_true rfl) (hf : n + rm.cells ≤ R.cells ∧ k + rm.slots ≤ R.slots := by exact ⟨Nat.le_of_ble_eq_true rfl, Nat.le_of_ble_eq_true rfl⟩)
    (kk : ∀ (v : Option Value) (w1 : wW), Rp' v w1 → G (n + rm.cells) (k + rm.slots) w1 L (pc + 3) (v.toList ++ rest)) : G n k w L pc st := by
  subst hst
  obtain ⟨p, e, s, m, args, below, meth, c, A, Q, rfl, hx, hb, hml, hown, hts, hKX, hST, hAA, hlo, hr, hin, hst9, htab, habs, hthr⟩ := C
  obtain ⟨l1, l2, l3, l4, l5, l6⟩ := lk
  exact i_runX (av := .ref a :: As) (Xp' := Xp') hAA (fun H locs ls hH hA hS hl => vx_runV ⟨hx, hb, hml, hown, hts⟩ (hc H.size) (cwV na hts (gG_V l1 l2 l3 l4 l5) rfl rfl rfl ⟨rfl, l6⟩ hR) ⟨cP_blind, va_recv (q0 := 0) hKX.2.1 (hH.P1 hw) hcl rfl, fun U hU hW => ⟨rfl, cP_at hH hA hAA hS hKX hST hU hW⟩⟩ rfl hna (hl.1.trans hLn) rfl (lv_room hsum) d hf) (fun E w1 H1 locs1 ls ce q9 hX9 hH1 hA1 hS1 hl1 hce hcv hcl9 => by
    obtain ⟨h, ⟨pre, suf, x, e1, e2, e3, e4, e5, e6, e7⟩, hk9⟩ := hxx E w1 hX9
    have htb : c.exceptionTable.toList = tableOf pre ++ ⟨x.1, x.2.1, x.2.2.1, x.2.2.2⟩ :: tableOf suf := by rw [htab hs rfl, e1]; simp [tableOf]
    refine vx_catch hown (tableOf pre) _ (tableOf suf) htb (fun z hz => Or.inr ⟨(e2 z hz).1, ?_⟩) e3 e4 (hts _ e6) (va_Nw.use (gN_tab e7) (hKX.1 _ e7)) hce hcv hcl9 ?_
    · obtain ⟨nm, n1, n2⟩ := (e2 z hz).2
      exact ⟨nm, hts _ n1, hKX.2.2.2.2 _ n2⟩
    · subst e5
      exact hk9 q9 H1 locs1 ls hH1 hA1 hS1 hl1) kk

/-- throw new cls(text) -/
def gThr (own : String) (ik is ic : Nat) (cls text : String) (names : List String) : Prop := Bundle.fit cls = true ∧ (∀ n ∈ names, Bundle.fit n = true) ∧ Cond.classLink own ik cls ∈ gT ∧ Cond.initialized cls ∈ gT ∧ (own, is, text) ∈ gS ∧ ∀ w ∈ vx_atS own ic cls names, w ∈ gT ∨ w ∈ gN
theorem i_throw (C : Cx l D own cc nL R rt ini (some []) Rp Xp G) {ik is ic : Nat} {cls text : String} {names : List String} (g : gThr own ik is ic cls text names) (d0 : decode cc pc = .ok (.new ik, 3)) (d3 : decode cc (pc + 3) = .ok (.dup, 1)) (d4 : decode cc (pc + 4) = .ok (.ldc is, 2)) (d6 : decode cc (pc + 6) = .ok (.invokespecial ic, 3)) (d9 : decode cc (pc + 9) = .ok (.athrow, 1)) (hLn : L.length = nL := by rfl) (hRf : names.length + 3 < R.frames := by exact Nat.le_of_ble_eq_true rfl) (hRl : (st.map fun v => v.category).sum + (13 * (names.length + 1) + 43) ≤ R.locals := by exact Nat.le_of_ble_eq_true rfl) (hc : n + 1 ≤ R.cells := by exact Nat.le_of_ble_eq_true rfl) (hs : k + 6 ≤ R.slots := by exact Nat.le_of_ble_eq_true rfl) (hX : Xp cls w) : G n k w L pc st := by
  obtain ⟨p, e, s, m, args, below, meth, c, A, Q, rfl, hx, hb, hml, hown, hts, hKX, hST, hAA, hlo, hr, hin, hst9, htab, habs, hthr⟩ := C
  obtain ⟨g1, g2, g3, g4, g5, g6⟩ := g
  rcases hthr with rfl | hthr
  · intro H locs ls hH hA hS hl
    obtain ⟨sa, hsa⟩ := hKX.2.2.2.1 _ g5
    have hat : ∀ w9 ∈ vx_atS own ic cls names, w9.before args s = true := fun w9 h9 => (g6 w9 h9).elim (fun q => hts _ q) (fun q => va_Nw.use (gN_tab q) (hKX.1 _ q))
    have hgood : ∀ w9 ∈ Cond.classLink own ik cls :: Cond.initialized cls :: vx_atS own ic cls names, vx_ot w9 = true := by
      intro w9 h9
      rcases List.mem_cons.mp h9 with rfl | h9
      · rfl
      · rcases List.mem_cons.mp h9 with rfl | h9
        · rfl
        · unfold vx_ot
          rcases g6 w9 h9 with q | q
          · rw [gT_good q, Bool.or_true]
          · rw [gN_tab q, Bool.true_or]
    refine vx_throwS hx hb hst9 (mc := R.cells) (ms := R.slots) hown g1 g2 (hts _ g3) (hts _ g4) hsa hat hgood hST.1 hST.2 hS (by rw [hml]; exact hl.1.trans hLn) d0 d3 d4 d6 d9 (by rw [htab [] rfl]; intro x hx9; cases hx9) hRf hRl hc hs hlo (fun t hal hz hk => ?_) hS.2.2 hc hs
    refine ⟨⟨w, hX, fun a x hax => (hH a x hax).kept (hk a (hH.lt hax)), hA⟩, Nat.le_trans hS.1 hz, fun q hq hnq => ?_⟩
    rw [hk q (Nat.lt_of_lt_of_le hq hS.1)]
    exact hS.2.1 q hq hnq
  · cases hthr
/-- Math.max, Math.min -/
def gMM (own : String) (ix : Nat) (y : MethodName) (b : ByteArray) : Prop := Cond.methodLink own ix y ∈ gT ∧ Cond.static y ∈ gT ∧ Cond.initialized "java/lang/Math" ∈ gT ∧ Cond.code y b 2 (some .int) ∈ gT
theorem i_max (C : Cx l D own cc nL R rt ini hh Rp Xp G) {x z : Int} (g : gMM own ix Lib.Math.max.name Lib.Math.max.code) (d : decode cc pc = .ok (.invokestatic ix, 3)) (hx9 : inR x := by omega) (hz9 : inR z := by omega) (hLn : L.length = nL := by rfl) (hRf : 1 ≤ R.frames := by exact Nat.le_of_ble_eq_true rfl) (hRl : (st.map fun v => v.category).sum + 13 ≤ R.locals := by exact Nat.le_of_ble_eq_true rfl) (hc : n ≤ R.cells := by exact Nat.le_of_ble_eq_true rfl) (hs : k ≤ R.slots := by exact Nat.le_of_ble_eq_true rfl) (kk : G n k w L (pc + 3) (.int (Z32 (max x z)) :: st)) : G n k w L pc (.int (Z32 z) :: .int (Z32 x) :: st) := by
  obtain ⟨p, e, s, m, args, below, meth, c, A, Q, rfl, hx, hb, hml, hown, hts, hKX, hST, hAA, hlo, hr, hin, hst9, htab, habs, hthr⟩ := C
  obtain ⟨g1, g2, g3, g4⟩ := g
  intro H locs ls hH hA hS hl
  refine va_mmax hx hb (by rw [hml, hl.1, hLn]) hown (hts _ g1) (hts _ g2) (hts _ g3) (hts _ g4) hRf hRl hc hs d ?_
  have e9 : (if Z32 x < Z32 z then Z32 z else Z32 x) = Z32 (max x z) := by
    by_cases h : x < z
    · rw [if_pos ((Z32_lt hx9 hz9).mpr h)]; congr 1; omega
    · rw [if_neg (fun q => h ((Z32_lt hx9 hz9).mp q))]; congr 1; omega
  rw [e9]
  exact kk H locs ls hH hA hS hl
theorem i_min (C : Cx l D own cc nL R rt ini hh Rp Xp G) {x z : Int} (g : gMM own ix Lib.Math.min.name Lib.Math.min.code) (d : decode cc pc = .ok (.invokestatic ix, 3)) (hx9 : inR x := by omega) (hz9 : inR z := by omega) (hLn : L.length = nL := by rfl) (hRf : 1 ≤ R.frames := by exact Nat.le_of_ble_eq_true rfl) (hRl : (st.map fun v => v.category).sum + 13 ≤ R.locals := by exact Nat.le_of_ble_eq_true rfl) (hc : n ≤ R.cells := by exact Nat.le_of_ble_eq_true rfl) (hs : k ≤ R.slots := by exact Nat.le_of_ble_eq_true rfl) (kk : G n k w L (pc + 3) (.int (Z32 (min x z)) :: st)) : G n k w L pc (.int (Z32 z) :: .int (Z32 x) :: st) := by
  obtain ⟨p, e, s, m, args, below, meth, c, A, Q, rfl, hx, hb, hml, hown, hts, hKX, hST, hAA, hlo, hr, hin, hst9, htab, habs, hthr⟩ := C
  obtain ⟨g1, g2, g3, g4⟩ := g
  intro H locs ls hH hA hS hl
  refine va_mmin hx hb (by rw [hml, hl.1, hLn]) hown (hts _ g1) (hts _ g2) (hts _ g3) (hts _ g4) hRf hRl hc hs d ?_
  have e9 : (if Z32 z < Z32 x then Z32 z else Z32 x) = Z32 (min x z) := by
    by_cases h : z < x
    · rw [if_pos ((Z32_lt hz9 hx9).mpr h)]; congr 1; omega
    · rw [if_neg (fun q => h ((Z32_lt hz9 hx9).mp q))]; congr 1; omega
  rw [e9]
  exact kk H locs ls hH hA hS hl
/-- Object's constructor -/
def gObj (own : String) (ix : Nat) : Prop := Cond.methodLink own ix objectInit ∈ gT ∧ Cond.instanceMethod objectInit ∈ gT ∧ Cond.code objectInit ⟨#[0xb1]⟩ 1 none ∈ gT
theorem i_objInit (C : Cx l D own cc nL R rt ini hh Rp Xp G) {a : Nat} (g : gObj own ix) (d : decode cc pc = .ok (.invokespecial ix, 3)) (hLn : L.length = nL := by rfl) (hRf : 1 ≤ R.frames := by exact Nat.le_of_ble_eq_true rfl) (hRl : (st.map fun v => v.category).sum + 12 ≤ R.locals := by exact Nat.le_of_ble_eq_true rfl) (kk : G n k w L (pc + 3) st) : G n k w L pc (.ref a :: st) := by
  obtain ⟨p, e, s, m, args, below, meth, c, A, Q, rfl, hx, hb, hml, hown, hts, hKX, hST, hAA, hlo, hr, hin, hst9, htab, habs, hthr⟩ := C
  obtain ⟨g1, g2, g3⟩ := g
  intro H locs ls hH hA hS hl
  exact W.objInit hx hb hown (hts _ g1) (hts _ g2) (hts _ g3) rfl (by rw [hml]; exact hl.1.trans hLn) rfl d hRf (by show 2 * 0 + _ + 12 ≤ _; omega) (kk H locs ls hH hA hS hl)
end IC
end
section
theorem t_61 : .laysFinal RX0 "MacroWiki$Net" "calls" "[I" ∈ gT := gT_of 102 (by decide +kernel) (by decide +kernel)
theorem t_63 : .laysFinal RX0 "MacroWiki$Net" "ownExtents" "[I" ∈ gT := gT_of 104 (by decide +kernel) (by decide +kernel)
theorem t_65 : .laysFinal RX0 "MacroWiki$Net" "reached" "[I" ∈ gT := gT_of 106 (by decide +kernel) (by decide +kernel)
theorem t_67 : .laysFinal RX0 "MacroWiki$Net" "depths" "[I" ∈ gT := gT_of 108 (by decide +kernel) (by decide +kernel)
theorem t_69 : .laysFinal RX0 "MacroWiki$Net" "extents" "[I" ∈ gT := gT_of 110 (by decide +kernel) (by decide +kernel)
theorem inT_X0 : ∀ w ∈ u_ws RX0 TX0 5, w ∈ gT := by
  show ∀ w ∈ [u_lay RX0 TX0 0, u_lay RX0 TX0 1, u_lay RX0 TX0 2, u_lay RX0 TX0 3, u_lay RX0 TX0 4], w ∈ gT
  intro w h
  simp only [List.mem_cons, List.not_mem_nil, or_false] at h
  rcases h with rfl | rfl | rfl | rfl | rfl
  · exact t_61
  · exact t_63
  · exact t_65
  · exact t_67
  · exact t_69
theorem t_139 : .lays RX1 "MacroWiki$Page" "now" "LMacroWiki$Version;" ∈ gT := gT_of 180 (by decide +kernel) (by decide +kernel)
theorem t_141 : .lays RX1 "MacroWiki$Page" "lock" "I" ∈ gT := gT_of 182 (by decide +kernel) (by decide +kernel)
theorem t_143 : .laysFinal RX1 "MacroWiki$Page" "spread" "LMacroWiki$Spread;" ∈ gT := gT_of 184 (by decide +kernel) (by decide +kernel)
theorem inT_X1 : ∀ w ∈ u_ws RX1 TX1 3, w ∈ gT := by
  show ∀ w ∈ [u_lay RX1 TX1 0, u_lay RX1 TX1 1, u_lay RX1 TX1 2], w ∈ gT
  intro w h
  simp only [List.mem_cons, List.not_mem_nil, or_false] at h
  rcases h with rfl | rfl | rfl
  · exact t_139
  · exact t_141
  · exact t_143
theorem t_118 : .laysFinal RX2 "MacroWiki$Spread" "needs" "[I" ∈ gT := gT_of 159 (by decide +kernel) (by decide +kernel)
theorem t_120 : .laysFinal RX2 "MacroWiki$Spread" "sorts" "[I" ∈ gT := gT_of 161 (by decide +kernel) (by decide +kernel)
theorem t_122 : .laysFinal RX2 "MacroWiki$Spread" "values" "[I" ∈ gT := gT_of 163 (by decide +kernel) (by decide +kernel)
theorem t_124 : .laysFinal RX2 "MacroWiki$Spread" "sources" "[I" ∈ gT := gT_of 165 (by decide +kernel) (by decide +kernel)
theorem t_126 : .lays RX2 "MacroWiki$Spread" "size" "I" ∈ gT := gT_of 167 (by decide +kernel) (by decide +kernel)
theorem t_128 : .laysFinal RX2 "MacroWiki$Spread" "openNeeds" "[I" ∈ gT := gT_of 169 (by decide +kernel) (by decide +kernel)
theorem t_130 : .lays RX2 "MacroWiki$Spread" "openWhens" "I" ∈ gT := gT_of 171 (by decide +kernel) (by decide +kernel)
theorem inT_X2 : ∀ w ∈ u_ws RX2 TX2 7, w ∈ gT := by
  show ∀ w ∈ [u_lay RX2 TX2 0, u_lay RX2 TX2 1, u_lay RX2 TX2 2, u_lay RX2 TX2 3, u_lay RX2 TX2 4, u_lay RX2 TX2 5, u_lay RX2 TX2 6], w ∈ gT
  intro w h
  simp only [List.mem_cons, List.not_mem_nil, or_false] at h
  rcases h with rfl | rfl | rfl | rfl | rfl | rfl | rfl
  · exact t_118
  · exact t_120
  · exact t_122
  · exact t_124
  · exact t_126
  · exact t_128
  · exact t_130
theorem t_38 : .laysFinal RX3 "MacroWiki$Text" "sorts" "[I" ∈ gT := gT_of 79 (by decide +kernel) (by decide +kernel)
theorem t_40 : .laysFinal RX3 "MacroWiki$Text" "pages" "[I" ∈ gT := gT_of 81 (by decide +kernel) (by decide +kernel)
theorem t_42 : .laysFinal RX3 "MacroWiki$Text" "signs" "[I" ∈ gT := gT_of 83 (by decide +kernel) (by decide +kernel)
theorem t_44 : .lays RX3 "MacroWiki$Text" "size" "I" ∈ gT := gT_of 85 (by decide +kernel) (by decide +kernel)
theorem t_46 : .lays RX3 "MacroWiki$Text" "openWhens" "I" ∈ gT := gT_of 87 (by decide +kernel) (by decide +kernel)
theorem inT_X3 : ∀ w ∈ u_ws RX3 TX3 5, w ∈ gT := by
  show ∀ w ∈ [u_lay RX3 TX3 0, u_lay RX3 TX3 1, u_lay RX3 TX3 2, u_lay RX3 TX3 3, u_lay RX3 TX3 4], w ∈ gT
  intro w h
  simp only [List.mem_cons, List.not_mem_nil, or_false] at h
  rcases h with rfl | rfl | rfl | rfl | rfl
  · exact t_38
  · exact t_40
  · exact t_42
  · exact t_44
  · exact t_46
theorem t_95 : .laysFinal RX4 "MacroWiki$Version" "before" "LMacroWiki$Version;" ∈ gT := gT_of 136 (by decide +kernel) (by decide +kernel)
theorem t_97 : .laysFinal RX4 "MacroWiki$Version" "number" "I" ∈ gT := gT_of 138 (by decide +kernel) (by decide +kernel)
theorem t_99 : .laysFinal RX4 "MacroWiki$Version" "text" "LMacroWiki$Text;" ∈ gT := gT_of 140 (by decide +kernel) (by decide +kernel)
theorem t_101 : .lays RX4 "MacroWiki$Version" "rank" "I" ∈ gT := gT_of 142 (by decide +kernel) (by decide +kernel)
theorem inT_X4 : ∀ w ∈ u_ws RX4 TX4 4, w ∈ gT := by
  show ∀ w ∈ [u_lay RX4 TX4 0, u_lay RX4 TX4 1, u_lay RX4 TX4 2, u_lay RX4 TX4 3], w ∈ gT
  intro w h
  simp only [List.mem_cons, List.not_mem_nil, or_false] at h
  rcases h with rfl | rfl | rfl | rfl
  · exact t_95
  · exact t_97
  · exact t_99
  · exact t_101
theorem t_696 : .lays RX5 "MacroWiki$Walk" "toGo" "I" ∈ gT := gT_of 737 (by decide +kernel) (by decide +kernel)
theorem t_698 : .lays RX5 "MacroWiki$Walk" "found" "I" ∈ gT := gT_of 739 (by decide +kernel) (by decide +kernel)
theorem inT_X5 : ∀ w ∈ u_ws RX5 TX5 2, w ∈ gT := by
  show ∀ w ∈ [u_lay RX5 TX5 0, u_lay RX5 TX5 1], w ∈ gT
  intro w h
  simp only [List.mem_cons, List.not_mem_nil, or_false] at h
  rcases h with rfl | rfl
  · exact t_696
  · exact t_698
theorem t_151 : .laysFinal RX6 "MacroWiki" "draft" "LMacroWiki$Text;" ∈ gT := gT_of 192 (by decide +kernel) (by decide +kernel)
theorem t_153 : .laysFinal RX6 "MacroWiki" "pages" "[LMacroWiki$Page;" ∈ gT := gT_of 194 (by decide +kernel) (by decide +kernel)
theorem t_155 : .laysFinal RX6 "MacroWiki" "userRanks" "[I" ∈ gT := gT_of 196 (by decide +kernel) (by decide +kernel)
theorem t_157 : .lays RX6 "MacroWiki" "net" "LMacroWiki$Net;" ∈ gT := gT_of 198 (by decide +kernel) (by decide +kernel)
theorem t_159 : .lays RX6 "MacroWiki" "trial" "LMacroWiki$Net;" ∈ gT := gT_of 200 (by decide +kernel) (by decide +kernel)
theorem inT_X6 : ∀ w ∈ u_ws RX6 TX6 5, w ∈ gT := by
  show ∀ w ∈ [u_lay RX6 TX6 0, u_lay RX6 TX6 1, u_lay RX6 TX6 2, u_lay RX6 TX6 3, u_lay RX6 TX6 4], w ∈ gT
  intro w h
  simp only [List.mem_cons, List.not_mem_nil, or_false] at h
  rcases h with rfl | rfl | rfl | rfl | rfl
  · exact t_151
  · exact t_153
  · exact t_155
  · exact t_157
  · exact t_159
theorem t_827 : .laysFinal RX7 "MacroWikiModel" "draft" "[I" ∈ gT := gT_of 868 (by decide +kernel) (by decide +kernel)
theorem t_829 : .lays RX7 "MacroWikiModel" "drafted" "I" ∈ gT := gT_of 870 (by decide +kernel) (by decide +kernel)
theorem t_831 : .lays RX7 "MacroWikiModel" "open" "I" ∈ gT := gT_of 872 (by decide +kernel) (by decide +kernel)
theorem t_833 : .laysFinal RX7 "MacroWikiModel" "texts" "[I" ∈ gT := gT_of 874 (by decide +kernel) (by decide +kernel)
theorem t_835 : .laysFinal RX7 "MacroWikiModel" "sizes" "[I" ∈ gT := gT_of 876 (by decide +kernel) (by decide +kernel)
theorem t_837 : .laysFinal RX7 "MacroWikiModel" "ranks" "[I" ∈ gT := gT_of 878 (by decide +kernel) (by decide +kernel)
theorem t_839 : .laysFinal RX7 "MacroWikiModel" "versions" "[I" ∈ gT := gT_of 880 (by decide +kernel) (by decide +kernel)
theorem t_841 : .laysFinal RX7 "MacroWikiModel" "locks" "[I" ∈ gT := gT_of 882 (by decide +kernel) (by decide +kernel)
theorem t_843 : .laysFinal RX7 "MacroWikiModel" "userRanks" "[I" ∈ gT := gT_of 884 (by decide +kernel) (by decide +kernel)
theorem t_845 : .laysFinal RX7 "MacroWikiModel" "calls" "[I" ∈ gT := gT_of 886 (by decide +kernel) (by decide +kernel)
theorem t_847 : .laysFinal RX7 "MacroWikiModel" "own" "[I" ∈ gT := gT_of 888 (by decide +kernel) (by decide +kernel)
theorem t_849 : .laysFinal RX7 "MacroWikiModel" "reached" "[I" ∈ gT := gT_of 890 (by decide +kernel) (by decide +kernel)
theorem t_851 : .laysFinal RX7 "MacroWikiModel" "depths" "[I" ∈ gT := gT_of 892 (by decide +kernel) (by decide +kernel)
theorem t_853 : .laysFinal RX7 "MacroWikiModel" "extents" "[I" ∈ gT := gT_of 894 (by decide +kernel) (by decide +kernel)
theorem t_855 : .laysFinal RX7 "MacroWikiModel" "sorts" "[I" ∈ gT := gT_of 896 (by decide +kernel) (by decide +kernel)
theorem t_857 : .laysFinal RX7 "MacroWikiModel" "values" "[I" ∈ gT := gT_of 898 (by decide +kernel) (by decide +kernel)
theorem t_859 : .laysFinal RX7 "MacroWikiModel" "sources" "[I" ∈ gT := gT_of 900 (by decide +kernel) (by decide +kernel)
theorem t_861 : .lays RX7 "MacroWikiModel" "shown" "I" ∈ gT := gT_of 902 (by decide +kernel) (by decide +kernel)
theorem t_863 : .laysFinal RX7 "MacroWikiModel" "pages" "[I" ∈ gT := gT_of 904 (by decide +kernel) (by decide +kernel)
theorem t_865 : .laysFinal RX7 "MacroWikiModel" "places" "[I" ∈ gT := gT_of 906 (by decide +kernel) (by decide +kernel)
theorem t_867 : .laysFinal RX7 "MacroWikiModel" "arguments" "[I" ∈ gT := gT_of 908 (by decide +kernel) (by decide +kernel)
theorem t_869 : .lays RX7 "MacroWikiModel" "last" "I" ∈ gT := gT_of 910 (by decide +kernel) (by decide +kernel)
theorem inT_X7 : ∀ w ∈ u_ws RX7 TX7 22, w ∈ gT := by
  show ∀ w ∈ [u_lay RX7 TX7 0, u_lay RX7 TX7 1, u_lay RX7 TX7 2, u_lay RX7 TX7 3, u_lay RX7 TX7 4, u_lay RX7 TX7 5, u_lay RX7 TX7 6, u_lay RX7 TX7 7, u_lay RX7 TX7 8, u_lay RX7 TX7 9, u_lay RX7 TX7 10, u_lay RX7 TX7 11, u_lay RX7 TX7 12, u_lay RX7 TX7 13, u_lay RX7 TX7 14, u_lay RX7 TX7 15, u_lay RX7 TX7 16, u_lay RX7 TX7 17, u_lay RX7 TX7 18, u_lay RX7 TX7 19, u_lay RX7 TX7 20, u_lay RX7 TX7 21], w ∈ gT
  intro w h
  simp only [List.mem_cons, List.not_mem_nil, or_false] at h
  rcases h with rfl | rfl | rfl | rfl | rfl | rfl | rfl | rfl | rfl | rfl | rfl | rfl | rfl | rfl | rfl | rfl | rfl | rfl | rfl | rfl | rfl | rfl
  · exact t_827
  · exact t_829
  · exact t_831
  · exact t_833
  · exact t_835
  · exact t_837
  · exact t_839
  · exact t_841
  · exact t_843
  · exact t_845
  · exact t_847
  · exact t_849
  · exact t_851
  · exact t_853
  · exact t_855
  · exact t_857
  · exact t_859
  · exact t_861
  · exact t_863
  · exact t_865
  · exact t_867
  · exact t_869
theorem t_31 : .fieldLink RX3 9 "MacroWiki$Text" "sorts" "[I" ∈ gT := gT_of 72 (by decide +kernel) (by decide +kernel)
theorem fk_X3_9 : FLk RX3 9 3 0 (tyX3 0) true := ⟨RX3, TX3, 5, tyX3, rfl, by decide, inT_X3, tyX3_ok, nmX3, rfl, rfl, (fun _ => rfl), Or.inl t_31⟩
theorem f_X3_9 : FLr RX3 9 3 0 := fk_X3_9.r
theorem ff_X3_9 : FLf RX3 9 3 0 (tyX3 0) := ⟨fk_X3_9, RX3, TX3, 5, rfl, t_31⟩
theorem t_32 : .fieldLink RX3 15 "MacroWiki$Text" "pages" "[I" ∈ gT := gT_of 73 (by decide +kernel) (by decide +kernel)
theorem fk_X3_15 : FLk RX3 15 3 1 (tyX3 1) true := ⟨RX3, TX3, 5, tyX3, rfl, by decide, inT_X3, tyX3_ok, nmX3, rfl, rfl, (fun _ => rfl), Or.inl t_32⟩
theorem f_X3_15 : FLr RX3 15 3 1 := fk_X3_15.r
theorem ff_X3_15 : FLf RX3 15 3 1 (tyX3 1) := ⟨fk_X3_15, RX3, TX3, 5, rfl, t_32⟩
theorem t_33 : .fieldLink RX3 18 "MacroWiki$Text" "signs" "[I" ∈ gT := gT_of 74 (by decide +kernel) (by decide +kernel)
theorem fk_X3_18 : FLk RX3 18 3 2 (tyX3 2) true := ⟨RX3, TX3, 5, tyX3, rfl, by decide, inT_X3, tyX3_ok, nmX3, rfl, rfl, (fun _ => rfl), Or.inl t_33⟩
theorem f_X3_18 : FLr RX3 18 3 2 := fk_X3_18.r
theorem ff_X3_18 : FLf RX3 18 3 2 (tyX3 2) := ⟨fk_X3_18, RX3, TX3, 5, rfl, t_33⟩
theorem t_34 : .fieldLink RX3 21 "MacroWiki$Text" "size" "I" ∈ gT := gT_of 75 (by decide +kernel) (by decide +kernel)
theorem fk_X3_21 : FLk RX3 21 3 3 (tyX3 3) false := ⟨RX3, TX3, 5, tyX3, rfl, by decide, inT_X3, tyX3_ok, nmX3, rfl, rfl, (fun h => nomatch h), Or.inl t_34⟩
theorem f_X3_21 : FLr RX3 21 3 3 := fk_X3_21.r
theorem t_n35 : .fieldLinkNest RX0 35 "MacroWiki$Text" "size" "I" "MacroWiki" ∈ gN := gN_of 35 (by decide +kernel) (by decide +kernel)
theorem fk_X0_35 : FLk RX0 35 3 3 (tyX3 3) false := ⟨RX3, TX3, 5, tyX3, rfl, by decide, inT_X3, tyX3_ok, nmX3, rfl, rfl, (fun h => nomatch h), Or.inr ⟨_, t_n35⟩⟩
theorem f_X0_35 : FLr RX0 35 3 3 := fk_X0_35.r
theorem t_n36 : .fieldLinkNest RX6 208 "MacroWiki$Text" "size" "I" "MacroWiki" ∈ gN := gN_of 36 (by decide +kernel) (by decide +kernel)
theorem fk_X6_208 : FLk RX6 208 3 3 (tyX3 3) false := ⟨RX3, TX3, 5, tyX3, rfl, by decide, inT_X3, tyX3_ok, nmX3, rfl, rfl, (fun h => nomatch h), Or.inr ⟨_, t_n36⟩⟩
theorem f_X6_208 : FLr RX6 208 3 3 := fk_X6_208.r
theorem t_37 : .fieldLink RX3 25 "MacroWiki$Text" "openWhens" "I" ∈ gT := gT_of 78 (by decide +kernel) (by decide +kernel)
theorem fk_X3_25 : FLk RX3 25 3 4 (tyX3 4) false := ⟨RX3, TX3, 5, tyX3, rfl, by decide, inT_X3, tyX3_ok, nmX3, rfl, rfl, (fun h => nomatch h), Or.inl t_37⟩
theorem f_X3_25 : FLr RX3 25 3 4 := fk_X3_25.r
theorem t_56 : .fieldLink RX0 9 "MacroWiki$Net" "calls" "[I" ∈ gT := gT_of 97 (by decide +kernel) (by decide +kernel)
theorem fk_X0_9 : FLk RX0 9 0 0 (tyX0 0) true := ⟨RX0, TX0, 5, tyX0, rfl, by decide, inT_X0, tyX0_ok, nmX0, rfl, rfl, (fun _ => rfl), Or.inl t_56⟩
theorem f_X0_9 : FLr RX0 9 0 0 := fk_X0_9.r
theorem ff_X0_9 : FLf RX0 9 0 0 (tyX0 0) := ⟨fk_X0_9, RX0, TX0, 5, rfl, t_56⟩
theorem t_57 : .fieldLink RX0 15 "MacroWiki$Net" "ownExtents" "[I" ∈ gT := gT_of 98 (by decide +kernel) (by decide +kernel)
theorem fk_X0_15 : FLk RX0 15 0 1 (tyX0 1) true := ⟨RX0, TX0, 5, tyX0, rfl, by decide, inT_X0, tyX0_ok, nmX0, rfl, rfl, (fun _ => rfl), Or.inl t_57⟩
theorem f_X0_15 : FLr RX0 15 0 1 := fk_X0_15.r
theorem ff_X0_15 : FLf RX0 15 0 1 (tyX0 1) := ⟨fk_X0_15, RX0, TX0, 5, rfl, t_57⟩
theorem t_58 : .fieldLink RX0 18 "MacroWiki$Net" "reached" "[I" ∈ gT := gT_of 99 (by decide +kernel) (by decide +kernel)
theorem fk_X0_18 : FLk RX0 18 0 2 (tyX0 2) true := ⟨RX0, TX0, 5, tyX0, rfl, by decide, inT_X0, tyX0_ok, nmX0, rfl, rfl, (fun _ => rfl), Or.inl t_58⟩
theorem f_X0_18 : FLr RX0 18 0 2 := fk_X0_18.r
theorem ff_X0_18 : FLf RX0 18 0 2 (tyX0 2) := ⟨fk_X0_18, RX0, TX0, 5, rfl, t_58⟩
theorem t_59 : .fieldLink RX0 21 "MacroWiki$Net" "depths" "[I" ∈ gT := gT_of 100 (by decide +kernel) (by decide +kernel)
theorem fk_X0_21 : FLk RX0 21 0 3 (tyX0 3) true := ⟨RX0, TX0, 5, tyX0, rfl, by decide, inT_X0, tyX0_ok, nmX0, rfl, rfl, (fun _ => rfl), Or.inl t_59⟩
theorem f_X0_21 : FLr RX0 21 0 3 := fk_X0_21.r
theorem ff_X0_21 : FLf RX0 21 0 3 (tyX0 3) := ⟨fk_X0_21, RX0, TX0, 5, rfl, t_59⟩
theorem t_60 : .fieldLink RX0 24 "MacroWiki$Net" "extents" "[I" ∈ gT := gT_of 101 (by decide +kernel) (by decide +kernel)
theorem fk_X0_24 : FLk RX0 24 0 4 (tyX0 4) true := ⟨RX0, TX0, 5, tyX0, rfl, by decide, inT_X0, tyX0_ok, nmX0, rfl, rfl, (fun _ => rfl), Or.inl t_60⟩
theorem f_X0_24 : FLr RX0 24 0 4 := fk_X0_24.r
theorem ff_X0_24 : FLf RX0 24 0 4 (tyX0 4) := ⟨fk_X0_24, RX0, TX0, 5, rfl, t_60⟩
theorem t_87 : .fieldLink RX4 7 "MacroWiki$Version" "before" "LMacroWiki$Version;" ∈ gT := gT_of 128 (by decide +kernel) (by decide +kernel)
theorem fk_X4_7 : FLk RX4 7 4 0 (tyX4 0) true := ⟨RX4, TX4, 4, tyX4, rfl, by decide, inT_X4, tyX4_ok, nmX4, rfl, rfl, (fun _ => rfl), Or.inl t_87⟩
theorem f_X4_7 : FLr RX4 7 4 0 := fk_X4_7.r
theorem ff_X4_7 : FLf RX4 7 4 0 (tyX4 0) := ⟨fk_X4_7, RX4, TX4, 4, rfl, t_87⟩
theorem t_n88 : .fieldLinkNest RX6 105 "MacroWiki$Version" "before" "LMacroWiki$Version;" "MacroWiki" ∈ gN := gN_of 88 (by decide +kernel) (by decide +kernel)
theorem f_X6_105 : FLr RX6 105 4 0 := ⟨RX4, TX4, 4, rfl, by decide, inT_X4, Or.inr ⟨_, t_n88⟩⟩
theorem t_89 : .fieldLink RX4 13 "MacroWiki$Version" "number" "I" ∈ gT := gT_of 130 (by decide +kernel) (by decide +kernel)
theorem fk_X4_13 : FLk RX4 13 4 1 (tyX4 1) true := ⟨RX4, TX4, 4, tyX4, rfl, by decide, inT_X4, tyX4_ok, nmX4, rfl, rfl, (fun _ => rfl), Or.inl t_89⟩
theorem f_X4_13 : FLr RX4 13 4 1 := fk_X4_13.r
theorem ff_X4_13 : FLf RX4 13 4 1 (tyX4 1) := ⟨fk_X4_13, RX4, TX4, 4, rfl, t_89⟩
theorem t_n90 : .fieldLinkNest RX6 77 "MacroWiki$Version" "number" "I" "MacroWiki" ∈ gN := gN_of 90 (by decide +kernel) (by decide +kernel)
theorem f_X6_77 : FLr RX6 77 4 1 := ⟨RX4, TX4, 4, rfl, by decide, inT_X4, Or.inr ⟨_, t_n90⟩⟩
theorem t_91 : .fieldLink RX4 17 "MacroWiki$Version" "text" "LMacroWiki$Text;" ∈ gT := gT_of 132 (by decide +kernel) (by decide +kernel)
theorem fk_X4_17 : FLk RX4 17 4 2 (tyX4 2) true := ⟨RX4, TX4, 4, tyX4, rfl, by decide, inT_X4, tyX4_ok, nmX4, rfl, rfl, (fun _ => rfl), Or.inl t_91⟩
theorem f_X4_17 : FLr RX4 17 4 2 := fk_X4_17.r
theorem ff_X4_17 : FLf RX4 17 4 2 (tyX4 2) := ⟨fk_X4_17, RX4, TX4, 4, rfl, t_91⟩
theorem t_n92 : .fieldLinkNest RX6 113 "MacroWiki$Version" "text" "LMacroWiki$Text;" "MacroWiki" ∈ gN := gN_of 92 (by decide +kernel) (by decide +kernel)
theorem f_X6_113 : FLr RX6 113 4 2 := ⟨RX4, TX4, 4, rfl, by decide, inT_X4, Or.inr ⟨_, t_n92⟩⟩
theorem t_93 : .fieldLink RX4 21 "MacroWiki$Version" "rank" "I" ∈ gT := gT_of 134 (by decide +kernel) (by decide +kernel)
theorem fk_X4_21 : FLk RX4 21 4 3 (tyX4 3) false := ⟨RX4, TX4, 4, tyX4, rfl, by decide, inT_X4, tyX4_ok, nmX4, rfl, rfl, (fun h => nomatch h), Or.inl t_93⟩
theorem f_X4_21 : FLr RX4 21 4 3 := fk_X4_21.r
theorem t_n94 : .fieldLinkNest RX6 110 "MacroWiki$Version" "rank" "I" "MacroWiki" ∈ gN := gN_of 94 (by decide +kernel) (by decide +kernel)
theorem fk_X6_110 : FLk RX6 110 4 3 (tyX4 3) false := ⟨RX4, TX4, 4, tyX4, rfl, by decide, inT_X4, tyX4_ok, nmX4, rfl, rfl, (fun h => nomatch h), Or.inr ⟨_, t_n94⟩⟩
theorem f_X6_110 : FLr RX6 110 4 3 := fk_X6_110.r
theorem t_110 : .fieldLink RX2 9 "MacroWiki$Spread" "needs" "[I" ∈ gT := gT_of 151 (by decide +kernel) (by decide +kernel)
theorem fk_X2_9 : FLk RX2 9 2 0 (tyX2 0) true := ⟨RX2, TX2, 7, tyX2, rfl, by decide, inT_X2, tyX2_ok, nmX2, rfl, rfl, (fun _ => rfl), Or.inl t_110⟩
theorem f_X2_9 : FLr RX2 9 2 0 := fk_X2_9.r
theorem ff_X2_9 : FLf RX2 9 2 0 (tyX2 0) := ⟨fk_X2_9, RX2, TX2, 7, rfl, t_110⟩
theorem t_111 : .fieldLink RX2 15 "MacroWiki$Spread" "sorts" "[I" ∈ gT := gT_of 152 (by decide +kernel) (by decide +kernel)
theorem fk_X2_15 : FLk RX2 15 2 1 (tyX2 1) true := ⟨RX2, TX2, 7, tyX2, rfl, by decide, inT_X2, tyX2_ok, nmX2, rfl, rfl, (fun _ => rfl), Or.inl t_111⟩
theorem f_X2_15 : FLr RX2 15 2 1 := fk_X2_15.r
theorem ff_X2_15 : FLf RX2 15 2 1 (tyX2 1) := ⟨fk_X2_15, RX2, TX2, 7, rfl, t_111⟩
theorem t_112 : .fieldLink RX2 18 "MacroWiki$Spread" "values" "[I" ∈ gT := gT_of 153 (by decide +kernel) (by decide +kernel)
theorem fk_X2_18 : FLk RX2 18 2 2 (tyX2 2) true := ⟨RX2, TX2, 7, tyX2, rfl, by decide, inT_X2, tyX2_ok, nmX2, rfl, rfl, (fun _ => rfl), Or.inl t_112⟩
theorem f_X2_18 : FLr RX2 18 2 2 := fk_X2_18.r
theorem ff_X2_18 : FLf RX2 18 2 2 (tyX2 2) := ⟨fk_X2_18, RX2, TX2, 7, rfl, t_112⟩
theorem t_113 : .fieldLink RX2 21 "MacroWiki$Spread" "sources" "[I" ∈ gT := gT_of 154 (by decide +kernel) (by decide +kernel)
theorem fk_X2_21 : FLk RX2 21 2 3 (tyX2 3) true := ⟨RX2, TX2, 7, tyX2, rfl, by decide, inT_X2, tyX2_ok, nmX2, rfl, rfl, (fun _ => rfl), Or.inl t_113⟩
theorem f_X2_21 : FLr RX2 21 2 3 := fk_X2_21.r
theorem ff_X2_21 : FLf RX2 21 2 3 (tyX2 3) := ⟨fk_X2_21, RX2, TX2, 7, rfl, t_113⟩
theorem t_114 : .fieldLink RX2 24 "MacroWiki$Spread" "size" "I" ∈ gT := gT_of 155 (by decide +kernel) (by decide +kernel)
theorem fk_X2_24 : FLk RX2 24 2 4 (tyX2 4) false := ⟨RX2, TX2, 7, tyX2, rfl, by decide, inT_X2, tyX2_ok, nmX2, rfl, rfl, (fun h => nomatch h), Or.inl t_114⟩
theorem f_X2_24 : FLr RX2 24 2 4 := fk_X2_24.r
theorem t_n115 : .fieldLinkNest RX6 171 "MacroWiki$Spread" "size" "I" "MacroWiki" ∈ gN := gN_of 115 (by decide +kernel) (by decide +kernel)
theorem fk_X6_171 : FLk RX6 171 2 4 (tyX2 4) false := ⟨RX2, TX2, 7, tyX2, rfl, by decide, inT_X2, tyX2_ok, nmX2, rfl, rfl, (fun h => nomatch h), Or.inr ⟨_, t_n115⟩⟩
theorem f_X6_171 : FLr RX6 171 2 4 := fk_X6_171.r
theorem t_116 : .fieldLink RX2 28 "MacroWiki$Spread" "openNeeds" "[I" ∈ gT := gT_of 157 (by decide +kernel) (by decide +kernel)
theorem fk_X2_28 : FLk RX2 28 2 5 (tyX2 5) true := ⟨RX2, TX2, 7, tyX2, rfl, by decide, inT_X2, tyX2_ok, nmX2, rfl, rfl, (fun _ => rfl), Or.inl t_116⟩
theorem f_X2_28 : FLr RX2 28 2 5 := fk_X2_28.r
theorem ff_X2_28 : FLf RX2 28 2 5 (tyX2 5) := ⟨fk_X2_28, RX2, TX2, 7, rfl, t_116⟩
theorem t_117 : .fieldLink RX2 31 "MacroWiki$Spread" "openWhens" "I" ∈ gT := gT_of 158 (by decide +kernel) (by decide +kernel)
theorem fk_X2_31 : FLk RX2 31 2 6 (tyX2 6) false := ⟨RX2, TX2, 7, tyX2, rfl, by decide, inT_X2, tyX2_ok, nmX2, rfl, rfl, (fun h => nomatch h), Or.inl t_117⟩
theorem f_X2_31 : FLr RX2 31 2 6 := fk_X2_31.r
theorem t_133 : .fieldLink RX1 17 "MacroWiki$Page" "now" "LMacroWiki$Version;" ∈ gT := gT_of 174 (by decide +kernel) (by decide +kernel)
theorem fk_X1_17 : FLk RX1 17 1 0 (tyX1 0) false := ⟨RX1, TX1, 3, tyX1, rfl, by decide, inT_X1, tyX1_ok, nmX1, rfl, rfl, (fun h => nomatch h), Or.inl t_133⟩
theorem f_X1_17 : FLr RX1 17 1 0 := fk_X1_17.r
theorem t_n134 : .fieldLinkNest RX6 73 "MacroWiki$Page" "now" "LMacroWiki$Version;" "MacroWiki" ∈ gN := gN_of 134 (by decide +kernel) (by decide +kernel)
theorem fk_X6_73 : FLk RX6 73 1 0 (tyX1 0) false := ⟨RX1, TX1, 3, tyX1, rfl, by decide, inT_X1, tyX1_ok, nmX1, rfl, rfl, (fun h => nomatch h), Or.inr ⟨_, t_n134⟩⟩
theorem f_X6_73 : FLr RX6 73 1 0 := fk_X6_73.r
theorem t_135 : .fieldLink RX1 23 "MacroWiki$Page" "lock" "I" ∈ gT := gT_of 176 (by decide +kernel) (by decide +kernel)
theorem fk_X1_23 : FLk RX1 23 1 1 (tyX1 1) false := ⟨RX1, TX1, 3, tyX1, rfl, by decide, inT_X1, tyX1_ok, nmX1, rfl, rfl, (fun h => nomatch h), Or.inl t_135⟩
theorem f_X1_23 : FLr RX1 23 1 1 := fk_X1_23.r
theorem t_n136 : .fieldLinkNest RX6 116 "MacroWiki$Page" "lock" "I" "MacroWiki" ∈ gN := gN_of 136 (by decide +kernel) (by decide +kernel)
theorem fk_X6_116 : FLk RX6 116 1 1 (tyX1 1) false := ⟨RX1, TX1, 3, tyX1, rfl, by decide, inT_X1, tyX1_ok, nmX1, rfl, rfl, (fun h => nomatch h), Or.inr ⟨_, t_n136⟩⟩
theorem f_X6_116 : FLr RX6 116 1 1 := fk_X6_116.r
theorem t_137 : .fieldLink RX1 30 "MacroWiki$Page" "spread" "LMacroWiki$Spread;" ∈ gT := gT_of 178 (by decide +kernel) (by decide +kernel)
theorem fk_X1_30 : FLk RX1 30 1 2 (tyX1 2) true := ⟨RX1, TX1, 3, tyX1, rfl, by decide, inT_X1, tyX1_ok, nmX1, rfl, rfl, (fun _ => rfl), Or.inl t_137⟩
theorem f_X1_30 : FLr RX1 30 1 2 := fk_X1_30.r
theorem ff_X1_30 : FLf RX1 30 1 2 (tyX1 2) := ⟨fk_X1_30, RX1, TX1, 3, rfl, t_137⟩
theorem t_n138 : .fieldLinkNest RX6 129 "MacroWiki$Page" "spread" "LMacroWiki$Spread;" "MacroWiki" ∈ gN := gN_of 138 (by decide +kernel) (by decide +kernel)
theorem f_X6_129 : FLr RX6 129 1 2 := ⟨RX1, TX1, 3, rfl, by decide, inT_X1, Or.inr ⟨_, t_n138⟩⟩
theorem t_146 : .fieldLink RX6 12 "MacroWiki" "draft" "LMacroWiki$Text;" ∈ gT := gT_of 187 (by decide +kernel) (by decide +kernel)
theorem fk_X6_12 : FLk RX6 12 6 0 (tyX6 0) true := ⟨RX6, TX6, 5, tyX6, rfl, by decide, inT_X6, tyX6_ok, nmX6, rfl, rfl, (fun _ => rfl), Or.inl t_146⟩
theorem f_X6_12 : FLr RX6 12 6 0 := fk_X6_12.r
theorem ff_X6_12 : FLf RX6 12 6 0 (tyX6 0) := ⟨fk_X6_12, RX6, TX6, 5, rfl, t_146⟩
theorem t_147 : .fieldLink RX6 32 "MacroWiki" "pages" "[LMacroWiki$Page;" ∈ gT := gT_of 188 (by decide +kernel) (by decide +kernel)
theorem fk_X6_32 : FLk RX6 32 6 1 (tyX6 1) true := ⟨RX6, TX6, 5, tyX6, rfl, by decide, inT_X6, tyX6_ok, nmX6, rfl, rfl, (fun _ => rfl), Or.inl t_147⟩
theorem f_X6_32 : FLr RX6 32 6 1 := fk_X6_32.r
theorem ff_X6_32 : FLf RX6 32 6 1 (tyX6 1) := ⟨fk_X6_32, RX6, TX6, 5, rfl, t_147⟩
theorem t_148 : .fieldLink RX6 16 "MacroWiki" "userRanks" "[I" ∈ gT := gT_of 189 (by decide +kernel) (by decide +kernel)
theorem fk_X6_16 : FLk RX6 16 6 2 (tyX6 2) true := ⟨RX6, TX6, 5, tyX6, rfl, by decide, inT_X6, tyX6_ok, nmX6, rfl, rfl, (fun _ => rfl), Or.inl t_148⟩
theorem f_X6_16 : FLr RX6 16 6 2 := fk_X6_16.r
theorem ff_X6_16 : FLf RX6 16 6 2 (tyX6 2) := ⟨fk_X6_16, RX6, TX6, 5, rfl, t_148⟩
theorem t_149 : .fieldLink RX6 23 "MacroWiki" "net" "LMacroWiki$Net;" ∈ gT := gT_of 190 (by decide +kernel) (by decide +kernel)
theorem fk_X6_23 : FLk RX6 23 6 3 (tyX6 3) false := ⟨RX6, TX6, 5, tyX6, rfl, by decide, inT_X6, tyX6_ok, nmX6, rfl, rfl, (fun h => nomatch h), Or.inl t_149⟩
theorem f_X6_23 : FLr RX6 23 6 3 := fk_X6_23.r
theorem t_150 : .fieldLink RX6 27 "MacroWiki" "trial" "LMacroWiki$Net;" ∈ gT := gT_of 191 (by decide +kernel) (by decide +kernel)
theorem fk_X6_27 : FLk RX6 27 6 4 (tyX6 4) false := ⟨RX6, TX6, 5, tyX6, rfl, by decide, inT_X6, tyX6_ok, nmX6, rfl, rfl, (fun h => nomatch h), Or.inl t_150⟩
theorem f_X6_27 : FLr RX6 27 6 4 := fk_X6_27.r
theorem t_693 : .fieldLink RX5 15 "MacroWiki$Walk" "toGo" "I" ∈ gT := gT_of 734 (by decide +kernel) (by decide +kernel)
theorem fk_X5_15 : FLk RX5 15 5 0 (tyX5 0) false := ⟨RX5, TX5, 2, tyX5, rfl, by decide, inT_X5, tyX5_ok, nmX5, rfl, rfl, (fun h => nomatch h), Or.inl t_693⟩
theorem f_X5_15 : FLr RX5 15 5 0 := fk_X5_15.r
theorem t_694 : .fieldLink RX5 9 "MacroWiki$Walk" "found" "I" ∈ gT := gT_of 735 (by decide +kernel) (by decide +kernel)
theorem fk_X5_9 : FLk RX5 9 5 1 (tyX5 1) false := ⟨RX5, TX5, 2, tyX5, rfl, by decide, inT_X5, tyX5_ok, nmX5, rfl, rfl, (fun h => nomatch h), Or.inl t_694⟩
theorem f_X5_9 : FLr RX5 9 5 1 := fk_X5_9.r
theorem t_n695 : .fieldLinkNest RX6 157 "MacroWiki$Walk" "found" "I" "MacroWiki" ∈ gN := gN_of 695 (by decide +kernel) (by decide +kernel)
theorem fk_X6_157 : FLk RX6 157 5 1 (tyX5 1) false := ⟨RX5, TX5, 2, tyX5, rfl, by decide, inT_X5, tyX5_ok, nmX5, rfl, rfl, (fun h => nomatch h), Or.inr ⟨_, t_n695⟩⟩
theorem f_X6_157 : FLr RX6 157 5 1 := fk_X6_157.r
theorem t_805 : .fieldLink RX7 7 "MacroWikiModel" "draft" "[I" ∈ gT := gT_of 846 (by decide +kernel) (by decide +kernel)
theorem fk_X7_7 : FLk RX7 7 7 0 (tyX7 0) true := ⟨RX7, TX7, 22, tyX7, rfl, by decide, inT_X7, tyX7_ok, nmX7, rfl, rfl, (fun _ => rfl), Or.inl t_805⟩
theorem f_X7_7 : FLr RX7 7 7 0 := fk_X7_7.r
theorem ff_X7_7 : FLf RX7 7 7 0 (tyX7 0) := ⟨fk_X7_7, RX7, TX7, 22, rfl, t_805⟩
theorem t_806 : .fieldLink RX7 72 "MacroWikiModel" "drafted" "I" ∈ gT := gT_of 847 (by decide +kernel) (by decide +kernel)
theorem fk_X7_72 : FLk RX7 72 7 1 (tyX7 1) false := ⟨RX7, TX7, 22, tyX7, rfl, by decide, inT_X7, tyX7_ok, nmX7, rfl, rfl, (fun h => nomatch h), Or.inl t_806⟩
theorem f_X7_72 : FLr RX7 72 7 1 := fk_X7_72.r
theorem t_807 : .fieldLink RX7 94 "MacroWikiModel" "open" "I" ∈ gT := gT_of 848 (by decide +kernel) (by decide +kernel)
theorem fk_X7_94 : FLk RX7 94 7 2 (tyX7 2) false := ⟨RX7, TX7, 22, tyX7, rfl, by decide, inT_X7, tyX7_ok, nmX7, rfl, rfl, (fun h => nomatch h), Or.inl t_807⟩
theorem f_X7_94 : FLr RX7 94 7 2 := fk_X7_94.r
theorem t_808 : .fieldLink RX7 13 "MacroWikiModel" "texts" "[I" ∈ gT := gT_of 849 (by decide +kernel) (by decide +kernel)
theorem fk_X7_13 : FLk RX7 13 7 3 (tyX7 3) true := ⟨RX7, TX7, 22, tyX7, rfl, by decide, inT_X7, tyX7_ok, nmX7, rfl, rfl, (fun _ => rfl), Or.inl t_808⟩
theorem f_X7_13 : FLr RX7 13 7 3 := fk_X7_13.r
theorem ff_X7_13 : FLf RX7 13 7 3 (tyX7 3) := ⟨fk_X7_13, RX7, TX7, 22, rfl, t_808⟩
theorem t_809 : .fieldLink RX7 16 "MacroWikiModel" "sizes" "[I" ∈ gT := gT_of 850 (by decide +kernel) (by decide +kernel)
theorem fk_X7_16 : FLk RX7 16 7 4 (tyX7 4) true := ⟨RX7, TX7, 22, tyX7, rfl, by decide, inT_X7, tyX7_ok, nmX7, rfl, rfl, (fun _ => rfl), Or.inl t_809⟩
theorem f_X7_16 : FLr RX7 16 7 4 := fk_X7_16.r
theorem ff_X7_16 : FLf RX7 16 7 4 (tyX7 4) := ⟨fk_X7_16, RX7, TX7, 22, rfl, t_809⟩
theorem t_810 : .fieldLink RX7 19 "MacroWikiModel" "ranks" "[I" ∈ gT := gT_of 851 (by decide +kernel) (by decide +kernel)
theorem fk_X7_19 : FLk RX7 19 7 5 (tyX7 5) true := ⟨RX7, TX7, 22, tyX7, rfl, by decide, inT_X7, tyX7_ok, nmX7, rfl, rfl, (fun _ => rfl), Or.inl t_810⟩
theorem f_X7_19 : FLr RX7 19 7 5 := fk_X7_19.r
theorem ff_X7_19 : FLf RX7 19 7 5 (tyX7 5) := ⟨fk_X7_19, RX7, TX7, 22, rfl, t_810⟩
theorem t_811 : .fieldLink RX7 22 "MacroWikiModel" "versions" "[I" ∈ gT := gT_of 852 (by decide +kernel) (by decide +kernel)
theorem fk_X7_22 : FLk RX7 22 7 6 (tyX7 6) true := ⟨RX7, TX7, 22, tyX7, rfl, by decide, inT_X7, tyX7_ok, nmX7, rfl, rfl, (fun _ => rfl), Or.inl t_811⟩
theorem f_X7_22 : FLr RX7 22 7 6 := fk_X7_22.r
theorem ff_X7_22 : FLf RX7 22 7 6 (tyX7 6) := ⟨fk_X7_22, RX7, TX7, 22, rfl, t_811⟩
theorem t_812 : .fieldLink RX7 25 "MacroWikiModel" "locks" "[I" ∈ gT := gT_of 853 (by decide +kernel) (by decide +kernel)
theorem fk_X7_25 : FLk RX7 25 7 7 (tyX7 7) true := ⟨RX7, TX7, 22, tyX7, rfl, by decide, inT_X7, tyX7_ok, nmX7, rfl, rfl, (fun _ => rfl), Or.inl t_812⟩
theorem f_X7_25 : FLr RX7 25 7 7 := fk_X7_25.r
theorem ff_X7_25 : FLf RX7 25 7 7 (tyX7 7) := ⟨fk_X7_25, RX7, TX7, 22, rfl, t_812⟩
theorem t_813 : .fieldLink RX7 28 "MacroWikiModel" "userRanks" "[I" ∈ gT := gT_of 854 (by decide +kernel) (by decide +kernel)
theorem fk_X7_28 : FLk RX7 28 7 8 (tyX7 8) true := ⟨RX7, TX7, 22, tyX7, rfl, by decide, inT_X7, tyX7_ok, nmX7, rfl, rfl, (fun _ => rfl), Or.inl t_813⟩
theorem f_X7_28 : FLr RX7 28 7 8 := fk_X7_28.r
theorem ff_X7_28 : FLf RX7 28 7 8 (tyX7 8) := ⟨fk_X7_28, RX7, TX7, 22, rfl, t_813⟩
theorem t_814 : .fieldLink RX7 31 "MacroWikiModel" "calls" "[I" ∈ gT := gT_of 855 (by decide +kernel) (by decide +kernel)
theorem fk_X7_31 : FLk RX7 31 7 9 (tyX7 9) true := ⟨RX7, TX7, 22, tyX7, rfl, by decide, inT_X7, tyX7_ok, nmX7, rfl, rfl, (fun _ => rfl), Or.inl t_814⟩
theorem f_X7_31 : FLr RX7 31 7 9 := fk_X7_31.r
theorem ff_X7_31 : FLf RX7 31 7 9 (tyX7 9) := ⟨fk_X7_31, RX7, TX7, 22, rfl, t_814⟩
theorem t_815 : .fieldLink RX7 34 "MacroWikiModel" "own" "[I" ∈ gT := gT_of 856 (by decide +kernel) (by decide +kernel)
theorem fk_X7_34 : FLk RX7 34 7 10 (tyX7 10) true := ⟨RX7, TX7, 22, tyX7, rfl, by decide, inT_X7, tyX7_ok, nmX7, rfl, rfl, (fun _ => rfl), Or.inl t_815⟩
theorem f_X7_34 : FLr RX7 34 7 10 := fk_X7_34.r
theorem ff_X7_34 : FLf RX7 34 7 10 (tyX7 10) := ⟨fk_X7_34, RX7, TX7, 22, rfl, t_815⟩
theorem t_816 : .fieldLink RX7 37 "MacroWikiModel" "reached" "[I" ∈ gT := gT_of 857 (by decide +kernel) (by decide +kernel)
theorem fk_X7_37 : FLk RX7 37 7 11 (tyX7 11) true := ⟨RX7, TX7, 22, tyX7, rfl, by decide, inT_X7, tyX7_ok, nmX7, rfl, rfl, (fun _ => rfl), Or.inl t_816⟩
theorem f_X7_37 : FLr RX7 37 7 11 := fk_X7_37.r
theorem ff_X7_37 : FLf RX7 37 7 11 (tyX7 11) := ⟨fk_X7_37, RX7, TX7, 22, rfl, t_816⟩
theorem t_817 : .fieldLink RX7 40 "MacroWikiModel" "depths" "[I" ∈ gT := gT_of 858 (by decide +kernel) (by decide +kernel)
theorem fk_X7_40 : FLk RX7 40 7 12 (tyX7 12) true := ⟨RX7, TX7, 22, tyX7, rfl, by decide, inT_X7, tyX7_ok, nmX7, rfl, rfl, (fun _ => rfl), Or.inl t_817⟩
theorem f_X7_40 : FLr RX7 40 7 12 := fk_X7_40.r
theorem ff_X7_40 : FLf RX7 40 7 12 (tyX7 12) := ⟨fk_X7_40, RX7, TX7, 22, rfl, t_817⟩
theorem t_818 : .fieldLink RX7 43 "MacroWikiModel" "extents" "[I" ∈ gT := gT_of 859 (by decide +kernel) (by decide +kernel)
theorem fk_X7_43 : FLk RX7 43 7 13 (tyX7 13) true := ⟨RX7, TX7, 22, tyX7, rfl, by decide, inT_X7, tyX7_ok, nmX7, rfl, rfl, (fun _ => rfl), Or.inl t_818⟩
theorem f_X7_43 : FLr RX7 43 7 13 := fk_X7_43.r
theorem ff_X7_43 : FLf RX7 43 7 13 (tyX7 13) := ⟨fk_X7_43, RX7, TX7, 22, rfl, t_818⟩
theorem t_819 : .fieldLink RX7 46 "MacroWikiModel" "sorts" "[I" ∈ gT := gT_of 860 (by decide +kernel) (by decide +kernel)
theorem fk_X7_46 : FLk RX7 46 7 14 (tyX7 14) true := ⟨RX7, TX7, 22, tyX7, rfl, by decide, inT_X7, tyX7_ok, nmX7, rfl, rfl, (fun _ => rfl), Or.inl t_819⟩
theorem f_X7_46 : FLr RX7 46 7 14 := fk_X7_46.r
theorem ff_X7_46 : FLf RX7 46 7 14 (tyX7 14) := ⟨fk_X7_46, RX7, TX7, 22, rfl, t_819⟩
theorem t_820 : .fieldLink RX7 49 "MacroWikiModel" "values" "[I" ∈ gT := gT_of 861 (by decide +kernel) (by decide +kernel)
theorem fk_X7_49 : FLk RX7 49 7 15 (tyX7 15) true := ⟨RX7, TX7, 22, tyX7, rfl, by decide, inT_X7, tyX7_ok, nmX7, rfl, rfl, (fun _ => rfl), Or.inl t_820⟩
theorem f_X7_49 : FLr RX7 49 7 15 := fk_X7_49.r
theorem ff_X7_49 : FLf RX7 49 7 15 (tyX7 15) := ⟨fk_X7_49, RX7, TX7, 22, rfl, t_820⟩
theorem t_821 : .fieldLink RX7 52 "MacroWikiModel" "sources" "[I" ∈ gT := gT_of 862 (by decide +kernel) (by decide +kernel)
theorem fk_X7_52 : FLk RX7 52 7 16 (tyX7 16) true := ⟨RX7, TX7, 22, tyX7, rfl, by decide, inT_X7, tyX7_ok, nmX7, rfl, rfl, (fun _ => rfl), Or.inl t_821⟩
theorem f_X7_52 : FLr RX7 52 7 16 := fk_X7_52.r
theorem ff_X7_52 : FLf RX7 52 7 16 (tyX7 16) := ⟨fk_X7_52, RX7, TX7, 22, rfl, t_821⟩
theorem t_822 : .fieldLink RX7 131 "MacroWikiModel" "shown" "I" ∈ gT := gT_of 863 (by decide +kernel) (by decide +kernel)
theorem fk_X7_131 : FLk RX7 131 7 17 (tyX7 17) false := ⟨RX7, TX7, 22, tyX7, rfl, by decide, inT_X7, tyX7_ok, nmX7, rfl, rfl, (fun h => nomatch h), Or.inl t_822⟩
theorem f_X7_131 : FLr RX7 131 7 17 := fk_X7_131.r
theorem t_823 : .fieldLink RX7 55 "MacroWikiModel" "pages" "[I" ∈ gT := gT_of 864 (by decide +kernel) (by decide +kernel)
theorem fk_X7_55 : FLk RX7 55 7 18 (tyX7 18) true := ⟨RX7, TX7, 22, tyX7, rfl, by decide, inT_X7, tyX7_ok, nmX7, rfl, rfl, (fun _ => rfl), Or.inl t_823⟩
theorem f_X7_55 : FLr RX7 55 7 18 := fk_X7_55.r
theorem ff_X7_55 : FLf RX7 55 7 18 (tyX7 18) := ⟨fk_X7_55, RX7, TX7, 22, rfl, t_823⟩
theorem t_824 : .fieldLink RX7 58 "MacroWikiModel" "places" "[I" ∈ gT := gT_of 865 (by decide +kernel) (by decide +kernel)
theorem fk_X7_58 : FLk RX7 58 7 19 (tyX7 19) true := ⟨RX7, TX7, 22, tyX7, rfl, by decide, inT_X7, tyX7_ok, nmX7, rfl, rfl, (fun _ => rfl), Or.inl t_824⟩
theorem f_X7_58 : FLr RX7 58 7 19 := fk_X7_58.r
theorem ff_X7_58 : FLf RX7 58 7 19 (tyX7 19) := ⟨fk_X7_58, RX7, TX7, 22, rfl, t_824⟩
theorem t_825 : .fieldLink RX7 61 "MacroWikiModel" "arguments" "[I" ∈ gT := gT_of 866 (by decide +kernel) (by decide +kernel)
theorem fk_X7_61 : FLk RX7 61 7 20 (tyX7 20) true := ⟨RX7, TX7, 22, tyX7, rfl, by decide, inT_X7, tyX7_ok, nmX7, rfl, rfl, (fun _ => rfl), Or.inl t_825⟩
theorem f_X7_61 : FLr RX7 61 7 20 := fk_X7_61.r
theorem ff_X7_61 : FLf RX7 61 7 20 (tyX7 20) := ⟨fk_X7_61, RX7, TX7, 22, rfl, t_825⟩
theorem t_826 : .fieldLink RX7 64 "MacroWikiModel" "last" "I" ∈ gT := gT_of 867 (by decide +kernel) (by decide +kernel)
theorem fk_X7_64 : FLk RX7 64 7 21 (tyX7 21) false := ⟨RX7, TX7, 22, tyX7, rfl, by decide, inT_X7, tyX7_ok, nmX7, rfl, rfl, (fun h => nomatch h), Or.inl t_826⟩
theorem f_X7_64 : FLr RX7 64 7 21 := fk_X7_64.r
theorem t_19 : .methodLink RL 112 yX6_init ∈ gT := gT_of 60 (by decide +kernel) (by decide +kernel)
theorem t_1 : .initialized RX6 ∈ gT := gT_of 42 (by decide +kernel) (by decide +kernel)
theorem t_21 : .code yX6_init cX6_init 2 none ∈ gT := gT_of 62 (by decide +kernel) (by decide +kernel)
theorem t_20 : .instanceMethod yX6_init ∈ gT := gT_of 61 (by decide +kernel) (by decide +kernel)
theorem lk_L_112 : LkI RL 112 yX6_init cX6_init 2 0 := ⟨Or.inl t_19, rfl, t_20, t_1, t_21, ⟨by decide +kernel, by decide +kernel, by decide +kernel⟩⟩
theorem t_22 : .methodLink RX6 3 objectInit ∈ gT := gT_of 63 (by decide +kernel) (by decide +kernel)
theorem t_23 : .instanceMethod objectInit ∈ gT := gT_of 64 (by decide +kernel) (by decide +kernel)
theorem t_24 : .code objectInit ⟨#[0xb1]⟩ 1 none ∈ gT := gT_of 65 (by decide +kernel) (by decide +kernel)
theorem lk_X6_3 : gObj RX6 3 := ⟨t_22, t_23, t_24⟩
theorem t_n27 : .methodLinkNest RX6 11 yX3_init "MacroWiki" ∈ gN := gN_of 27 (by decide +kernel) (by decide +kernel)
theorem t_2 : .initialized RX3 ∈ gT := gT_of 43 (by decide +kernel) (by decide +kernel)
theorem t_29 : .code yX3_init cX3_init 1 none ∈ gT := gT_of 70 (by decide +kernel) (by decide +kernel)
theorem t_28 : .instanceMethod yX3_init ∈ gT := gT_of 69 (by decide +kernel) (by decide +kernel)
theorem lk_X6_11 : LkI RX6 11 yX3_init cX3_init 1 0 := ⟨Or.inr ⟨_, t_n27⟩, rfl, t_28, t_2, t_29, ⟨by decide +kernel, by decide +kernel, by decide +kernel⟩⟩
theorem t_30 : .methodLink RX3 3 objectInit ∈ gT := gT_of 71 (by decide +kernel) (by decide +kernel)
theorem lk_X3_3 : gObj RX3 3 := ⟨t_30, t_23, t_24⟩
theorem t_n52 : .methodLinkNest RX6 22 yX0_init "MacroWiki" ∈ gN := gN_of 52 (by decide +kernel) (by decide +kernel)
theorem t_3 : .initialized RX0 ∈ gT := gT_of 44 (by decide +kernel) (by decide +kernel)
theorem t_54 : .code yX0_init cX0_init 1 none ∈ gT := gT_of 95 (by decide +kernel) (by decide +kernel)
theorem t_53 : .instanceMethod yX0_init ∈ gT := gT_of 94 (by decide +kernel) (by decide +kernel)
theorem lk_X6_22 : LkI RX6 22 yX0_init cX0_init 1 0 := ⟨Or.inr ⟨_, t_n52⟩, rfl, t_53, t_3, t_54, ⟨by decide +kernel, by decide +kernel, by decide +kernel⟩⟩
theorem t_55 : .methodLink RX0 3 objectInit ∈ gT := gT_of 96 (by decide +kernel) (by decide +kernel)
theorem lk_X0_3 : gObj RX0 3 := ⟨t_55, t_23, t_24⟩
theorem t_n75 : .methodLinkNest RX6 36 yX1_init "MacroWiki" ∈ gN := gN_of 75 (by decide +kernel) (by decide +kernel)
theorem t_4 : .initialized RX1 ∈ gT := gT_of 45 (by decide +kernel) (by decide +kernel)
theorem t_77 : .code yX1_init cX1_init 1 none ∈ gT := gT_of 118 (by decide +kernel) (by decide +kernel)
theorem t_76 : .instanceMethod yX1_init ∈ gT := gT_of 117 (by decide +kernel) (by decide +kernel)
theorem lk_X6_36 : LkI RX6 36 yX1_init cX1_init 1 0 := ⟨Or.inr ⟨_, t_n75⟩, rfl, t_76, t_4, t_77, ⟨by decide +kernel, by decide +kernel, by decide +kernel⟩⟩
theorem t_78 : .methodLink RX1 3 objectInit ∈ gT := gT_of 119 (by decide +kernel) (by decide +kernel)
theorem lk_X1_3 : gObj RX1 3 := ⟨t_78, t_23, t_24⟩
theorem t_n82 : .methodLinkNest RX1 13 yX3_init "MacroWiki" ∈ gN := gN_of 82 (by decide +kernel) (by decide +kernel)
theorem lk_X1_13 : LkI RX1 13 yX3_init cX3_init 1 0 := ⟨Or.inr ⟨_, t_n82⟩, rfl, t_28, t_2, t_29, ⟨by decide +kernel, by decide +kernel, by decide +kernel⟩⟩
theorem t_83 : .methodLink RX1 14 yX4_init ∈ gT := gT_of 124 (by decide +kernel) (by decide +kernel)
theorem t_5 : .initialized RX4 ∈ gT := gT_of 46 (by decide +kernel) (by decide +kernel)
theorem t_85 : .code yX4_init cX4_init 5 none ∈ gT := gT_of 126 (by decide +kernel) (by decide +kernel)
theorem t_84 : .instanceMethod yX4_init ∈ gT := gT_of 125 (by decide +kernel) (by decide +kernel)
theorem lk_X1_14 : LkI RX1 14 yX4_init cX4_init 5 4 := ⟨Or.inl t_83, rfl, t_84, t_5, t_85, ⟨by decide +kernel, by decide +kernel, by decide +kernel⟩⟩
theorem t_86 : .methodLink RX4 1 objectInit ∈ gT := gT_of 127 (by decide +kernel) (by decide +kernel)
theorem lk_X4_1 : gObj RX4 1 := ⟨t_86, t_23, t_24⟩
theorem t_n106 : .methodLinkNest RX1 29 yX2_init "MacroWiki" ∈ gN := gN_of 106 (by decide +kernel) (by decide +kernel)
theorem t_6 : .initialized RX2 ∈ gT := gT_of 47 (by decide +kernel) (by decide +kernel)
theorem t_108 : .code yX2_init cX2_init 1 none ∈ gT := gT_of 149 (by decide +kernel) (by decide +kernel)
theorem t_107 : .instanceMethod yX2_init ∈ gT := gT_of 148 (by decide +kernel) (by decide +kernel)
theorem lk_X1_29 : LkI RX1 29 yX2_init cX2_init 1 0 := ⟨Or.inr ⟨_, t_n106⟩, rfl, t_107, t_6, t_108, ⟨by decide +kernel, by decide +kernel, by decide +kernel⟩⟩
theorem t_109 : .methodLink RX2 3 objectInit ∈ gT := gT_of 150 (by decide +kernel) (by decide +kernel)
theorem lk_X2_3 : gObj RX2 3 := ⟨t_109, t_23, t_24⟩
theorem t_162 : .methodLink RL 215 yX6_breached ∈ gT := gT_of 203 (by decide +kernel) (by decide +kernel)
theorem t_165 : .code yX6_breached cX6_breached 3 (some .int) ∈ gT := gT_of 206 (by decide +kernel) (by decide +kernel)
theorem t_163 : .instanceMethod yX6_breached ∈ gT := gT_of 204 (by decide +kernel) (by decide +kernel)
theorem t_164 : .selects RX6 yX6_breached yX6_breached ∈ gT := gT_of 205 (by decide +kernel) (by decide +kernel)
theorem lk_L_215 : LkV RL 215 yX6_breached cX6_breached 3 (some .int) 0 := ⟨t_162, t_163, t_164, t_1, t_165, ⟨by decide +kernel, by decide +kernel, by decide +kernel⟩⟩
theorem t_166 : .methodLink RX6 67 yX6_pageAt ∈ gT := gT_of 207 (by decide +kernel) (by decide +kernel)
theorem t_169 : .code yX6_pageAt cX6_pageAt 3 (some (.object "MacroWiki$Page")) ∈ gT := gT_of 210 (by decide +kernel) (by decide +kernel)
theorem t_168 : .instanceMethod yX6_pageAt ∈ gT := gT_of 209 (by decide +kernel) (by decide +kernel)
theorem ts_0 : .selects RX6 yX6_pageAt yX6_pageAt ∈ gT := gT_of 0 (by decide +kernel) (by decide +kernel)
theorem lk_X6_67 : LkV RX6 67 yX6_pageAt cX6_pageAt 3 (some (.object "MacroWiki$Page")) 1 := ⟨t_166, t_168, ts_0, t_1, t_169, ⟨by decide +kernel, by decide +kernel, by decide +kernel⟩⟩
theorem t_239 : .methodLink RX6 185 yX6_countBreaches ∈ gT := gT_of 280 (by decide +kernel) (by decide +kernel)
theorem t_242 : .code yX6_countBreaches cX6_countBreaches 5 (some .int) ∈ gT := gT_of 283 (by decide +kernel) (by decide +kernel)
theorem t_241 : .instanceMethod yX6_countBreaches ∈ gT := gT_of 282 (by decide +kernel) (by decide +kernel)
theorem ts_2 : .selects RX6 yX6_countBreaches yX6_countBreaches ∈ gT := gT_of 2 (by decide +kernel) (by decide +kernel)
theorem lk_X6_185 : LkV RX6 185 yX6_countBreaches cX6_countBreaches 5 (some .int) 1 := ⟨t_239, t_241, ts_2, t_1, t_242, ⟨by decide +kernel, by decide +kernel, by decide +kernel⟩⟩
theorem t_243 : .methodLink RX6 316 yX2_shows ∈ gT := gT_of 284 (by decide +kernel) (by decide +kernel)
theorem t_246 : .code yX2_shows cX2_shows 4 (some .boolean) ∈ gT := gT_of 287 (by decide +kernel) (by decide +kernel)
theorem t_244 : .instanceMethod yX2_shows ∈ gT := gT_of 285 (by decide +kernel) (by decide +kernel)
theorem t_245 : .selects RX2 yX2_shows yX2_shows ∈ gT := gT_of 286 (by decide +kernel) (by decide +kernel)
theorem lk_X6_316 : LkV RX6 316 yX2_shows cX2_shows 4 (some .boolean) 2 := ⟨t_243, t_244, t_245, t_6, t_246, ⟨by decide +kernel, by decide +kernel, by decide +kernel⟩⟩
theorem t_n247 : .methodLinkNest RX2 46 yX6_at "MacroWiki" ∈ gN := gN_of 247 (by decide +kernel) (by decide +kernel)
theorem t_249 : .code yX6_at cX6_at 2 (some .int) ∈ gT := gT_of 290 (by decide +kernel) (by decide +kernel)
theorem t_248 : .static yX6_at ∈ gT := gT_of 289 (by decide +kernel) (by decide +kernel)
theorem lk_X2_46 : LkN RX2 46 yX6_at cX6_at 2 (some .int) 2 := ⟨⟨_, t_n247⟩, t_248, t_1, t_249, ⟨by decide +kernel, by decide +kernel, by decide +kernel⟩⟩
theorem t_250 : .methodLink RX6 165 yX2_sourceOf ∈ gT := gT_of 291 (by decide +kernel) (by decide +kernel)
theorem t_253 : .code yX2_sourceOf cX2_sourceOf 2 (some .int) ∈ gT := gT_of 294 (by decide +kernel) (by decide +kernel)
theorem t_251 : .instanceMethod yX2_sourceOf ∈ gT := gT_of 292 (by decide +kernel) (by decide +kernel)
theorem t_252 : .selects RX2 yX2_sourceOf yX2_sourceOf ∈ gT := gT_of 293 (by decide +kernel) (by decide +kernel)
theorem lk_X6_165 : LkV RX6 165 yX2_sourceOf cX2_sourceOf 2 (some .int) 1 := ⟨t_250, t_251, t_252, t_6, t_253, ⟨by decide +kernel, by decide +kernel, by decide +kernel⟩⟩
theorem t_254 : .methodLink RL 116 yL_letter ∈ gT := gT_of 295 (by decide +kernel) (by decide +kernel)
theorem t_0 : .initialized RL ∈ gT := gT_of 41 (by decide +kernel) (by decide +kernel)
theorem t_256 : .codeWith yL_letter cL_letter 4 (some .int) [(0, 9, 12, 13), (0, 9, 15, 15)] ∈ gT := gT_of 297 (by decide +kernel) (by decide +kernel)
theorem t_255 : .static yL_letter ∈ gT := gT_of 296 (by decide +kernel) (by decide +kernel)
theorem lk_L_116 : LkH RL 116 yL_letter cL_letter 4 (some .int) [(0, 9, 12, 13), (0, 9, 15, 15)] 3 := ⟨t_254, t_255, t_0, t_256, ⟨by decide +kernel, by decide +kernel, by decide +kernel⟩⟩
theorem t_259 : .methodLink RL 7 yX6_letter ∈ gT := gT_of 300 (by decide +kernel) (by decide +kernel)
theorem t_262 : .code yX6_letter cX6_letter 2 (some .int) ∈ gT := gT_of 303 (by decide +kernel) (by decide +kernel)
theorem t_260 : .instanceMethod yX6_letter ∈ gT := gT_of 301 (by decide +kernel) (by decide +kernel)
theorem t_261 : .selects RX6 yX6_letter yX6_letter ∈ gT := gT_of 302 (by decide +kernel) (by decide +kernel)
theorem lk_L_7 : LkV RL 7 yX6_letter cX6_letter 2 (some .int) 1 := ⟨t_259, t_260, t_261, t_1, t_262, ⟨by decide +kernel, by decide +kernel, by decide +kernel⟩⟩
theorem t_263 : .methodLink RX6 37 yX6_requireBelow ∈ gT := gT_of 304 (by decide +kernel) (by decide +kernel)
theorem t_265 : .code yX6_requireBelow cX6_requireBelow 2 none ∈ gT := gT_of 306 (by decide +kernel) (by decide +kernel)
theorem t_264 : .static yX6_requireBelow ∈ gT := gT_of 305 (by decide +kernel) (by decide +kernel)
theorem lk_X6_37 : LkS RX6 37 yX6_requireBelow cX6_requireBelow 2 none 2 := ⟨t_263, t_264, t_1, t_265, ⟨by decide +kernel, by decide +kernel, by decide +kernel⟩⟩
theorem t_282 : .methodLink RX6 41 yX6_addPiece ∈ gT := gT_of 323 (by decide +kernel) (by decide +kernel)
theorem t_285 : .code yX6_addPiece cX6_addPiece 4 (some .int) ∈ gT := gT_of 326 (by decide +kernel) (by decide +kernel)
theorem t_284 : .instanceMethod yX6_addPiece ∈ gT := gT_of 325 (by decide +kernel) (by decide +kernel)
theorem ts_3 : .selects RX6 yX6_addPiece yX6_addPiece ∈ gT := gT_of 3 (by decide +kernel) (by decide +kernel)
theorem lk_X6_41 : LkV RX6 41 yX6_addPiece cX6_addPiece 4 (some .int) 3 := ⟨t_282, t_284, ts_3, t_1, t_285, ⟨by decide +kernel, by decide +kernel, by decide +kernel⟩⟩
theorem t_302 : .methodLink RX6 211 yX3_add ∈ gT := gT_of 343 (by decide +kernel) (by decide +kernel)
theorem t_305 : .code yX3_add cX3_add 4 none ∈ gT := gT_of 346 (by decide +kernel) (by decide +kernel)
theorem t_303 : .instanceMethod yX3_add ∈ gT := gT_of 344 (by decide +kernel) (by decide +kernel)
theorem t_304 : .selects RX3 yX3_add yX3_add ∈ gT := gT_of 345 (by decide +kernel) (by decide +kernel)
theorem lk_X6_211 : LkV RX6 211 yX3_add cX3_add 4 none 3 := ⟨t_302, t_303, t_304, t_2, t_305, ⟨by decide +kernel, by decide +kernel, by decide +kernel⟩⟩
theorem t_n306 : .methodLinkNest RX3 28 yX6_put "MacroWiki" ∈ gN := gN_of 306 (by decide +kernel) (by decide +kernel)
theorem t_308 : .code yX6_put cX6_put 3 none ∈ gT := gT_of 349 (by decide +kernel) (by decide +kernel)
theorem t_307 : .static yX6_put ∈ gT := gT_of 348 (by decide +kernel) (by decide +kernel)
theorem lk_X3_28 : LkN RX3 28 yX6_put cX6_put 3 none 3 := ⟨⟨_, t_n306⟩, t_307, t_1, t_308, ⟨by decide +kernel, by decide +kernel, by decide +kernel⟩⟩
theorem t_309 : .methodLink RL 125 yL_argument ∈ gT := gT_of 350 (by decide +kernel) (by decide +kernel)
theorem t_311 : .codeWith yL_argument cL_argument 3 (some .int) [(0, 8, 11, 15)] ∈ gT := gT_of 352 (by decide +kernel) (by decide +kernel)
theorem t_310 : .static yL_argument ∈ gT := gT_of 351 (by decide +kernel) (by decide +kernel)
theorem lk_L_125 : LkH RL 125 yL_argument cL_argument 3 (some .int) [(0, 8, 11, 15)] 2 := ⟨t_309, t_310, t_0, t_311, ⟨by decide +kernel, by decide +kernel, by decide +kernel⟩⟩
theorem t_312 : .methodLink RL 17 yX6_argument ∈ gT := gT_of 353 (by decide +kernel) (by decide +kernel)
theorem t_315 : .code yX6_argument cX6_argument 1 (some .int) ∈ gT := gT_of 356 (by decide +kernel) (by decide +kernel)
theorem t_313 : .instanceMethod yX6_argument ∈ gT := gT_of 354 (by decide +kernel) (by decide +kernel)
theorem t_314 : .selects RX6 yX6_argument yX6_argument ∈ gT := gT_of 355 (by decide +kernel) (by decide +kernel)
theorem lk_L_17 : LkV RL 17 yX6_argument cX6_argument 1 (some .int) 0 := ⟨t_312, t_313, t_314, t_1, t_315, ⟨by decide +kernel, by decide +kernel, by decide +kernel⟩⟩
theorem t_316 : .methodLink RL 129 yL_call ∈ gT := gT_of 357 (by decide +kernel) (by decide +kernel)
theorem t_318 : .codeWith yL_call cL_call 5 (some .int) [(0, 10, 13, 25), (0, 10, 17, 13), (0, 10, 21, 15)] ∈ gT := gT_of 359 (by decide +kernel) (by decide +kernel)
theorem t_317 : .static yL_call ∈ gT := gT_of 358 (by decide +kernel) (by decide +kernel)
theorem lk_L_129 : LkH RL 129 yL_call cL_call 5 (some .int) [(0, 10, 13, 25), (0, 10, 17, 13), (0, 10, 21, 15)] 4 := ⟨t_316, t_317, t_0, t_318, ⟨by decide +kernel, by decide +kernel, by decide +kernel⟩⟩
theorem t_320 : .methodLink RL 21 yX6_call ∈ gT := gT_of 361 (by decide +kernel) (by decide +kernel)
theorem t_323 : .code yX6_call cX6_call 3 (some .int) ∈ gT := gT_of 364 (by decide +kernel) (by decide +kernel)
theorem t_321 : .instanceMethod yX6_call ∈ gT := gT_of 362 (by decide +kernel) (by decide +kernel)
theorem t_322 : .selects RX6 yX6_call yX6_call ∈ gT := gT_of 363 (by decide +kernel) (by decide +kernel)
theorem lk_L_21 : LkV RL 21 yX6_call cX6_call 3 (some .int) 2 := ⟨t_320, t_321, t_322, t_1, t_323, ⟨by decide +kernel, by decide +kernel, by decide +kernel⟩⟩
theorem t_324 : .methodLink RX6 45 yX6_requirePage ∈ gT := gT_of 365 (by decide +kernel) (by decide +kernel)
theorem t_326 : .code yX6_requirePage cX6_requirePage 1 none ∈ gT := gT_of 367 (by decide +kernel) (by decide +kernel)
theorem t_325 : .static yX6_requirePage ∈ gT := gT_of 366 (by decide +kernel) (by decide +kernel)
theorem lk_X6_45 : LkS RX6 45 yX6_requirePage cX6_requirePage 1 none 1 := ⟨t_324, t_325, t_1, t_326, ⟨by decide +kernel, by decide +kernel, by decide +kernel⟩⟩
theorem t_327 : .methodLink RX6 49 yX6_requireArgument ∈ gT := gT_of 368 (by decide +kernel) (by decide +kernel)
theorem t_329 : .code yX6_requireArgument cX6_requireArgument 1 none ∈ gT := gT_of 370 (by decide +kernel) (by decide +kernel)
theorem t_328 : .static yX6_requireArgument ∈ gT := gT_of 369 (by decide +kernel) (by decide +kernel)
theorem lk_X6_49 : LkS RX6 49 yX6_requireArgument cX6_requireArgument 1 none 1 := ⟨t_327, t_328, t_1, t_329, ⟨by decide +kernel, by decide +kernel, by decide +kernel⟩⟩
theorem t_330 : .methodLink RL 133 yL_callOn ∈ gT := gT_of 371 (by decide +kernel) (by decide +kernel)
theorem t_332 : .codeWith yL_callOn cL_callOn 4 (some .int) [(0, 9, 12, 25), (0, 9, 15, 15)] ∈ gT := gT_of 373 (by decide +kernel) (by decide +kernel)
theorem t_331 : .static yL_callOn ∈ gT := gT_of 372 (by decide +kernel) (by decide +kernel)
theorem lk_L_133 : LkH RL 133 yL_callOn cL_callOn 4 (some .int) [(0, 9, 12, 25), (0, 9, 15, 15)] 3 := ⟨t_330, t_331, t_0, t_332, ⟨by decide +kernel, by decide +kernel, by decide +kernel⟩⟩
theorem t_333 : .methodLink RL 27 yX6_callOn ∈ gT := gT_of 374 (by decide +kernel) (by decide +kernel)
theorem t_336 : .code yX6_callOn cX6_callOn 2 (some .int) ∈ gT := gT_of 377 (by decide +kernel) (by decide +kernel)
theorem t_334 : .instanceMethod yX6_callOn ∈ gT := gT_of 375 (by decide +kernel) (by decide +kernel)
theorem t_335 : .selects RX6 yX6_callOn yX6_callOn ∈ gT := gT_of 376 (by decide +kernel) (by decide +kernel)
theorem lk_L_27 : LkV RL 27 yX6_callOn cX6_callOn 2 (some .int) 1 := ⟨t_333, t_334, t_335, t_1, t_336, ⟨by decide +kernel, by decide +kernel, by decide +kernel⟩⟩
theorem t_337 : .methodLink RL 136 yL_when ∈ gT := gT_of 378 (by decide +kernel) (by decide +kernel)
theorem t_339 : .codeWith yL_when cL_when 4 (some .int) [(0, 9, 12, 13), (0, 9, 15, 15)] ∈ gT := gT_of 380 (by decide +kernel) (by decide +kernel)
theorem t_338 : .static yL_when ∈ gT := gT_of 379 (by decide +kernel) (by decide +kernel)
theorem lk_L_136 : LkH RL 136 yL_when cL_when 4 (some .int) [(0, 9, 12, 13), (0, 9, 15, 15)] 3 := ⟨t_337, t_338, t_0, t_339, ⟨by decide +kernel, by decide +kernel, by decide +kernel⟩⟩
theorem t_340 : .methodLink RL 30 yX6_when ∈ gT := gT_of 381 (by decide +kernel) (by decide +kernel)
theorem t_343 : .code yX6_when cX6_when 2 (some .int) ∈ gT := gT_of 384 (by decide +kernel) (by decide +kernel)
theorem t_341 : .instanceMethod yX6_when ∈ gT := gT_of 382 (by decide +kernel) (by decide +kernel)
theorem t_342 : .selects RX6 yX6_when yX6_when ∈ gT := gT_of 383 (by decide +kernel) (by decide +kernel)
theorem lk_L_30 : LkV RL 30 yX6_when cX6_when 2 (some .int) 1 := ⟨t_340, t_341, t_342, t_1, t_343, ⟨by decide +kernel, by decide +kernel, by decide +kernel⟩⟩
theorem t_344 : .methodLink RL 139 yL_end ∈ gT := gT_of 385 (by decide +kernel) (by decide +kernel)
theorem t_346 : .codeWith yL_end cL_end 3 (some .int) [(0, 8, 11, 15)] ∈ gT := gT_of 387 (by decide +kernel) (by decide +kernel)
theorem t_345 : .static yL_end ∈ gT := gT_of 386 (by decide +kernel) (by decide +kernel)
theorem lk_L_139 : LkH RL 139 yL_end cL_end 3 (some .int) [(0, 8, 11, 15)] 2 := ⟨t_344, t_345, t_0, t_346, ⟨by decide +kernel, by decide +kernel, by decide +kernel⟩⟩
theorem t_347 : .methodLink RL 33 yX6_end ∈ gT := gT_of 388 (by decide +kernel) (by decide +kernel)
theorem t_350 : .code yX6_end cX6_end 1 (some .int) ∈ gT := gT_of 391 (by decide +kernel) (by decide +kernel)
theorem t_348 : .instanceMethod yX6_end ∈ gT := gT_of 389 (by decide +kernel) (by decide +kernel)
theorem t_349 : .selects RX6 yX6_end yX6_end ∈ gT := gT_of 390 (by decide +kernel) (by decide +kernel)
theorem lk_L_33 : LkV RL 33 yX6_end cX6_end 1 (some .int) 0 := ⟨t_347, t_348, t_349, t_1, t_350, ⟨by decide +kernel, by decide +kernel, by decide +kernel⟩⟩
theorem t_351 : .methodLink RX6 52 yX3_hasOpenWhen ∈ gT := gT_of 392 (by decide +kernel) (by decide +kernel)
theorem t_354 : .code yX3_hasOpenWhen cX3_hasOpenWhen 1 (some .boolean) ∈ gT := gT_of 395 (by decide +kernel) (by decide +kernel)
theorem t_352 : .instanceMethod yX3_hasOpenWhen ∈ gT := gT_of 393 (by decide +kernel) (by decide +kernel)
theorem t_353 : .selects RX3 yX3_hasOpenWhen yX3_hasOpenWhen ∈ gT := gT_of 394 (by decide +kernel) (by decide +kernel)
theorem lk_X6_52 : LkV RX6 52 yX3_hasOpenWhen cX3_hasOpenWhen 1 (some .boolean) 0 := ⟨t_351, t_352, t_353, t_2, t_354, ⟨by decide +kernel, by decide +kernel, by decide +kernel⟩⟩
theorem t_356 : .methodLink RL 142 yL_anchor ∈ gT := gT_of 397 (by decide +kernel) (by decide +kernel)
theorem t_358 : .codeWith yL_anchor cL_anchor 4 (some .int) [(0, 9, 12, 13), (0, 9, 15, 15)] ∈ gT := gT_of 399 (by decide +kernel) (by decide +kernel)
theorem t_357 : .static yL_anchor ∈ gT := gT_of 398 (by decide +kernel) (by decide +kernel)
theorem lk_L_142 : LkH RL 142 yL_anchor cL_anchor 4 (some .int) [(0, 9, 12, 13), (0, 9, 15, 15)] 3 := ⟨t_356, t_357, t_0, t_358, ⟨by decide +kernel, by decide +kernel, by decide +kernel⟩⟩
theorem t_359 : .methodLink RL 36 yX6_anchor ∈ gT := gT_of 400 (by decide +kernel) (by decide +kernel)
theorem t_362 : .code yX6_anchor cX6_anchor 2 (some .int) ∈ gT := gT_of 403 (by decide +kernel) (by decide +kernel)
theorem t_360 : .instanceMethod yX6_anchor ∈ gT := gT_of 401 (by decide +kernel) (by decide +kernel)
theorem t_361 : .selects RX6 yX6_anchor yX6_anchor ∈ gT := gT_of 402 (by decide +kernel) (by decide +kernel)
theorem lk_L_36 : LkV RL 36 yX6_anchor cX6_anchor 2 (some .int) 1 := ⟨t_359, t_360, t_361, t_1, t_362, ⟨by decide +kernel, by decide +kernel, by decide +kernel⟩⟩
theorem t_363 : .methodLink RL 145 yL_link ∈ gT := gT_of 404 (by decide +kernel) (by decide +kernel)
theorem t_365 : .codeWith yL_link cL_link 5 (some .int) [(0, 10, 13, 25), (0, 10, 17, 13), (0, 10, 21, 15)] ∈ gT := gT_of 406 (by decide +kernel) (by decide +kernel)
theorem t_364 : .static yL_link ∈ gT := gT_of 405 (by decide +kernel) (by decide +kernel)
theorem lk_L_145 : LkH RL 145 yL_link cL_link 5 (some .int) [(0, 10, 13, 25), (0, 10, 17, 13), (0, 10, 21, 15)] 4 := ⟨t_363, t_364, t_0, t_365, ⟨by decide +kernel, by decide +kernel, by decide +kernel⟩⟩
theorem t_366 : .methodLink RL 39 yX6_link ∈ gT := gT_of 407 (by decide +kernel) (by decide +kernel)
theorem t_369 : .code yX6_link cX6_link 3 (some .int) ∈ gT := gT_of 410 (by decide +kernel) (by decide +kernel)
theorem t_367 : .instanceMethod yX6_link ∈ gT := gT_of 408 (by decide +kernel) (by decide +kernel)
theorem t_368 : .selects RX6 yX6_link yX6_link ∈ gT := gT_of 409 (by decide +kernel) (by decide +kernel)
theorem lk_L_39 : LkV RL 39 yX6_link cX6_link 3 (some .int) 2 := ⟨t_366, t_367, t_368, t_1, t_369, ⟨by decide +kernel, by decide +kernel, by decide +kernel⟩⟩
theorem t_370 : .methodLink RL 148 yL_redirect ∈ gT := gT_of 411 (by decide +kernel) (by decide +kernel)
theorem t_372 : .codeWith yL_redirect cL_redirect 4 (some .int) [(0, 9, 12, 25), (0, 9, 15, 15)] ∈ gT := gT_of 413 (by decide +kernel) (by decide +kernel)
theorem t_371 : .static yL_redirect ∈ gT := gT_of 412 (by decide +kernel) (by decide +kernel)
theorem lk_L_148 : LkH RL 148 yL_redirect cL_redirect 4 (some .int) [(0, 9, 12, 25), (0, 9, 15, 15)] 3 := ⟨t_370, t_371, t_0, t_372, ⟨by decide +kernel, by decide +kernel, by decide +kernel⟩⟩
theorem t_373 : .methodLink RL 42 yX6_redirect ∈ gT := gT_of 414 (by decide +kernel) (by decide +kernel)
theorem t_376 : .code yX6_redirect cX6_redirect 2 (some .int) ∈ gT := gT_of 417 (by decide +kernel) (by decide +kernel)
theorem t_374 : .instanceMethod yX6_redirect ∈ gT := gT_of 415 (by decide +kernel) (by decide +kernel)
theorem t_375 : .selects RX6 yX6_redirect yX6_redirect ∈ gT := gT_of 416 (by decide +kernel) (by decide +kernel)
theorem lk_L_42 : LkV RL 42 yX6_redirect cX6_redirect 2 (some .int) 1 := ⟨t_373, t_374, t_375, t_1, t_376, ⟨by decide +kernel, by decide +kernel, by decide +kernel⟩⟩
theorem t_377 : .methodLink RL 151 yL_edit ∈ gT := gT_of 418 (by decide +kernel) (by decide +kernel)
theorem t_379 : .codeWith yL_edit cL_edit 5 (some .int) [(0, 10, 13, 25), (0, 10, 17, 15)] ∈ gT := gT_of 420 (by decide +kernel) (by decide +kernel)
theorem t_378 : .static yL_edit ∈ gT := gT_of 419 (by decide +kernel) (by decide +kernel)
theorem lk_L_151 : LkH RL 151 yL_edit cL_edit 5 (some .int) [(0, 10, 13, 25), (0, 10, 17, 15)] 4 := ⟨t_377, t_378, t_0, t_379, ⟨by decide +kernel, by decide +kernel, by decide +kernel⟩⟩
theorem t_380 : .methodLink RL 45 yX6_edit ∈ gT := gT_of 421 (by decide +kernel) (by decide +kernel)
theorem t_383 : .code yX6_edit cX6_edit 7 (some .int) ∈ gT := gT_of 424 (by decide +kernel) (by decide +kernel)
theorem t_381 : .instanceMethod yX6_edit ∈ gT := gT_of 422 (by decide +kernel) (by decide +kernel)
theorem t_382 : .selects RX6 yX6_edit yX6_edit ∈ gT := gT_of 423 (by decide +kernel) (by decide +kernel)
theorem lk_L_45 : LkV RL 45 yX6_edit cX6_edit 7 (some .int) 2 := ⟨t_380, t_381, t_382, t_1, t_383, ⟨by decide +kernel, by decide +kernel, by decide +kernel⟩⟩
theorem t_384 : .methodLink RX6 63 yX6_rankOfUser ∈ gT := gT_of 425 (by decide +kernel) (by decide +kernel)
theorem t_387 : .code yX6_rankOfUser cX6_rankOfUser 2 (some .int) ∈ gT := gT_of 428 (by decide +kernel) (by decide +kernel)
theorem t_386 : .instanceMethod yX6_rankOfUser ∈ gT := gT_of 427 (by decide +kernel) (by decide +kernel)
theorem ts_4 : .selects RX6 yX6_rankOfUser yX6_rankOfUser ∈ gT := gT_of 4 (by decide +kernel) (by decide +kernel)
theorem lk_X6_63 : LkV RX6 63 yX6_rankOfUser cX6_rankOfUser 2 (some .int) 1 := ⟨t_384, t_386, ts_4, t_1, t_387, ⟨by decide +kernel, by decide +kernel, by decide +kernel⟩⟩
theorem t_389 : .methodLink RX6 201 yX6_at ∈ gT := gT_of 430 (by decide +kernel) (by decide +kernel)
theorem lk_X6_201 : LkS RX6 201 yX6_at cX6_at 2 (some .int) 2 := ⟨t_389, t_248, t_1, t_249, ⟨by decide +kernel, by decide +kernel, by decide +kernel⟩⟩
theorem t_392 : .methodLink RX6 85 yX6_forceOn ∈ gT := gT_of 433 (by decide +kernel) (by decide +kernel)
theorem t_395 : .code yX6_forceOn cX6_forceOn 4 (some .int) ∈ gT := gT_of 436 (by decide +kernel) (by decide +kernel)
theorem t_394 : .instanceMethod yX6_forceOn ∈ gT := gT_of 435 (by decide +kernel) (by decide +kernel)
theorem ts_5 : .selects RX6 yX6_forceOn yX6_forceOn ∈ gT := gT_of 5 (by decide +kernel) (by decide +kernel)
theorem lk_X6_85 : LkV RX6 85 yX6_forceOn cX6_forceOn 4 (some .int) 1 := ⟨t_392, t_394, ts_5, t_1, t_395, ⟨by decide +kernel, by decide +kernel, by decide +kernel⟩⟩
theorem t_396 : .methodLink RX6 123 yX0_reachedFrom ∈ gT := gT_of 437 (by decide +kernel) (by decide +kernel)
theorem t_399 : .code yX0_reachedFrom cX0_reachedFrom 2 (some .int) ∈ gT := gT_of 440 (by decide +kernel) (by decide +kernel)
theorem t_397 : .instanceMethod yX0_reachedFrom ∈ gT := gT_of 438 (by decide +kernel) (by decide +kernel)
theorem t_398 : .selects RX0 yX0_reachedFrom yX0_reachedFrom ∈ gT := gT_of 439 (by decide +kernel) (by decide +kernel)
theorem lk_X6_123 : LkV RX6 123 yX0_reachedFrom cX0_reachedFrom 2 (some .int) 1 := ⟨t_396, t_397, t_398, t_3, t_399, ⟨by decide +kernel, by decide +kernel, by decide +kernel⟩⟩
theorem t_n400 : .methodLinkNest RX0 27 yX6_at "MacroWiki" ∈ gN := gN_of 400 (by decide +kernel) (by decide +kernel)
theorem lk_X0_27 : LkN RX0 27 yX6_at cX6_at 2 (some .int) 2 := ⟨⟨_, t_n400⟩, t_248, t_1, t_249, ⟨by decide +kernel, by decide +kernel, by decide +kernel⟩⟩
theorem t_401 : .methodLink RX6 226 yX6_contains ∈ gT := gT_of 442 (by decide +kernel) (by decide +kernel)
theorem t_403 : .code yX6_contains cX6_contains 2 (some .boolean) ∈ gT := gT_of 444 (by decide +kernel) (by decide +kernel)
theorem t_402 : .static yX6_contains ∈ gT := gT_of 443 (by decide +kernel) (by decide +kernel)
theorem lk_X6_226 : LkS RX6 226 yX6_contains cX6_contains 2 (some .boolean) 2 := ⟨t_401, t_402, t_1, t_403, ⟨by decide +kernel, by decide +kernel, by decide +kernel⟩⟩
theorem t_404 : .methodLink RX6 251 Lib.Math.max.name ∈ gT := gT_of 445 (by decide +kernel) (by decide +kernel)
theorem t_405 : .static Lib.Math.max.name ∈ gT := gT_of 446 (by decide +kernel) (by decide +kernel)
theorem t_14 : .initialized "java/lang/Math" ∈ gT := gT_of 55 (by decide +kernel) (by decide +kernel)
theorem t_406 : .code Lib.Math.max.name Lib.Math.max.code 2 (some .int) ∈ gT := gT_of 447 (by decide +kernel) (by decide +kernel)
theorem lk_X6_251 : gMM RX6 251 Lib.Math.max.name Lib.Math.max.code := ⟨t_404, t_405, t_14, t_406⟩
theorem t_407 : .methodLink RX6 88 yX6_refusalOf ∈ gT := gT_of 448 (by decide +kernel) (by decide +kernel)
theorem t_410 : .code yX6_refusalOf cX6_refusalOf 4 (some .int) ∈ gT := gT_of 451 (by decide +kernel) (by decide +kernel)
theorem t_409 : .instanceMethod yX6_refusalOf ∈ gT := gT_of 450 (by decide +kernel) (by decide +kernel)
theorem ts_6 : .selects RX6 yX6_refusalOf yX6_refusalOf ∈ gT := gT_of 6 (by decide +kernel) (by decide +kernel)
theorem lk_X6_88 : LkV RX6 88 yX6_refusalOf cX6_refusalOf 4 (some .int) 2 := ⟨t_407, t_409, ts_6, t_1, t_410, ⟨by decide +kernel, by decide +kernel, by decide +kernel⟩⟩
theorem t_411 : .methodLink RX6 215 yX0_takeCalls ∈ gT := gT_of 452 (by decide +kernel) (by decide +kernel)
theorem t_414 : .code yX0_takeCalls cX0_takeCalls 3 none ∈ gT := gT_of 455 (by decide +kernel) (by decide +kernel)
theorem t_412 : .instanceMethod yX0_takeCalls ∈ gT := gT_of 453 (by decide +kernel) (by decide +kernel)
theorem t_413 : .selects RX0 yX0_takeCalls yX0_takeCalls ∈ gT := gT_of 454 (by decide +kernel) (by decide +kernel)
theorem lk_X6_215 : LkV RX6 215 yX0_takeCalls cX0_takeCalls 3 none 1 := ⟨t_411, t_412, t_413, t_3, t_414, ⟨by decide +kernel, by decide +kernel, by decide +kernel⟩⟩
theorem t_n415 : .methodLinkNest RX0 31 yX6_put "MacroWiki" ∈ gN := gN_of 415 (by decide +kernel) (by decide +kernel)
theorem lk_X0_31 : LkN RX0 31 yX6_put cX6_put 3 none 3 := ⟨⟨_, t_n415⟩, t_307, t_1, t_308, ⟨by decide +kernel, by decide +kernel, by decide +kernel⟩⟩
theorem t_416 : .methodLink RX6 219 yX0_setCalls ∈ gT := gT_of 457 (by decide +kernel) (by decide +kernel)
theorem t_419 : .code yX0_setCalls cX0_setCalls 6 none ∈ gT := gT_of 460 (by decide +kernel) (by decide +kernel)
theorem t_417 : .instanceMethod yX0_setCalls ∈ gT := gT_of 458 (by decide +kernel) (by decide +kernel)
theorem t_418 : .selects RX0 yX0_setCalls yX0_setCalls ∈ gT := gT_of 459 (by decide +kernel) (by decide +kernel)
theorem lk_X6_219 : LkV RX6 219 yX0_setCalls cX0_setCalls 6 none 2 := ⟨t_416, t_417, t_418, t_3, t_419, ⟨by decide +kernel, by decide +kernel, by decide +kernel⟩⟩
theorem t_420 : .methodLink RX0 41 yX3_sortOf ∈ gT := gT_of 461 (by decide +kernel) (by decide +kernel)
theorem t_423 : .code yX3_sortOf cX3_sortOf 2 (some .int) ∈ gT := gT_of 464 (by decide +kernel) (by decide +kernel)
theorem t_421 : .instanceMethod yX3_sortOf ∈ gT := gT_of 462 (by decide +kernel) (by decide +kernel)
theorem t_422 : .selects RX3 yX3_sortOf yX3_sortOf ∈ gT := gT_of 463 (by decide +kernel) (by decide +kernel)
theorem lk_X0_41 : LkV RX0 41 yX3_sortOf cX3_sortOf 2 (some .int) 1 := ⟨t_420, t_421, t_422, t_2, t_423, ⟨by decide +kernel, by decide +kernel, by decide +kernel⟩⟩
theorem t_n424 : .methodLinkNest RX3 46 yX6_at "MacroWiki" ∈ gN := gN_of 424 (by decide +kernel) (by decide +kernel)
theorem lk_X3_46 : LkN RX3 46 yX6_at cX6_at 2 (some .int) 2 := ⟨⟨_, t_n424⟩, t_248, t_1, t_249, ⟨by decide +kernel, by decide +kernel, by decide +kernel⟩⟩
theorem t_425 : .methodLink RX0 45 yX3_pageOf ∈ gT := gT_of 466 (by decide +kernel) (by decide +kernel)
theorem t_428 : .code yX3_pageOf cX3_pageOf 2 (some .int) ∈ gT := gT_of 469 (by decide +kernel) (by decide +kernel)
theorem t_426 : .instanceMethod yX3_pageOf ∈ gT := gT_of 467 (by decide +kernel) (by decide +kernel)
theorem t_427 : .selects RX3 yX3_pageOf yX3_pageOf ∈ gT := gT_of 468 (by decide +kernel) (by decide +kernel)
theorem lk_X0_45 : LkV RX0 45 yX3_pageOf cX3_pageOf 2 (some .int) 1 := ⟨t_425, t_426, t_427, t_2, t_428, ⟨by decide +kernel, by decide +kernel, by decide +kernel⟩⟩
theorem t_429 : .methodLink RX0 48 yX0_callsOf ∈ gT := gT_of 470 (by decide +kernel) (by decide +kernel)
theorem t_432 : .code yX0_callsOf cX0_callsOf 3 (some .int) ∈ gT := gT_of 473 (by decide +kernel) (by decide +kernel)
theorem t_431 : .instanceMethod yX0_callsOf ∈ gT := gT_of 472 (by decide +kernel) (by decide +kernel)
theorem ts_7 : .selects RX0 yX0_callsOf yX0_callsOf ∈ gT := gT_of 7 (by decide +kernel) (by decide +kernel)
theorem lk_X0_48 : LkV RX0 48 yX0_callsOf cX0_callsOf 3 (some .int) 2 := ⟨t_429, t_431, ts_7, t_3, t_432, ⟨by decide +kernel, by decide +kernel, by decide +kernel⟩⟩
theorem t_433 : .methodLink RX6 223 yX0_findReached ∈ gT := gT_of 474 (by decide +kernel) (by decide +kernel)
theorem t_436 : .code yX0_findReached cX0_findReached 4 none ∈ gT := gT_of 477 (by decide +kernel) (by decide +kernel)
theorem t_434 : .instanceMethod yX0_findReached ∈ gT := gT_of 475 (by decide +kernel) (by decide +kernel)
theorem t_435 : .selects RX0 yX0_findReached yX0_findReached ∈ gT := gT_of 476 (by decide +kernel) (by decide +kernel)
theorem lk_X6_223 : LkV RX6 223 yX0_findReached cX0_findReached 4 none 0 := ⟨t_433, t_434, t_435, t_3, t_436, ⟨by decide +kernel, by decide +kernel, by decide +kernel⟩⟩
theorem t_437 : .methodLink RX0 52 yX0_reachedFrom ∈ gT := gT_of 478 (by decide +kernel) (by decide +kernel)
theorem lk_X0_52 : LkV RX0 52 yX0_reachedFrom cX0_reachedFrom 2 (some .int) 1 := ⟨t_437, t_397, t_398, t_3, t_399, ⟨by decide +kernel, by decide +kernel, by decide +kernel⟩⟩
theorem t_n438 : .methodLinkNest RX0 55 yX6_contains "MacroWiki" ∈ gN := gN_of 438 (by decide +kernel) (by decide +kernel)
theorem lk_X0_55 : LkN RX0 55 yX6_contains cX6_contains 2 (some .boolean) 2 := ⟨⟨_, t_n438⟩, t_402, t_1, t_403, ⟨by decide +kernel, by decide +kernel, by decide +kernel⟩⟩
theorem t_439 : .methodLink RX6 229 yX0_findDepths ∈ gT := gT_of 480 (by decide +kernel) (by decide +kernel)
theorem t_442 : .code yX0_findDepths cX0_findDepths 3 none ∈ gT := gT_of 483 (by decide +kernel) (by decide +kernel)
theorem t_440 : .instanceMethod yX0_findDepths ∈ gT := gT_of 481 (by decide +kernel) (by decide +kernel)
theorem t_441 : .selects RX0 yX0_findDepths yX0_findDepths ∈ gT := gT_of 482 (by decide +kernel) (by decide +kernel)
theorem lk_X6_229 : LkV RX6 229 yX0_findDepths cX0_findDepths 3 none 0 := ⟨t_439, t_440, t_441, t_3, t_442, ⟨by decide +kernel, by decide +kernel, by decide +kernel⟩⟩
theorem t_443 : .methodLink RX0 59 yX0_depthOverCalled ∈ gT := gT_of 484 (by decide +kernel) (by decide +kernel)
theorem t_446 : .code yX0_depthOverCalled cX0_depthOverCalled 4 (some .int) ∈ gT := gT_of 487 (by decide +kernel) (by decide +kernel)
theorem t_445 : .instanceMethod yX0_depthOverCalled ∈ gT := gT_of 486 (by decide +kernel) (by decide +kernel)
theorem ts_8 : .selects RX0 yX0_depthOverCalled yX0_depthOverCalled ∈ gT := gT_of 8 (by decide +kernel) (by decide +kernel)
theorem lk_X0_59 : LkV RX0 59 yX0_depthOverCalled cX0_depthOverCalled 4 (some .int) 1 := ⟨t_443, t_445, ts_8, t_3, t_446, ⟨by decide +kernel, by decide +kernel, by decide +kernel⟩⟩
theorem t_447 : .methodLink RX0 62 yX0_depthOf ∈ gT := gT_of 488 (by decide +kernel) (by decide +kernel)
theorem t_450 : .code yX0_depthOf cX0_depthOf 2 (some .int) ∈ gT := gT_of 491 (by decide +kernel) (by decide +kernel)
theorem t_448 : .instanceMethod yX0_depthOf ∈ gT := gT_of 489 (by decide +kernel) (by decide +kernel)
theorem t_449 : .selects RX0 yX0_depthOf yX0_depthOf ∈ gT := gT_of 490 (by decide +kernel) (by decide +kernel)
theorem lk_X0_62 : LkV RX0 62 yX0_depthOf cX0_depthOf 2 (some .int) 1 := ⟨t_447, t_448, t_449, t_3, t_450, ⟨by decide +kernel, by decide +kernel, by decide +kernel⟩⟩
theorem t_451 : .methodLink RX0 65 Lib.Math.max.name ∈ gT := gT_of 492 (by decide +kernel) (by decide +kernel)
theorem lk_X0_65 : gMM RX0 65 Lib.Math.max.name Lib.Math.max.code := ⟨t_451, t_405, t_14, t_406⟩
theorem t_452 : .methodLink RX6 232 yX0_greatestDepth ∈ gT := gT_of 493 (by decide +kernel) (by decide +kernel)
theorem t_455 : .code yX0_greatestDepth cX0_greatestDepth 1 (some .int) ∈ gT := gT_of 496 (by decide +kernel) (by decide +kernel)
theorem t_453 : .instanceMethod yX0_greatestDepth ∈ gT := gT_of 494 (by decide +kernel) (by decide +kernel)
theorem t_454 : .selects RX0 yX0_greatestDepth yX0_greatestDepth ∈ gT := gT_of 495 (by decide +kernel) (by decide +kernel)
theorem lk_X6_232 : LkV RX6 232 yX0_greatestDepth cX0_greatestDepth 1 (some .int) 0 := ⟨t_452, t_453, t_454, t_3, t_455, ⟨by decide +kernel, by decide +kernel, by decide +kernel⟩⟩
theorem t_n456 : .methodLinkNest RX0 79 yX6_greatest "MacroWiki" ∈ gN := gN_of 456 (by decide +kernel) (by decide +kernel)
theorem t_458 : .code yX6_greatest cX6_greatest 3 (some .int) ∈ gT := gT_of 499 (by decide +kernel) (by decide +kernel)
theorem t_457 : .static yX6_greatest ∈ gT := gT_of 498 (by decide +kernel) (by decide +kernel)
theorem lk_X0_79 : LkN RX0 79 yX6_greatest cX6_greatest 3 (some .int) 1 := ⟨⟨_, t_n456⟩, t_457, t_1, t_458, ⟨by decide +kernel, by decide +kernel, by decide +kernel⟩⟩
theorem t_459 : .methodLink RX6 236 yX0_findExtents ∈ gT := gT_of 500 (by decide +kernel) (by decide +kernel)
theorem t_462 : .code yX0_findExtents cX0_findExtents 3 none ∈ gT := gT_of 503 (by decide +kernel) (by decide +kernel)
theorem t_460 : .instanceMethod yX0_findExtents ∈ gT := gT_of 501 (by decide +kernel) (by decide +kernel)
theorem t_461 : .selects RX0 yX0_findExtents yX0_findExtents ∈ gT := gT_of 502 (by decide +kernel) (by decide +kernel)
theorem lk_X6_236 : LkV RX6 236 yX0_findExtents cX0_findExtents 3 none 0 := ⟨t_459, t_460, t_461, t_3, t_462, ⟨by decide +kernel, by decide +kernel, by decide +kernel⟩⟩
theorem t_463 : .methodLink RX0 70 yX0_extentOverCalled ∈ gT := gT_of 504 (by decide +kernel) (by decide +kernel)
theorem t_466 : .code yX0_extentOverCalled cX0_extentOverCalled 4 (some .int) ∈ gT := gT_of 507 (by decide +kernel) (by decide +kernel)
theorem t_465 : .instanceMethod yX0_extentOverCalled ∈ gT := gT_of 506 (by decide +kernel) (by decide +kernel)
theorem ts_9 : .selects RX0 yX0_extentOverCalled yX0_extentOverCalled ∈ gT := gT_of 9 (by decide +kernel) (by decide +kernel)
theorem lk_X0_70 : LkV RX0 70 yX0_extentOverCalled cX0_extentOverCalled 4 (some .int) 1 := ⟨t_463, t_465, ts_9, t_3, t_466, ⟨by decide +kernel, by decide +kernel, by decide +kernel⟩⟩
theorem t_467 : .methodLink RX0 73 yX0_extentOf ∈ gT := gT_of 508 (by decide +kernel) (by decide +kernel)
theorem t_470 : .code yX0_extentOf cX0_extentOf 2 (some .int) ∈ gT := gT_of 511 (by decide +kernel) (by decide +kernel)
theorem t_468 : .instanceMethod yX0_extentOf ∈ gT := gT_of 509 (by decide +kernel) (by decide +kernel)
theorem t_469 : .selects RX0 yX0_extentOf yX0_extentOf ∈ gT := gT_of 510 (by decide +kernel) (by decide +kernel)
theorem lk_X0_73 : LkV RX0 73 yX0_extentOf cX0_extentOf 2 (some .int) 1 := ⟨t_467, t_468, t_469, t_3, t_470, ⟨by decide +kernel, by decide +kernel, by decide +kernel⟩⟩
theorem t_471 : .methodLink RX0 76 Lib.Math.min.name ∈ gT := gT_of 512 (by decide +kernel) (by decide +kernel)
theorem t_472 : .static Lib.Math.min.name ∈ gT := gT_of 513 (by decide +kernel) (by decide +kernel)
theorem t_473 : .code Lib.Math.min.name Lib.Math.min.code 2 (some .int) ∈ gT := gT_of 514 (by decide +kernel) (by decide +kernel)
theorem lk_X0_76 : gMM RX0 76 Lib.Math.min.name Lib.Math.min.code := ⟨t_471, t_472, t_14, t_473⟩
theorem t_474 : .methodLink RX6 239 yX0_greatestExtent ∈ gT := gT_of 515 (by decide +kernel) (by decide +kernel)
theorem t_477 : .code yX0_greatestExtent cX0_greatestExtent 1 (some .int) ∈ gT := gT_of 518 (by decide +kernel) (by decide +kernel)
theorem t_475 : .instanceMethod yX0_greatestExtent ∈ gT := gT_of 516 (by decide +kernel) (by decide +kernel)
theorem t_476 : .selects RX0 yX0_greatestExtent yX0_greatestExtent ∈ gT := gT_of 517 (by decide +kernel) (by decide +kernel)
theorem lk_X6_239 : LkV RX6 239 yX0_greatestExtent cX0_greatestExtent 1 (some .int) 0 := ⟨t_474, t_475, t_476, t_3, t_477, ⟨by decide +kernel, by decide +kernel, by decide +kernel⟩⟩
theorem t_478 : .methodLink RX6 242 yX6_hasRankBelow ∈ gT := gT_of 519 (by decide +kernel) (by decide +kernel)
theorem t_481 : .code yX6_hasRankBelow cX6_hasRankBelow 4 (some .boolean) ∈ gT := gT_of 522 (by decide +kernel) (by decide +kernel)
theorem t_480 : .instanceMethod yX6_hasRankBelow ∈ gT := gT_of 521 (by decide +kernel) (by decide +kernel)
theorem ts_10 : .selects RX6 yX6_hasRankBelow yX6_hasRankBelow ∈ gT := gT_of 10 (by decide +kernel) (by decide +kernel)
theorem lk_X6_242 : LkV RX6 242 yX6_hasRankBelow cX6_hasRankBelow 4 (some .boolean) 2 := ⟨t_478, t_480, ts_10, t_1, t_481, ⟨by decide +kernel, by decide +kernel, by decide +kernel⟩⟩
theorem t_482 : .methodLink RX6 92 yX3_addAll ∈ gT := gT_of 523 (by decide +kernel) (by decide +kernel)
theorem t_485 : .code yX3_addAll cX3_addAll 3 none ∈ gT := gT_of 526 (by decide +kernel) (by decide +kernel)
theorem t_483 : .instanceMethod yX3_addAll ∈ gT := gT_of 524 (by decide +kernel) (by decide +kernel)
theorem t_484 : .selects RX3 yX3_addAll yX3_addAll ∈ gT := gT_of 525 (by decide +kernel) (by decide +kernel)
theorem lk_X6_92 : LkV RX6 92 yX3_addAll cX3_addAll 3 none 1 := ⟨t_482, t_483, t_484, t_2, t_485, ⟨by decide +kernel, by decide +kernel, by decide +kernel⟩⟩
theorem t_486 : .methodLink RX3 32 yX3_sortOf ∈ gT := gT_of 527 (by decide +kernel) (by decide +kernel)
theorem lk_X3_32 : LkV RX3 32 yX3_sortOf cX3_sortOf 2 (some .int) 1 := ⟨t_486, t_421, t_422, t_2, t_423, ⟨by decide +kernel, by decide +kernel, by decide +kernel⟩⟩
theorem t_487 : .methodLink RX3 36 yX3_pageOf ∈ gT := gT_of 528 (by decide +kernel) (by decide +kernel)
theorem lk_X3_36 : LkV RX3 36 yX3_pageOf cX3_pageOf 2 (some .int) 1 := ⟨t_487, t_426, t_427, t_2, t_428, ⟨by decide +kernel, by decide +kernel, by decide +kernel⟩⟩
theorem t_488 : .methodLink RX3 39 yX3_signOf ∈ gT := gT_of 529 (by decide +kernel) (by decide +kernel)
theorem t_491 : .code yX3_signOf cX3_signOf 2 (some .int) ∈ gT := gT_of 532 (by decide +kernel) (by decide +kernel)
theorem t_489 : .instanceMethod yX3_signOf ∈ gT := gT_of 530 (by decide +kernel) (by decide +kernel)
theorem t_490 : .selects RX3 yX3_signOf yX3_signOf ∈ gT := gT_of 531 (by decide +kernel) (by decide +kernel)
theorem lk_X3_39 : LkV RX3 39 yX3_signOf cX3_signOf 2 (some .int) 1 := ⟨t_488, t_489, t_490, t_2, t_491, ⟨by decide +kernel, by decide +kernel, by decide +kernel⟩⟩
theorem t_492 : .methodLink RX3 42 yX3_add ∈ gT := gT_of 533 (by decide +kernel) (by decide +kernel)
theorem lk_X3_42 : LkV RX3 42 yX3_add cX3_add 4 none 3 := ⟨t_492, t_303, t_304, t_2, t_305, ⟨by decide +kernel, by decide +kernel, by decide +kernel⟩⟩
theorem t_494 : .methodLink RX6 96 yX4_init ∈ gT := gT_of 535 (by decide +kernel) (by decide +kernel)
theorem lk_X6_96 : LkI RX6 96 yX4_init cX4_init 5 4 := ⟨Or.inl t_494, rfl, t_84, t_5, t_85, ⟨by decide +kernel, by decide +kernel, by decide +kernel⟩⟩
theorem t_495 : .methodLink RX6 99 yX6_settle ∈ gT := gT_of 536 (by decide +kernel) (by decide +kernel)
theorem t_498 : .code yX6_settle cX6_settle 4 none ∈ gT := gT_of 539 (by decide +kernel) (by decide +kernel)
theorem t_497 : .instanceMethod yX6_settle ∈ gT := gT_of 538 (by decide +kernel) (by decide +kernel)
theorem ts_11 : .selects RX6 yX6_settle yX6_settle ∈ gT := gT_of 11 (by decide +kernel) (by decide +kernel)
theorem lk_X6_99 : LkV RX6 99 yX6_settle cX6_settle 4 none 0 := ⟨t_495, t_497, ts_11, t_1, t_498, ⟨by decide +kernel, by decide +kernel, by decide +kernel⟩⟩
theorem t_499 : .methodLink RX6 245 yX0_depthOf ∈ gT := gT_of 540 (by decide +kernel) (by decide +kernel)
theorem lk_X6_245 : LkV RX6 245 yX0_depthOf cX0_depthOf 2 (some .int) 1 := ⟨t_499, t_448, t_449, t_3, t_450, ⟨by decide +kernel, by decide +kernel, by decide +kernel⟩⟩
theorem t_500 : .methodLink RX6 248 yX6_spreadPage ∈ gT := gT_of 541 (by decide +kernel) (by decide +kernel)
theorem t_503 : .code yX6_spreadPage cX6_spreadPage 6 none ∈ gT := gT_of 544 (by decide +kernel) (by decide +kernel)
theorem t_502 : .instanceMethod yX6_spreadPage ∈ gT := gT_of 543 (by decide +kernel) (by decide +kernel)
theorem ts_12 : .selects RX6 yX6_spreadPage yX6_spreadPage ∈ gT := gT_of 12 (by decide +kernel) (by decide +kernel)
theorem lk_X6_248 : LkV RX6 248 yX6_spreadPage cX6_spreadPage 6 none 1 := ⟨t_500, t_502, ts_12, t_1, t_503, ⟨by decide +kernel, by decide +kernel, by decide +kernel⟩⟩
theorem t_504 : .methodLink RX6 256 yX2_clear ∈ gT := gT_of 545 (by decide +kernel) (by decide +kernel)
theorem t_507 : .code yX2_clear cX2_clear 1 none ∈ gT := gT_of 548 (by decide +kernel) (by decide +kernel)
theorem t_505 : .instanceMethod yX2_clear ∈ gT := gT_of 546 (by decide +kernel) (by decide +kernel)
theorem t_506 : .selects RX2 yX2_clear yX2_clear ∈ gT := gT_of 547 (by decide +kernel) (by decide +kernel)
theorem lk_X6_256 : LkV RX6 256 yX2_clear cX2_clear 1 none 0 := ⟨t_504, t_505, t_506, t_6, t_507, ⟨by decide +kernel, by decide +kernel, by decide +kernel⟩⟩
theorem t_508 : .methodLink RX6 257 yX6_spreadPiece ∈ gT := gT_of 549 (by decide +kernel) (by decide +kernel)
theorem t_511 : .code yX6_spreadPiece cX6_spreadPiece 6 none ∈ gT := gT_of 552 (by decide +kernel) (by decide +kernel)
theorem t_510 : .instanceMethod yX6_spreadPiece ∈ gT := gT_of 551 (by decide +kernel) (by decide +kernel)
theorem ts_13 : .selects RX6 yX6_spreadPiece yX6_spreadPiece ∈ gT := gT_of 13 (by decide +kernel) (by decide +kernel)
theorem lk_X6_257 : LkV RX6 257 yX6_spreadPiece cX6_spreadPiece 6 none 4 := ⟨t_508, t_510, ts_13, t_1, t_511, ⟨by decide +kernel, by decide +kernel, by decide +kernel⟩⟩
theorem t_512 : .methodLink RX6 261 yX3_sortOf ∈ gT := gT_of 553 (by decide +kernel) (by decide +kernel)
theorem lk_X6_261 : LkV RX6 261 yX3_sortOf cX3_sortOf 2 (some .int) 1 := ⟨t_512, t_421, t_422, t_2, t_423, ⟨by decide +kernel, by decide +kernel, by decide +kernel⟩⟩
theorem t_513 : .methodLink RX6 264 yX3_signOf ∈ gT := gT_of 554 (by decide +kernel) (by decide +kernel)
theorem lk_X6_264 : LkV RX6 264 yX3_signOf cX3_signOf 2 (some .int) 1 := ⟨t_513, t_489, t_490, t_2, t_491, ⟨by decide +kernel, by decide +kernel, by decide +kernel⟩⟩
theorem t_514 : .methodLink RX6 267 yX2_openWhen ∈ gT := gT_of 555 (by decide +kernel) (by decide +kernel)
theorem t_517 : .code yX2_openWhen cX2_openWhen 2 none ∈ gT := gT_of 558 (by decide +kernel) (by decide +kernel)
theorem t_515 : .instanceMethod yX2_openWhen ∈ gT := gT_of 556 (by decide +kernel) (by decide +kernel)
theorem t_516 : .selects RX2 yX2_openWhen yX2_openWhen ∈ gT := gT_of 557 (by decide +kernel) (by decide +kernel)
theorem lk_X6_267 : LkV RX6 267 yX2_openWhen cX2_openWhen 2 none 1 := ⟨t_514, t_515, t_516, t_6, t_517, ⟨by decide +kernel, by decide +kernel, by decide +kernel⟩⟩
theorem t_518 : .methodLink RX2 34 yX2_need ∈ gT := gT_of 559 (by decide +kernel) (by decide +kernel)
theorem t_521 : .code yX2_need cX2_need 1 (some .int) ∈ gT := gT_of 562 (by decide +kernel) (by decide +kernel)
theorem t_519 : .instanceMethod yX2_need ∈ gT := gT_of 560 (by decide +kernel) (by decide +kernel)
theorem t_520 : .selects RX2 yX2_need yX2_need ∈ gT := gT_of 561 (by decide +kernel) (by decide +kernel)
theorem lk_X2_34 : LkV RX2 34 yX2_need cX2_need 1 (some .int) 0 := ⟨t_518, t_519, t_520, t_6, t_521, ⟨by decide +kernel, by decide +kernel, by decide +kernel⟩⟩
theorem t_522 : .methodLink RX2 38 yX2_together ∈ gT := gT_of 563 (by decide +kernel) (by decide +kernel)
theorem t_524 : .code yX2_together cX2_together 2 (some .int) ∈ gT := gT_of 565 (by decide +kernel) (by decide +kernel)
theorem t_523 : .static yX2_together ∈ gT := gT_of 564 (by decide +kernel) (by decide +kernel)
theorem lk_X2_38 : LkS RX2 38 yX2_together cX2_together 2 (some .int) 2 := ⟨t_522, t_523, t_6, t_524, ⟨by decide +kernel, by decide +kernel, by decide +kernel⟩⟩
theorem t_n525 : .methodLinkNest RX2 42 yX6_put "MacroWiki" ∈ gN := gN_of 525 (by decide +kernel) (by decide +kernel)
theorem lk_X2_42 : LkN RX2 42 yX6_put cX6_put 3 none 3 := ⟨⟨_, t_n525⟩, t_307, t_1, t_308, ⟨by decide +kernel, by decide +kernel, by decide +kernel⟩⟩
theorem t_526 : .methodLink RX6 270 yX2_closeWhen ∈ gT := gT_of 567 (by decide +kernel) (by decide +kernel)
theorem t_529 : .code yX2_closeWhen cX2_closeWhen 1 none ∈ gT := gT_of 570 (by decide +kernel) (by decide +kernel)
theorem t_527 : .instanceMethod yX2_closeWhen ∈ gT := gT_of 568 (by decide +kernel) (by decide +kernel)
theorem t_528 : .selects RX2 yX2_closeWhen yX2_closeWhen ∈ gT := gT_of 569 (by decide +kernel) (by decide +kernel)
theorem lk_X6_270 : LkV RX6 270 yX2_closeWhen cX2_closeWhen 1 none 0 := ⟨t_526, t_527, t_528, t_6, t_529, ⟨by decide +kernel, by decide +kernel, by decide +kernel⟩⟩
theorem t_530 : .methodLink RX6 273 yX3_pageOf ∈ gT := gT_of 571 (by decide +kernel) (by decide +kernel)
theorem lk_X6_273 : LkV RX6 273 yX3_pageOf cX3_pageOf 2 (some .int) 1 := ⟨t_530, t_426, t_427, t_2, t_428, ⟨by decide +kernel, by decide +kernel, by decide +kernel⟩⟩
theorem t_531 : .methodLink RX6 276 yX2_takeCalled ∈ gT := gT_of 572 (by decide +kernel) (by decide +kernel)
theorem t_534 : .code yX2_takeCalled cX2_takeCalled 4 none ∈ gT := gT_of 575 (by decide +kernel) (by decide +kernel)
theorem t_532 : .instanceMethod yX2_takeCalled ∈ gT := gT_of 573 (by decide +kernel) (by decide +kernel)
theorem t_533 : .selects RX2 yX2_takeCalled yX2_takeCalled ∈ gT := gT_of 574 (by decide +kernel) (by decide +kernel)
theorem lk_X6_276 : LkV RX6 276 yX2_takeCalled cX2_takeCalled 4 none 2 := ⟨t_531, t_532, t_533, t_6, t_534, ⟨by decide +kernel, by decide +kernel, by decide +kernel⟩⟩
theorem t_535 : .methodLink RX2 50 yX2_shows ∈ gT := gT_of 576 (by decide +kernel) (by decide +kernel)
theorem lk_X2_50 : LkV RX2 50 yX2_shows cX2_shows 4 (some .boolean) 2 := ⟨t_535, t_244, t_245, t_6, t_246, ⟨by decide +kernel, by decide +kernel, by decide +kernel⟩⟩
theorem t_536 : .methodLink RX2 54 yX2_itemSort ∈ gT := gT_of 577 (by decide +kernel) (by decide +kernel)
theorem t_539 : .code yX2_itemSort cX2_itemSort 3 (some .int) ∈ gT := gT_of 580 (by decide +kernel) (by decide +kernel)
theorem t_537 : .instanceMethod yX2_itemSort ∈ gT := gT_of 578 (by decide +kernel) (by decide +kernel)
theorem t_538 : .selects RX2 yX2_itemSort yX2_itemSort ∈ gT := gT_of 579 (by decide +kernel) (by decide +kernel)
theorem lk_X2_54 : LkV RX2 54 yX2_itemSort cX2_itemSort 3 (some .int) 1 := ⟨t_536, t_537, t_538, t_6, t_539, ⟨by decide +kernel, by decide +kernel, by decide +kernel⟩⟩
theorem t_540 : .methodLink RX2 58 yX2_itemWith ∈ gT := gT_of 581 (by decide +kernel) (by decide +kernel)
theorem t_543 : .code yX2_itemWith cX2_itemWith 3 (some .int) ∈ gT := gT_of 584 (by decide +kernel) (by decide +kernel)
theorem t_541 : .instanceMethod yX2_itemWith ∈ gT := gT_of 582 (by decide +kernel) (by decide +kernel)
theorem t_542 : .selects RX2 yX2_itemWith yX2_itemWith ∈ gT := gT_of 583 (by decide +kernel) (by decide +kernel)
theorem lk_X2_58 : LkV RX2 58 yX2_itemWith cX2_itemWith 3 (some .int) 2 := ⟨t_540, t_541, t_542, t_6, t_543, ⟨by decide +kernel, by decide +kernel, by decide +kernel⟩⟩
theorem t_544 : .methodLink RX2 61 yX2_sourceOf ∈ gT := gT_of 585 (by decide +kernel) (by decide +kernel)
theorem lk_X2_61 : LkV RX2 61 yX2_sourceOf cX2_sourceOf 2 (some .int) 1 := ⟨t_544, t_251, t_252, t_6, t_253, ⟨by decide +kernel, by decide +kernel, by decide +kernel⟩⟩
theorem t_545 : .methodLink RX2 64 yX2_add ∈ gT := gT_of 586 (by decide +kernel) (by decide +kernel)
theorem t_548 : .code yX2_add cX2_add 5 none ∈ gT := gT_of 589 (by decide +kernel) (by decide +kernel)
theorem t_546 : .instanceMethod yX2_add ∈ gT := gT_of 587 (by decide +kernel) (by decide +kernel)
theorem t_547 : .selects RX2 yX2_add yX2_add ∈ gT := gT_of 588 (by decide +kernel) (by decide +kernel)
theorem lk_X2_64 : LkV RX2 64 yX2_add cX2_add 5 none 4 := ⟨t_545, t_546, t_547, t_6, t_548, ⟨by decide +kernel, by decide +kernel, by decide +kernel⟩⟩
theorem t_549 : .methodLink RX6 280 yX2_takeCalledOn ∈ gT := gT_of 590 (by decide +kernel) (by decide +kernel)
theorem t_552 : .code yX2_takeCalledOn cX2_takeCalledOn 4 none ∈ gT := gT_of 593 (by decide +kernel) (by decide +kernel)
theorem t_550 : .instanceMethod yX2_takeCalledOn ∈ gT := gT_of 591 (by decide +kernel) (by decide +kernel)
theorem t_551 : .selects RX2 yX2_takeCalledOn yX2_takeCalledOn ∈ gT := gT_of 592 (by decide +kernel) (by decide +kernel)
theorem lk_X6_280 : LkV RX6 280 yX2_takeCalledOn cX2_takeCalledOn 4 none 1 := ⟨t_549, t_550, t_551, t_6, t_552, ⟨by decide +kernel, by decide +kernel, by decide +kernel⟩⟩
theorem t_553 : .methodLink RX6 284 yX2_need ∈ gT := gT_of 594 (by decide +kernel) (by decide +kernel)
theorem lk_X6_284 : LkV RX6 284 yX2_need cX2_need 1 (some .int) 0 := ⟨t_553, t_519, t_520, t_6, t_521, ⟨by decide +kernel, by decide +kernel, by decide +kernel⟩⟩
theorem t_554 : .methodLink RX6 287 yX3_itemOf ∈ gT := gT_of 595 (by decide +kernel) (by decide +kernel)
theorem t_557 : .code yX3_itemOf cX3_itemOf 2 (some .int) ∈ gT := gT_of 598 (by decide +kernel) (by decide +kernel)
theorem t_555 : .instanceMethod yX3_itemOf ∈ gT := gT_of 596 (by decide +kernel) (by decide +kernel)
theorem t_556 : .selects RX3 yX3_itemOf yX3_itemOf ∈ gT := gT_of 597 (by decide +kernel) (by decide +kernel)
theorem lk_X6_287 : LkV RX6 287 yX3_itemOf cX3_itemOf 2 (some .int) 1 := ⟨t_554, t_555, t_556, t_2, t_557, ⟨by decide +kernel, by decide +kernel, by decide +kernel⟩⟩
theorem t_558 : .methodLink RX6 290 yX2_add ∈ gT := gT_of 599 (by decide +kernel) (by decide +kernel)
theorem lk_X6_290 : LkV RX6 290 yX2_add cX2_add 5 none 4 := ⟨t_558, t_546, t_547, t_6, t_548, ⟨by decide +kernel, by decide +kernel, by decide +kernel⟩⟩
theorem t_559 : .methodLink RX6 102 yX3_clear ∈ gT := gT_of 600 (by decide +kernel) (by decide +kernel)
theorem t_562 : .code yX3_clear cX3_clear 1 none ∈ gT := gT_of 603 (by decide +kernel) (by decide +kernel)
theorem t_560 : .instanceMethod yX3_clear ∈ gT := gT_of 601 (by decide +kernel) (by decide +kernel)
theorem t_561 : .selects RX3 yX3_clear yX3_clear ∈ gT := gT_of 602 (by decide +kernel) (by decide +kernel)
theorem lk_X6_102 : LkV RX6 102 yX3_clear cX3_clear 1 none 0 := ⟨t_559, t_560, t_561, t_2, t_562, ⟨by decide +kernel, by decide +kernel, by decide +kernel⟩⟩
theorem t_563 : .methodLink RL 154 yL_undo ∈ gT := gT_of 604 (by decide +kernel) (by decide +kernel)
theorem t_565 : .codeWith yL_undo cL_undo 5 (some .int) [(0, 10, 13, 25), (0, 10, 17, 15)] ∈ gT := gT_of 606 (by decide +kernel) (by decide +kernel)
theorem t_564 : .static yL_undo ∈ gT := gT_of 605 (by decide +kernel) (by decide +kernel)
theorem lk_L_154 : LkH RL 154 yL_undo cL_undo 5 (some .int) [(0, 10, 13, 25), (0, 10, 17, 15)] 4 := ⟨t_563, t_564, t_0, t_565, ⟨by decide +kernel, by decide +kernel, by decide +kernel⟩⟩
theorem t_566 : .methodLink RL 48 yX6_undo ∈ gT := gT_of 607 (by decide +kernel) (by decide +kernel)
theorem t_569 : .code yX6_undo cX6_undo 8 (some .int) ∈ gT := gT_of 610 (by decide +kernel) (by decide +kernel)
theorem t_567 : .instanceMethod yX6_undo ∈ gT := gT_of 608 (by decide +kernel) (by decide +kernel)
theorem t_568 : .selects RX6 yX6_undo yX6_undo ∈ gT := gT_of 609 (by decide +kernel) (by decide +kernel)
theorem lk_L_48 : LkV RL 48 yX6_undo cX6_undo 8 (some .int) 2 := ⟨t_566, t_567, t_568, t_1, t_569, ⟨by decide +kernel, by decide +kernel, by decide +kernel⟩⟩
theorem t_571 : .methodLink RL 157 yL_approve ∈ gT := gT_of 612 (by decide +kernel) (by decide +kernel)
theorem t_573 : .codeWith yL_approve cL_approve 5 (some .int) [(0, 17, 20, 25)] ∈ gT := gT_of 614 (by decide +kernel) (by decide +kernel)
theorem t_572 : .static yL_approve ∈ gT := gT_of 613 (by decide +kernel) (by decide +kernel)
theorem lk_L_157 : LkH RL 157 yL_approve cL_approve 5 (some .int) [(0, 17, 20, 25)] 4 := ⟨t_571, t_572, t_0, t_573, ⟨by decide +kernel, by decide +kernel, by decide +kernel⟩⟩
theorem t_574 : .methodLink RL 51 yX6_approve ∈ gT := gT_of 615 (by decide +kernel) (by decide +kernel)
theorem t_577 : .code yX6_approve cX6_approve 5 (some .boolean) ∈ gT := gT_of 618 (by decide +kernel) (by decide +kernel)
theorem t_575 : .instanceMethod yX6_approve ∈ gT := gT_of 616 (by decide +kernel) (by decide +kernel)
theorem t_576 : .selects RX6 yX6_approve yX6_approve ∈ gT := gT_of 617 (by decide +kernel) (by decide +kernel)
theorem lk_L_51 : LkV RL 51 yX6_approve cX6_approve 5 (some .boolean) 2 := ⟨t_574, t_575, t_576, t_1, t_577, ⟨by decide +kernel, by decide +kernel, by decide +kernel⟩⟩
theorem t_578 : .methodLink RL 160 yL_lock ∈ gT := gT_of 619 (by decide +kernel) (by decide +kernel)
theorem t_580 : .codeWith yL_lock cL_lock 6 (some .int) [(0, 12, 15, 25), (0, 12, 19, 13)] ∈ gT := gT_of 621 (by decide +kernel) (by decide +kernel)
theorem t_579 : .static yL_lock ∈ gT := gT_of 620 (by decide +kernel) (by decide +kernel)
theorem lk_L_160 : LkH RL 160 yL_lock cL_lock 6 (some .int) [(0, 12, 15, 25), (0, 12, 19, 13)] 5 := ⟨t_578, t_579, t_0, t_580, ⟨by decide +kernel, by decide +kernel, by decide +kernel⟩⟩
theorem t_581 : .methodLink RL 55 yX6_lock ∈ gT := gT_of 622 (by decide +kernel) (by decide +kernel)
theorem t_584 : .code yX6_lock cX6_lock 7 (some .int) ∈ gT := gT_of 625 (by decide +kernel) (by decide +kernel)
theorem t_582 : .instanceMethod yX6_lock ∈ gT := gT_of 623 (by decide +kernel) (by decide +kernel)
theorem t_583 : .selects RX6 yX6_lock yX6_lock ∈ gT := gT_of 624 (by decide +kernel) (by decide +kernel)
theorem lk_L_55 : LkV RL 55 yX6_lock cX6_lock 7 (some .int) 3 := ⟨t_581, t_582, t_583, t_1, t_584, ⟨by decide +kernel, by decide +kernel, by decide +kernel⟩⟩
theorem t_585 : .methodLink RL 164 yL_setRank ∈ gT := gT_of 626 (by decide +kernel) (by decide +kernel)
theorem t_587 : .codeWith yL_setRank cL_setRank 5 (some .int) [(0, 10, 13, 25), (0, 10, 17, 13)] ∈ gT := gT_of 628 (by decide +kernel) (by decide +kernel)
theorem t_586 : .static yL_setRank ∈ gT := gT_of 627 (by decide +kernel) (by decide +kernel)
theorem lk_L_164 : LkH RL 164 yL_setRank cL_setRank 5 (some .int) [(0, 10, 13, 25), (0, 10, 17, 13)] 4 := ⟨t_585, t_586, t_0, t_587, ⟨by decide +kernel, by decide +kernel, by decide +kernel⟩⟩
theorem t_588 : .methodLink RL 59 yX6_setRank ∈ gT := gT_of 629 (by decide +kernel) (by decide +kernel)
theorem t_591 : .code yX6_setRank cX6_setRank 4 (some .int) ∈ gT := gT_of 632 (by decide +kernel) (by decide +kernel)
theorem t_589 : .instanceMethod yX6_setRank ∈ gT := gT_of 630 (by decide +kernel) (by decide +kernel)
theorem t_590 : .selects RX6 yX6_setRank yX6_setRank ∈ gT := gT_of 631 (by decide +kernel) (by decide +kernel)
theorem lk_L_59 : LkV RL 59 yX6_setRank cX6_setRank 4 (some .int) 2 := ⟨t_588, t_589, t_590, t_1, t_591, ⟨by decide +kernel, by decide +kernel, by decide +kernel⟩⟩
theorem t_592 : .methodLink RX6 119 yX6_put ∈ gT := gT_of 633 (by decide +kernel) (by decide +kernel)
theorem lk_X6_119 : LkS RX6 119 yX6_put cX6_put 3 none 3 := ⟨t_592, t_307, t_1, t_308, ⟨by decide +kernel, by decide +kernel, by decide +kernel⟩⟩
theorem t_593 : .methodLink RL 167 yL_version ∈ gT := gT_of 634 (by decide +kernel) (by decide +kernel)
theorem t_595 : .codeWith yL_version cL_version 4 (some .int) [(0, 9, 12, 25)] ∈ gT := gT_of 636 (by decide +kernel) (by decide +kernel)
theorem t_594 : .static yL_version ∈ gT := gT_of 635 (by decide +kernel) (by decide +kernel)
theorem lk_L_167 : LkH RL 167 yL_version cL_version 4 (some .int) [(0, 9, 12, 25)] 3 := ⟨t_593, t_594, t_0, t_595, ⟨by decide +kernel, by decide +kernel, by decide +kernel⟩⟩
theorem t_596 : .methodLink RL 62 yX6_version ∈ gT := gT_of 637 (by decide +kernel) (by decide +kernel)
theorem t_599 : .code yX6_version cX6_version 2 (some .int) ∈ gT := gT_of 640 (by decide +kernel) (by decide +kernel)
theorem t_597 : .instanceMethod yX6_version ∈ gT := gT_of 638 (by decide +kernel) (by decide +kernel)
theorem t_598 : .selects RX6 yX6_version yX6_version ∈ gT := gT_of 639 (by decide +kernel) (by decide +kernel)
theorem lk_L_62 : LkV RL 62 yX6_version cX6_version 2 (some .int) 1 := ⟨t_596, t_597, t_598, t_1, t_599, ⟨by decide +kernel, by decide +kernel, by decide +kernel⟩⟩
theorem t_600 : .methodLink RL 170 yL_rankOf ∈ gT := gT_of 641 (by decide +kernel) (by decide +kernel)
theorem t_602 : .codeWith yL_rankOf cL_rankOf 4 (some .int) [(0, 9, 12, 25)] ∈ gT := gT_of 643 (by decide +kernel) (by decide +kernel)
theorem t_601 : .static yL_rankOf ∈ gT := gT_of 642 (by decide +kernel) (by decide +kernel)
theorem lk_L_170 : LkH RL 170 yL_rankOf cL_rankOf 4 (some .int) [(0, 9, 12, 25)] 3 := ⟨t_600, t_601, t_0, t_602, ⟨by decide +kernel, by decide +kernel, by decide +kernel⟩⟩
theorem t_603 : .methodLink RL 65 yX6_rankOf ∈ gT := gT_of 644 (by decide +kernel) (by decide +kernel)
theorem t_606 : .code yX6_rankOf cX6_rankOf 2 (some .int) ∈ gT := gT_of 647 (by decide +kernel) (by decide +kernel)
theorem t_604 : .instanceMethod yX6_rankOf ∈ gT := gT_of 645 (by decide +kernel) (by decide +kernel)
theorem t_605 : .selects RX6 yX6_rankOf yX6_rankOf ∈ gT := gT_of 646 (by decide +kernel) (by decide +kernel)
theorem lk_L_65 : LkV RL 65 yX6_rankOf cX6_rankOf 2 (some .int) 1 := ⟨t_603, t_604, t_605, t_1, t_606, ⟨by decide +kernel, by decide +kernel, by decide +kernel⟩⟩
theorem t_607 : .methodLink RL 173 yL_force ∈ gT := gT_of 648 (by decide +kernel) (by decide +kernel)
theorem t_609 : .codeWith yL_force cL_force 4 (some .int) [(0, 9, 12, 25)] ∈ gT := gT_of 650 (by decide +kernel) (by decide +kernel)
theorem t_608 : .static yL_force ∈ gT := gT_of 649 (by decide +kernel) (by decide +kernel)
theorem lk_L_173 : LkH RL 173 yL_force cL_force 4 (some .int) [(0, 9, 12, 25)] 3 := ⟨t_607, t_608, t_0, t_609, ⟨by decide +kernel, by decide +kernel, by decide +kernel⟩⟩
theorem t_610 : .methodLink RL 68 yX6_force ∈ gT := gT_of 651 (by decide +kernel) (by decide +kernel)
theorem t_613 : .code yX6_force cX6_force 2 (some .int) ∈ gT := gT_of 654 (by decide +kernel) (by decide +kernel)
theorem t_611 : .instanceMethod yX6_force ∈ gT := gT_of 652 (by decide +kernel) (by decide +kernel)
theorem t_612 : .selects RX6 yX6_force yX6_force ∈ gT := gT_of 653 (by decide +kernel) (by decide +kernel)
theorem lk_L_68 : LkV RL 68 yX6_force cX6_force 2 (some .int) 1 := ⟨t_610, t_611, t_612, t_1, t_613, ⟨by decide +kernel, by decide +kernel, by decide +kernel⟩⟩
theorem t_614 : .methodLink RL 176 yL_reaches ∈ gT := gT_of 655 (by decide +kernel) (by decide +kernel)
theorem t_616 : .codeWith yL_reaches cL_reaches 4 (some .int) [(0, 9, 12, 25)] ∈ gT := gT_of 657 (by decide +kernel) (by decide +kernel)
theorem t_615 : .static yL_reaches ∈ gT := gT_of 656 (by decide +kernel) (by decide +kernel)
theorem lk_L_176 : LkH RL 176 yL_reaches cL_reaches 4 (some .int) [(0, 9, 12, 25)] 3 := ⟨t_614, t_615, t_0, t_616, ⟨by decide +kernel, by decide +kernel, by decide +kernel⟩⟩
theorem t_617 : .methodLink RL 71 yX6_reaches ∈ gT := gT_of 658 (by decide +kernel) (by decide +kernel)
theorem t_620 : .code yX6_reaches cX6_reaches 2 (some .int) ∈ gT := gT_of 661 (by decide +kernel) (by decide +kernel)
theorem t_618 : .instanceMethod yX6_reaches ∈ gT := gT_of 659 (by decide +kernel) (by decide +kernel)
theorem t_619 : .selects RX6 yX6_reaches yX6_reaches ∈ gT := gT_of 660 (by decide +kernel) (by decide +kernel)
theorem lk_L_71 : LkV RL 71 yX6_reaches cX6_reaches 2 (some .int) 1 := ⟨t_617, t_618, t_619, t_1, t_620, ⟨by decide +kernel, by decide +kernel, by decide +kernel⟩⟩
theorem t_621 : .methodLink RL 179 yL_extent ∈ gT := gT_of 662 (by decide +kernel) (by decide +kernel)
theorem t_623 : .codeWith yL_extent cL_extent 4 (some .int) [(0, 9, 12, 25)] ∈ gT := gT_of 664 (by decide +kernel) (by decide +kernel)
theorem t_622 : .static yL_extent ∈ gT := gT_of 663 (by decide +kernel) (by decide +kernel)
theorem lk_L_179 : LkH RL 179 yL_extent cL_extent 4 (some .int) [(0, 9, 12, 25)] 3 := ⟨t_621, t_622, t_0, t_623, ⟨by decide +kernel, by decide +kernel, by decide +kernel⟩⟩
theorem t_624 : .methodLink RL 74 yX6_extent ∈ gT := gT_of 665 (by decide +kernel) (by decide +kernel)
theorem t_627 : .code yX6_extent cX6_extent 2 (some .int) ∈ gT := gT_of 668 (by decide +kernel) (by decide +kernel)
theorem t_625 : .instanceMethod yX6_extent ∈ gT := gT_of 666 (by decide +kernel) (by decide +kernel)
theorem t_626 : .selects RX6 yX6_extent yX6_extent ∈ gT := gT_of 667 (by decide +kernel) (by decide +kernel)
theorem lk_L_74 : LkV RL 74 yX6_extent cX6_extent 2 (some .int) 1 := ⟨t_624, t_625, t_626, t_1, t_627, ⟨by decide +kernel, by decide +kernel, by decide +kernel⟩⟩
theorem t_628 : .methodLink RX6 126 yX0_extentOf ∈ gT := gT_of 669 (by decide +kernel) (by decide +kernel)
theorem lk_X6_126 : LkV RX6 126 yX0_extentOf cX0_extentOf 2 (some .int) 1 := ⟨t_628, t_468, t_469, t_3, t_470, ⟨by decide +kernel, by decide +kernel, by decide +kernel⟩⟩
theorem t_629 : .methodLink RL 182 yL_items ∈ gT := gT_of 670 (by decide +kernel) (by decide +kernel)
theorem t_631 : .codeWith yL_items cL_items 5 (some .int) [(0, 10, 13, 25), (0, 10, 17, 13)] ∈ gT := gT_of 672 (by decide +kernel) (by decide +kernel)
theorem t_630 : .static yL_items ∈ gT := gT_of 671 (by decide +kernel) (by decide +kernel)
theorem lk_L_182 : LkH RL 182 yL_items cL_items 5 (some .int) [(0, 10, 13, 25), (0, 10, 17, 13)] 4 := ⟨t_629, t_630, t_0, t_631, ⟨by decide +kernel, by decide +kernel, by decide +kernel⟩⟩
theorem t_632 : .methodLink RL 77 yX6_items ∈ gT := gT_of 673 (by decide +kernel) (by decide +kernel)
theorem t_635 : .code yX6_items cX6_items 4 (some .int) ∈ gT := gT_of 676 (by decide +kernel) (by decide +kernel)
theorem t_633 : .instanceMethod yX6_items ∈ gT := gT_of 674 (by decide +kernel) (by decide +kernel)
theorem t_634 : .selects RX6 yX6_items yX6_items ∈ gT := gT_of 675 (by decide +kernel) (by decide +kernel)
theorem lk_L_77 : LkV RL 77 yX6_items cX6_items 4 (some .int) 2 := ⟨t_632, t_633, t_634, t_1, t_635, ⟨by decide +kernel, by decide +kernel, by decide +kernel⟩⟩
theorem t_636 : .methodLink RX6 133 yX2_count ∈ gT := gT_of 677 (by decide +kernel) (by decide +kernel)
theorem t_639 : .code yX2_count cX2_count 4 (some .int) ∈ gT := gT_of 680 (by decide +kernel) (by decide +kernel)
theorem t_637 : .instanceMethod yX2_count ∈ gT := gT_of 678 (by decide +kernel) (by decide +kernel)
theorem t_638 : .selects RX2 yX2_count yX2_count ∈ gT := gT_of 679 (by decide +kernel) (by decide +kernel)
theorem lk_X6_133 : LkV RX6 133 yX2_count cX2_count 4 (some .int) 1 := ⟨t_636, t_637, t_638, t_6, t_639, ⟨by decide +kernel, by decide +kernel, by decide +kernel⟩⟩
theorem t_640 : .methodLink RL 185 yL_sortAt ∈ gT := gT_of 681 (by decide +kernel) (by decide +kernel)
theorem t_642 : .codeWith yL_sortAt cL_sortAt 6 (some .int) [(0, 12, 15, 25), (0, 12, 19, 13), (0, 12, 23, 83)] ∈ gT := gT_of 683 (by decide +kernel) (by decide +kernel)
theorem t_641 : .static yL_sortAt ∈ gT := gT_of 682 (by decide +kernel) (by decide +kernel)
theorem lk_L_185 : LkH RL 185 yL_sortAt cL_sortAt 6 (some .int) [(0, 12, 15, 25), (0, 12, 19, 13), (0, 12, 23, 83)] 5 := ⟨t_640, t_641, t_0, t_642, ⟨by decide +kernel, by decide +kernel, by decide +kernel⟩⟩
theorem t_644 : .methodLink RL 80 yX6_sortAt ∈ gT := gT_of 685 (by decide +kernel) (by decide +kernel)
theorem t_647 : .code yX6_sortAt cX6_sortAt 5 (some .int) ∈ gT := gT_of 688 (by decide +kernel) (by decide +kernel)
theorem t_645 : .instanceMethod yX6_sortAt ∈ gT := gT_of 686 (by decide +kernel) (by decide +kernel)
theorem t_646 : .selects RX6 yX6_sortAt yX6_sortAt ∈ gT := gT_of 687 (by decide +kernel) (by decide +kernel)
theorem lk_L_80 : LkV RL 80 yX6_sortAt cX6_sortAt 5 (some .int) 3 := ⟨t_644, t_645, t_646, t_1, t_647, ⟨by decide +kernel, by decide +kernel, by decide +kernel⟩⟩
theorem t_648 : .methodLink RX6 138 yX6_indexOf ∈ gT := gT_of 689 (by decide +kernel) (by decide +kernel)
theorem t_650 : .code yX6_indexOf cX6_indexOf 4 (some .int) ∈ gT := gT_of 691 (by decide +kernel) (by decide +kernel)
theorem t_649 : .static yX6_indexOf ∈ gT := gT_of 690 (by decide +kernel) (by decide +kernel)
theorem lk_X6_138 : LkS RX6 138 yX6_indexOf cX6_indexOf 4 (some .int) 3 := ⟨t_648, t_649, t_1, t_650, ⟨by decide +kernel, by decide +kernel, by decide +kernel⟩⟩
theorem t_651 : .methodLink RX6 205 yX2_find ∈ gT := gT_of 692 (by decide +kernel) (by decide +kernel)
theorem t_654 : .code yX2_find cX2_find 5 (some .int) ∈ gT := gT_of 695 (by decide +kernel) (by decide +kernel)
theorem t_652 : .instanceMethod yX2_find ∈ gT := gT_of 693 (by decide +kernel) (by decide +kernel)
theorem t_653 : .selects RX2 yX2_find yX2_find ∈ gT := gT_of 694 (by decide +kernel) (by decide +kernel)
theorem lk_X6_205 : LkV RX6 205 yX2_find cX2_find 5 (some .int) 2 := ⟨t_651, t_652, t_653, t_6, t_654, ⟨by decide +kernel, by decide +kernel, by decide +kernel⟩⟩
theorem t_671 : .methodLink RX6 142 yX2_itemSort ∈ gT := gT_of 712 (by decide +kernel) (by decide +kernel)
theorem lk_X6_142 : LkV RX6 142 yX2_itemSort cX2_itemSort 3 (some .int) 1 := ⟨t_671, t_537, t_538, t_6, t_539, ⟨by decide +kernel, by decide +kernel, by decide +kernel⟩⟩
theorem t_672 : .methodLink RL 188 yL_itemAt ∈ gT := gT_of 713 (by decide +kernel) (by decide +kernel)
theorem t_674 : .codeWith yL_itemAt cL_itemAt 6 (some .int) [(0, 12, 15, 25), (0, 12, 19, 13), (0, 12, 23, 83)] ∈ gT := gT_of 715 (by decide +kernel) (by decide +kernel)
theorem t_673 : .static yL_itemAt ∈ gT := gT_of 714 (by decide +kernel) (by decide +kernel)
theorem lk_L_188 : LkH RL 188 yL_itemAt cL_itemAt 6 (some .int) [(0, 12, 15, 25), (0, 12, 19, 13), (0, 12, 23, 83)] 5 := ⟨t_672, t_673, t_0, t_674, ⟨by decide +kernel, by decide +kernel, by decide +kernel⟩⟩
theorem t_675 : .methodLink RL 85 yX6_itemAt ∈ gT := gT_of 716 (by decide +kernel) (by decide +kernel)
theorem t_678 : .code yX6_itemAt cX6_itemAt 5 (some .int) ∈ gT := gT_of 719 (by decide +kernel) (by decide +kernel)
theorem t_676 : .instanceMethod yX6_itemAt ∈ gT := gT_of 717 (by decide +kernel) (by decide +kernel)
theorem t_677 : .selects RX6 yX6_itemAt yX6_itemAt ∈ gT := gT_of 718 (by decide +kernel) (by decide +kernel)
theorem lk_L_85 : LkV RL 85 yX6_itemAt cX6_itemAt 5 (some .int) 3 := ⟨t_675, t_676, t_677, t_1, t_678, ⟨by decide +kernel, by decide +kernel, by decide +kernel⟩⟩
theorem t_679 : .methodLink RX6 145 yX2_itemWith ∈ gT := gT_of 720 (by decide +kernel) (by decide +kernel)
theorem lk_X6_145 : LkV RX6 145 yX2_itemWith cX2_itemWith 3 (some .int) 2 := ⟨t_679, t_541, t_542, t_6, t_543, ⟨by decide +kernel, by decide +kernel, by decide +kernel⟩⟩
theorem t_680 : .methodLink RL 191 yL_itemAnew ∈ gT := gT_of 721 (by decide +kernel) (by decide +kernel)
theorem t_682 : .codeWith yL_itemAnew cL_itemAnew 6 (some .int) [(0, 12, 15, 25), (0, 12, 19, 13), (0, 12, 23, 83)] ∈ gT := gT_of 723 (by decide +kernel) (by decide +kernel)
theorem t_681 : .static yL_itemAnew ∈ gT := gT_of 722 (by decide +kernel) (by decide +kernel)
theorem lk_L_191 : LkH RL 191 yL_itemAnew cL_itemAnew 6 (some .int) [(0, 12, 15, 25), (0, 12, 19, 13), (0, 12, 23, 83)] 5 := ⟨t_680, t_681, t_0, t_682, ⟨by decide +kernel, by decide +kernel, by decide +kernel⟩⟩
theorem t_683 : .methodLink RL 88 yX6_itemAnew ∈ gT := gT_of 724 (by decide +kernel) (by decide +kernel)
theorem t_686 : .code yX6_itemAnew cX6_itemAnew 5 (some .int) ∈ gT := gT_of 727 (by decide +kernel) (by decide +kernel)
theorem t_684 : .instanceMethod yX6_itemAnew ∈ gT := gT_of 725 (by decide +kernel) (by decide +kernel)
theorem t_685 : .selects RX6 yX6_itemAnew yX6_itemAnew ∈ gT := gT_of 726 (by decide +kernel) (by decide +kernel)
theorem lk_L_88 : LkV RL 88 yX6_itemAnew cX6_itemAnew 5 (some .int) 3 := ⟨t_683, t_684, t_685, t_1, t_686, ⟨by decide +kernel, by decide +kernel, by decide +kernel⟩⟩
theorem t_689 : .methodLink RX6 151 yX5_init ∈ gT := gT_of 730 (by decide +kernel) (by decide +kernel)
theorem t_16 : .initialized RX5 ∈ gT := gT_of 57 (by decide +kernel) (by decide +kernel)
theorem t_691 : .code yX5_init cX5_init 2 none ∈ gT := gT_of 732 (by decide +kernel) (by decide +kernel)
theorem t_690 : .instanceMethod yX5_init ∈ gT := gT_of 731 (by decide +kernel) (by decide +kernel)
theorem lk_X6_151 : LkI RX6 151 yX5_init cX5_init 2 1 := ⟨Or.inl t_689, rfl, t_690, t_16, t_691, ⟨by decide +kernel, by decide +kernel, by decide +kernel⟩⟩
theorem t_692 : .methodLink RX5 3 objectInit ∈ gT := gT_of 733 (by decide +kernel) (by decide +kernel)
theorem lk_X5_3 : gObj RX5 3 := ⟨t_692, t_23, t_24⟩
theorem t_701 : .methodLink RX6 153 yX6_walkPage ∈ gT := gT_of 742 (by decide +kernel) (by decide +kernel)
theorem t_704 : .code yX6_walkPage cX6_walkPage 9 none ∈ gT := gT_of 745 (by decide +kernel) (by decide +kernel)
theorem t_703 : .instanceMethod yX6_walkPage ∈ gT := gT_of 744 (by decide +kernel) (by decide +kernel)
theorem ts_14 : .selects RX6 yX6_walkPage yX6_walkPage ∈ gT := gT_of 14 (by decide +kernel) (by decide +kernel)
theorem lk_X6_153 : LkV RX6 153 yX6_walkPage cX6_walkPage 9 none 4 := ⟨t_701, t_703, ts_14, t_1, t_704, ⟨by decide +kernel, by decide +kernel, by decide +kernel⟩⟩
theorem t_705 : .methodLink RX6 293 yX5_isOver ∈ gT := gT_of 746 (by decide +kernel) (by decide +kernel)
theorem t_708 : .code yX5_isOver cX5_isOver 1 (some .boolean) ∈ gT := gT_of 749 (by decide +kernel) (by decide +kernel)
theorem t_706 : .instanceMethod yX5_isOver ∈ gT := gT_of 747 (by decide +kernel) (by decide +kernel)
theorem t_707 : .selects RX5 yX5_isOver yX5_isOver ∈ gT := gT_of 748 (by decide +kernel) (by decide +kernel)
theorem lk_X6_293 : LkV RX6 293 yX5_isOver cX5_isOver 1 (some .boolean) 0 := ⟨t_705, t_706, t_707, t_16, t_708, ⟨by decide +kernel, by decide +kernel, by decide +kernel⟩⟩
theorem t_709 : .methodLink RX6 296 yX6_walkPiece ∈ gT := gT_of 750 (by decide +kernel) (by decide +kernel)
theorem t_712 : .code yX6_walkPiece cX6_walkPiece 6 none ∈ gT := gT_of 753 (by decide +kernel) (by decide +kernel)
theorem t_711 : .instanceMethod yX6_walkPiece ∈ gT := gT_of 752 (by decide +kernel) (by decide +kernel)
theorem ts_15 : .selects RX6 yX6_walkPiece yX6_walkPiece ∈ gT := gT_of 15 (by decide +kernel) (by decide +kernel)
theorem lk_X6_296 : LkV RX6 296 yX6_walkPiece cX6_walkPiece 6 none 5 := ⟨t_709, t_711, ts_15, t_1, t_712, ⟨by decide +kernel, by decide +kernel, by decide +kernel⟩⟩
theorem t_713 : .methodLink RX6 300 yX5_meet ∈ gT := gT_of 754 (by decide +kernel) (by decide +kernel)
theorem t_716 : .code yX5_meet cX5_meet 2 none ∈ gT := gT_of 757 (by decide +kernel) (by decide +kernel)
theorem t_714 : .instanceMethod yX5_meet ∈ gT := gT_of 755 (by decide +kernel) (by decide +kernel)
theorem t_715 : .selects RX5 yX5_meet yX5_meet ∈ gT := gT_of 756 (by decide +kernel) (by decide +kernel)
theorem lk_X6_300 : LkV RX6 300 yX5_meet cX5_meet 2 none 1 := ⟨t_713, t_714, t_715, t_16, t_716, ⟨by decide +kernel, by decide +kernel, by decide +kernel⟩⟩
theorem t_717 : .methodLink RL 194 yL_sourceAt ∈ gT := gT_of 758 (by decide +kernel) (by decide +kernel)
theorem t_719 : .codeWith yL_sourceAt cL_sourceAt 6 (some .int) [(0, 12, 15, 25), (0, 12, 19, 13), (0, 12, 23, 83)] ∈ gT := gT_of 760 (by decide +kernel) (by decide +kernel)
theorem t_718 : .static yL_sourceAt ∈ gT := gT_of 759 (by decide +kernel) (by decide +kernel)
theorem lk_L_194 : LkH RL 194 yL_sourceAt cL_sourceAt 6 (some .int) [(0, 12, 15, 25), (0, 12, 19, 13), (0, 12, 23, 83)] 5 := ⟨t_717, t_718, t_0, t_719, ⟨by decide +kernel, by decide +kernel, by decide +kernel⟩⟩
theorem t_720 : .methodLink RL 91 yX6_sourceAt ∈ gT := gT_of 761 (by decide +kernel) (by decide +kernel)
theorem t_723 : .code yX6_sourceAt cX6_sourceAt 5 (some .int) ∈ gT := gT_of 764 (by decide +kernel) (by decide +kernel)
theorem t_721 : .instanceMethod yX6_sourceAt ∈ gT := gT_of 762 (by decide +kernel) (by decide +kernel)
theorem t_722 : .selects RX6 yX6_sourceAt yX6_sourceAt ∈ gT := gT_of 763 (by decide +kernel) (by decide +kernel)
theorem lk_L_91 : LkV RL 91 yX6_sourceAt cX6_sourceAt 5 (some .int) 3 := ⟨t_720, t_721, t_722, t_1, t_723, ⟨by decide +kernel, by decide +kernel, by decide +kernel⟩⟩
theorem t_724 : .methodLink RL 197 yL_standsFor ∈ gT := gT_of 765 (by decide +kernel) (by decide +kernel)
theorem t_726 : .codeWith yL_standsFor cL_standsFor 4 (some .int) [(0, 9, 12, 25)] ∈ gT := gT_of 767 (by decide +kernel) (by decide +kernel)
theorem t_725 : .static yL_standsFor ∈ gT := gT_of 766 (by decide +kernel) (by decide +kernel)
theorem lk_L_197 : LkH RL 197 yL_standsFor cL_standsFor 4 (some .int) [(0, 9, 12, 25)] 3 := ⟨t_724, t_725, t_0, t_726, ⟨by decide +kernel, by decide +kernel, by decide +kernel⟩⟩
theorem t_727 : .methodLink RL 94 yX6_standsFor ∈ gT := gT_of 768 (by decide +kernel) (by decide +kernel)
theorem t_730 : .code yX6_standsFor cX6_standsFor 2 (some .int) ∈ gT := gT_of 771 (by decide +kernel) (by decide +kernel)
theorem t_728 : .instanceMethod yX6_standsFor ∈ gT := gT_of 769 (by decide +kernel) (by decide +kernel)
theorem t_729 : .selects RX6 yX6_standsFor yX6_standsFor ∈ gT := gT_of 770 (by decide +kernel) (by decide +kernel)
theorem lk_L_94 : LkV RL 94 yX6_standsFor cX6_standsFor 2 (some .int) 1 := ⟨t_727, t_728, t_729, t_1, t_730, ⟨by decide +kernel, by decide +kernel, by decide +kernel⟩⟩
theorem t_731 : .methodLink RX6 168 yX6_behindRedirects ∈ gT := gT_of 772 (by decide +kernel) (by decide +kernel)
theorem t_734 : .code yX6_behindRedirects cX6_behindRedirects 5 (some .int) ∈ gT := gT_of 775 (by decide +kernel) (by decide +kernel)
theorem t_733 : .instanceMethod yX6_behindRedirects ∈ gT := gT_of 774 (by decide +kernel) (by decide +kernel)
theorem ts_16 : .selects RX6 yX6_behindRedirects yX6_behindRedirects ∈ gT := gT_of 16 (by decide +kernel) (by decide +kernel)
theorem lk_X6_168 : LkV RX6 168 yX6_behindRedirects cX6_behindRedirects 5 (some .int) 1 := ⟨t_731, t_733, ts_16, t_1, t_734, ⟨by decide +kernel, by decide +kernel, by decide +kernel⟩⟩
theorem t_735 : .methodLink RX6 303 yX3_isRedirectAlone ∈ gT := gT_of 776 (by decide +kernel) (by decide +kernel)
theorem t_738 : .code yX3_isRedirectAlone cX3_isRedirectAlone 1 (some .boolean) ∈ gT := gT_of 779 (by decide +kernel) (by decide +kernel)
theorem t_736 : .instanceMethod yX3_isRedirectAlone ∈ gT := gT_of 777 (by decide +kernel) (by decide +kernel)
theorem t_737 : .selects RX3 yX3_isRedirectAlone yX3_isRedirectAlone ∈ gT := gT_of 778 (by decide +kernel) (by decide +kernel)
theorem lk_X6_303 : LkV RX6 303 yX3_isRedirectAlone cX3_isRedirectAlone 1 (some .boolean) 0 := ⟨t_735, t_736, t_737, t_2, t_738, ⟨by decide +kernel, by decide +kernel, by decide +kernel⟩⟩
theorem t_739 : .methodLink RL 200 yL_links ∈ gT := gT_of 780 (by decide +kernel) (by decide +kernel)
theorem t_741 : .codeWith yL_links cL_links 4 (some .int) [(0, 9, 12, 25)] ∈ gT := gT_of 782 (by decide +kernel) (by decide +kernel)
theorem t_740 : .static yL_links ∈ gT := gT_of 781 (by decide +kernel) (by decide +kernel)
theorem lk_L_200 : LkH RL 200 yL_links cL_links 4 (some .int) [(0, 9, 12, 25)] 3 := ⟨t_739, t_740, t_0, t_741, ⟨by decide +kernel, by decide +kernel, by decide +kernel⟩⟩
theorem t_742 : .methodLink RL 97 yX6_links ∈ gT := gT_of 783 (by decide +kernel) (by decide +kernel)
theorem t_745 : .code yX6_links cX6_links 5 (some .int) ∈ gT := gT_of 786 (by decide +kernel) (by decide +kernel)
theorem t_743 : .instanceMethod yX6_links ∈ gT := gT_of 784 (by decide +kernel) (by decide +kernel)
theorem t_744 : .selects RX6 yX6_links yX6_links ∈ gT := gT_of 785 (by decide +kernel) (by decide +kernel)
theorem lk_L_97 : LkV RL 97 yX6_links cX6_links 5 (some .int) 1 := ⟨t_742, t_743, t_744, t_1, t_745, ⟨by decide +kernel, by decide +kernel, by decide +kernel⟩⟩
theorem t_746 : .methodLink RX6 174 yX2_showsSort ∈ gT := gT_of 787 (by decide +kernel) (by decide +kernel)
theorem t_749 : .code yX2_showsSort cX2_showsSort 3 (some .boolean) ∈ gT := gT_of 790 (by decide +kernel) (by decide +kernel)
theorem t_747 : .instanceMethod yX2_showsSort ∈ gT := gT_of 788 (by decide +kernel) (by decide +kernel)
theorem t_748 : .selects RX2 yX2_showsSort yX2_showsSort ∈ gT := gT_of 789 (by decide +kernel) (by decide +kernel)
theorem lk_X6_174 : LkV RX6 174 yX2_showsSort cX2_showsSort 3 (some .boolean) 2 := ⟨t_746, t_747, t_748, t_6, t_749, ⟨by decide +kernel, by decide +kernel, by decide +kernel⟩⟩
theorem t_750 : .methodLink RL 203 yL_broken ∈ gT := gT_of 791 (by decide +kernel) (by decide +kernel)
theorem t_752 : .codeWith yL_broken cL_broken 4 (some .int) [(0, 9, 12, 25)] ∈ gT := gT_of 793 (by decide +kernel) (by decide +kernel)
theorem t_751 : .static yL_broken ∈ gT := gT_of 792 (by decide +kernel) (by decide +kernel)
theorem lk_L_203 : LkH RL 203 yL_broken cL_broken 4 (some .int) [(0, 9, 12, 25)] 3 := ⟨t_750, t_751, t_0, t_752, ⟨by decide +kernel, by decide +kernel, by decide +kernel⟩⟩
theorem t_753 : .methodLink RL 100 yX6_broken ∈ gT := gT_of 794 (by decide +kernel) (by decide +kernel)
theorem t_756 : .code yX6_broken cX6_broken 5 (some .int) ∈ gT := gT_of 797 (by decide +kernel) (by decide +kernel)
theorem t_754 : .instanceMethod yX6_broken ∈ gT := gT_of 795 (by decide +kernel) (by decide +kernel)
theorem t_755 : .selects RX6 yX6_broken yX6_broken ∈ gT := gT_of 796 (by decide +kernel) (by decide +kernel)
theorem lk_L_100 : LkV RL 100 yX6_broken cX6_broken 5 (some .int) 1 := ⟨t_753, t_754, t_755, t_1, t_756, ⟨by decide +kernel, by decide +kernel, by decide +kernel⟩⟩
theorem t_757 : .methodLink RX6 178 yX6_isBroken ∈ gT := gT_of 798 (by decide +kernel) (by decide +kernel)
theorem t_760 : .code yX6_isBroken cX6_isBroken 3 (some .boolean) ∈ gT := gT_of 801 (by decide +kernel) (by decide +kernel)
theorem t_759 : .instanceMethod yX6_isBroken ∈ gT := gT_of 800 (by decide +kernel) (by decide +kernel)
theorem ts_17 : .selects RX6 yX6_isBroken yX6_isBroken ∈ gT := gT_of 17 (by decide +kernel) (by decide +kernel)
theorem lk_X6_178 : LkV RX6 178 yX6_isBroken cX6_isBroken 3 (some .boolean) 2 := ⟨t_757, t_759, ts_17, t_1, t_760, ⟨by decide +kernel, by decide +kernel, by decide +kernel⟩⟩
theorem t_761 : .methodLink RX6 306 yX6_isGood ∈ gT := gT_of 802 (by decide +kernel) (by decide +kernel)
theorem t_764 : .code yX6_isGood cX6_isGood 3 (some .boolean) ∈ gT := gT_of 805 (by decide +kernel) (by decide +kernel)
theorem t_763 : .instanceMethod yX6_isGood ∈ gT := gT_of 804 (by decide +kernel) (by decide +kernel)
theorem ts_18 : .selects RX6 yX6_isGood yX6_isGood ∈ gT := gT_of 18 (by decide +kernel) (by decide +kernel)
theorem lk_X6_306 : LkV RX6 306 yX6_isGood cX6_isGood 3 (some .boolean) 1 := ⟨t_761, t_763, ts_18, t_1, t_764, ⟨by decide +kernel, by decide +kernel, by decide +kernel⟩⟩
theorem t_765 : .methodLink RX6 310 yX2_hasAnchor ∈ gT := gT_of 806 (by decide +kernel) (by decide +kernel)
theorem t_768 : .code yX2_hasAnchor cX2_hasAnchor 3 (some .boolean) ∈ gT := gT_of 809 (by decide +kernel) (by decide +kernel)
theorem t_766 : .instanceMethod yX2_hasAnchor ∈ gT := gT_of 807 (by decide +kernel) (by decide +kernel)
theorem t_767 : .selects RX2 yX2_hasAnchor yX2_hasAnchor ∈ gT := gT_of 808 (by decide +kernel) (by decide +kernel)
theorem lk_X6_310 : LkV RX6 310 yX2_hasAnchor cX2_hasAnchor 3 (some .boolean) 1 := ⟨t_765, t_766, t_767, t_6, t_768, ⟨by decide +kernel, by decide +kernel, by decide +kernel⟩⟩
theorem t_769 : .methodLink RX2 68 yX2_showsSort ∈ gT := gT_of 810 (by decide +kernel) (by decide +kernel)
theorem lk_X2_68 : LkV RX2 68 yX2_showsSort cX2_showsSort 3 (some .boolean) 2 := ⟨t_769, t_747, t_748, t_6, t_749, ⟨by decide +kernel, by decide +kernel, by decide +kernel⟩⟩
theorem t_770 : .methodLink RL 206 yL_firstBroken ∈ gT := gT_of 811 (by decide +kernel) (by decide +kernel)
theorem t_772 : .codeWith yL_firstBroken cL_firstBroken 4 (some .int) [(0, 9, 12, 25)] ∈ gT := gT_of 813 (by decide +kernel) (by decide +kernel)
theorem t_771 : .static yL_firstBroken ∈ gT := gT_of 812 (by decide +kernel) (by decide +kernel)
theorem lk_L_206 : LkH RL 206 yL_firstBroken cL_firstBroken 4 (some .int) [(0, 9, 12, 25)] 3 := ⟨t_770, t_771, t_0, t_772, ⟨by decide +kernel, by decide +kernel, by decide +kernel⟩⟩
theorem t_773 : .methodLink RL 103 yX6_firstBroken ∈ gT := gT_of 814 (by decide +kernel) (by decide +kernel)
theorem t_776 : .code yX6_firstBroken cX6_firstBroken 4 (some .int) ∈ gT := gT_of 817 (by decide +kernel) (by decide +kernel)
theorem t_774 : .instanceMethod yX6_firstBroken ∈ gT := gT_of 815 (by decide +kernel) (by decide +kernel)
theorem t_775 : .selects RX6 yX6_firstBroken yX6_firstBroken ∈ gT := gT_of 816 (by decide +kernel) (by decide +kernel)
theorem lk_L_103 : LkV RL 103 yX6_firstBroken cX6_firstBroken 4 (some .int) 1 := ⟨t_773, t_774, t_775, t_1, t_776, ⟨by decide +kernel, by decide +kernel, by decide +kernel⟩⟩
theorem t_777 : .methodLink RL 209 yL_linkedFrom ∈ gT := gT_of 818 (by decide +kernel) (by decide +kernel)
theorem t_779 : .codeWith yL_linkedFrom cL_linkedFrom 4 (some .int) [(0, 9, 12, 25)] ∈ gT := gT_of 820 (by decide +kernel) (by decide +kernel)
theorem t_778 : .static yL_linkedFrom ∈ gT := gT_of 819 (by decide +kernel) (by decide +kernel)
theorem lk_L_209 : LkH RL 209 yL_linkedFrom cL_linkedFrom 4 (some .int) [(0, 9, 12, 25)] 3 := ⟨t_777, t_778, t_0, t_779, ⟨by decide +kernel, by decide +kernel, by decide +kernel⟩⟩
theorem t_780 : .methodLink RL 106 yX6_linkedFrom ∈ gT := gT_of 821 (by decide +kernel) (by decide +kernel)
theorem t_783 : .code yX6_linkedFrom cX6_linkedFrom 4 (some .int) ∈ gT := gT_of 824 (by decide +kernel) (by decide +kernel)
theorem t_781 : .instanceMethod yX6_linkedFrom ∈ gT := gT_of 822 (by decide +kernel) (by decide +kernel)
theorem t_782 : .selects RX6 yX6_linkedFrom yX6_linkedFrom ∈ gT := gT_of 823 (by decide +kernel) (by decide +kernel)
theorem lk_L_106 : LkV RL 106 yX6_linkedFrom cX6_linkedFrom 4 (some .int) 1 := ⟨t_780, t_781, t_782, t_1, t_783, ⟨by decide +kernel, by decide +kernel, by decide +kernel⟩⟩
theorem t_784 : .methodLink RX6 182 yX6_hasGoodLink ∈ gT := gT_of 825 (by decide +kernel) (by decide +kernel)
theorem t_787 : .code yX6_hasGoodLink cX6_hasGoodLink 6 (some .boolean) ∈ gT := gT_of 828 (by decide +kernel) (by decide +kernel)
theorem t_786 : .instanceMethod yX6_hasGoodLink ∈ gT := gT_of 827 (by decide +kernel) (by decide +kernel)
theorem ts_19 : .selects RX6 yX6_hasGoodLink yX6_hasGoodLink ∈ gT := gT_of 19 (by decide +kernel) (by decide +kernel)
theorem lk_X6_182 : LkV RX6 182 yX6_hasGoodLink cX6_hasGoodLink 6 (some .boolean) 2 := ⟨t_784, t_786, ts_19, t_1, t_787, ⟨by decide +kernel, by decide +kernel, by decide +kernel⟩⟩
theorem t_788 : .methodLink RX6 313 yX6_leadsTo ∈ gT := gT_of 829 (by decide +kernel) (by decide +kernel)
theorem t_791 : .code yX6_leadsTo cX6_leadsTo 4 (some .boolean) ∈ gT := gT_of 832 (by decide +kernel) (by decide +kernel)
theorem t_790 : .instanceMethod yX6_leadsTo ∈ gT := gT_of 831 (by decide +kernel) (by decide +kernel)
theorem ts_20 : .selects RX6 yX6_leadsTo yX6_leadsTo ∈ gT := gT_of 20 (by decide +kernel) (by decide +kernel)
theorem lk_X6_313 : LkV RX6 313 yX6_leadsTo cX6_leadsTo 4 (some .boolean) 2 := ⟨t_788, t_790, ts_20, t_1, t_791, ⟨by decide +kernel, by decide +kernel, by decide +kernel⟩⟩
theorem t_792 : .methodLink RL 212 yL_breaches ∈ gT := gT_of 833 (by decide +kernel) (by decide +kernel)
theorem t_794 : .codeWith yL_breaches cL_breaches 4 (some .int) [(0, 9, 12, 25)] ∈ gT := gT_of 835 (by decide +kernel) (by decide +kernel)
theorem t_793 : .static yL_breaches ∈ gT := gT_of 834 (by decide +kernel) (by decide +kernel)
theorem lk_L_212 : LkH RL 212 yL_breaches cL_breaches 4 (some .int) [(0, 9, 12, 25)] 3 := ⟨t_792, t_793, t_0, t_794, ⟨by decide +kernel, by decide +kernel, by decide +kernel⟩⟩
theorem t_795 : .methodLink RL 109 yX6_breaches ∈ gT := gT_of 836 (by decide +kernel) (by decide +kernel)
theorem t_798 : .code yX6_breaches cX6_breaches 2 (some .int) ∈ gT := gT_of 839 (by decide +kernel) (by decide +kernel)
theorem t_796 : .instanceMethod yX6_breaches ∈ gT := gT_of 837 (by decide +kernel) (by decide +kernel)
theorem t_797 : .selects RX6 yX6_breaches yX6_breaches ∈ gT := gT_of 838 (by decide +kernel) (by decide +kernel)
theorem lk_L_109 : LkV RL 109 yX6_breaches cX6_breaches 2 (some .int) 1 := ⟨t_795, t_796, t_797, t_1, t_798, ⟨by decide +kernel, by decide +kernel, by decide +kernel⟩⟩
theorem t_801 : .methodLink RL 115 yX7_init ∈ gT := gT_of 842 (by decide +kernel) (by decide +kernel)
theorem t_7 : .initialized RX7 ∈ gT := gT_of 48 (by decide +kernel) (by decide +kernel)
theorem t_803 : .code yX7_init cX7_init 2 none ∈ gT := gT_of 844 (by decide +kernel) (by decide +kernel)
theorem t_802 : .instanceMethod yX7_init ∈ gT := gT_of 843 (by decide +kernel) (by decide +kernel)
theorem lk_L_115 : LkI RL 115 yX7_init cX7_init 2 0 := ⟨Or.inl t_801, rfl, t_802, t_7, t_803, ⟨by decide +kernel, by decide +kernel, by decide +kernel⟩⟩
theorem t_804 : .methodLink RX7 1 objectInit ∈ gT := gT_of 845 (by decide +kernel) (by decide +kernel)
theorem lk_X7_1 : gObj RX7 1 := ⟨t_804, t_23, t_24⟩
theorem t_872 : .methodLink RL 122 yX7_thrown ∈ gT := gT_of 913 (by decide +kernel) (by decide +kernel)
theorem t_875 : .code yX7_thrown cX7_thrown 1 (some .int) ∈ gT := gT_of 916 (by decide +kernel) (by decide +kernel)
theorem t_873 : .instanceMethod yX7_thrown ∈ gT := gT_of 914 (by decide +kernel) (by decide +kernel)
theorem t_874 : .selects RX7 yX7_thrown yX7_thrown ∈ gT := gT_of 915 (by decide +kernel) (by decide +kernel)
theorem lk_L_122 : LkV RL 122 yX7_thrown cX7_thrown 1 (some .int) 0 := ⟨t_872, t_873, t_874, t_7, t_875, ⟨by decide +kernel, by decide +kernel, by decide +kernel⟩⟩
theorem t_876 : .methodLink RL 121 yX7_letter ∈ gT := gT_of 917 (by decide +kernel) (by decide +kernel)
theorem t_879 : .code yX7_letter cX7_letter 2 (some .int) ∈ gT := gT_of 920 (by decide +kernel) (by decide +kernel)
theorem t_877 : .instanceMethod yX7_letter ∈ gT := gT_of 918 (by decide +kernel) (by decide +kernel)
theorem t_878 : .selects RX7 yX7_letter yX7_letter ∈ gT := gT_of 919 (by decide +kernel) (by decide +kernel)
theorem lk_L_121 : LkV RL 121 yX7_letter cX7_letter 2 (some .int) 1 := ⟨t_876, t_877, t_878, t_7, t_879, ⟨by decide +kernel, by decide +kernel, by decide +kernel⟩⟩
theorem t_880 : .methodLink RX7 75 yX7_isLetter ∈ gT := gT_of 921 (by decide +kernel) (by decide +kernel)
theorem t_882 : .code yX7_isLetter cX7_isLetter 1 (some .boolean) ∈ gT := gT_of 923 (by decide +kernel) (by decide +kernel)
theorem t_881 : .static yX7_isLetter ∈ gT := gT_of 922 (by decide +kernel) (by decide +kernel)
theorem lk_X7_75 : LkS RX7 75 yX7_isLetter cX7_isLetter 1 (some .boolean) 1 := ⟨t_880, t_881, t_7, t_882, ⟨by decide +kernel, by decide +kernel, by decide +kernel⟩⟩
theorem t_883 : .methodLink RX7 68 yX7_in ∈ gT := gT_of 924 (by decide +kernel) (by decide +kernel)
theorem t_885 : .code yX7_in cX7_in 3 (some .boolean) ∈ gT := gT_of 926 (by decide +kernel) (by decide +kernel)
theorem t_884 : .static yX7_in ∈ gT := gT_of 925 (by decide +kernel) (by decide +kernel)
theorem lk_X7_68 : LkS RX7 68 yX7_in cX7_in 3 (some .boolean) 3 := ⟨t_883, t_884, t_7, t_885, ⟨by decide +kernel, by decide +kernel, by decide +kernel⟩⟩
theorem t_886 : .methodLink RX7 79 yX7_hasRoom ∈ gT := gT_of 927 (by decide +kernel) (by decide +kernel)
theorem t_889 : .code yX7_hasRoom cX7_hasRoom 1 (some .boolean) ∈ gT := gT_of 930 (by decide +kernel) (by decide +kernel)
theorem t_888 : .instanceMethod yX7_hasRoom ∈ gT := gT_of 929 (by decide +kernel) (by decide +kernel)
theorem ts_21 : .selects RX7 yX7_hasRoom yX7_hasRoom ∈ gT := gT_of 21 (by decide +kernel) (by decide +kernel)
theorem lk_X7_79 : LkV RX7 79 yX7_hasRoom cX7_hasRoom 1 (some .boolean) 0 := ⟨t_886, t_888, ts_21, t_7, t_889, ⟨by decide +kernel, by decide +kernel, by decide +kernel⟩⟩
theorem t_890 : .methodLink RX7 83 yX7_goes ∈ gT := gT_of 931 (by decide +kernel) (by decide +kernel)
theorem t_893 : .code yX7_goes cX7_goes 4 (some .boolean) ∈ gT := gT_of 934 (by decide +kernel) (by decide +kernel)
theorem t_892 : .instanceMethod yX7_goes ∈ gT := gT_of 933 (by decide +kernel) (by decide +kernel)
theorem ts_22 : .selects RX7 yX7_goes yX7_goes ∈ gT := gT_of 22 (by decide +kernel) (by decide +kernel)
theorem lk_X7_83 : LkV RX7 83 yX7_goes cX7_goes 4 (some .boolean) 3 := ⟨t_890, t_892, ts_22, t_7, t_893, ⟨by decide +kernel, by decide +kernel, by decide +kernel⟩⟩
theorem t_894 : .methodLink RX7 87 yX7_adds ∈ gT := gT_of 935 (by decide +kernel) (by decide +kernel)
theorem t_897 : .code yX7_adds cX7_adds 4 (some .int) ∈ gT := gT_of 938 (by decide +kernel) (by decide +kernel)
theorem t_896 : .instanceMethod yX7_adds ∈ gT := gT_of 937 (by decide +kernel) (by decide +kernel)
theorem ts_23 : .selects RX7 yX7_adds yX7_adds ∈ gT := gT_of 23 (by decide +kernel) (by decide +kernel)
theorem lk_X7_87 : LkV RX7 87 yX7_adds cX7_adds 4 (some .int) 3 := ⟨t_894, t_896, ts_23, t_7, t_897, ⟨by decide +kernel, by decide +kernel, by decide +kernel⟩⟩
theorem t_898 : .methodLink RL 128 yX7_argument ∈ gT := gT_of 939 (by decide +kernel) (by decide +kernel)
theorem t_901 : .code yX7_argument cX7_argument 1 (some .int) ∈ gT := gT_of 942 (by decide +kernel) (by decide +kernel)
theorem t_899 : .instanceMethod yX7_argument ∈ gT := gT_of 940 (by decide +kernel) (by decide +kernel)
theorem t_900 : .selects RX7 yX7_argument yX7_argument ∈ gT := gT_of 941 (by decide +kernel) (by decide +kernel)
theorem lk_L_128 : LkV RL 128 yX7_argument cX7_argument 1 (some .int) 0 := ⟨t_898, t_899, t_900, t_7, t_901, ⟨by decide +kernel, by decide +kernel, by decide +kernel⟩⟩
theorem t_902 : .methodLink RL 132 yX7_call ∈ gT := gT_of 943 (by decide +kernel) (by decide +kernel)
theorem t_905 : .code yX7_call cX7_call 3 (some .int) ∈ gT := gT_of 946 (by decide +kernel) (by decide +kernel)
theorem t_903 : .instanceMethod yX7_call ∈ gT := gT_of 944 (by decide +kernel) (by decide +kernel)
theorem t_904 : .selects RX7 yX7_call yX7_call ∈ gT := gT_of 945 (by decide +kernel) (by decide +kernel)
theorem lk_L_132 : LkV RL 132 yX7_call cX7_call 3 (some .int) 2 := ⟨t_902, t_903, t_904, t_7, t_905, ⟨by decide +kernel, by decide +kernel, by decide +kernel⟩⟩
theorem t_906 : .methodLink RX7 91 yX7_isPage ∈ gT := gT_of 947 (by decide +kernel) (by decide +kernel)
theorem t_908 : .code yX7_isPage cX7_isPage 1 (some .boolean) ∈ gT := gT_of 949 (by decide +kernel) (by decide +kernel)
theorem t_907 : .static yX7_isPage ∈ gT := gT_of 948 (by decide +kernel) (by decide +kernel)
theorem lk_X7_91 : LkS RX7 91 yX7_isPage cX7_isPage 1 (some .boolean) 1 := ⟨t_906, t_907, t_7, t_908, ⟨by decide +kernel, by decide +kernel, by decide +kernel⟩⟩
theorem t_909 : .methodLink RL 135 yX7_callOn ∈ gT := gT_of 950 (by decide +kernel) (by decide +kernel)
theorem t_912 : .code yX7_callOn cX7_callOn 2 (some .int) ∈ gT := gT_of 953 (by decide +kernel) (by decide +kernel)
theorem t_910 : .instanceMethod yX7_callOn ∈ gT := gT_of 951 (by decide +kernel) (by decide +kernel)
theorem t_911 : .selects RX7 yX7_callOn yX7_callOn ∈ gT := gT_of 952 (by decide +kernel) (by decide +kernel)
theorem lk_L_135 : LkV RL 135 yX7_callOn cX7_callOn 2 (some .int) 1 := ⟨t_909, t_910, t_911, t_7, t_912, ⟨by decide +kernel, by decide +kernel, by decide +kernel⟩⟩
theorem t_913 : .methodLink RL 138 yX7_when ∈ gT := gT_of 954 (by decide +kernel) (by decide +kernel)
theorem t_916 : .code yX7_when cX7_when 2 (some .int) ∈ gT := gT_of 957 (by decide +kernel) (by decide +kernel)
theorem t_914 : .instanceMethod yX7_when ∈ gT := gT_of 955 (by decide +kernel) (by decide +kernel)
theorem t_915 : .selects RX7 yX7_when yX7_when ∈ gT := gT_of 956 (by decide +kernel) (by decide +kernel)
theorem lk_L_138 : LkV RL 138 yX7_when cX7_when 2 (some .int) 1 := ⟨t_913, t_914, t_915, t_7, t_916, ⟨by decide +kernel, by decide +kernel, by decide +kernel⟩⟩
theorem t_917 : .methodLink RL 141 yX7_end ∈ gT := gT_of 958 (by decide +kernel) (by decide +kernel)
theorem t_920 : .code yX7_end cX7_end 1 (some .int) ∈ gT := gT_of 961 (by decide +kernel) (by decide +kernel)
theorem t_918 : .instanceMethod yX7_end ∈ gT := gT_of 959 (by decide +kernel) (by decide +kernel)
theorem t_919 : .selects RX7 yX7_end yX7_end ∈ gT := gT_of 960 (by decide +kernel) (by decide +kernel)
theorem lk_L_141 : LkV RL 141 yX7_end cX7_end 1 (some .int) 0 := ⟨t_917, t_918, t_919, t_7, t_920, ⟨by decide +kernel, by decide +kernel, by decide +kernel⟩⟩
theorem t_921 : .methodLink RL 144 yX7_anchor ∈ gT := gT_of 962 (by decide +kernel) (by decide +kernel)
theorem t_924 : .code yX7_anchor cX7_anchor 2 (some .int) ∈ gT := gT_of 965 (by decide +kernel) (by decide +kernel)
theorem t_922 : .instanceMethod yX7_anchor ∈ gT := gT_of 963 (by decide +kernel) (by decide +kernel)
theorem t_923 : .selects RX7 yX7_anchor yX7_anchor ∈ gT := gT_of 964 (by decide +kernel) (by decide +kernel)
theorem lk_L_144 : LkV RL 144 yX7_anchor cX7_anchor 2 (some .int) 1 := ⟨t_921, t_922, t_923, t_7, t_924, ⟨by decide +kernel, by decide +kernel, by decide +kernel⟩⟩
theorem t_925 : .methodLink RL 147 yX7_link ∈ gT := gT_of 966 (by decide +kernel) (by decide +kernel)
theorem t_928 : .code yX7_link cX7_link 3 (some .int) ∈ gT := gT_of 969 (by decide +kernel) (by decide +kernel)
theorem t_926 : .instanceMethod yX7_link ∈ gT := gT_of 967 (by decide +kernel) (by decide +kernel)
theorem t_927 : .selects RX7 yX7_link yX7_link ∈ gT := gT_of 968 (by decide +kernel) (by decide +kernel)
theorem lk_L_147 : LkV RL 147 yX7_link cX7_link 3 (some .int) 2 := ⟨t_925, t_926, t_927, t_7, t_928, ⟨by decide +kernel, by decide +kernel, by decide +kernel⟩⟩
theorem t_929 : .methodLink RL 150 yX7_redirect ∈ gT := gT_of 970 (by decide +kernel) (by decide +kernel)
theorem t_932 : .code yX7_redirect cX7_redirect 2 (some .int) ∈ gT := gT_of 973 (by decide +kernel) (by decide +kernel)
theorem t_930 : .instanceMethod yX7_redirect ∈ gT := gT_of 971 (by decide +kernel) (by decide +kernel)
theorem t_931 : .selects RX7 yX7_redirect yX7_redirect ∈ gT := gT_of 972 (by decide +kernel) (by decide +kernel)
theorem lk_L_150 : LkV RL 150 yX7_redirect cX7_redirect 2 (some .int) 1 := ⟨t_929, t_930, t_931, t_7, t_932, ⟨by decide +kernel, by decide +kernel, by decide +kernel⟩⟩
theorem t_933 : .methodLink RL 153 yX7_edit ∈ gT := gT_of 974 (by decide +kernel) (by decide +kernel)
theorem t_936 : .code yX7_edit cX7_edit 6 (some .int) ∈ gT := gT_of 977 (by decide +kernel) (by decide +kernel)
theorem t_934 : .instanceMethod yX7_edit ∈ gT := gT_of 975 (by decide +kernel) (by decide +kernel)
theorem t_935 : .selects RX7 yX7_edit yX7_edit ∈ gT := gT_of 976 (by decide +kernel) (by decide +kernel)
theorem lk_L_153 : LkV RL 153 yX7_edit cX7_edit 6 (some .int) 2 := ⟨t_933, t_934, t_935, t_7, t_936, ⟨by decide +kernel, by decide +kernel, by decide +kernel⟩⟩
theorem t_937 : .methodLink RX7 125 yX7_isUser ∈ gT := gT_of 978 (by decide +kernel) (by decide +kernel)
theorem t_939 : .code yX7_isUser cX7_isUser 1 (some .boolean) ∈ gT := gT_of 980 (by decide +kernel) (by decide +kernel)
theorem t_938 : .static yX7_isUser ∈ gT := gT_of 979 (by decide +kernel) (by decide +kernel)
theorem lk_X7_125 : LkS RX7 125 yX7_isUser cX7_isUser 1 (some .boolean) 1 := ⟨t_937, t_938, t_7, t_939, ⟨by decide +kernel, by decide +kernel, by decide +kernel⟩⟩
theorem t_940 : .methodLink RX7 128 yX7_refusal ∈ gT := gT_of 981 (by decide +kernel) (by decide +kernel)
theorem t_943 : .code yX7_refusal cX7_refusal 7 (some .int) ∈ gT := gT_of 984 (by decide +kernel) (by decide +kernel)
theorem t_942 : .instanceMethod yX7_refusal ∈ gT := gT_of 983 (by decide +kernel) (by decide +kernel)
theorem ts_24 : .selects RX7 yX7_refusal yX7_refusal ∈ gT := gT_of 24 (by decide +kernel) (by decide +kernel)
theorem lk_X7_128 : LkV RX7 128 yX7_refusal cX7_refusal 7 (some .int) 3 := ⟨t_940, t_942, ts_24, t_7, t_943, ⟨by decide +kernel, by decide +kernel, by decide +kernel⟩⟩
theorem t_944 : .methodLink RX7 112 yX7_laysNow ∈ gT := gT_of 985 (by decide +kernel) (by decide +kernel)
theorem t_947 : .code yX7_laysNow cX7_laysNow 2 none ∈ gT := gT_of 988 (by decide +kernel) (by decide +kernel)
theorem t_946 : .instanceMethod yX7_laysNow ∈ gT := gT_of 987 (by decide +kernel) (by decide +kernel)
theorem ts_25 : .selects RX7 yX7_laysNow yX7_laysNow ∈ gT := gT_of 25 (by decide +kernel) (by decide +kernel)
theorem lk_X7_112 : LkV RX7 112 yX7_laysNow cX7_laysNow 2 none 0 := ⟨t_944, t_946, ts_25, t_7, t_947, ⟨by decide +kernel, by decide +kernel, by decide +kernel⟩⟩
theorem t_948 : .methodLink RX7 97 yX7_now ∈ gT := gT_of 989 (by decide +kernel) (by decide +kernel)
theorem t_951 : .code yX7_now cX7_now 2 (some .int) ∈ gT := gT_of 992 (by decide +kernel) (by decide +kernel)
theorem t_950 : .instanceMethod yX7_now ∈ gT := gT_of 991 (by decide +kernel) (by decide +kernel)
theorem ts_26 : .selects RX7 yX7_now yX7_now ∈ gT := gT_of 26 (by decide +kernel) (by decide +kernel)
theorem lk_X7_97 : LkV RX7 97 yX7_now cX7_now 2 (some .int) 1 := ⟨t_948, t_950, ts_26, t_7, t_951, ⟨by decide +kernel, by decide +kernel, by decide +kernel⟩⟩
theorem t_952 : .methodLink RX7 101 yX7_laysCalls ∈ gT := gT_of 993 (by decide +kernel) (by decide +kernel)
theorem t_955 : .code yX7_laysCalls cX7_laysCalls 7 none ∈ gT := gT_of 996 (by decide +kernel) (by decide +kernel)
theorem t_954 : .instanceMethod yX7_laysCalls ∈ gT := gT_of 995 (by decide +kernel) (by decide +kernel)
theorem ts_27 : .selects RX7 yX7_laysCalls yX7_laysCalls ∈ gT := gT_of 27 (by decide +kernel) (by decide +kernel)
theorem lk_X7_101 : LkV RX7 101 yX7_laysCalls cX7_laysCalls 7 none 2 := ⟨t_952, t_954, ts_27, t_7, t_955, ⟨by decide +kernel, by decide +kernel, by decide +kernel⟩⟩
theorem t_956 : .methodLink RX7 105 yX7_laysReached ∈ gT := gT_of 997 (by decide +kernel) (by decide +kernel)
theorem t_959 : .code yX7_laysReached cX7_laysReached 4 none ∈ gT := gT_of 1000 (by decide +kernel) (by decide +kernel)
theorem t_958 : .instanceMethod yX7_laysReached ∈ gT := gT_of 999 (by decide +kernel) (by decide +kernel)
theorem ts_28 : .selects RX7 yX7_laysReached yX7_laysReached ∈ gT := gT_of 28 (by decide +kernel) (by decide +kernel)
theorem lk_X7_105 : LkV RX7 105 yX7_laysReached cX7_laysReached 4 none 0 := ⟨t_956, t_958, ts_28, t_7, t_959, ⟨by decide +kernel, by decide +kernel, by decide +kernel⟩⟩
theorem t_960 : .methodLink RX7 115 yX7_forceOf ∈ gT := gT_of 1001 (by decide +kernel) (by decide +kernel)
theorem t_963 : .code yX7_forceOf cX7_forceOf 4 (some .int) ∈ gT := gT_of 1004 (by decide +kernel) (by decide +kernel)
theorem t_962 : .instanceMethod yX7_forceOf ∈ gT := gT_of 1003 (by decide +kernel) (by decide +kernel)
theorem ts_29 : .selects RX7 yX7_forceOf yX7_forceOf ∈ gT := gT_of 29 (by decide +kernel) (by decide +kernel)
theorem lk_X7_115 : LkV RX7 115 yX7_forceOf cX7_forceOf 4 (some .int) 1 := ⟨t_960, t_962, ts_29, t_7, t_963, ⟨by decide +kernel, by decide +kernel, by decide +kernel⟩⟩
theorem t_964 : .methodLink RX7 108 yX7_has ∈ gT := gT_of 1005 (by decide +kernel) (by decide +kernel)
theorem t_966 : .code yX7_has cX7_has 2 (some .boolean) ∈ gT := gT_of 1007 (by decide +kernel) (by decide +kernel)
theorem t_965 : .static yX7_has ∈ gT := gT_of 1006 (by decide +kernel) (by decide +kernel)
theorem lk_X7_108 : LkS RX7 108 yX7_has cX7_has 2 (some .boolean) 2 := ⟨t_964, t_965, t_7, t_966, ⟨by decide +kernel, by decide +kernel, by decide +kernel⟩⟩
theorem t_967 : .methodLink RX7 118 yX7_measures ∈ gT := gT_of 1008 (by decide +kernel) (by decide +kernel)
theorem t_970 : .code yX7_measures cX7_measures 7 none ∈ gT := gT_of 1011 (by decide +kernel) (by decide +kernel)
theorem t_969 : .instanceMethod yX7_measures ∈ gT := gT_of 1010 (by decide +kernel) (by decide +kernel)
theorem ts_30 : .selects RX7 yX7_measures yX7_measures ∈ gT := gT_of 30 (by decide +kernel) (by decide +kernel)
theorem lk_X7_118 : LkV RX7 118 yX7_measures cX7_measures 7 none 0 := ⟨t_967, t_969, ts_30, t_7, t_970, ⟨by decide +kernel, by decide +kernel, by decide +kernel⟩⟩
theorem t_971 : .methodLink RX7 121 yX7_greatest ∈ gT := gT_of 1012 (by decide +kernel) (by decide +kernel)
theorem t_974 : .code yX7_greatest cX7_greatest 5 (some .int) ∈ gT := gT_of 1015 (by decide +kernel) (by decide +kernel)
theorem t_973 : .instanceMethod yX7_greatest ∈ gT := gT_of 1014 (by decide +kernel) (by decide +kernel)
theorem ts_31 : .selects RX7 yX7_greatest yX7_greatest ∈ gT := gT_of 31 (by decide +kernel) (by decide +kernel)
theorem lk_X7_121 : LkV RX7 121 yX7_greatest cX7_greatest 5 (some .int) 1 := ⟨t_971, t_973, ts_31, t_7, t_974, ⟨by decide +kernel, by decide +kernel, by decide +kernel⟩⟩
theorem t_975 : .methodLink RL 156 yX7_undo ∈ gT := gT_of 1016 (by decide +kernel) (by decide +kernel)
theorem t_978 : .code yX7_undo cX7_undo 5 (some .int) ∈ gT := gT_of 1019 (by decide +kernel) (by decide +kernel)
theorem t_976 : .instanceMethod yX7_undo ∈ gT := gT_of 1017 (by decide +kernel) (by decide +kernel)
theorem t_977 : .selects RX7 yX7_undo yX7_undo ∈ gT := gT_of 1018 (by decide +kernel) (by decide +kernel)
theorem lk_L_156 : LkV RL 156 yX7_undo cX7_undo 5 (some .int) 2 := ⟨t_975, t_976, t_977, t_7, t_978, ⟨by decide +kernel, by decide +kernel, by decide +kernel⟩⟩
theorem t_979 : .methodLink RL 159 yX7_approve ∈ gT := gT_of 1020 (by decide +kernel) (by decide +kernel)
theorem t_982 : .code yX7_approve cX7_approve 4 (some .boolean) ∈ gT := gT_of 1023 (by decide +kernel) (by decide +kernel)
theorem t_980 : .instanceMethod yX7_approve ∈ gT := gT_of 1021 (by decide +kernel) (by decide +kernel)
theorem t_981 : .selects RX7 yX7_approve yX7_approve ∈ gT := gT_of 1022 (by decide +kernel) (by decide +kernel)
theorem lk_L_159 : LkV RL 159 yX7_approve cX7_approve 4 (some .boolean) 2 := ⟨t_979, t_980, t_981, t_7, t_982, ⟨by decide +kernel, by decide +kernel, by decide +kernel⟩⟩
theorem t_983 : .methodLink RL 163 yX7_lock ∈ gT := gT_of 1024 (by decide +kernel) (by decide +kernel)
theorem t_986 : .code yX7_lock cX7_lock 5 (some .int) ∈ gT := gT_of 1027 (by decide +kernel) (by decide +kernel)
theorem t_984 : .instanceMethod yX7_lock ∈ gT := gT_of 1025 (by decide +kernel) (by decide +kernel)
theorem t_985 : .selects RX7 yX7_lock yX7_lock ∈ gT := gT_of 1026 (by decide +kernel) (by decide +kernel)
theorem lk_L_163 : LkV RL 163 yX7_lock cX7_lock 5 (some .int) 3 := ⟨t_983, t_984, t_985, t_7, t_986, ⟨by decide +kernel, by decide +kernel, by decide +kernel⟩⟩
theorem t_987 : .methodLink RL 166 yX7_setRank ∈ gT := gT_of 1028 (by decide +kernel) (by decide +kernel)
theorem t_990 : .code yX7_setRank cX7_setRank 4 (some .int) ∈ gT := gT_of 1031 (by decide +kernel) (by decide +kernel)
theorem t_988 : .instanceMethod yX7_setRank ∈ gT := gT_of 1029 (by decide +kernel) (by decide +kernel)
theorem t_989 : .selects RX7 yX7_setRank yX7_setRank ∈ gT := gT_of 1030 (by decide +kernel) (by decide +kernel)
theorem lk_L_166 : LkV RL 166 yX7_setRank cX7_setRank 4 (some .int) 2 := ⟨t_987, t_988, t_989, t_7, t_990, ⟨by decide +kernel, by decide +kernel, by decide +kernel⟩⟩
theorem t_991 : .methodLink RL 169 yX7_version ∈ gT := gT_of 1032 (by decide +kernel) (by decide +kernel)
theorem t_994 : .code yX7_version cX7_version 2 (some .int) ∈ gT := gT_of 1035 (by decide +kernel) (by decide +kernel)
theorem t_992 : .instanceMethod yX7_version ∈ gT := gT_of 1033 (by decide +kernel) (by decide +kernel)
theorem t_993 : .selects RX7 yX7_version yX7_version ∈ gT := gT_of 1034 (by decide +kernel) (by decide +kernel)
theorem lk_L_169 : LkV RL 169 yX7_version cX7_version 2 (some .int) 1 := ⟨t_991, t_992, t_993, t_7, t_994, ⟨by decide +kernel, by decide +kernel, by decide +kernel⟩⟩
theorem t_995 : .methodLink RL 172 yX7_rankOf ∈ gT := gT_of 1036 (by decide +kernel) (by decide +kernel)
theorem t_998 : .code yX7_rankOf cX7_rankOf 2 (some .int) ∈ gT := gT_of 1039 (by decide +kernel) (by decide +kernel)
theorem t_996 : .instanceMethod yX7_rankOf ∈ gT := gT_of 1037 (by decide +kernel) (by decide +kernel)
theorem t_997 : .selects RX7 yX7_rankOf yX7_rankOf ∈ gT := gT_of 1038 (by decide +kernel) (by decide +kernel)
theorem lk_L_172 : LkV RL 172 yX7_rankOf cX7_rankOf 2 (some .int) 1 := ⟨t_995, t_996, t_997, t_7, t_998, ⟨by decide +kernel, by decide +kernel, by decide +kernel⟩⟩
theorem t_999 : .methodLink RL 175 yX7_force ∈ gT := gT_of 1040 (by decide +kernel) (by decide +kernel)
theorem t_1002 : .code yX7_force cX7_force 2 (some .int) ∈ gT := gT_of 1043 (by decide +kernel) (by decide +kernel)
theorem t_1000 : .instanceMethod yX7_force ∈ gT := gT_of 1041 (by decide +kernel) (by decide +kernel)
theorem t_1001 : .selects RX7 yX7_force yX7_force ∈ gT := gT_of 1042 (by decide +kernel) (by decide +kernel)
theorem lk_L_175 : LkV RL 175 yX7_force cX7_force 2 (some .int) 1 := ⟨t_999, t_1000, t_1001, t_7, t_1002, ⟨by decide +kernel, by decide +kernel, by decide +kernel⟩⟩
theorem t_1003 : .methodLink RL 178 yX7_reaches ∈ gT := gT_of 1044 (by decide +kernel) (by decide +kernel)
theorem t_1006 : .code yX7_reaches cX7_reaches 2 (some .int) ∈ gT := gT_of 1047 (by decide +kernel) (by decide +kernel)
theorem t_1004 : .instanceMethod yX7_reaches ∈ gT := gT_of 1045 (by decide +kernel) (by decide +kernel)
theorem t_1005 : .selects RX7 yX7_reaches yX7_reaches ∈ gT := gT_of 1046 (by decide +kernel) (by decide +kernel)
theorem lk_L_178 : LkV RL 178 yX7_reaches cX7_reaches 2 (some .int) 1 := ⟨t_1003, t_1004, t_1005, t_7, t_1006, ⟨by decide +kernel, by decide +kernel, by decide +kernel⟩⟩
theorem t_1007 : .methodLink RL 181 yX7_extent ∈ gT := gT_of 1048 (by decide +kernel) (by decide +kernel)
theorem t_1010 : .code yX7_extent cX7_extent 2 (some .int) ∈ gT := gT_of 1051 (by decide +kernel) (by decide +kernel)
theorem t_1008 : .instanceMethod yX7_extent ∈ gT := gT_of 1049 (by decide +kernel) (by decide +kernel)
theorem t_1009 : .selects RX7 yX7_extent yX7_extent ∈ gT := gT_of 1050 (by decide +kernel) (by decide +kernel)
theorem lk_L_181 : LkV RL 181 yX7_extent cX7_extent 2 (some .int) 1 := ⟨t_1007, t_1008, t_1009, t_7, t_1010, ⟨by decide +kernel, by decide +kernel, by decide +kernel⟩⟩
theorem t_1011 : .methodLink RL 184 yX7_items ∈ gT := gT_of 1052 (by decide +kernel) (by decide +kernel)
theorem t_1014 : .code yX7_items cX7_items 4 (some .int) ∈ gT := gT_of 1055 (by decide +kernel) (by decide +kernel)
theorem t_1012 : .instanceMethod yX7_items ∈ gT := gT_of 1053 (by decide +kernel) (by decide +kernel)
theorem t_1013 : .selects RX7 yX7_items yX7_items ∈ gT := gT_of 1054 (by decide +kernel) (by decide +kernel)
theorem lk_L_184 : LkV RL 184 yX7_items cX7_items 4 (some .int) 2 := ⟨t_1011, t_1012, t_1013, t_7, t_1014, ⟨by decide +kernel, by decide +kernel, by decide +kernel⟩⟩
theorem t_1015 : .methodLink RX7 142 yX7_lays ∈ gT := gT_of 1056 (by decide +kernel) (by decide +kernel)
theorem t_1018 : .code yX7_lays cX7_lays 10 none ∈ gT := gT_of 1059 (by decide +kernel) (by decide +kernel)
theorem t_1017 : .instanceMethod yX7_lays ∈ gT := gT_of 1058 (by decide +kernel) (by decide +kernel)
theorem ts_32 : .selects RX7 yX7_lays yX7_lays ∈ gT := gT_of 32 (by decide +kernel) (by decide +kernel)
theorem lk_X7_142 : LkV RX7 142 yX7_lays cX7_lays 10 none 2 := ⟨t_1015, t_1017, ts_32, t_7, t_1018, ⟨by decide +kernel, by decide +kernel, by decide +kernel⟩⟩
theorem t_1019 : .methodLink RX7 134 yX7_behind ∈ gT := gT_of 1060 (by decide +kernel) (by decide +kernel)
theorem t_1022 : .code yX7_behind cX7_behind 6 (some .int) ∈ gT := gT_of 1063 (by decide +kernel) (by decide +kernel)
theorem t_1021 : .instanceMethod yX7_behind ∈ gT := gT_of 1062 (by decide +kernel) (by decide +kernel)
theorem ts_33 : .selects RX7 yX7_behind yX7_behind ∈ gT := gT_of 33 (by decide +kernel) (by decide +kernel)
theorem lk_X7_134 : LkV RX7 134 yX7_behind cX7_behind 6 (some .int) 2 := ⟨t_1019, t_1021, ts_33, t_7, t_1022, ⟨by decide +kernel, by decide +kernel, by decide +kernel⟩⟩
theorem t_1023 : .methodLink RX7 138 yX7_shows ∈ gT := gT_of 1064 (by decide +kernel) (by decide +kernel)
theorem t_1026 : .code yX7_shows cX7_shows 4 none ∈ gT := gT_of 1067 (by decide +kernel) (by decide +kernel)
theorem t_1025 : .instanceMethod yX7_shows ∈ gT := gT_of 1066 (by decide +kernel) (by decide +kernel)
theorem ts_34 : .selects RX7 yX7_shows yX7_shows ∈ gT := gT_of 34 (by decide +kernel) (by decide +kernel)
theorem lk_X7_138 : LkV RX7 138 yX7_shows cX7_shows 4 none 3 := ⟨t_1023, t_1025, ts_34, t_7, t_1026, ⟨by decide +kernel, by decide +kernel, by decide +kernel⟩⟩
theorem t_1027 : .methodLink RL 187 yX7_sortAt ∈ gT := gT_of 1068 (by decide +kernel) (by decide +kernel)
theorem t_1030 : .code yX7_sortAt cX7_sortAt 4 (some .int) ∈ gT := gT_of 1071 (by decide +kernel) (by decide +kernel)
theorem t_1028 : .instanceMethod yX7_sortAt ∈ gT := gT_of 1069 (by decide +kernel) (by decide +kernel)
theorem t_1029 : .selects RX7 yX7_sortAt yX7_sortAt ∈ gT := gT_of 1070 (by decide +kernel) (by decide +kernel)
theorem lk_L_187 : LkV RL 187 yX7_sortAt cX7_sortAt 4 (some .int) 3 := ⟨t_1027, t_1028, t_1029, t_7, t_1030, ⟨by decide +kernel, by decide +kernel, by decide +kernel⟩⟩
theorem t_1031 : .methodLink RX7 145 yX7_isShown ∈ gT := gT_of 1072 (by decide +kernel) (by decide +kernel)
theorem t_1034 : .code yX7_isShown cX7_isShown 5 (some .boolean) ∈ gT := gT_of 1075 (by decide +kernel) (by decide +kernel)
theorem t_1033 : .instanceMethod yX7_isShown ∈ gT := gT_of 1074 (by decide +kernel) (by decide +kernel)
theorem ts_35 : .selects RX7 yX7_isShown yX7_isShown ∈ gT := gT_of 35 (by decide +kernel) (by decide +kernel)
theorem lk_X7_145 : LkV RX7 145 yX7_isShown cX7_isShown 5 (some .boolean) 3 := ⟨t_1031, t_1033, ts_35, t_7, t_1034, ⟨by decide +kernel, by decide +kernel, by decide +kernel⟩⟩
theorem t_1035 : .methodLink RL 190 yX7_itemAt ∈ gT := gT_of 1076 (by decide +kernel) (by decide +kernel)
theorem t_1038 : .code yX7_itemAt cX7_itemAt 4 (some .int) ∈ gT := gT_of 1079 (by decide +kernel) (by decide +kernel)
theorem t_1036 : .instanceMethod yX7_itemAt ∈ gT := gT_of 1077 (by decide +kernel) (by decide +kernel)
theorem t_1037 : .selects RX7 yX7_itemAt yX7_itemAt ∈ gT := gT_of 1078 (by decide +kernel) (by decide +kernel)
theorem lk_L_190 : LkV RL 190 yX7_itemAt cX7_itemAt 4 (some .int) 3 := ⟨t_1035, t_1036, t_1037, t_7, t_1038, ⟨by decide +kernel, by decide +kernel, by decide +kernel⟩⟩
theorem t_1039 : .methodLink RL 193 yX7_itemAnew ∈ gT := gT_of 1080 (by decide +kernel) (by decide +kernel)
theorem t_1042 : .code yX7_itemAnew cX7_itemAnew 4 (some .int) ∈ gT := gT_of 1083 (by decide +kernel) (by decide +kernel)
theorem t_1040 : .instanceMethod yX7_itemAnew ∈ gT := gT_of 1081 (by decide +kernel) (by decide +kernel)
theorem t_1041 : .selects RX7 yX7_itemAnew yX7_itemAnew ∈ gT := gT_of 1082 (by decide +kernel) (by decide +kernel)
theorem lk_L_193 : LkV RL 193 yX7_itemAnew cX7_itemAnew 4 (some .int) 3 := ⟨t_1039, t_1040, t_1041, t_7, t_1042, ⟨by decide +kernel, by decide +kernel, by decide +kernel⟩⟩
theorem t_1043 : .methodLink RX7 148 yX7_itemAt ∈ gT := gT_of 1084 (by decide +kernel) (by decide +kernel)
theorem lk_X7_148 : LkV RX7 148 yX7_itemAt cX7_itemAt 4 (some .int) 3 := ⟨t_1043, t_1036, t_1037, t_7, t_1038, ⟨by decide +kernel, by decide +kernel, by decide +kernel⟩⟩
theorem t_1044 : .methodLink RL 196 yX7_sourceAt ∈ gT := gT_of 1085 (by decide +kernel) (by decide +kernel)
theorem t_1047 : .code yX7_sourceAt cX7_sourceAt 4 (some .int) ∈ gT := gT_of 1088 (by decide +kernel) (by decide +kernel)
theorem t_1045 : .instanceMethod yX7_sourceAt ∈ gT := gT_of 1086 (by decide +kernel) (by decide +kernel)
theorem t_1046 : .selects RX7 yX7_sourceAt yX7_sourceAt ∈ gT := gT_of 1087 (by decide +kernel) (by decide +kernel)
theorem lk_L_196 : LkV RL 196 yX7_sourceAt cX7_sourceAt 4 (some .int) 3 := ⟨t_1044, t_1045, t_1046, t_7, t_1047, ⟨by decide +kernel, by decide +kernel, by decide +kernel⟩⟩
theorem t_1048 : .methodLink RL 199 yX7_standsFor ∈ gT := gT_of 1089 (by decide +kernel) (by decide +kernel)
theorem t_1051 : .code yX7_standsFor cX7_standsFor 2 (some .int) ∈ gT := gT_of 1092 (by decide +kernel) (by decide +kernel)
theorem t_1049 : .instanceMethod yX7_standsFor ∈ gT := gT_of 1090 (by decide +kernel) (by decide +kernel)
theorem t_1050 : .selects RX7 yX7_standsFor yX7_standsFor ∈ gT := gT_of 1091 (by decide +kernel) (by decide +kernel)
theorem lk_L_199 : LkV RL 199 yX7_standsFor cX7_standsFor 2 (some .int) 1 := ⟨t_1048, t_1049, t_1050, t_7, t_1051, ⟨by decide +kernel, by decide +kernel, by decide +kernel⟩⟩
theorem t_1052 : .methodLink RX7 151 yX7_stands ∈ gT := gT_of 1093 (by decide +kernel) (by decide +kernel)
theorem t_1055 : .code yX7_stands cX7_stands 4 (some .int) ∈ gT := gT_of 1096 (by decide +kernel) (by decide +kernel)
theorem t_1054 : .instanceMethod yX7_stands ∈ gT := gT_of 1095 (by decide +kernel) (by decide +kernel)
theorem ts_36 : .selects RX7 yX7_stands yX7_stands ∈ gT := gT_of 36 (by decide +kernel) (by decide +kernel)
theorem lk_X7_151 : LkV RX7 151 yX7_stands cX7_stands 4 (some .int) 1 := ⟨t_1052, t_1054, ts_36, t_7, t_1055, ⟨by decide +kernel, by decide +kernel, by decide +kernel⟩⟩
theorem t_1056 : .methodLink RL 202 yX7_links ∈ gT := gT_of 1097 (by decide +kernel) (by decide +kernel)
theorem t_1059 : .code yX7_links cX7_links 3 (some .int) ∈ gT := gT_of 1100 (by decide +kernel) (by decide +kernel)
theorem t_1057 : .instanceMethod yX7_links ∈ gT := gT_of 1098 (by decide +kernel) (by decide +kernel)
theorem t_1058 : .selects RX7 yX7_links yX7_links ∈ gT := gT_of 1099 (by decide +kernel) (by decide +kernel)
theorem lk_L_202 : LkV RL 202 yX7_links cX7_links 3 (some .int) 1 := ⟨t_1056, t_1057, t_1058, t_7, t_1059, ⟨by decide +kernel, by decide +kernel, by decide +kernel⟩⟩
theorem t_1060 : .methodLink RX7 157 yX7_linkAt ∈ gT := gT_of 1101 (by decide +kernel) (by decide +kernel)
theorem t_1063 : .code yX7_linkAt cX7_linkAt 5 (some .int) ∈ gT := gT_of 1104 (by decide +kernel) (by decide +kernel)
theorem t_1062 : .instanceMethod yX7_linkAt ∈ gT := gT_of 1103 (by decide +kernel) (by decide +kernel)
theorem ts_37 : .selects RX7 yX7_linkAt yX7_linkAt ∈ gT := gT_of 37 (by decide +kernel) (by decide +kernel)
theorem lk_X7_157 : LkV RX7 157 yX7_linkAt cX7_linkAt 5 (some .int) 2 := ⟨t_1060, t_1062, ts_37, t_7, t_1063, ⟨by decide +kernel, by decide +kernel, by decide +kernel⟩⟩
theorem t_1064 : .methodLink RL 205 yX7_broken ∈ gT := gT_of 1105 (by decide +kernel) (by decide +kernel)
theorem t_1067 : .code yX7_broken cX7_broken 4 (some .int) ∈ gT := gT_of 1108 (by decide +kernel) (by decide +kernel)
theorem t_1065 : .instanceMethod yX7_broken ∈ gT := gT_of 1106 (by decide +kernel) (by decide +kernel)
theorem t_1066 : .selects RX7 yX7_broken yX7_broken ∈ gT := gT_of 1107 (by decide +kernel) (by decide +kernel)
theorem lk_L_205 : LkV RL 205 yX7_broken cX7_broken 4 (some .int) 1 := ⟨t_1064, t_1065, t_1066, t_7, t_1067, ⟨by decide +kernel, by decide +kernel, by decide +kernel⟩⟩
theorem t_1068 : .methodLink RX7 160 yX7_isGood ∈ gT := gT_of 1109 (by decide +kernel) (by decide +kernel)
theorem t_1071 : .code yX7_isGood cX7_isGood 3 (some .boolean) ∈ gT := gT_of 1112 (by decide +kernel) (by decide +kernel)
theorem t_1070 : .instanceMethod yX7_isGood ∈ gT := gT_of 1111 (by decide +kernel) (by decide +kernel)
theorem ts_38 : .selects RX7 yX7_isGood yX7_isGood ∈ gT := gT_of 38 (by decide +kernel) (by decide +kernel)
theorem lk_X7_160 : LkV RX7 160 yX7_isGood cX7_isGood 3 (some .boolean) 1 := ⟨t_1068, t_1070, ts_38, t_7, t_1071, ⟨by decide +kernel, by decide +kernel, by decide +kernel⟩⟩
theorem t_1072 : .methodLink RX7 154 yX7_showsAnchor ∈ gT := gT_of 1113 (by decide +kernel) (by decide +kernel)
theorem t_1075 : .code yX7_showsAnchor cX7_showsAnchor 5 (some .boolean) ∈ gT := gT_of 1116 (by decide +kernel) (by decide +kernel)
theorem t_1074 : .instanceMethod yX7_showsAnchor ∈ gT := gT_of 1115 (by decide +kernel) (by decide +kernel)
theorem ts_39 : .selects RX7 yX7_showsAnchor yX7_showsAnchor ∈ gT := gT_of 39 (by decide +kernel) (by decide +kernel)
theorem lk_X7_154 : LkV RX7 154 yX7_showsAnchor cX7_showsAnchor 5 (some .boolean) 2 := ⟨t_1072, t_1074, ts_39, t_7, t_1075, ⟨by decide +kernel, by decide +kernel, by decide +kernel⟩⟩
theorem t_1076 : .methodLink RL 208 yX7_firstBroken ∈ gT := gT_of 1117 (by decide +kernel) (by decide +kernel)
theorem t_1079 : .code yX7_firstBroken cX7_firstBroken 3 (some .int) ∈ gT := gT_of 1120 (by decide +kernel) (by decide +kernel)
theorem t_1077 : .instanceMethod yX7_firstBroken ∈ gT := gT_of 1118 (by decide +kernel) (by decide +kernel)
theorem t_1078 : .selects RX7 yX7_firstBroken yX7_firstBroken ∈ gT := gT_of 1119 (by decide +kernel) (by decide +kernel)
theorem lk_L_208 : LkV RL 208 yX7_firstBroken cX7_firstBroken 3 (some .int) 1 := ⟨t_1076, t_1077, t_1078, t_7, t_1079, ⟨by decide +kernel, by decide +kernel, by decide +kernel⟩⟩
theorem t_1080 : .methodLink RL 211 yX7_linkedFrom ∈ gT := gT_of 1121 (by decide +kernel) (by decide +kernel)
theorem t_1083 : .code yX7_linkedFrom cX7_linkedFrom 7 (some .int) ∈ gT := gT_of 1124 (by decide +kernel) (by decide +kernel)
theorem t_1081 : .instanceMethod yX7_linkedFrom ∈ gT := gT_of 1122 (by decide +kernel) (by decide +kernel)
theorem t_1082 : .selects RX7 yX7_linkedFrom yX7_linkedFrom ∈ gT := gT_of 1123 (by decide +kernel) (by decide +kernel)
theorem lk_L_211 : LkV RL 211 yX7_linkedFrom cX7_linkedFrom 7 (some .int) 1 := ⟨t_1080, t_1081, t_1082, t_7, t_1083, ⟨by decide +kernel, by decide +kernel, by decide +kernel⟩⟩
theorem t_1084 : .methodLink RL 214 yX7_breaches ∈ gT := gT_of 1125 (by decide +kernel) (by decide +kernel)
theorem t_1087 : .code yX7_breaches cX7_breaches 2 (some .int) ∈ gT := gT_of 1128 (by decide +kernel) (by decide +kernel)
theorem t_1085 : .instanceMethod yX7_breaches ∈ gT := gT_of 1126 (by decide +kernel) (by decide +kernel)
theorem t_1086 : .selects RX7 yX7_breaches yX7_breaches ∈ gT := gT_of 1127 (by decide +kernel) (by decide +kernel)
theorem lk_L_214 : LkV RL 214 yX7_breaches cX7_breaches 2 (some .int) 1 := ⟨t_1084, t_1085, t_1086, t_7, t_1087, ⟨by decide +kernel, by decide +kernel, by decide +kernel⟩⟩
theorem t_1088 : .methodLink RX7 163 yX7_breachesOf ∈ gT := gT_of 1129 (by decide +kernel) (by decide +kernel)
theorem t_1091 : .code yX7_breachesOf cX7_breachesOf 4 (some .int) ∈ gT := gT_of 1132 (by decide +kernel) (by decide +kernel)
theorem t_1090 : .instanceMethod yX7_breachesOf ∈ gT := gT_of 1131 (by decide +kernel) (by decide +kernel)
theorem ts_40 : .selects RX7 yX7_breachesOf yX7_breachesOf ∈ gT := gT_of 40 (by decide +kernel) (by decide +kernel)
theorem lk_X7_163 : LkV RX7 163 yX7_breachesOf cX7_breachesOf 4 (some .int) 1 := ⟨t_1088, t_1090, ts_40, t_7, t_1091, ⟨by decide +kernel, by decide +kernel, by decide +kernel⟩⟩
theorem t_1092 : .methodLink RL 218 yX7_breached ∈ gT := gT_of 1133 (by decide +kernel) (by decide +kernel)
theorem t_1095 : .code yX7_breached cX7_breached 3 (some .int) ∈ gT := gT_of 1136 (by decide +kernel) (by decide +kernel)
theorem t_1093 : .instanceMethod yX7_breached ∈ gT := gT_of 1134 (by decide +kernel) (by decide +kernel)
theorem t_1094 : .selects RX7 yX7_breached yX7_breached ∈ gT := gT_of 1135 (by decide +kernel) (by decide +kernel)
theorem lk_L_218 : LkV RL 218 yX7_breached cX7_breached 3 (some .int) 0 := ⟨t_1092, t_1093, t_1094, t_7, t_1095, ⟨by decide +kernel, by decide +kernel, by decide +kernel⟩⟩
theorem t_17 : .classLink RL 8 RX6 ∈ gT := gT_of 58 (by decide +kernel) (by decide +kernel)
theorem t_18 : .instantiable RX6 5 ∈ gT := gT_of 59 (by decide +kernel) (by decide +kernel)
theorem nw_L_8 : NWk RL 8 6 [.null, .null, .null, .null, .null] := ⟨RX6, TX6, 5, tyX6, rfl, rfl, inT_X6, tyX6_ok, (by intro j hj; rcases (show j = 0 ∨ j = 1 ∨ j = 2 ∨ j = 3 ∨ j = 4 by omega) with rfl | rfl | rfl | rfl | rfl <;> rfl), t_17, t_18, t_1⟩
theorem t_25 : .classLink RX6 9 RX3 ∈ gT := gT_of 66 (by decide +kernel) (by decide +kernel)
theorem t_26 : .instantiable RX3 5 ∈ gT := gT_of 67 (by decide +kernel) (by decide +kernel)
theorem nw_X6_9 : NWk RX6 9 3 [.null, .null, .null, .int 0, .int 0] := ⟨RX3, TX3, 5, tyX3, rfl, rfl, inT_X3, tyX3_ok, (by intro j hj; rcases (show j = 0 ∨ j = 1 ∨ j = 2 ∨ j = 3 ∨ j = 4 by omega) with rfl | rfl | rfl | rfl | rfl <;> rfl), t_25, t_26, t_2⟩
theorem t_50 : .classLink RX6 20 RX0 ∈ gT := gT_of 91 (by decide +kernel) (by decide +kernel)
theorem t_51 : .instantiable RX0 5 ∈ gT := gT_of 92 (by decide +kernel) (by decide +kernel)
theorem nw_X6_20 : NWk RX6 20 0 [.null, .null, .null, .null, .null] := ⟨RX0, TX0, 5, tyX0, rfl, rfl, inT_X0, tyX0_ok, (by intro j hj; rcases (show j = 0 ∨ j = 1 ∨ j = 2 ∨ j = 3 ∨ j = 4 by omega) with rfl | rfl | rfl | rfl | rfl <;> rfl), t_50, t_51, t_3⟩
theorem t_72 : .classLink RX6 30 RX1 ∈ gT := gT_of 113 (by decide +kernel) (by decide +kernel)
theorem t_74 : .instantiable RX1 3 ∈ gT := gT_of 115 (by decide +kernel) (by decide +kernel)
theorem nw_X6_30 : NWk RX6 30 1 [.null, .int 0, .null] := ⟨RX1, TX1, 3, tyX1, rfl, rfl, inT_X1, tyX1_ok, (by intro j hj; rcases (show j = 0 ∨ j = 1 ∨ j = 2 by omega) with rfl | rfl | rfl <;> rfl), t_72, t_74, t_4⟩
theorem t_79 : .classLink RX1 9 RX4 ∈ gT := gT_of 120 (by decide +kernel) (by decide +kernel)
theorem t_80 : .instantiable RX4 4 ∈ gT := gT_of 121 (by decide +kernel) (by decide +kernel)
theorem nw_X1_9 : NWk RX1 9 4 [.null, .int 0, .null, .int 0] := ⟨RX4, TX4, 4, tyX4, rfl, rfl, inT_X4, tyX4_ok, (by intro j hj; rcases (show j = 0 ∨ j = 1 ∨ j = 2 ∨ j = 3 by omega) with rfl | rfl | rfl | rfl <;> rfl), t_79, t_80, t_5⟩
theorem t_81 : .classLink RX1 11 RX3 ∈ gT := gT_of 122 (by decide +kernel) (by decide +kernel)
theorem nw_X1_11 : NWk RX1 11 3 [.null, .null, .null, .int 0, .int 0] := ⟨RX3, TX3, 5, tyX3, rfl, rfl, inT_X3, tyX3_ok, (by intro j hj; rcases (show j = 0 ∨ j = 1 ∨ j = 2 ∨ j = 3 ∨ j = 4 by omega) with rfl | rfl | rfl | rfl | rfl <;> rfl), t_81, t_26, t_2⟩
theorem t_104 : .classLink RX1 27 RX2 ∈ gT := gT_of 145 (by decide +kernel) (by decide +kernel)
theorem t_105 : .instantiable RX2 7 ∈ gT := gT_of 146 (by decide +kernel) (by decide +kernel)
theorem nw_X1_27 : NWk RX1 27 2 [.null, .null, .null, .null, .int 0, .null, .int 0] := ⟨RX2, TX2, 7, tyX2, rfl, rfl, inT_X2, tyX2_ok, (by intro j hj; rcases (show j = 0 ∨ j = 1 ∨ j = 2 ∨ j = 3 ∨ j = 4 ∨ j = 5 ∨ j = 6 by omega) with rfl | rfl | rfl | rfl | rfl | rfl | rfl <;> rfl), t_104, t_105, t_6⟩
theorem t_493 : .classLink RX6 78 RX4 ∈ gT := gT_of 534 (by decide +kernel) (by decide +kernel)
theorem nw_X6_78 : NWk RX6 78 4 [.null, .int 0, .null, .int 0] := ⟨RX4, TX4, 4, tyX4, rfl, rfl, inT_X4, tyX4_ok, (by intro j hj; rcases (show j = 0 ∨ j = 1 ∨ j = 2 ∨ j = 3 by omega) with rfl | rfl | rfl | rfl <;> rfl), t_493, t_80, t_5⟩
theorem t_687 : .classLink RX6 149 RX5 ∈ gT := gT_of 728 (by decide +kernel) (by decide +kernel)
theorem t_688 : .instantiable RX5 2 ∈ gT := gT_of 729 (by decide +kernel) (by decide +kernel)
theorem nw_X6_149 : NWk RX6 149 5 [.int 0, .int 0] := ⟨RX5, TX5, 2, tyX5, rfl, rfl, inT_X5, tyX5_ok, (by intro j hj; rcases (show j = 0 ∨ j = 1 by omega) with rfl | rfl <;> rfl), t_687, t_688, t_16⟩
theorem t_799 : .classLink RL 113 RX7 ∈ gT := gT_of 840 (by decide +kernel) (by decide +kernel)
theorem t_800 : .instantiable RX7 22 ∈ gT := gT_of 841 (by decide +kernel) (by decide +kernel)
theorem nw_L_113 : NWk RL 113 7 [.null, .int 0, .int 0, .null, .null, .null, .null, .null, .null, .null, .null, .null, .null, .null, .null, .null, .null, .int 0, .null, .null, .null, .int 0] := ⟨RX7, TX7, 22, tyX7, rfl, rfl, inT_X7, tyX7_ok, (by intro j hj; rcases (show j = 0 ∨ j = 1 ∨ j = 2 ∨ j = 3 ∨ j = 4 ∨ j = 5 ∨ j = 6 ∨ j = 7 ∨ j = 8 ∨ j = 9 ∨ j = 10 ∨ j = 11 ∨ j = 12 ∨ j = 13 ∨ j = 14 ∨ j = 15 ∨ j = 16 ∨ j = 17 ∨ j = 18 ∨ j = 19 ∨ j = 20 ∨ j = 21 by omega) with rfl | rfl | rfl | rfl | rfl | rfl | rfl | rfl | rfl | rfl | rfl | rfl | rfl | rfl | rfl | rfl | rfl | rfl | rfl | rfl | rfl | rfl <;> rfl), t_799, t_800, t_7⟩
theorem ta_int : Cond.arrayClass .int ∈ gT := gT_of 90 (by decide +kernel) (by decide +kernel)
theorem ta_long : Cond.arrayClass .long ∈ gT := gT_of 1137 (by decide +kernel) (by decide +kernel)
end
section
theorem at_of {ws : List Cond} (ps : List Nat) (h1 : ws = ps.filterMap (fun i => lw_tbl[i]?)) (h2 : ws.all (fun w => goodWord w || g_isN w) = true) : ∀ w ∈ ws, w ∈ gT ∨ w ∈ gN := by
  intro w hw
  have h3 := List.all_eq_true.mp h2 w hw
  rw [h1] at hw
  obtain ⟨i, -, hi⟩ := List.mem_filterMap.mp hw
  have hm : w ∈ lw_tbl := List.mem_of_getElem? hi
  by_cases g : goodWord w = true
  · exact Or.inl (List.mem_filter.mpr ⟨hm, g⟩)
  · have g2 : g_isN w = true := by simpa [g] using h3
    refine Or.inr (List.mem_filter.mpr ⟨?_, g2⟩)
    rcases List.mem_append.mp hm with h | h
    · obtain ⟨q, -, rfl⟩ := List.mem_map.mp h
      simp [g_isN] at g2
    · exact h
set_option maxRecDepth 100000 in
theorem va_at_60 : ∀ w ∈ vx_atS RX6 60 "java/lang/IllegalStateException" ["java/lang/RuntimeException", "java/lang/Exception"], w ∈ gT ∨ w ∈ gN := at_of [49, 233, 242, 247, 250, 252, 234, 235, 64, 65, 236, 241, 248, 268, 223, 269, 225, 270, 227, 237, 239, 229, 264, 265, 267, 229, 338, 339, 340, 258, 215, 258, 259, 260, 261, 217, 261, 262, 263, 264, 219, 337, 328, 329, 330, 245, 331, 332, 333, 334, 232, 231, 335] (by decide +kernel) (by decide +kernel)
theorem th_56_58_60 : gThr RX6 56 58 60 "java/lang/IllegalStateException" "no WHEN is open" ["java/lang/RuntimeException", "java/lang/Exception"] := ⟨by decide +kernel, by decide +kernel, gT_of 327 (by decide +kernel) (by decide +kernel), gT_of 53 (by decide +kernel) (by decide +kernel), by decide +kernel, va_at_60⟩
theorem th_56_71_60 : gThr RX6 56 71 60 "java/lang/IllegalStateException" "a WHEN of the draft is open" ["java/lang/RuntimeException", "java/lang/Exception"] := ⟨by decide +kernel, by decide +kernel, gT_of 327 (by decide +kernel) (by decide +kernel), gT_of 53 (by decide +kernel) (by decide +kernel), by decide +kernel, va_at_60⟩
theorem th_56_83_60 : gThr RX6 56 83 60 "java/lang/IllegalStateException" "the page has 20 versions behind the version 0" ["java/lang/RuntimeException", "java/lang/Exception"] := ⟨by decide +kernel, by decide +kernel, gT_of 327 (by decide +kernel) (by decide +kernel), gT_of 53 (by decide +kernel) (by decide +kernel), by decide +kernel, va_at_60⟩
theorem th_56_108_60 : gThr RX6 56 108 60 "java/lang/IllegalStateException" "the version of now is the version 0" ["java/lang/RuntimeException", "java/lang/Exception"] := ⟨by decide +kernel, by decide +kernel, gT_of 327 (by decide +kernel) (by decide +kernel), gT_of 53 (by decide +kernel) (by decide +kernel), by decide +kernel, va_at_60⟩
set_option maxRecDepth 100000 in
theorem va_at_193 : ∀ w ∈ vx_atS RX6 193 "java/lang/IllegalArgumentException" ["java/lang/RuntimeException", "java/lang/Exception"], w ∈ gT ∨ w ∈ gN := at_of [49, 233, 242, 247, 250, 252, 234, 235, 64, 65, 236, 241, 248, 268, 223, 269, 225, 270, 227, 237, 239, 229, 264, 265, 267, 229, 318, 319, 320, 258, 215, 258, 259, 260, 261, 217, 261, 262, 263, 264, 219, 317, 308, 309, 310, 244, 311, 312, 313, 314, 232, 231, 315] (by decide +kernel) (by decide +kernel)
theorem th_189_191_193 : gThr RX6 189 191 193 "java/lang/IllegalArgumentException" "an argument is out of its range" ["java/lang/RuntimeException", "java/lang/Exception"] := ⟨by decide +kernel, by decide +kernel, gT_of 307 (by decide +kernel) (by decide +kernel), gT_of 52 (by decide +kernel) (by decide +kernel), by decide +kernel, va_at_193⟩
set_option maxRecDepth 100000 in
theorem va_at_198 : ∀ w ∈ vx_atS RX6 198 "java/lang/IndexOutOfBoundsException" ["java/lang/RuntimeException", "java/lang/Exception"], w ∈ gT ∨ w ∈ gN := at_of [49, 233, 242, 247, 250, 252, 234, 235, 64, 65, 236, 241, 248, 268, 223, 269, 225, 270, 227, 237, 239, 229, 264, 265, 267, 229, 255, 256, 257, 258, 215, 258, 259, 260, 261, 217, 261, 262, 263, 264, 219, 254, 212, 213, 220, 221, 222, 224, 226, 228, 232, 231, 230] (by decide +kernel) (by decide +kernel)
theorem th_194_196_198 : gThr RX6 194 196 198 "java/lang/IndexOutOfBoundsException" "there is no such page" ["java/lang/RuntimeException", "java/lang/Exception"] := ⟨by decide +kernel, by decide +kernel, gT_of 211 (by decide +kernel) (by decide +kernel), gT_of 54 (by decide +kernel) (by decide +kernel), by decide +kernel, va_at_198⟩
theorem th_194_199_198 : gThr RX6 194 199 198 "java/lang/IndexOutOfBoundsException" "there is no such user" ["java/lang/RuntimeException", "java/lang/Exception"] := ⟨by decide +kernel, by decide +kernel, gT_of 211 (by decide +kernel) (by decide +kernel), gT_of 54 (by decide +kernel) (by decide +kernel), by decide +kernel, va_at_198⟩
theorem th_56_209_60 : gThr RX6 56 209 60 "java/lang/IllegalStateException" "the draft has 30 pieces" ["java/lang/RuntimeException", "java/lang/Exception"] := ⟨by decide +kernel, by decide +kernel, gT_of 327 (by decide +kernel) (by decide +kernel), gT_of 53 (by decide +kernel) (by decide +kernel), by decide +kernel, va_at_60⟩
end
section
def rmL (d mc ms : Nat) : Room := { frames := d, cells := mc, slots := ms, locals := 60 * d }
/-- what at(row, i) answers; what put(row, i, x) leaves; the greatest of a row, from 0 -/
def atz (N : Nat) (f : Nat → Int) (i : Int) : Int := if 0 ≤ i ∧ i < N then f i.toNat else 0
def putz (N : Nat) (f : Nat → Int) (i x : Int) : Nat → Int := if 0 ≤ i ∧ i < N then upz f i.toNat x else f
def gtz (f : Nat → Int) : Nat → Int
  | 0 => 0
  | n + 1 => max (gtz f n) (f n)
theorem atz_in {N : Nat} {f : Nat → Int} {i : Int} (h0 : 0 ≤ i) (h1 : i < N) : atz N f i = f i.toNat := if_pos ⟨h0, h1⟩
theorem atz_nat {N : Nat} {f : Nat → Int} {i : Nat} (h1 : i < N) : atz N f (i : Int) = f i := by rw [atz_in (by omega) (by omega)]; rfl
theorem putz_in {N : Nat} {f : Nat → Int} {i x : Int} (h0 : 0 ≤ i) (h1 : i < N) : putz N f i x = upz f i.toNat x := if_pos ⟨h0, h1⟩
theorem putz_nat {N : Nat} {f : Nat → Int} {i : Nat} {x : Int} (h1 : i < N) : putz N f (i : Int) x = upz f i x := by rw [putz_in (by omega) (by omega)]; rfl
theorem atz_R {N : Nat} {f : Nat → Int} (h : ∀ j, j < N → inR (f j)) (i : Int) : inR (atz N f i) := by
  unfold atz
  split
  · exact h _ (by omega)
  · exact ⟨by decide, by decide⟩
theorem gtz_0 (f : Nat → Int) : ∀ n, 0 ≤ gtz f n
  | 0 => Int.le_refl 0
  | n + 1 => by have := gtz_0 f n; show 0 ≤ max (gtz f n) (f n); omega
theorem gtz_R {f : Nat → Int} : ∀ {n : Nat}, (∀ j, j < n → inR (f j)) → inR (gtz f n)
  | 0, _ => (show inR 0 from ⟨by decide, by decide⟩)
  | n + 1, h => by
    have h1 := gtz_R (f := f) (n := n) (fun j hj => h j (by omega))
    have h2 := h n (by omega)
    show inR (max (gtz f n) (f n))
    omega
theorem gtz_le {f : Nat → Int} {c : Int} : ∀ {n : Nat}, gtz f n ≤ c ↔ 0 ≤ c ∧ ∀ j, j < n → f j ≤ c
  | 0 => ⟨fun h => ⟨h, fun j hj => absurd hj (Nat.not_lt_zero j)⟩, fun h => h.1⟩
  | n + 1 => by
    have ih := gtz_le (f := f) (c := c) (n := n)
    constructor
    · intro h
      have h' : max (gtz f n) (f n) ≤ c := h
      obtain ⟨h0, h1⟩ := ih.mp (by omega)
      refine ⟨h0, fun j hj => ?_⟩
      rcases Nat.lt_or_ge j n with q | q
      · exact h1 j q
      · rw [show j = n by omega]; omega
    · rintro ⟨h0, h1⟩
      have h2 := ih.mpr ⟨h0, fun j hj => h1 j (by omega)⟩
      have h3 := h1 n (by omega)
      show max (gtz f n) (f n) ≤ c
      omega
theorem wset_same {w : wW} {a : Nat} {e : va_E} (h : w a = some e) : wset w a e = w := by
  funext b
  by_cases q : b = a
  · subst q; rw [wset_eq, h]
  · rw [wset_ne q]
theorem wset_twice {w : wW} {a : Nat} {e e' : va_E} : wset (wset w a e) a e' = wset w a e' := by
  funext b
  by_cases q : b = a
  · subst q; rw [wset_eq, wset_eq]
  · rw [wset_ne q, wset_ne q, wset_ne q]
/-- shifts and bits -/
theorem sh_l : ∀ n, n < 32 → ((nI n &&& 31).toBitVec.smod 32).toNat = n := by decide +kernel
theorem Z32_shr {s p : Nat} (hs : s < 2 ^ 31) (hp : p < 32) : Z32 (s : Int) >>> (Z32 (p : Int) &&& 31) = Z32 ((s / 2 ^ p : Nat) : Int) := by
  rw [Z32_n, Z32_n, Z32_n]
  exact pk_shrN hs _ p (sh_l p hp)
theorem Z32_shl {p : Nat} (hp : p < 32) : Z32 1 <<< (Z32 (p : Int) &&& 31) = Z32 ((2 ^ p : Nat) : Int) := by
  have h := pk_shlN (n := 1) (nI p &&& 31) p (sh_l p hp) (by rw [Nat.one_mul]; exact Nat.pow_lt_pow_right (by decide) hp)
  rw [Nat.one_mul] at h
  exact h
theorem Z32_and1 (a : Nat) : Z32 (a : Int) &&& Z32 1 = Z32 ((a % 2 : Nat) : Int) := by
  have h := Z32_and a 1
  rw [Nat.and_one_is_mod] at h
  exact h
theorem bit_mod (s p : Nat) : s / 2 ^ p % 2 = if s.testBit p then 1 else 0 := by
  rw [Nat.testBit_eq_decide_div_mod_eq]
  by_cases h : s / 2 ^ p % 2 = 1
  · rw [if_pos (by simpa using h), h]
  · rw [if_neg (by simpa using h)]; omega
end
section
set_option maxRecDepth 100000 in
set_option maxHeartbeats 4000000 in
theorem c_X6_at (l : Launch) (hl : l.stackTraces = false) (D : gD) {w : wW} {a N : Nat} {f : Nat → Int} {i : Int} (hw : w a = some (iar D N f) := by assumption) (hN : (N : Int) < 2147483648 := by decide) (hi : inR i := by omega) : CTm l D yX6_at cX6_at 2 (some .int) (rmL 1 0 0) [.ref a, .int (Z32 i)] w (fun v w1 => v = some (.int (Z32 (atz N f i))) ∧ w1 = w) := by
  refine CTm_of hl false rfl (by rfl) (Nat.le_of_ble_eq_true rfl) (fun h => nomatch h) ?_
  intro G C
  show G 0 0 w [some (.ref a), some (.int (Z32 i))] 0 []
  refine i_iload_n C dX6_at_0 (kk := ?_)
  refine i_if_lt C dX6_at_1 (tgt := 16) (kt := fun hB1 => ?_) (kf := fun hB1 => ?_)
  · refine i_iconst C dX6_at_16 (kk := ?_)
    exact i_iret C (d := dX6_at_17) (h := ⟨by first | (rw [atz_in (by omega) (by omega)]; done) | (unfold atz; rw [if_neg (by omega)]; done), rfl⟩)
  · refine i_iload_n C dX6_at_4 (kk := ?_)
    refine i_aload_n C dX6_at_5 (kk := ?_)
    refine i_alen C dX6_at_6 (kk := ?_)
    refine i_icmp_ge C dX6_at_7 (tgt := 16) (kt := fun hB7 => ?_) (kf := fun hB7 => ?_)
    · refine i_iconst C dX6_at_16 (kk := ?_)
      exact i_iret C (d := dX6_at_17) (h := ⟨by first | (rw [atz_in (by omega) (by omega)]; done) | (unfold atz; rw [if_neg (by omega)]; done), rfl⟩)
    · refine i_aload_n C dX6_at_10 (kk := ?_)
      refine i_iload_n C dX6_at_11 (kk := ?_)
      refine i_iaload C dX6_at_12 (kk := ?_)
      refine i_goto C dX6_at_13 (tgt := 17) (kk := ?_)
      exact i_iret C (d := dX6_at_17) (h := ⟨by first | (rw [atz_in (by omega) (by omega)]; done) | (unfold atz; rw [if_neg (by omega)]; done), rfl⟩)

set_option maxRecDepth 100000 in
set_option maxHeartbeats 4000000 in
theorem c_X6_put (l : Launch) (hl : l.stackTraces = false) (D : gD) {w : wW} {a N : Nat} {f : Nat → Int} {i x : Int} (hw : w a = some (iar D N f) := by assumption) (hN : (N : Int) < 2147483648 := by decide) (hi : inR i := by omega) : CTm l D yX6_put cX6_put 3 none (rmL 1 0 0) [.ref a, .int (Z32 i), .int (Z32 x)] w (fun v w1 => v = none ∧ w1 = wset w a (iar D N (putz N f i x))) := by
  refine CTm_of hl false rfl (by rfl) (Nat.le_of_ble_eq_true rfl) (fun h => nomatch h) ?_
  intro G C
  show G 0 0 w [some (.ref a), some (.int (Z32 i)), some (.int (Z32 x))] 0 []
  refine i_iload_n C dX6_put_0 (kk := ?_)
  refine i_if_lt C dX6_put_1 (tgt := 14) (kt := fun hB1 => ?_) (kf := fun hB1 => ?_)
  · exact i_vret C (d := dX6_put_14) (h := ⟨rfl, by first | (rw [putz_in (by omega) (by omega)]; done) | (unfold putz; rw [if_neg (by omega), wset_same hw]; done)⟩)
  · refine i_iload_n C dX6_put_4 (kk := ?_)
    refine i_aload_n C dX6_put_5 (kk := ?_)
    refine i_alen C dX6_put_6 (kk := ?_)
    refine i_icmp_ge C dX6_put_7 (tgt := 14) (kt := fun hB7 => ?_) (kf := fun hB7 => ?_)
    · exact i_vret C (d := dX6_put_14) (h := ⟨rfl, by first | (rw [putz_in (by omega) (by omega)]; done) | (unfold putz; rw [if_neg (by omega), wset_same hw]; done)⟩)
    · refine i_aload_n C dX6_put_10 (kk := ?_)
      refine i_iload_n C dX6_put_11 (kk := ?_)
      refine i_iload_n C dX6_put_12 (kk := ?_)
      refine i_iastore C dX6_put_13 (kk := ?_)
      exact i_vret C (d := dX6_put_14) (h := ⟨rfl, by first | (rw [putz_in (by omega) (by omega)]; done) | (unfold putz; rw [if_neg (by omega), wset_same hw]; done)⟩)

set_option maxRecDepth 100000 in
set_option maxHeartbeats 4000000 in
theorem c_X6_greatest (l : Launch) (hl : l.stackTraces = false) (D : gD) {w : wW} {a N : Nat} {f : Nat → Int} (hw : w a = some (iar D N f) := by assumption) (hN : (N : Int) < 2147483648 := by decide) (hf : ∀ j, j < N → inR (f j)) : CTm l D yX6_greatest cX6_greatest 3 (some .int) (rmL 2 0 0) [.ref a] w (fun v w1 => v = some (.int (Z32 (gtz f N))) ∧ w1 = w) := by
  refine CTm_of hl false rfl (by rfl) (Nat.le_of_ble_eq_true rfl) (fun h => nomatch h) ?_
  intro G C
  show G 0 0 w [some (.ref a), none, none] 0 []
  refine i_iconst C dX6_greatest_0 (kk := ?_)
  refine i_istore_n C dX6_greatest_1 (kk := ?_)
  refine i_iconst C dX6_greatest_2 (kk := ?_)
  refine i_istore_n C dX6_greatest_3 (kk := ?_)
  have lp : ∀ (n j : Nat), N + 1 ≤ n + j → j ≤ N → G 0 0 w [some (.ref a), some (.int (Z32 (gtz f j))), some (.int (Z32 (j : Int)))] 4 [] := by
    intro n
    induction n with
    | zero => intro j h1 h2; omega
    | succ n ih =>
    intro j h1 h2
    have hg := gtz_R (f := f) (n := j) (fun i hi => hf i (by omega))
    refine i_iload_n C dX6_greatest_4 (kk := ?_)
    refine i_aload_n C dX6_greatest_5 (kk := ?_)
    refine i_alen C dX6_greatest_6 (kk := ?_)
    refine i_icmp_ge C dX6_greatest_7 (tgt := 24) (kt := fun hB7 => ?_) (kf := fun hB7 => ?_)
    · refine i_iload_n C dX6_greatest_24 (kk := ?_)
      exact i_iret C (d := dX6_greatest_25) (h := ⟨by rw [show j = N by omega], rfl⟩)
    · refine i_iload_n C dX6_greatest_10 (kk := ?_)
      refine i_aload_n C dX6_greatest_11 (kk := ?_)
      refine i_iload_n C dX6_greatest_12 (kk := ?_)
      refine i_iaload C dX6_greatest_13 (kk := ?_)
      rw [Int.toNat_natCast]
      have hj := hf j (by omega)
      refine i_max C lk_X6_251 dX6_greatest_14 (kk := ?_)
      refine i_istore_n C dX6_greatest_17 (kk := ?_)
      refine i_iinc C dX6_greatest_18 (kk := ?_)
      refine i_goto C dX6_greatest_21 (tgt := 4) (kk := ?_)
      exact ih (j + 1) (by omega) (by omega)
  exact lp (N + 1) 0 (by omega) (by omega)

set_option maxRecDepth 100000 in
set_option maxHeartbeats 4000000 in
theorem c_X6_contains (l : Launch) (hl : l.stackTraces = false) (D : gD) {w : wW} {s p : Nat} (hs : s < 2 ^ 31) (hp : p < 32) : CTm l D yX6_contains cX6_contains 2 (some .boolean) (rmL 1 0 0) [.int (Z32 (s : Int)), .int (Z32 (p : Int))] w (fun v w1 => v = some (.int (Z32 (if s.testBit p then 1 else 0))) ∧ w1 = w) := by
  refine CTm_of hl false rfl (by rfl) (Nat.le_of_ble_eq_true rfl) (fun h => nomatch h) ?_
  intro G C
  show G 0 0 w [some (.int (Z32 (s : Int))), some (.int (Z32 (p : Int)))] 0 []
  refine i_iload_n C dX6_contains_0 (kk := ?_)
  refine i_iload_n C dX6_contains_1 (kk := ?_)
  refine i_ishr C dX6_contains_2 (hz := Z32_shr hs hp) (kk := ?_)
  refine i_iconst C dX6_contains_3 (kk := ?_)
  refine i_iand C dX6_contains_4 (hz := Z32_and1 _) (kk := ?_)
  have hb := bit_mod s p
  rw [hb]
  refine i_if_eq C dX6_contains_5 (tgt := 12) (kt := fun hB5 => ?_) (kf := fun hB5 => ?_)
  · refine i_iconst C dX6_contains_12 (kk := ?_)
    exact i_zret C (d := dX6_contains_13) (ha := by first | exact Or.inl rfl | exact Or.inr rfl) (h := ⟨by split at hB5 <;> rename_i q <;> simp [q] at hB5 ⊢, rfl⟩)
  · refine i_iconst C dX6_contains_8 (kk := ?_)
    refine i_goto C dX6_contains_9 (tgt := 13) (kk := ?_)
    exact i_zret C (d := dX6_contains_13) (ha := by first | exact Or.inl rfl | exact Or.inr rfl) (h := ⟨by split at hB5 <;> rename_i q <;> simp [q] at hB5 ⊢, rfl⟩)
end
section
/-- a piece: its sort, its page, its sign -/
abbrev Pc3 : Type := Int × Int × Int
def PV (p : Pc3) : Prop := (p.1 = 0 ∧ p.2.1 = -1 ∧ 0 ≤ p.2.2 ∧ p.2.2 ≤ 25) ∨ (p.1 = 1 ∧ p.2.1 = -1 ∧ 0 ≤ p.2.2 ∧ p.2.2 ≤ 9) ∨ (p.1 = 2 ∧ 0 ≤ p.2.1 ∧ p.2.1 ≤ 11 ∧ 0 ≤ p.2.2 ∧ p.2.2 ≤ 9) ∨ (p.1 = 3 ∧ p.2.1 = -1 ∧ p.2.2 = -1) ∨ (p.1 = 4 ∧ 0 ≤ p.2.1 ∧ p.2.1 ≤ 11 ∧ -1 ≤ p.2.2 ∧ p.2.2 ≤ 25) ∨ (p.1 = 5 ∧ 0 ≤ p.2.1 ∧ p.2.1 ≤ 11 ∧ p.2.2 = -1) ∨ (p.1 = 6 ∧ p.2.1 = -1 ∧ 0 ≤ p.2.2 ∧ p.2.2 ≤ 25) ∨ (p.1 = 7 ∧ p.2.1 = -1 ∧ p.2.2 = -1) ∨ (p.1 = 8 ∧ 0 ≤ p.2.1 ∧ p.2.1 ≤ 11 ∧ p.2.2 = -1)
theorem PV.R {p : Pc3} (h : PV p) : 0 ≤ p.1 ∧ p.1 ≤ 8 ∧ -1 ≤ p.2.1 ∧ p.2.1 ≤ 11 ∧ -1 ≤ p.2.2 ∧ p.2.2 ≤ 25 := by unfold PV at h; omega
def pcs (ps : List Pc3) (i : Nat) : Pc3 := ps.getD i (0, 0, 0)
def dow (s : Int) : Int := if s = 6 then 1 else if s = 7 then -1 else 0
theorem pcs_mem {ps : List Pc3} {i : Nat} (h : i < ps.length) : pcs ps i ∈ ps := by
  unfold pcs
  rw [List.getD_eq_getElem?_getD, List.getElem?_eq_getElem h]
  exact List.getElem_mem h
theorem pcs_app_lo {ps qs : List Pc3} {i : Nat} (h : i < ps.length) : pcs (ps ++ qs) i = pcs ps i := by
  unfold pcs
  rw [List.getD_eq_getElem?_getD, List.getD_eq_getElem?_getD, List.getElem?_append_left h]
theorem pcs_app_at {ps : List Pc3} {p : Pc3} : pcs (ps ++ [p]) ps.length = p := by
  unfold pcs
  rw [List.getD_eq_getElem?_getD, List.getElem?_append_right (Nat.le_refl _), Nat.sub_self]
  rfl
def owc : List Pc3 → Int
  | [] => 0
  | p :: ps => dow p.1 + owc ps
theorem owc_app : ∀ (ps qs : List Pc3), owc (ps ++ qs) = owc ps + owc qs
  | [], qs => (Int.zero_add _).symm
  | p :: ps, qs => by
    show dow p.1 + owc (ps ++ qs) = dow p.1 + owc ps + owc qs
    rw [owc_app ps qs, Int.add_assoc]
theorem dow_le (s : Int) : -1 ≤ dow s ∧ dow s ≤ 1 := by
  unfold dow
  split
  · decide
  · split <;> decide
theorem owc_le : ∀ (ps : List Pc3), owc ps ≤ ps.length
  | [] => Int.le_refl 0
  | p :: ps => by
    have h := owc_le ps
    have h1 := dow_le p.1
    show dow p.1 + owc ps ≤ ((ps.length + 1 : Nat) : Int)
    omega
/-- no END ahead of its WHEN -/
def OWp (ps : List Pc3) : Prop := ∀ k, 0 ≤ owc (ps.take k)
theorem OWp.all {ps : List Pc3} (h : OWp ps) : 0 ≤ owc ps := by
  have := h ps.length
  rwa [List.take_length] at this
theorem OWp.nil : OWp [] := fun k => by rw [List.take_nil]; exact Int.le_refl 0
theorem OWp.app {ps : List Pc3} (h : OWp ps) {p : Pc3} (h2 : 0 ≤ owc ps + dow p.1) : OWp (ps ++ [p]) := fun k => by
  by_cases hk : k ≤ ps.length
  · rw [List.take_append_of_le_length hk]; exact h k
  · rw [List.take_of_length_le (by rw [List.length_append]; show ps.length + 1 ≤ k; omega), owc_app]
    show 0 ≤ owc ps + (dow p.1 + 0)
    omega
theorem OWp.take {ps : List Pc3} (h : OWp ps) (i : Nat) : OWp (ps.take i) := fun k => by rw [List.take_take]; exact h _
theorem pcs_take {ps : List Pc3} {i : Nat} (h : i < ps.length) : ps.take (i + 1) = ps.take i ++ [pcs ps i] := by
  rw [List.take_succ, List.getElem?_eq_getElem h]
  unfold pcs
  rw [List.getD_eq_getElem?_getD, List.getElem?_eq_getElem h]
  rfl
theorem owc_take {ps : List Pc3} {i : Nat} (h : i < ps.length) : owc (ps.take (i + 1)) = owc (ps.take i) + dow (pcs ps i).1 := by
  rw [pcs_take h, owc_app]
  show owc (ps.take i) + (dow (pcs ps i).1 + 0) = _
  omega
theorem wset_none {w : wW} {a q : Nat} {e : va_E} (h : wset w a e q = none) : q ≠ a ∧ w q = none := by
  by_cases hq : q = a
  · subst hq; rw [wset_eq] at h; cases h
  · exact ⟨hq, by rwa [wset_ne hq] at h⟩
/-- a text at the roles r .. r + 3: the thing, its three rows -/
def txO (a b c : Nat) (sz ow : Int) : va_E := .inr (3, [.ref a, .ref b, .ref c, .int (Z32 sz), .int (Z32 ow)])
def TxT (D : gD) (w : wW) (τ : Nat → Nat) (r t a b c : Nat) (ps : List Pc3) : Prop := τ t = r ∧ τ a = r + 1 ∧ τ b = r + 2 ∧ τ c = r + 3 ∧ w t = some (txO a b c ps.length (owc ps)) ∧ ps.length ≤ 30 ∧ OWp ps ∧ (∀ p ∈ ps, PV p) ∧ ∃ fs fp fg : Nat → Int, w a = some (iar D 30 fs) ∧ w b = some (iar D 30 fp) ∧ w c = some (iar D 30 fg) ∧ ∀ i, i < ps.length → (fs i, fp i, fg i) = pcs ps i
/-- the roles lo .. hi - 1 alone may have changed -/
def offR (τ : Nat → Nat) (w w1 : wW) (lo hi : Nat) : Prop := ∀ q, (τ q < lo ∨ hi ≤ τ q) → w1 q = w q
theorem offR.rf {τ : Nat → Nat} {w : wW} {lo hi : Nat} : offR τ w w lo hi := fun _ _ => rfl
theorem offR.trans {τ : Nat → Nat} {w w1 w2 : wW} {lo hi : Nat} (h : offR τ w w1 lo hi) (h2 : offR τ w1 w2 lo hi) : offR τ w w2 lo hi := fun q hq => (h2 q hq).trans (h q hq)
theorem offR.wide {τ : Nat → Nat} {w w1 : wW} {lo hi lo' hi' : Nat} (h : offR τ w w1 lo hi) (h1 : lo' ≤ lo) (h2 : hi ≤ hi') : offR τ w w1 lo' hi' := fun q hq => h q (by omega)
theorem offR.put {τ : Nat → Nat} {w w1 : wW} {lo hi a : Nat} {x : va_E} (h : offR τ w w1 lo hi) (h1 : lo ≤ τ a) (h2 : τ a < hi) : offR τ w (wset w1 a x) lo hi := fun q hq => by
  rw [wset_ne (fun e => by subst e; omega)]
  exact h q hq
theorem TxT.kept {D : gD} {w w1 : wW} {τ : Nat → Nat} {r t a b c : Nat} {ps : List Pc3} (h : TxT D w τ r t a b c ps) (hk : ∀ q, r ≤ τ q → τ q < r + 4 → w1 q = w q) : TxT D w1 τ r t a b c ps := by
  obtain ⟨h1, h2, h3, h4, h5, h6, h7, h8, fs, fp, fg, g1, g2, g3, g4⟩ := h
  exact ⟨h1, h2, h3, h4, by rw [hk t (by omega) (by omega)]; exact h5, h6, h7, h8, fs, fp, fg, by rw [hk a (by omega) (by omega)]; exact g1, by rw [hk b (by omega) (by omega)]; exact g2, by rw [hk c (by omega) (by omega)]; exact g3, g4⟩
theorem TxT.off {D : gD} {w w1 : wW} {τ : Nat → Nat} {r t a b c lo hi : Nat} {ps : List Pc3} (h : TxT D w τ r t a b c ps) (hk : offR τ w w1 lo hi) (hr : hi ≤ r ∨ r + 4 ≤ lo) : TxT D w1 τ r t a b c ps := h.kept (fun q h1 h2 => hk q (by omega))
theorem tne {τ : Nat → Nat} {a b : Nat} (h : τ a ≠ τ b) : a ≠ b := fun e => h (by rw [e])
theorem TxT_add {D : gD} {w w1 : wW} {τ : Nat → Nat} {r t a b c : Nat} {ps : List Pc3} {fs fp fg : Nat → Int} {s g x : Int} (h1 : τ t = r) (h2 : τ a = r + 1) (h3 : τ b = r + 2) (h4 : τ c = r + 3) (h7 : OWp ps) (h8 : ∀ p ∈ ps, PV p) (g4 : ∀ i, i < ps.length → (fs i, fp i, fg i) = pcs ps i) (hp9 : PV (s, g, x)) (hlen : ps.length < 30) (how : 0 ≤ owc ps + dow s)
    (k1 : w1 t = some (txO a b c (ps.length + 1) (owc ps + dow s))) (k2 : w1 a = some (iar D 30 (upz fs ps.length s))) (k3 : w1 b = some (iar D 30 (upz fp ps.length g))) (k4 : w1 c = some (iar D 30 (upz fg ps.length x))) (k5 : offR τ w w1 r (r + 4)) : (none : Option Value) = none ∧ TxT D w1 τ r t a b c (ps ++ [(s, g, x)]) ∧ offR τ w w1 r (r + 4) := by
  refine ⟨rfl, ⟨h1, h2, h3, h4, ?_, ?_, h7.app how, ?_, _, _, _, k2, k3, k4, ?_⟩, k5⟩
  · rw [k1, List.length_append, owc_app]
    show _ = some (txO a b c _ (owc ps + (dow s + 0)))
    rw [Int.add_zero]
    rfl
  · rw [List.length_append]; show ps.length + 1 ≤ 30; omega
  · intro p hp
    rcases List.mem_append.mp hp with h | h
    · exact h8 p h
    · rw [List.mem_singleton.mp h]; exact hp9
  · intro i hi
    rw [List.length_append] at hi
    by_cases hq : i = ps.length
    · subst hq
      rw [upz_eq, upz_eq, upz_eq, pcs_app_at]
    · have hi2 : i < ps.length := by simp at hi; omega
      rw [upz_ne hq, upz_ne hq, upz_ne hq, pcs_app_lo hi2]
      exact g4 i hi2
end
section
set_option maxRecDepth 100000 in
set_option maxHeartbeats 4000000 in
theorem c_X3_sortOf (l : Launch) (hl : l.stackTraces = false) (D : gD) {w : wW} {τ : Nat → Nat} {r t a b c : Nat} {ps : List Pc3} {i : Nat} (hT : TxT D w τ r t a b c ps := by assumption) (hi : i < ps.length := by omega) : CTm l D yX3_sortOf cX3_sortOf 2 (some .int) (rmL 2 0 0) [.ref t, .int (Z32 (i : Int))] w (fun v w1 => v = some (.int (Z32 (pcs ps i).1)) ∧ w1 = w) := by
  refine CTm_of hl false rfl (by rfl) (Nat.le_of_ble_eq_true rfl) (fun h => nomatch h) ?_
  intro G C
  show G 0 0 w [some (.ref t), some (.int (Z32 (i : Int)))] 0 []
  obtain ⟨h1, h2, h3, h4, h5, h6, h7, h8, fs, fp, fg, g1, g2, g3, g4⟩ := hT
  have w1 := h7.all
  have w2 := owc_le ps
  have e := g4 i hi
  refine i_aload_n C dX3_sortOf_0 (kk := ?_)
  refine i_getf C f_X3_9 dX3_sortOf_1 (kk := ?_)
  refine i_iload_n C dX3_sortOf_4 (kk := ?_)
  refine i_callSN C lk_X3_46 (c_X6_at l hl D) (hst := rfl) dX3_sortOf_5 (kk := fun v5 w5 g5 => ?_)
  obtain ⟨rfl, rfl⟩ := g5
  exact i_iret C (d := dX3_sortOf_8) (h := ⟨by rw [← e, atz_nat (by omega)], rfl⟩)

set_option maxRecDepth 100000 in
set_option maxHeartbeats 4000000 in
theorem c_X3_pageOf (l : Launch) (hl : l.stackTraces = false) (D : gD) {w : wW} {τ : Nat → Nat} {r t a b c : Nat} {ps : List Pc3} {i : Nat} (hT : TxT D w τ r t a b c ps := by assumption) (hi : i < ps.length := by omega) : CTm l D yX3_pageOf cX3_pageOf 2 (some .int) (rmL 2 0 0) [.ref t, .int (Z32 (i : Int))] w (fun v w1 => v = some (.int (Z32 (pcs ps i).2.1)) ∧ w1 = w) := by
  refine CTm_of hl false rfl (by rfl) (Nat.le_of_ble_eq_true rfl) (fun h => nomatch h) ?_
  intro G C
  show G 0 0 w [some (.ref t), some (.int (Z32 (i : Int)))] 0 []
  obtain ⟨h1, h2, h3, h4, h5, h6, h7, h8, fs, fp, fg, g1, g2, g3, g4⟩ := hT
  have w1 := h7.all
  have w2 := owc_le ps
  have e := g4 i hi
  refine i_aload_n C dX3_pageOf_0 (kk := ?_)
  refine i_getf C f_X3_15 dX3_pageOf_1 (kk := ?_)
  refine i_iload_n C dX3_pageOf_4 (kk := ?_)
  refine i_callSN C lk_X3_46 (c_X6_at l hl D) (hst := rfl) dX3_pageOf_5 (kk := fun v5 w5 g5 => ?_)
  obtain ⟨rfl, rfl⟩ := g5
  exact i_iret C (d := dX3_pageOf_8) (h := ⟨by rw [← e, atz_nat (by omega)], rfl⟩)

set_option maxRecDepth 100000 in
set_option maxHeartbeats 4000000 in
theorem c_X3_signOf (l : Launch) (hl : l.stackTraces = false) (D : gD) {w : wW} {τ : Nat → Nat} {r t a b c : Nat} {ps : List Pc3} {i : Nat} (hT : TxT D w τ r t a b c ps := by assumption) (hi : i < ps.length := by omega) : CTm l D yX3_signOf cX3_signOf 2 (some .int) (rmL 2 0 0) [.ref t, .int (Z32 (i : Int))] w (fun v w1 => v = some (.int (Z32 (pcs ps i).2.2)) ∧ w1 = w) := by
  refine CTm_of hl false rfl (by rfl) (Nat.le_of_ble_eq_true rfl) (fun h => nomatch h) ?_
  intro G C
  show G 0 0 w [some (.ref t), some (.int (Z32 (i : Int)))] 0 []
  obtain ⟨h1, h2, h3, h4, h5, h6, h7, h8, fs, fp, fg, g1, g2, g3, g4⟩ := hT
  have w1 := h7.all
  have w2 := owc_le ps
  have e := g4 i hi
  refine i_aload_n C dX3_signOf_0 (kk := ?_)
  refine i_getf C f_X3_18 dX3_signOf_1 (kk := ?_)
  refine i_iload_n C dX3_signOf_4 (kk := ?_)
  refine i_callSN C lk_X3_46 (c_X6_at l hl D) (hst := rfl) dX3_signOf_5 (kk := fun v5 w5 g5 => ?_)
  obtain ⟨rfl, rfl⟩ := g5
  exact i_iret C (d := dX3_signOf_8) (h := ⟨by rw [← e, atz_nat (by omega)], rfl⟩)

set_option maxRecDepth 100000 in
set_option maxHeartbeats 4000000 in
theorem c_X3_hasOpenWhen (l : Launch) (hl : l.stackTraces = false) (D : gD) {w : wW} {τ : Nat → Nat} {r t a b c : Nat} {ps : List Pc3} (hT : TxT D w τ r t a b c ps := by assumption) : CTm l D yX3_hasOpenWhen cX3_hasOpenWhen 1 (some .boolean) (rmL 1 0 0) [.ref t] w (fun v w1 => v = some (.int (Z32 (if 0 < owc ps then 1 else 0))) ∧ w1 = w) := by
  refine CTm_of hl false rfl (by rfl) (Nat.le_of_ble_eq_true rfl) (fun h => nomatch h) ?_
  intro G C
  show G 0 0 w [some (.ref t)] 0 []
  obtain ⟨h1, h2, h3, h4, h5, h6, h7, h8, fs, fp, fg, g1, g2, g3, g4⟩ := hT
  have w1 := h7.all
  have w2 := owc_le ps
  refine i_aload_n C dX3_hasOpenWhen_0 (kk := ?_)
  refine i_getf C f_X3_25 dX3_hasOpenWhen_1 (kk := ?_)
  refine i_if_le C dX3_hasOpenWhen_4 (tgt := 11) (kt := fun hB4 => ?_) (kf := fun hB4 => ?_)
  · refine i_iconst C dX3_hasOpenWhen_11 (kk := ?_)
    exact i_zret C (d := dX3_hasOpenWhen_12) (ha := by first | exact Or.inl rfl | exact Or.inr rfl) (h := ⟨by first | rw [if_pos (by omega)] | rw [if_neg (by omega)], rfl⟩)
  · refine i_iconst C dX3_hasOpenWhen_7 (kk := ?_)
    refine i_goto C dX3_hasOpenWhen_8 (tgt := 12) (kk := ?_)
    exact i_zret C (d := dX3_hasOpenWhen_12) (ha := by first | exact Or.inl rfl | exact Or.inr rfl) (h := ⟨by first | rw [if_pos (by omega)] | rw [if_neg (by omega)], rfl⟩)

set_option maxRecDepth 100000 in
set_option maxHeartbeats 4000000 in
theorem c_X3_isRedirectAlone (l : Launch) (hl : l.stackTraces = false) (D : gD) {w : wW} {τ : Nat → Nat} {r t a b c : Nat} {ps : List Pc3} (hT : TxT D w τ r t a b c ps := by assumption) : CTm l D yX3_isRedirectAlone cX3_isRedirectAlone 1 (some .boolean) (rmL 3 0 0) [.ref t] w (fun v w1 => v = some (.int (Z32 (if ps.length = 1 ∧ (pcs ps 0).1 = 8 then 1 else 0))) ∧ w1 = w) := by
  refine CTm_of hl false rfl (by rfl) (Nat.le_of_ble_eq_true rfl) (fun h => nomatch h) ?_
  intro G C
  show G 0 0 w [some (.ref t)] 0 []
  have hT9 := hT
  obtain ⟨h1, h2, h3, h4, h5, h6, h7, h8, fs, fp, fg, g1, g2, g3, g4⟩ := hT
  have w1 := h7.all
  have w2 := owc_le ps
  refine i_aload_n C dX3_isRedirectAlone_0 (kk := ?_)
  refine i_getf C f_X3_21 dX3_isRedirectAlone_1 (kk := ?_)
  refine i_iconst C dX3_isRedirectAlone_4 (kk := ?_)
  refine i_icmp_ne C dX3_isRedirectAlone_5 (tgt := 22) (kt := fun hB5 => ?_) (kf := fun hB5 => ?_)
  · refine i_iconst C dX3_isRedirectAlone_22 (kk := ?_)
    exact i_zret C (d := dX3_isRedirectAlone_23) (ha := by first | exact Or.inl rfl | exact Or.inr rfl) (h := ⟨by first | (rw [if_pos ⟨by omega, by omega⟩]; done) | (rw [if_neg (by omega)]; done), rfl⟩)
  · refine i_aload_n C dX3_isRedirectAlone_8 (kk := ?_)
    refine i_iconst C dX3_isRedirectAlone_9 (kk := ?_)
    refine i_callV C lk_X3_32 (c_X3_sortOf l hl D (i := 0)) (hcl := rfl) (hst := rfl) dX3_isRedirectAlone_10 (kk := fun v10 w10 g10 => ?_)
    obtain ⟨rfl, rfl⟩ := g10
    have e := (h8 _ (pcs_mem (i := 0) (by omega))).R
    refine i_bipush C dX3_isRedirectAlone_13 (kk := ?_)
    refine i_icmp_ne C dX3_isRedirectAlone_15 (tgt := 22) (kt := fun hB15 => ?_) (kf := fun hB15 => ?_)
    · refine i_iconst C dX3_isRedirectAlone_22 (kk := ?_)
      exact i_zret C (d := dX3_isRedirectAlone_23) (ha := by first | exact Or.inl rfl | exact Or.inr rfl) (h := ⟨by first | (rw [if_pos ⟨by omega, by omega⟩]; done) | (rw [if_neg (by omega)]; done), rfl⟩)
    · refine i_iconst C dX3_isRedirectAlone_18 (kk := ?_)
      refine i_goto C dX3_isRedirectAlone_19 (tgt := 23) (kk := ?_)
      exact i_zret C (d := dX3_isRedirectAlone_23) (ha := by first | exact Or.inl rfl | exact Or.inr rfl) (h := ⟨by first | (rw [if_pos ⟨by omega, by omega⟩]; done) | (rw [if_neg (by omega)]; done), rfl⟩)

set_option maxRecDepth 100000 in
set_option maxHeartbeats 4000000 in
theorem c_X3_clear (l : Launch) (hl : l.stackTraces = false) (D : gD) {w : wW} {τ : Nat → Nat} {r t a b c : Nat} {ps : List Pc3} (hT : TxT D w τ r t a b c ps := by assumption) : CTm l D yX3_clear cX3_clear 1 none (rmL 1 0 0) [.ref t] w (fun v w1 => v = none ∧ TxT D w1 τ r t a b c [] ∧ offR τ w w1 r (r + 4)) := by
  refine CTm_of hl false rfl (by rfl) (Nat.le_of_ble_eq_true rfl) (fun h => nomatch h) ?_
  intro G C
  show G 0 0 w [some (.ref t)] 0 []
  obtain ⟨h1, h2, h3, h4, h5, h6, h7, h8, fs, fp, fg, g1, g2, g3, g4⟩ := hT
  have w1 := h7.all
  have w2 := owc_le ps
  have n1 : a ≠ t := tne (τ := τ) (by omega)
  have n2 : b ≠ t := tne (τ := τ) (by omega)
  have n3 : c ≠ t := tne (τ := τ) (by omega)
  have n4 : a ≠ b := tne (τ := τ) (by omega)
  have n5 : a ≠ c := tne (τ := τ) (by omega)
  have n6 : b ≠ c := tne (τ := τ) (by omega)
  refine i_aload_n C dX3_clear_0 (kk := ?_)
  refine i_iconst C dX3_clear_1 (kk := ?_)
  refine i_putf C fk_X3_21 dX3_clear_2 (hw := by first | assumption | exact wset_eq | (refine (wset_ne ?_).trans ?_; (first | assumption | exact Ne.symm (by assumption)); (assumption))) (kk := ?_)
  refine i_aload_n C dX3_clear_5 (kk := ?_)
  refine i_iconst C dX3_clear_6 (kk := ?_)
  refine i_putf C fk_X3_25 dX3_clear_7 (hw := by first | assumption | exact wset_eq | (refine (wset_ne ?_).trans ?_; (first | assumption | exact Ne.symm (by assumption)); (assumption))) (kk := ?_)
  exact i_vret C (d := dX3_clear_10) (h := ⟨rfl, ⟨h1, h2, h3, h4, wset_eq, by decide, OWp.nil, (fun p hp => nomatch hp), fs, fp, fg, by rw [wset_ne n1, wset_ne n1]; exact g1, by rw [wset_ne n2, wset_ne n2]; exact g2, by rw [wset_ne n3, wset_ne n3]; exact g3, (fun i hi => absurd hi (Nat.not_lt_zero i))⟩, (offR.rf.put (by omega) (by omega)).put (by omega) (by omega)⟩)

set_option maxRecDepth 100000 in
set_option maxHeartbeats 4000000 in
theorem c_X3_itemOf (l : Launch) (hl : l.stackTraces = false) (D : gD) {w : wW} {τ : Nat → Nat} {r t a b c : Nat} {ps : List Pc3} {i : Nat} (hT : TxT D w τ r t a b c ps := by assumption) (hi : i < ps.length := by omega) : CTm l D yX3_itemOf cX3_itemOf 2 (some .int) (rmL 3 0 0) [.ref t, .int (Z32 (i : Int))] w (fun v w1 => v = some (.int (Z32 (if (pcs ps i).1 = 2 then 10 * (pcs ps i).2.1 + (pcs ps i).2.2 else (pcs ps i).2.2))) ∧ w1 = w) := by
  refine CTm_of hl false rfl (by rfl) (Nat.le_of_ble_eq_true rfl) (fun h => nomatch h) ?_
  intro G C
  show G 0 0 w [some (.ref t), some (.int (Z32 (i : Int)))] 0 []
  have hT9 := hT
  obtain ⟨h1, h2, h3, h4, h5, h6, h7, h8, fs, fp, fg, g1, g2, g3, g4⟩ := hT
  have w1 := h7.all
  have w2 := owc_le ps
  have e := (h8 _ (pcs_mem hi)).R
  refine i_aload_n C dX3_itemOf_0 (kk := ?_)
  refine i_iload_n C dX3_itemOf_1 (kk := ?_)
  refine i_callV C lk_X3_32 (c_X3_sortOf l hl D) (hcl := rfl) (hst := rfl) dX3_itemOf_2 (kk := fun v2 w2 g2 => ?_)
  obtain ⟨rfl, rfl⟩ := g2
  refine i_iconst C dX3_itemOf_5 (kk := ?_)
  refine i_icmp_ne C dX3_itemOf_6 (tgt := 26) (kt := fun hB6 => ?_) (kf := fun hB6 => ?_)
  · refine i_aload_n C dX3_itemOf_26 (kk := ?_)
    refine i_iload_n C dX3_itemOf_27 (kk := ?_)
    refine i_callV C lk_X3_39 (c_X3_signOf l hl D) (hcl := rfl) (hst := rfl) dX3_itemOf_28 (kk := fun v28 w28 g28 => ?_)
    obtain ⟨rfl, rfl⟩ := g28
    exact i_iret C (d := dX3_itemOf_31) (h := ⟨by first | (rw [if_pos (by omega)]; done) | (rw [if_neg (by omega)]; done), rfl⟩)
  · refine i_bipush C dX3_itemOf_9 (kk := ?_)
    refine i_aload_n C dX3_itemOf_11 (kk := ?_)
    refine i_iload_n C dX3_itemOf_12 (kk := ?_)
    refine i_callV C lk_X3_36 (c_X3_pageOf l hl D) (hcl := rfl) (hst := rfl) dX3_itemOf_13 (kk := fun v13 w13 g13 => ?_)
    obtain ⟨rfl, rfl⟩ := g13
    refine i_imul C dX3_itemOf_16 (kk := ?_)
    refine i_aload_n C dX3_itemOf_17 (kk := ?_)
    refine i_iload_n C dX3_itemOf_18 (kk := ?_)
    refine i_callV C lk_X3_39 (c_X3_signOf l hl D) (hcl := rfl) (hst := rfl) dX3_itemOf_19 (kk := fun v19 w19 g19 => ?_)
    obtain ⟨rfl, rfl⟩ := g19
    refine i_iadd C dX3_itemOf_22 (kk := ?_)
    refine i_goto C dX3_itemOf_23 (tgt := 31) (kk := ?_)
    exact i_iret C (d := dX3_itemOf_31) (h := ⟨by first | (rw [if_pos (by omega)]; done) | (rw [if_neg (by omega)]; done), rfl⟩)

set_option maxRecDepth 100000 in
set_option maxHeartbeats 4000000 in
theorem c_X3_add (l : Launch) (hl : l.stackTraces = false) (D : gD) {w : wW} {τ : Nat → Nat} {r t a b c : Nat} {ps : List Pc3} {s g x : Int} (hT : TxT D w τ r t a b c ps := by assumption) (hlen : ps.length < 30 := by omega) (hp9 : PV (s, g, x)) (how : 0 ≤ owc ps + dow s) : CTm l D yX3_add cX3_add 4 none (rmL 3 0 0) [.ref t, .int (Z32 s), .int (Z32 g), .int (Z32 x)] w (fun v w1 => v = none ∧ TxT D w1 τ r t a b c (ps ++ [(s, g, x)]) ∧ offR τ w w1 r (r + 4)) := by
  refine CTm_of hl false rfl (by rfl) (Nat.le_of_ble_eq_true rfl) (fun h => nomatch h) ?_
  intro G C
  show G 0 0 w [some (.ref t), some (.int (Z32 s)), some (.int (Z32 g)), some (.int (Z32 x))] 0 []
  obtain ⟨h1, h2, h3, h4, h5, h6, h7, h8, fs, fp, fg, g1, g2, g3, g4⟩ := hT
  have w1 := h7.all
  have w2 := owc_le ps
  have n1 : a ≠ t := tne (τ := τ) (by omega)
  have n2 : b ≠ t := tne (τ := τ) (by omega)
  have n3 : c ≠ t := tne (τ := τ) (by omega)
  have n4 : a ≠ b := tne (τ := τ) (by omega)
  have n5 : a ≠ c := tne (τ := τ) (by omega)
  have n6 : b ≠ c := tne (τ := τ) (by omega)
  have e := hp9.R
  dsimp only at e
  have m1 := n1.symm
  have m2 := n2.symm
  have m3 := n3.symm
  have m4 := n4.symm
  have m5 := n5.symm
  have m6 := n6.symm
  refine i_aload_n C dX3_add_0 (kk := ?_)
  refine i_getf C f_X3_21 dX3_add_1 (hw := by first | assumption | exact wset_eq | (refine (wset_ne ?_).trans ?_; (first | assumption | exact Ne.symm (by assumption)); (first | assumption | exact wset_eq | (refine (wset_ne ?_).trans ?_; (first | assumption | exact Ne.symm (by assumption)); (first | assumption | exact wset_eq | (refine (wset_ne ?_).trans ?_; (first | assumption | exact Ne.symm (by assumption)); (first | assumption | exact wset_eq | (refine (wset_ne ?_).trans ?_; (first | assumption | exact Ne.symm (by assumption)); (assumption))))))))) (kk := ?_)
  refine i_bipush C dX3_add_4 (kk := ?_)
  refine i_icmp_lt C dX3_add_6 (tgt := 10) (kt := fun hB6 => ?_) (kf := fun hB6 => ?_)
  · refine i_aload_n C dX3_add_10 (kk := ?_)
    refine i_getf C f_X3_9 dX3_add_11 (hw := by first | assumption | exact wset_eq | (refine (wset_ne ?_).trans ?_; (first | assumption | exact Ne.symm (by assumption)); (first | assumption | exact wset_eq | (refine (wset_ne ?_).trans ?_; (first | assumption | exact Ne.symm (by assumption)); (first | assumption | exact wset_eq | (refine (wset_ne ?_).trans ?_; (first | assumption | exact Ne.symm (by assumption)); (first | assumption | exact wset_eq | (refine (wset_ne ?_).trans ?_; (first | assumption | exact Ne.symm (by assumption)); (assumption))))))))) (kk := ?_)
    refine i_aload_n C dX3_add_14 (kk := ?_)
    refine i_getf C f_X3_21 dX3_add_15 (hw := by first | assumption | exact wset_eq | (refine (wset_ne ?_).trans ?_; (first | assumption | exact Ne.symm (by assumption)); (first | assumption | exact wset_eq | (refine (wset_ne ?_).trans ?_; (first | assumption | exact Ne.symm (by assumption)); (first | assumption | exact wset_eq | (refine (wset_ne ?_).trans ?_; (first | assumption | exact Ne.symm (by assumption)); (first | assumption | exact wset_eq | (refine (wset_ne ?_).trans ?_; (first | assumption | exact Ne.symm (by assumption)); (assumption))))))))) (kk := ?_)
    refine i_iload_n C dX3_add_18 (kk := ?_)
    refine i_callSN C lk_X3_28 (c_X6_put l hl D (f := fs) (a := a)) (hst := rfl) dX3_add_19 (kk := fun v19 w19 g19 => ?_)
    obtain ⟨rfl, rfl⟩ := g19
    rw [putz_nat (by omega)]
    refine i_aload_n C dX3_add_22 (kk := ?_)
    refine i_getf C f_X3_15 dX3_add_23 (hw := by first | assumption | exact wset_eq | (refine (wset_ne ?_).trans ?_; (first | assumption | exact Ne.symm (by assumption)); (first | assumption | exact wset_eq | (refine (wset_ne ?_).trans ?_; (first | assumption | exact Ne.symm (by assumption)); (first | assumption | exact wset_eq | (refine (wset_ne ?_).trans ?_; (first | assumption | exact Ne.symm (by assumption)); (first | assumption | exact wset_eq | (refine (wset_ne ?_).trans ?_; (first | assumption | exact Ne.symm (by assumption)); (assumption))))))))) (kk := ?_)
    refine i_aload_n C dX3_add_26 (kk := ?_)
    refine i_getf C f_X3_21 dX3_add_27 (hw := by first | assumption | exact wset_eq | (refine (wset_ne ?_).trans ?_; (first | assumption | exact Ne.symm (by assumption)); (first | assumption | exact wset_eq | (refine (wset_ne ?_).trans ?_; (first | assumption | exact Ne.symm (by assumption)); (first | assumption | exact wset_eq | (refine (wset_ne ?_).trans ?_; (first | assumption | exact Ne.symm (by assumption)); (first | assumption | exact wset_eq | (refine (wset_ne ?_).trans ?_; (first | assumption | exact Ne.symm (by assumption)); (assumption))))))))) (kk := ?_)
    refine i_iload_n C dX3_add_30 (kk := ?_)
    refine i_callSN C lk_X3_28 (c_X6_put l hl D (f := fp) (a := b) (hw := by first | assumption | exact wset_eq | (refine (wset_ne ?_).trans ?_; (first | assumption | exact Ne.symm (by assumption)); (assumption)))) (hst := rfl) dX3_add_31 (kk := fun v31 w31 g31 => ?_)
    obtain ⟨rfl, rfl⟩ := g31
    rw [putz_nat (by omega)]
    refine i_aload_n C dX3_add_34 (kk := ?_)
    refine i_getf C f_X3_18 dX3_add_35 (hw := by first | assumption | exact wset_eq | (refine (wset_ne ?_).trans ?_; (first | assumption | exact Ne.symm (by assumption)); (first | assumption | exact wset_eq | (refine (wset_ne ?_).trans ?_; (first | assumption | exact Ne.symm (by assumption)); (first | assumption | exact wset_eq | (refine (wset_ne ?_).trans ?_; (first | assumption | exact Ne.symm (by assumption)); (first | assumption | exact wset_eq | (refine (wset_ne ?_).trans ?_; (first | assumption | exact Ne.symm (by assumption)); (assumption))))))))) (kk := ?_)
    refine i_aload_n C dX3_add_38 (kk := ?_)
    refine i_getf C f_X3_21 dX3_add_39 (hw := by first | assumption | exact wset_eq | (refine (wset_ne ?_).trans ?_; (first | assumption | exact Ne.symm (by assumption)); (first | assumption | exact wset_eq | (refine (wset_ne ?_).trans ?_; (first | assumption | exact Ne.symm (by assumption)); (first | assumption | exact wset_eq | (refine (wset_ne ?_).trans ?_; (first | assumption | exact Ne.symm (by assumption)); (first | assumption | exact wset_eq | (refine (wset_ne ?_).trans ?_; (first | assumption | exact Ne.symm (by assumption)); (assumption))))))))) (kk := ?_)
    refine i_iload_n C dX3_add_42 (kk := ?_)
    refine i_callSN C lk_X3_28 (c_X6_put l hl D (f := fg) (a := c) (hw := by first | assumption | exact wset_eq | (refine (wset_ne ?_).trans ?_; (first | assumption | exact Ne.symm (by assumption)); (first | assumption | exact wset_eq | (refine (wset_ne ?_).trans ?_; (first | assumption | exact Ne.symm (by assumption)); (assumption)))))) (hst := rfl) dX3_add_43 (kk := fun v43 w43 g43 => ?_)
    obtain ⟨rfl, rfl⟩ := g43
    rw [putz_nat (by omega)]
    refine i_aload_n C dX3_add_46 (kk := ?_)
    refine i_dup C dX3_add_47 (kk := ?_)
    refine i_getf C f_X3_21 dX3_add_48 (hw := by first | assumption | exact wset_eq | (refine (wset_ne ?_).trans ?_; (first | assumption | exact Ne.symm (by assumption)); (first | assumption | exact wset_eq | (refine (wset_ne ?_).trans ?_; (first | assumption | exact Ne.symm (by assumption)); (first | assumption | exact wset_eq | (refine (wset_ne ?_).trans ?_; (first | assumption | exact Ne.symm (by assumption)); (first | assumption | exact wset_eq | (refine (wset_ne ?_).trans ?_; (first | assumption | exact Ne.symm (by assumption)); (assumption))))))))) (kk := ?_)
    refine i_iconst C dX3_add_51 (kk := ?_)
    refine i_iadd C dX3_add_52 (kk := ?_)
    refine i_putf C fk_X3_21 dX3_add_53 (hw := by first | assumption | exact wset_eq | (refine (wset_ne ?_).trans ?_; (first | assumption | exact Ne.symm (by assumption)); (first | assumption | exact wset_eq | (refine (wset_ne ?_).trans ?_; (first | assumption | exact Ne.symm (by assumption)); (first | assumption | exact wset_eq | (refine (wset_ne ?_).trans ?_; (first | assumption | exact Ne.symm (by assumption)); (first | assumption | exact wset_eq | (refine (wset_ne ?_).trans ?_; (first | assumption | exact Ne.symm (by assumption)); (assumption))))))))) (kk := ?_)
    refine i_iload_n C dX3_add_56 (kk := ?_)
    refine i_bipush C dX3_add_57 (kk := ?_)
    refine i_icmp_ne C dX3_add_59 (tgt := 75) (kt := fun hB59 => ?_) (kf := fun hB59 => ?_)
    · refine i_iload_n C dX3_add_75 (kk := ?_)
      refine i_bipush C dX3_add_76 (kk := ?_)
      refine i_icmp_ne C dX3_add_78 (tgt := 91) (kt := fun hB78 => ?_) (kf := fun hB78 => ?_)
      · exact i_vret C (d := dX3_add_91) (h := by exact TxT_add h1 h2 h3 h4 h7 h8 g4 hp9 hlen how (by unfold dow; (first | (rw [if_pos (by omega)]; exact wset_eq) | (rw [if_neg (by omega), if_pos (by omega)]; exact wset_eq) | (rw [if_neg (by omega), if_neg (by omega), Int.add_zero]; exact wset_eq))) (by first | assumption | exact wset_eq | (refine (wset_ne ?_).trans ?_; (first | assumption | exact Ne.symm (by assumption)); (first | assumption | exact wset_eq | (refine (wset_ne ?_).trans ?_; (first | assumption | exact Ne.symm (by assumption)); (first | assumption | exact wset_eq | (refine (wset_ne ?_).trans ?_; (first | assumption | exact Ne.symm (by assumption)); (first | assumption | exact wset_eq | (refine (wset_ne ?_).trans ?_; (first | assumption | exact Ne.symm (by assumption)); (first | assumption | exact wset_eq | (refine (wset_ne ?_).trans ?_; (first | assumption | exact Ne.symm (by assumption)); (assumption))))))))))) (by first | assumption | exact wset_eq | (refine (wset_ne ?_).trans ?_; (first | assumption | exact Ne.symm (by assumption)); (first | assumption | exact wset_eq | (refine (wset_ne ?_).trans ?_; (first | assumption | exact Ne.symm (by assumption)); (first | assumption | exact wset_eq | (refine (wset_ne ?_).trans ?_; (first | assumption | exact Ne.symm (by assumption)); (first | assumption | exact wset_eq | (refine (wset_ne ?_).trans ?_; (first | assumption | exact Ne.symm (by assumption)); (first | assumption | exact wset_eq | (refine (wset_ne ?_).trans ?_; (first | assumption | exact Ne.symm (by assumption)); (assumption))))))))))) (by first | assumption | exact wset_eq | (refine (wset_ne ?_).trans ?_; (first | assumption | exact Ne.symm (by assumption)); (first | assumption | exact wset_eq | (refine (wset_ne ?_).trans ?_; (first | assumption | exact Ne.symm (by assumption)); (first | assumption | exact wset_eq | (refine (wset_ne ?_).trans ?_; (first | assumption | exact Ne.symm (by assumption)); (first | assumption | exact wset_eq | (refine (wset_ne ?_).trans ?_; (first | assumption | exact Ne.symm (by assumption)); (first | assumption | exact wset_eq | (refine (wset_ne ?_).trans ?_; (first | assumption | exact Ne.symm (by assumption)); (assumption))))))))))) (by intro q hq; repeat (rw [wset_ne (fun e => by subst e; omega)])))
      · refine i_aload_n C dX3_add_81 (kk := ?_)
        refine i_dup C dX3_add_82 (kk := ?_)
        refine i_getf C f_X3_25 dX3_add_83 (hw := by first | assumption | exact wset_eq | (refine (wset_ne ?_).trans ?_; (first | assumption | exact Ne.symm (by assumption)); (first | assumption | exact wset_eq | (refine (wset_ne ?_).trans ?_; (first | assumption | exact Ne.symm (by assumption)); (first | assumption | exact wset_eq | (refine (wset_ne ?_).trans ?_; (first | assumption | exact Ne.symm (by assumption)); (first | assumption | exact wset_eq | (refine (wset_ne ?_).trans ?_; (first | assumption | exact Ne.symm (by assumption)); (assumption))))))))) (kk := ?_)
        refine i_iconst C dX3_add_86 (kk := ?_)
        refine i_isub C dX3_add_87 (kk := ?_)
        refine i_putf C fk_X3_25 dX3_add_88 (hw := by first | assumption | exact wset_eq | (refine (wset_ne ?_).trans ?_; (first | assumption | exact Ne.symm (by assumption)); (first | assumption | exact wset_eq | (refine (wset_ne ?_).trans ?_; (first | assumption | exact Ne.symm (by assumption)); (first | assumption | exact wset_eq | (refine (wset_ne ?_).trans ?_; (first | assumption | exact Ne.symm (by assumption)); (first | assumption | exact wset_eq | (refine (wset_ne ?_).trans ?_; (first | assumption | exact Ne.symm (by assumption)); (assumption))))))))) (kk := ?_)
        exact i_vret C (d := dX3_add_91) (h := by exact TxT_add h1 h2 h3 h4 h7 h8 g4 hp9 hlen how (by unfold dow; (first | (rw [if_pos (by omega)]; exact wset_eq) | (rw [if_neg (by omega), if_pos (by omega)]; exact wset_eq) | (rw [if_neg (by omega), if_neg (by omega), Int.add_zero]; exact wset_eq))) (by first | assumption | exact wset_eq | (refine (wset_ne ?_).trans ?_; (first | assumption | exact Ne.symm (by assumption)); (first | assumption | exact wset_eq | (refine (wset_ne ?_).trans ?_; (first | assumption | exact Ne.symm (by assumption)); (first | assumption | exact wset_eq | (refine (wset_ne ?_).trans ?_; (first | assumption | exact Ne.symm (by assumption)); (first | assumption | exact wset_eq | (refine (wset_ne ?_).trans ?_; (first | assumption | exact Ne.symm (by assumption)); (first | assumption | exact wset_eq | (refine (wset_ne ?_).trans ?_; (first | assumption | exact Ne.symm (by assumption)); (assumption))))))))))) (by first | assumption | exact wset_eq | (refine (wset_ne ?_).trans ?_; (first | assumption | exact Ne.symm (by assumption)); (first | assumption | exact wset_eq | (refine (wset_ne ?_).trans ?_; (first | assumption | exact Ne.symm (by assumption)); (first | assumption | exact wset_eq | (refine (wset_ne ?_).trans ?_; (first | assumption | exact Ne.symm (by assumption)); (first | assumption | exact wset_eq | (refine (wset_ne ?_).trans ?_; (first | assumption | exact Ne.symm (by assumption)); (first | assumption | exact wset_eq | (refine (wset_ne ?_).trans ?_; (first | assumption | exact Ne.symm (by assumption)); (assumption))))))))))) (by first | assumption | exact wset_eq | (refine (wset_ne ?_).trans ?_; (first | assumption | exact Ne.symm (by assumption)); (first | assumption | exact wset_eq | (refine (wset_ne ?_).trans ?_; (first | assumption | exact Ne.symm (by assumption)); (first | assumption | exact wset_eq | (refine (wset_ne ?_).trans ?_; (first | assumption | exact Ne.symm (by assumption)); (first | assumption | exact wset_eq | (refine (wset_ne ?_).trans ?_; (first | assumption | exact Ne.symm (by assumption)); (first | assumption | exact wset_eq | (refine (wset_ne ?_).trans ?_; (first | assumption | exact Ne.symm (by assumption)); (assumption))))))))))) (by intro q hq; repeat (rw [wset_ne (fun e => by subst e; omega)])))
    · refine i_aload_n C dX3_add_62 (kk := ?_)
      refine i_dup C dX3_add_63 (kk := ?_)
      refine i_getf C f_X3_25 dX3_add_64 (hw := by first | assumption | exact wset_eq | (refine (wset_ne ?_).trans ?_; (first | assumption | exact Ne.symm (by assumption)); (first | assumption | exact wset_eq | (refine (wset_ne ?_).trans ?_; (first | assumption | exact Ne.symm (by assumption)); (first | assumption | exact wset_eq | (refine (wset_ne ?_).trans ?_; (first | assumption | exact Ne.symm (by assumption)); (first | assumption | exact wset_eq | (refine (wset_ne ?_).trans ?_; (first | assumption | exact Ne.symm (by assumption)); (assumption))))))))) (kk := ?_)
      refine i_iconst C dX3_add_67 (kk := ?_)
      refine i_iadd C dX3_add_68 (kk := ?_)
      refine i_putf C fk_X3_25 dX3_add_69 (hw := by first | assumption | exact wset_eq | (refine (wset_ne ?_).trans ?_; (first | assumption | exact Ne.symm (by assumption)); (first | assumption | exact wset_eq | (refine (wset_ne ?_).trans ?_; (first | assumption | exact Ne.symm (by assumption)); (first | assumption | exact wset_eq | (refine (wset_ne ?_).trans ?_; (first | assumption | exact Ne.symm (by assumption)); (first | assumption | exact wset_eq | (refine (wset_ne ?_).trans ?_; (first | assumption | exact Ne.symm (by assumption)); (assumption))))))))) (kk := ?_)
      refine i_goto C dX3_add_72 (tgt := 91) (kk := ?_)
      exact i_vret C (d := dX3_add_91) (h := by exact TxT_add h1 h2 h3 h4 h7 h8 g4 hp9 hlen how (by unfold dow; (first | (rw [if_pos (by omega)]; exact wset_eq) | (rw [if_neg (by omega), if_pos (by omega)]; exact wset_eq) | (rw [if_neg (by omega), if_neg (by omega), Int.add_zero]; exact wset_eq))) (by first | assumption | exact wset_eq | (refine (wset_ne ?_).trans ?_; (first | assumption | exact Ne.symm (by assumption)); (first | assumption | exact wset_eq | (refine (wset_ne ?_).trans ?_; (first | assumption | exact Ne.symm (by assumption)); (first | assumption | exact wset_eq | (refine (wset_ne ?_).trans ?_; (first | assumption | exact Ne.symm (by assumption)); (first | assumption | exact wset_eq | (refine (wset_ne ?_).trans ?_; (first | assumption | exact Ne.symm (by assumption)); (first | assumption | exact wset_eq | (refine (wset_ne ?_).trans ?_; (first | assumption | exact Ne.symm (by assumption)); (assumption))))))))))) (by first | assumption | exact wset_eq | (refine (wset_ne ?_).trans ?_; (first | assumption | exact Ne.symm (by assumption)); (first | assumption | exact wset_eq | (refine (wset_ne ?_).trans ?_; (first | assumption | exact Ne.symm (by assumption)); (first | assumption | exact wset_eq | (refine (wset_ne ?_).trans ?_; (first | assumption | exact Ne.symm (by assumption)); (first | assumption | exact wset_eq | (refine (wset_ne ?_).trans ?_; (first | assumption | exact Ne.symm (by assumption)); (first | assumption | exact wset_eq | (refine (wset_ne ?_).trans ?_; (first | assumption | exact Ne.symm (by assumption)); (assumption))))))))))) (by first | assumption | exact wset_eq | (refine (wset_ne ?_).trans ?_; (first | assumption | exact Ne.symm (by assumption)); (first | assumption | exact wset_eq | (refine (wset_ne ?_).trans ?_; (first | assumption | exact Ne.symm (by assumption)); (first | assumption | exact wset_eq | (refine (wset_ne ?_).trans ?_; (first | assumption | exact Ne.symm (by assumption)); (first | assumption | exact wset_eq | (refine (wset_ne ?_).trans ?_; (first | assumption | exact Ne.symm (by assumption)); (first | assumption | exact wset_eq | (refine (wset_ne ?_).trans ?_; (first | assumption | exact Ne.symm (by assumption)); (assumption))))))))))) (by intro q hq; repeat (rw [wset_ne (fun e => by subst e; omega)])))
  · exfalso; omega

set_option maxRecDepth 100000 in
set_option maxHeartbeats 4000000 in
theorem c_X3_addAll (l : Launch) (hl : l.stackTraces = false) (D : gD) {w : wW} {τ : Nat → Nat} {r t a b c r2 t2 a2 b2 c2 : Nat} {qs : List Pc3} (hT : TxT D w τ r t a b c [] := by assumption) (hQ : TxT D w τ r2 t2 a2 b2 c2 qs := by assumption) (hr : r2 + 4 ≤ r ∨ r + 4 ≤ r2) : CTm l D yX3_addAll cX3_addAll 3 none (rmL 4 0 0) [.ref t, .ref t2] w (fun v w1 => v = none ∧ TxT D w1 τ r t a b c qs ∧ offR τ w w1 r (r + 4)) := by
  refine CTm_of hl false rfl (by rfl) (Nat.le_of_ble_eq_true rfl) (fun h => nomatch h) ?_
  intro G C
  show G 0 0 w [some (.ref t), some (.ref t2), none] 0 []
  refine i_iconst C dX3_addAll_0 (kk := ?_)
  refine i_istore_n C dX3_addAll_1 (kk := ?_)
  have hq30 := hQ.2.2.2.2.2.1
  have lp : ∀ (n i : Nat) (w1 : wW), qs.length + 1 ≤ n + i → i ≤ qs.length → TxT D w1 τ r t a b c (qs.take i) → offR τ w w1 r (r + 4) → G 0 0 w1 [some (.ref t), some (.ref t2), some (.int (Z32 (i : Int)))] 2 [] := by
    intro n
    induction n with
    | zero => intro i w1 h1 h2; omega
    | succ n ih =>
    intro i w1 h1 h2 kT kO
    have kQ := hQ.off kO (by omega)
    have e9 : (qs.take i).length = i := by rw [List.length_take]; omega
    refine i_iload_n C dX3_addAll_2 (kk := ?_)
    refine i_aload_n C dX3_addAll_3 (kk := ?_)
    refine i_getf C f_X3_21 dX3_addAll_4 (hw := kQ.2.2.2.2.1) (kk := ?_)
    refine i_icmp_ge C dX3_addAll_7 (tgt := 35) (kt := fun hB7 => ?_) (kf := fun hB7 => ?_)
    · exact i_vret C (d := dX3_addAll_35) (h := ⟨rfl, (by have e : qs.take i = qs := List.take_of_length_le (by omega); rw [e] at kT; exact kT), kO⟩)
    · refine i_aload_n C dX3_addAll_10 (kk := ?_)
      refine i_aload_n C dX3_addAll_11 (kk := ?_)
      refine i_iload_n C dX3_addAll_12 (kk := ?_)
      refine i_callV C lk_X3_32 (c_X3_sortOf l hl D (hT := kQ) (i := i)) (hcl := rfl) (hst := rfl) dX3_addAll_13 (hw := kQ.2.2.2.2.1) (kk := fun v13 w13 g13 => ?_)
      obtain ⟨rfl, rfl⟩ := g13
      refine i_aload_n C dX3_addAll_16 (kk := ?_)
      refine i_iload_n C dX3_addAll_17 (kk := ?_)
      refine i_callV C lk_X3_36 (c_X3_pageOf l hl D (hT := kQ) (i := i)) (hcl := rfl) (hst := rfl) dX3_addAll_18 (hw := kQ.2.2.2.2.1) (kk := fun v18 w18 g18 => ?_)
      obtain ⟨rfl, rfl⟩ := g18
      refine i_aload_n C dX3_addAll_21 (kk := ?_)
      refine i_iload_n C dX3_addAll_22 (kk := ?_)
      refine i_callV C lk_X3_39 (c_X3_signOf l hl D (hT := kQ) (i := i)) (hcl := rfl) (hst := rfl) dX3_addAll_23 (hw := kQ.2.2.2.2.1) (kk := fun v23 w23 g23 => ?_)
      obtain ⟨rfl, rfl⟩ := g23
      refine i_callV C lk_X3_42 (c_X3_add l hl D (hT := kT) (s := (pcs qs i).1) (g := (pcs qs i).2.1) (x := (pcs qs i).2.2) (hlen := by omega) (hp9 := hQ.2.2.2.2.2.2.2.1 _ (pcs_mem (i := i) (by omega))) (how := by rw [← owc_take (by omega)]; exact hQ.2.2.2.2.2.2.1 _)) (hcl := rfl) (hst := rfl) dX3_addAll_26 (hw := kT.2.2.2.2.1) (kk := fun v26 w26 g26 => ?_)
      obtain ⟨rfl, kT2, kO2⟩ := g26
      refine i_iinc C dX3_addAll_29 (kk := ?_)
      refine i_goto C dX3_addAll_32 (tgt := 2) (kk := ?_)
      exact ih (i + 1) _ (by omega) (by omega) (by rw [pcs_take (by omega)]; exact kT2) (kO.trans kO2)
  exact lp (qs.length + 1) 0 w (by omega) (by omega) hT offR.rf

set_option maxRecDepth 100000 in
set_option maxHeartbeats 4000000 in
theorem c_X3_init (l : Launch) (hl : l.stackTraces = false) (D : gD) {w : wW} {t : Nat} (hw : w t = some (.inr (3, [.null, .null, .null, .int 0, .int 0])) := by assumption) : CTm l D yX3_init cX3_init 1 none (rmL 2 3 90) [.ref t] w (fun v w1 => v = none ∧ ∃ a b c, w a = none ∧ w b = none ∧ w c = none ∧ a ≠ b ∧ a ≠ c ∧ b ≠ c ∧ w1 t = some (txO a b c 0 0) ∧ w1 a = some (iar D 30 (fun _ => 0)) ∧ w1 b = some (iar D 30 (fun _ => 0)) ∧ w1 c = some (iar D 30 (fun _ => 0)) ∧ ∀ q, q ≠ t → q ≠ a → q ≠ b → q ≠ c → w1 q = w q) := by
  refine CTm_of hl true rfl (by rfl) (Nat.le_of_ble_eq_true rfl) (fun _ => rfl) ?_
  intro G C
  show G 0 0 w [some (.ref t)] 0 []
  refine i_aload_n C dX3_init_0 (kk := ?_)
  refine i_objInit C lk_X3_3 dX3_init_1 (kk := ?_)
  refine i_aload_n C dX3_init_4 (kk := ?_)
  refine i_bipush C dX3_init_5 (kk := ?_)
  refine i_newint C (harr := ta_int) (N := 30) (d := dX3_init_7) (kk := fun q7 nq7 => ?_)
  have m7 : t ≠ q7 := fun e => by rw [← e, hw] at nq7; cases nq7
  refine i_putF C ff_X3_9 dX3_init_9 (hw := by first | assumption | exact wset_eq | (refine (wset_ne ?_).trans ?_; (first | assumption | exact Ne.symm (by assumption)); (first | assumption | exact wset_eq | (refine (wset_ne ?_).trans ?_; (first | assumption | exact Ne.symm (by assumption)); (first | assumption | exact wset_eq | (refine (wset_ne ?_).trans ?_; (first | assumption | exact Ne.symm (by assumption)); (first | assumption | exact wset_eq | (refine (wset_ne ?_).trans ?_; (first | assumption | exact Ne.symm (by assumption)); (first | assumption | exact wset_eq | (refine (wset_ne ?_).trans ?_; (first | assumption | exact Ne.symm (by assumption)); (first | assumption | exact wset_eq | (refine (wset_ne ?_).trans ?_; (first | assumption | exact Ne.symm (by assumption)); (first | assumption | exact wset_eq | (refine (wset_ne ?_).trans ?_; (first | assumption | exact Ne.symm (by assumption)); (assumption))))))))))))))) (kk := ?_)
  refine i_aload_n C dX3_init_12 (kk := ?_)
  refine i_bipush C dX3_init_13 (kk := ?_)
  refine i_newint C (harr := ta_int) (N := 30) (d := dX3_init_15) (kk := fun q15 nq15 => ?_)
  obtain ⟨u1, u2⟩ := wset_none nq15
  obtain ⟨u3, u4⟩ := wset_none u2
  refine i_putF C ff_X3_15 dX3_init_17 (hw := by first | assumption | exact wset_eq | (refine (wset_ne ?_).trans ?_; (first | assumption | exact Ne.symm (by assumption)); (first | assumption | exact wset_eq | (refine (wset_ne ?_).trans ?_; (first | assumption | exact Ne.symm (by assumption)); (first | assumption | exact wset_eq | (refine (wset_ne ?_).trans ?_; (first | assumption | exact Ne.symm (by assumption)); (first | assumption | exact wset_eq | (refine (wset_ne ?_).trans ?_; (first | assumption | exact Ne.symm (by assumption)); (first | assumption | exact wset_eq | (refine (wset_ne ?_).trans ?_; (first | assumption | exact Ne.symm (by assumption)); (first | assumption | exact wset_eq | (refine (wset_ne ?_).trans ?_; (first | assumption | exact Ne.symm (by assumption)); (first | assumption | exact wset_eq | (refine (wset_ne ?_).trans ?_; (first | assumption | exact Ne.symm (by assumption)); (assumption))))))))))))))) (kk := ?_)
  refine i_aload_n C dX3_init_20 (kk := ?_)
  refine i_bipush C dX3_init_21 (kk := ?_)
  refine i_newint C (harr := ta_int) (N := 30) (d := dX3_init_23) (kk := fun q23 nq23 => ?_)
  obtain ⟨v1, v2⟩ := wset_none nq23
  obtain ⟨v3, v4⟩ := wset_none v2
  obtain ⟨v5, v6⟩ := wset_none v4
  obtain ⟨v7, v8⟩ := wset_none v6
  refine i_putF C ff_X3_18 dX3_init_25 (hw := by first | assumption | exact wset_eq | (refine (wset_ne ?_).trans ?_; (first | assumption | exact Ne.symm (by assumption)); (first | assumption | exact wset_eq | (refine (wset_ne ?_).trans ?_; (first | assumption | exact Ne.symm (by assumption)); (first | assumption | exact wset_eq | (refine (wset_ne ?_).trans ?_; (first | assumption | exact Ne.symm (by assumption)); (first | assumption | exact wset_eq | (refine (wset_ne ?_).trans ?_; (first | assumption | exact Ne.symm (by assumption)); (first | assumption | exact wset_eq | (refine (wset_ne ?_).trans ?_; (first | assumption | exact Ne.symm (by assumption)); (first | assumption | exact wset_eq | (refine (wset_ne ?_).trans ?_; (first | assumption | exact Ne.symm (by assumption)); (first | assumption | exact wset_eq | (refine (wset_ne ?_).trans ?_; (first | assumption | exact Ne.symm (by assumption)); (assumption))))))))))))))) (kk := ?_)
  refine i_aload_n C dX3_init_28 (kk := ?_)
  refine i_iconst C dX3_init_29 (kk := ?_)
  refine i_putf C fk_X3_21 dX3_init_30 (hw := by first | assumption | exact wset_eq | (refine (wset_ne ?_).trans ?_; (first | assumption | exact Ne.symm (by assumption)); (first | assumption | exact wset_eq | (refine (wset_ne ?_).trans ?_; (first | assumption | exact Ne.symm (by assumption)); (first | assumption | exact wset_eq | (refine (wset_ne ?_).trans ?_; (first | assumption | exact Ne.symm (by assumption)); (first | assumption | exact wset_eq | (refine (wset_ne ?_).trans ?_; (first | assumption | exact Ne.symm (by assumption)); (first | assumption | exact wset_eq | (refine (wset_ne ?_).trans ?_; (first | assumption | exact Ne.symm (by assumption)); (first | assumption | exact wset_eq | (refine (wset_ne ?_).trans ?_; (first | assumption | exact Ne.symm (by assumption)); (first | assumption | exact wset_eq | (refine (wset_ne ?_).trans ?_; (first | assumption | exact Ne.symm (by assumption)); (assumption))))))))))))))) (kk := ?_)
  refine i_aload_n C dX3_init_33 (kk := ?_)
  refine i_iconst C dX3_init_34 (kk := ?_)
  refine i_putf C fk_X3_25 dX3_init_35 (hw := by first | assumption | exact wset_eq | (refine (wset_ne ?_).trans ?_; (first | assumption | exact Ne.symm (by assumption)); (first | assumption | exact wset_eq | (refine (wset_ne ?_).trans ?_; (first | assumption | exact Ne.symm (by assumption)); (first | assumption | exact wset_eq | (refine (wset_ne ?_).trans ?_; (first | assumption | exact Ne.symm (by assumption)); (first | assumption | exact wset_eq | (refine (wset_ne ?_).trans ?_; (first | assumption | exact Ne.symm (by assumption)); (first | assumption | exact wset_eq | (refine (wset_ne ?_).trans ?_; (first | assumption | exact Ne.symm (by assumption)); (first | assumption | exact wset_eq | (refine (wset_ne ?_).trans ?_; (first | assumption | exact Ne.symm (by assumption)); (first | assumption | exact wset_eq | (refine (wset_ne ?_).trans ?_; (first | assumption | exact Ne.symm (by assumption)); (assumption))))))))))))))) (kk := ?_)
  exact i_vret C (d := dX3_init_38) (h := ⟨rfl, q7, q15, q23, nq7, u4, v8, u3.symm, v7.symm, v3.symm, wset_eq, by first | assumption | exact wset_eq | (refine (wset_ne ?_).trans ?_; (first | assumption | exact Ne.symm (by assumption)); (first | assumption | exact wset_eq | (refine (wset_ne ?_).trans ?_; (first | assumption | exact Ne.symm (by assumption)); (first | assumption | exact wset_eq | (refine (wset_ne ?_).trans ?_; (first | assumption | exact Ne.symm (by assumption)); (first | assumption | exact wset_eq | (refine (wset_ne ?_).trans ?_; (first | assumption | exact Ne.symm (by assumption)); (first | assumption | exact wset_eq | (refine (wset_ne ?_).trans ?_; (first | assumption | exact Ne.symm (by assumption)); (first | assumption | exact wset_eq | (refine (wset_ne ?_).trans ?_; (first | assumption | exact Ne.symm (by assumption)); (first | assumption | exact wset_eq | (refine (wset_ne ?_).trans ?_; (first | assumption | exact Ne.symm (by assumption)); (first | assumption | exact wset_eq | (refine (wset_ne ?_).trans ?_; (first | assumption | exact Ne.symm (by assumption)); (assumption)))))))))))))))), by first | assumption | exact wset_eq | (refine (wset_ne ?_).trans ?_; (first | assumption | exact Ne.symm (by assumption)); (first | assumption | exact wset_eq | (refine (wset_ne ?_).trans ?_; (first | assumption | exact Ne.symm (by assumption)); (first | assumption | exact wset_eq | (refine (wset_ne ?_).trans ?_; (first | assumption | exact Ne.symm (by assumption)); (first | assumption | exact wset_eq | (refine (wset_ne ?_).trans ?_; (first | assumption | exact Ne.symm (by assumption)); (first | assumption | exact wset_eq | (refine (wset_ne ?_).trans ?_; (first | assumption | exact Ne.symm (by assumption)); (first | assumption | exact wset_eq | (refine (wset_ne ?_).trans ?_; (first | assumption | exact Ne.symm (by assumption)); (first | assumption | exact wset_eq | (refine (wset_ne ?_).trans ?_; (first | assumption | exact Ne.symm (by assumption)); (first | assumption | exact wset_eq | (refine (wset_ne ?_).trans ?_; (first | assumption | exact Ne.symm (by assumption)); (assumption)))))))))))))))), by first | assumption | exact wset_eq | (refine (wset_ne ?_).trans ?_; (first | assumption | exact Ne.symm (by assumption)); (first | assumption | exact wset_eq | (refine (wset_ne ?_).trans ?_; (first | assumption | exact Ne.symm (by assumption)); (first | assumption | exact wset_eq | (refine (wset_ne ?_).trans ?_; (first | assumption | exact Ne.symm (by assumption)); (first | assumption | exact wset_eq | (refine (wset_ne ?_).trans ?_; (first | assumption | exact Ne.symm (by assumption)); (first | assumption | exact wset_eq | (refine (wset_ne ?_).trans ?_; (first | assumption | exact Ne.symm (by assumption)); (first | assumption | exact wset_eq | (refine (wset_ne ?_).trans ?_; (first | assumption | exact Ne.symm (by assumption)); (first | assumption | exact wset_eq | (refine (wset_ne ?_).trans ?_; (first | assumption | exact Ne.symm (by assumption)); (first | assumption | exact wset_eq | (refine (wset_ne ?_).trans ?_; (first | assumption | exact Ne.symm (by assumption)); (assumption)))))))))))))))), fun q e1 e2 e3 e4 => by rw [wset_ne e1, wset_ne e1, wset_ne e1, wset_ne e4, wset_ne e1, wset_ne e3, wset_ne e1, wset_ne e2]⟩)
end
