/-! String constants in one predicate; methods without answer, with a reference as answer; methods that may throw -/
def sTab : List (String × Nat × String × List Int32) := [("HereLived$RuleReader", 125, "dead", [100, 101, 97, 100]), ("HereLived$RuleReader", 127, "lived", [108, 105, 118, 101, 100]), ("HereLived$RuleReader", 129, "sources", [115, 111, 117, 114, 99, 101, 115]), ("HereLived$RuleReader", 131, "span", [115, 112, 97, 110]), ("HereLived$RuleReader", 133, "one", [111, 110, 101]), ("HereLived$RuleReader", 135, "votes", [118, 111, 116, 101, 115]), ("HereLived$RuleReader", 137, "down", [100, 111, 119, 110]), ("HereLived$RuleReader", 139, "theme", [116, 104, 101, 109, 101]), ("HereLived$RuleReader", 105, "yes", [121, 101, 115]), ("HereLived$RuleReader", 107, "no", [110, 111]), ("HereLived$RuleReader", 103, ";", [59]), ("HereLivedModel", 70, "dead", [100, 101, 97, 100]), ("HereLivedModel", 76, "lived", [108, 105, 118, 101, 100]), ("HereLivedModel", 78, "sources", [115, 111, 117, 114, 99, 101, 115]), ("HereLivedModel", 80, "span", [115, 112, 97, 110]), ("HereLivedModel", 82, "one", [111, 110, 101]), ("HereLivedModel", 84, "votes", [118, 111, 116, 101, 115]), ("HereLivedModel", 86, "down", [100, 111, 119, 110]), ("HereLivedModel", 88, "theme", [116, 104, 101, 109, 101]), ("HereLivedModel", 112, "yes", [121, 101, 115]), ("HereLivedModel", 114, "no", [110, 111])]
def sRow (i : Nat) : String × Nat × String × List Int32 := sTab.getD i ("", 0, "", [])
def sBy (i : Nat) : List Int32 := (sRow i).2.2.2
def strIs (q v : Nat) (bs : List Int32) (A : Nat → Prop) (U : State) (H : Heap) : Prop := va_O "java/lang/String" q A U H ∧ va_OF "java/lang/String" "coder" "B" (.int 0) q A U H ∧ va_OF "java/lang/String" "value" "[B" (.ref v) q A U H ∧ va_T .byte v bs.length (fun j => .int (bs.getD j 0)) A U H
def sW (sa sv : Nat → Nat) (fv : Value) (A : Nat → Prop) (U : State) (H : Heap) : Prop := (∀ i, i < 21 → vk_R (sRow i).1 (sRow i).2.1 (sRow i).2.2.1 (sa i) U ∧ strIs (sa i) (sv i) (sBy i) A U H) ∧ va_Z "java/lang/String" "COMPACT_STRINGS" "Z" (.int 1) A U H ∧ va_Z "jdk/internal/util/Preconditions" "SIOOBE_FORMATTER" "Ljava/util/function/BiFunction;" fv A U H ∧ (fv = .null ∨ ∃ t : Nat, fv = .ref t)
theorem strIs.moved {q v : Nat} {bs : List Int32} {A : Nat → Prop} {u U : State} {H : Heap} (hvm : u.vm.Alike U.vm) (h : strIs q v bs A u H) : strIs q v bs A U H := ⟨va_O.moved hvm h.1, va_OF.moved hvm h.2.1, va_OF.moved hvm h.2.2.1, va_T.moved hvm h.2.2.2⟩
theorem strIs.kept {q v : Nat} {bs : List Int32} {A : Nat → Prop} {U : State} {H H1 : Heap} (h : strIs q v bs A U H) (hq : ∀ a : Nat, a < H.size → ¬ A a → H1[a]? = H[a]?) : strIs q v bs A U H1 := ⟨h.1.kept hq, h.2.1.kept hq, h.2.2.1.kept hq, h.2.2.2.kept hq⟩
theorem strIs.narrow {q v : Nat} {bs : List Int32} {A B : Nat → Prop} {U : State} {H : Heap} (h : strIs q v bs A U H) (hAB : ∀ q, B q → A q) : strIs q v bs B U H := ⟨h.1.narrow hAB, h.2.1.narrow hAB, h.2.2.1.narrow hAB, h.2.2.2.narrow hAB⟩
theorem sW.go {sa sv : Nat → Nat} {fv : Value} {A : Nat → Prop} {s U : State} {H : Heap} (h : sW sa sv fv A s H) (hW : s.WarmedH U.vm) (hU : U.heap = H) : sW sa sv fv A U U.heap := by
  rw [hU]
  exact ⟨fun i hi => ⟨vk_R.warm hW (h.1 i hi).1, strIs.moved hW.alike (h.1 i hi).2⟩, va_Z.moved hW.alike h.2.1, va_Z.moved hW.alike h.2.2.1, h.2.2.2⟩
theorem sW.kept {sa sv : Nat → Nat} {fv : Value} {A : Nat → Prop} {U : State} {H H1 : Heap} (h : sW sa sv fv A U H) (hq : ∀ a : Nat, a < H.size → ¬ A a → H1[a]? = H[a]?) : sW sa sv fv A U H1 :=
  ⟨fun i hi => ⟨(h.1 i hi).1, (h.1 i hi).2.kept hq⟩, h.2.1.kept hq, h.2.2.1.kept hq, h.2.2.2⟩
theorem sW.narrow {sa sv : Nat → Nat} {fv : Value} {A B : Nat → Prop} {U : State} {H : Heap} (h : sW sa sv fv A U H) (hAB : ∀ q, B q → A q) : sW sa sv fv B U H :=
  ⟨fun i hi => ⟨(h.1 i hi).1, (h.1 i hi).2.narrow hAB⟩, h.2.1.narrow hAB, h.2.2.1.narrow hAB, h.2.2.2⟩
theorem sW.call {sa sv : Nat → Nat} {fv : Value} {A : Nat → Prop} {U : State} (h : sW sa sv fv A U U.heap) (g : JFrame) (mk : MethodId) (a : Array Value) : sW sa sv fv A (U.calling g mk a) (U.calling g mk a).heap :=
  ⟨fun i hi => ⟨vk_R.same (u := U) (U := U.calling g mk a) rfl (h.1 i hi).1, strIs.moved (u := U) (U := U.calling g mk a) (Vm.Alike.refl U.vm) (h.1 i hi).2⟩, va_Z.moved (u := U) (U := U.calling g mk a) (Vm.Alike.refl U.vm) h.2.1, va_Z.moved (u := U) (U := U.calling g mk a) (Vm.Alike.refl U.vm) h.2.2.1, h.2.2.2⟩
theorem sW.recv {sa sv : Nat → Nat} {fv : Value} {A : Nat → Prop} {U : State} {H : Heap} {i : Nat} (h : sW sa sv fv A U H) (hi : i < 21) : ∃ cell : Cell, H[sa i]? = some cell ∧ cell.vm.isStatics = false ∧ U.vm.findClass "java/lang/String" = some cell.cls := by
  obtain ⟨cell, h1, h2, h3, -⟩ := (h.1 i hi).2.1
  exact ⟨cell, h1, h2, h3⟩
def bw_Sv : Array Value → State → Outcome → State → Prop := fun _ st o t => o = .returned none ∧ t.heap = st.heap
def bw_Sr (post : Nat → Prop) : Array Value → State → Outcome → State → Prop := fun _ st o t => ∃ r : Nat, o = .returned (some (.ref r)) ∧ post r ∧ t.heap = st.heap
/-- a method that may throw: its contract, its end -/
def FrameEndO (first t : State) (L : List Loc) (k n : Nat) : Prop := first.WarmedH t.vm ∧ first.sameButNew ({ t with vm := first.vm } : State) L k n
def MetT (l : Launch) (y : MethodName) (ws : List Cond) (rm : Room) (Pc : Array Value → State → Prop) (Qc : Array Value → State → Outcome → State → Prop) (mc ms : Nat) (free : Addr → Prop) : Prop :=
  MetFree l y (headSpec ws rm) Pc (fun _ _ _ _ _ => True) (fun a st o t => Qc a st o t ∧ ∃ L, FrameEndO st t L mc ms ∧ ∀ q ∈ L, free q.base)
def MQT (below : List Frame) (Qc : Array Value → State → Outcome → State → Prop) (a : Array Value) (s : State) (mc ms : Nat) (free : Addr → Prop) : State → Prop := fun t =>
  ∃ o, t.status = .running ∧ Ended t below o ∧ Qc a s o t ∧ ∃ L, FrameEndO s t L mc ms ∧ ∀ q ∈ L, free q.base
section BW2
variable {p : Program} {l : Launch} {e : Env} {R : Room} {s : State} {m : MethodId} {args : Array Value} {below : List Frame} {meth : Method} {c : Code} {H : Heap} {locs : List Loc} {cells slots : Nat} {Q : State → Prop}
variable {cc : ByteArray} {pc : Nat} {ls : Array Slot} {rest : List Value}
theorem bw_callSv {a : Array Value} {st0 : List Value} (hr : CallRun p l e R s m args below meth c H locs cells slots 0 0 (F0 m pc ls st0) rest (bw_Sv a) (fun _ => False))
    (kk : W p l e R s m args below meth c H locs cells slots Q (F0 m (pc + 3) ls rest)) : W p l e R s m args below meth c H locs cells slots Q (F0 m pc ls st0) := by
  intro T hT X
  obtain ⟨v, st₀, t, T', L, h0, X', hL, e1, ⟨hv, hh⟩, st⟩ := hr T hT X
  cases hv
  obtain ⟨t2, a1, b1⟩ := kk T' (by rw [e1, hh, h0]) (Stand.forget X' (fun q h => (hL q h).elim))
  exact ⟨t2, st t2 a1, b1⟩
theorem bw_callSr {post : Nat → Prop} {a : Array Value} {st0 : List Value} (hr : CallRun p l e R s m args below meth c H locs cells slots 0 0 (F0 m pc ls st0) rest (bw_Sr post a) (fun _ => False))
    (kk : ∀ r : Nat, post r → W p l e R s m args below meth c H locs cells slots Q (F0 m (pc + 3) ls (.ref r :: rest))) : W p l e R s m args below meth c H locs cells slots Q (F0 m pc ls st0) := by
  intro T hT X
  obtain ⟨v, st₀, t, T', L, h0, X', hL, e1, ⟨r, hv, hp, hh⟩, st⟩ := hr T hT X
  cases hv
  obtain ⟨t2, a1, b1⟩ := kk r hp T' (by rw [e1, hh, h0]) (Stand.forget X' (fun q h => (hL q h).elim))
  exact ⟨t2, st t2 a1, b1⟩
theorem bw_mono {Q1 : State → Prop} {g : JFrame} (h : ∀ t, Q t → Q1 t) (k : W p l e R s m args below meth c H locs cells slots Q g) : W p l e R s m args below meth c H locs cells slots Q1 g := by
  intro T hT X
  obtain ⟨t, a1, b1⟩ := k T hT X
  exact ⟨t, a1, h t b1⟩
theorem MQ_T {Qc : Array Value → State → Outcome → State → Prop} {a : Array Value} {mc ms : Nat} {free : Addr → Prop} {t : State} (h : MQ below Qc a s mc ms free t) : MQT below Qc a s mc ms free t := by
  obtain ⟨o, h1, h2, h3, L, h4, h5⟩ := h
  exact ⟨o, h1, h2, h3, L, ⟨h4.2.1, h4.2.2⟩, h5⟩
theorem MetT.ofW {y : MethodName} {ws ws' : List Cond} {rm : Room} {Pc : Array Value → State → Prop} {Qc : Array Value → State → Outcome → State → Prop} {mc ms : Nat} {free : Addr → Prop} {cc : ByteArray} {maxL : Nat} {ret : Option FieldType}
    (hy : plainName y.cls = true) (hw : ws = Cond.code y cc maxL ret :: ws')
    (body : ∀ p e s m args below meth c s₁, BodyLoose p l y (headSpec ws rm) cc maxL ret e s m args below meth c s₁ → c.maxLocals = maxL → c.exceptionTable.isEmpty = true → Pc args s →
      W p l e (headSpec ws rm).room s m args below meth c s.heap [] 0 0 (MQT below Qc args s mc ms free) (entryFrame m args maxL)) : MetT l y ws rm Pc Qc mc ms free := by
  refine MetFree.of_bodyS (code := cc) (maxLocals := maxL) (ret := ret) hy ?_ ?_
  · intro args s m h hn
    obtain ⟨meth, c, h1, h2, h3, h4, h5, h6, -, -⟩ := Cond.code_spec hn (atoms_spec (ws := ws) h _ (by rw [hw]; exact List.mem_cons_self))
    exact ⟨meth, c, h1, h2, h3, h4, h5, h6⟩
  · intro p e s m args below meth c s₁ B hml hP _
    have hh0 : s₁.heap = s.heap := by rw [B.state]; rfl
    have hno : c.exceptionTable.isEmpty = true := BodyLoose.noHandlers B (atoms_spec (ws := ws) B.pre _ (by rw [hw]; exact List.mem_cons_self))
    obtain ⟨t, a1, o, b1, b2, b3⟩ := body p e s m args below meth c s₁ B hml hno hP s₁ hh0 (Stand.of_body B)
    exact ⟨t, o, a1, b1, b2, ⟨b3.1, b3.2⟩⟩
theorem noH {x : ExceptionTableEntry} (h : c.exceptionTable.isEmpty = true) (hx : x ∈ c.exceptionTable.toList) {k : Nat} : covers x k = false := by
  have h2 : c.exceptionTable = #[] := Array.isEmpty_iff.mp h
  rw [h2] at hx
  cases hx
theorem bw_athrow {Qc : Array Value → State → Outcome → State → Prop} {free : Addr → Prop} {a : Nat} (hexec : p.tables.exec = Jvm.exec) (hb : c.code = cc) (hno : c.exceptionTable.isEmpty = true) (hlocks : meth.locks = false)
    (hq : ∀ t : State, t.heap = H → s.WarmedH t.vm → Qc args s (.threw a) t) (hf : ∀ q ∈ locs, free q.base) (hdg : decode cc pc = .ok (.athrow, 1)) : W p l e R s m args below meth c H locs cells slots (MQT below Qc args s cells slots free) (F0 m pc ls (.ref a :: rest)) := by
  intro T hT X
  obtain ⟨st, h1, h2, h3, h4⟩ := X.athrowLeaves hexec (g := F0 m pc ls (.ref a :: rest)) rfl rfl rfl (fun x hx => noH hno hx) (a := a) (rest := rest) rfl (by rw [hb]; exact hdg) hlocks
  exact ⟨_, st, .threw a, h1, h2, hq _ hT h3, locs, ⟨h3, h4⟩, hf⟩
/-- a call of a method that may throw: how it ended, and where the walk stands then -/
def bw_RunT (p : Program) (l : Launch) (e : Env) (R : Room) (s : State) (m : MethodId) (args : Array Value) (below : List Frame) (meth : Method) (c : Code) (H : Heap) (locs : List Loc) (cells slots mc ms : Nat) (g : JFrame) (rest : List Value) (Qa : State → Outcome → State → Prop) (free : Addr → Prop) : Prop :=
  ∀ T : State, T.heap = H → Stand p l e R s m args below meth c T locs cells slots → ∃ (o : Outcome) (st₀ t T' : State) (L : List Loc), st₀.heap = H ∧ Stand p l e R s m args below meth c T' (locs ++ L) (cells + mc) (slots + ms) ∧ (∀ q ∈ L, free q.base) ∧ T'.heap = t.heap ∧ T'.vm = t.vm ∧ Qa st₀ o t ∧
    match o with
    | .returned v => Goes p e below T g T' { g with pc := g.pc + 3, stack := v.toList ++ rest }
    | .threw x => ∀ target, Steps p.tables e below ((T'.setTop { g with stack := rest }).pushFrame (.throwing x)) target → Steps p.tables e below (T.setTop g) target
theorem bw_runT {y : MethodName} {bytes : ByteArray} {maxL nL mc ms n index : Nat} {ret : Option FieldType} {ws : List Cond} {rm : Room} {Pc : Array Value → State → Prop} {Qc : Array Value → State → Outcome → State → Prop} {free : Addr → Prop} {Ts : List Cond} {own C : String} {b : Addr} {As : List Value} {g : JFrame}
    (S : CallFix p m c cc nL s args Ts own) (hM : MetT l y ws rm Pc Qc mc ms free) (cw : CallW R s args own C index y bytes maxL ret ws rm mc ms n) (hp : PreV s H C b Pc As)
    (hg : g.method = m) (hn : As.length = n) (hsize : g.locals.size = nL) (hstack : g.stack = As.reverse ++ .ref b :: rest) (hW : 2 * g.monitorRoom + (rest.map fun v => v.category).sum ≤ 8) (hdg : decode cc g.pc = .ok (.invokevirtual index, 3)) (hf : cells + mc ≤ R.cells ∧ slots + ms ≤ R.slots) :
    bw_RunT p l e R s m args below meth c H locs cells slots mc ms g rest (Qc (Value.ref b :: As).toArray) free := by
  obtain ⟨⟨hrc, hrs, hfr, hlo, hws, hcw, hcode, hini, hy, hlen, hl⟩, hin, hse⟩ := cw
  obtain ⟨hx, hb, hml, ho, -⟩ := S
  obtain ⟨hbl, ⟨cellB, hcB, hoB, hclB⟩, hPc⟩ := hp
  intro T hT X
  obtain ⟨mk, methM, hnamed, hmethM, hstM, habM⟩ := Cond.instanceMethod_spec hin
  obtain ⟨methM', cM, hmethM', -, -, -, -, -, -, hsigM⟩ := Cond.code_spec hnamed hcode
  cases hmethM.symm.trans hmethM'
  obtain ⟨c2, r2, m2, q1, q2, q3, q4, kP, hkP, hkPi⟩ := Cond.selects_spec hse
  cases hclB.symm.trans q1
  cases (State.methodFound?_of_named hnamed hy).symm.trans q2
  cases hnamed.symm.trans q3
  have hselP : selectMethod e.platform s.vm cellB.cls mk = .method mk := by rw [Launch.admits_selectMethod X.admits]; exact q4
  have hdg' : decode c.code g.pc = .ok (.invokevirtual index, 3) := by rw [hb]; exact hdg
  obtain ⟨vm₁, X₁, hstep₁⟩ := X.invokevirtual hx ho hl hnamed hmethM hstM hkP hkPi hy (a := b) (cell := cellB) (by rw [hT]; exact hcB)
    (fun z h => by rw [h] at hoB; cases hoB) hselP hmethM habM hkP hkPi (g := g) hg (argsL := As) (rest := rest) (hn.trans (hlen _ hsigM)) hstack hdg'
  have hnm := X₁.named hnamed
  have hc1 : (Cond.code y bytes maxL ret).before (Value.ref b :: As).toArray (T.setVm vm₁) = true := hws _ hcw _ _ X₁.warmed
  obtain ⟨methY, cY, hmY, hcY, -, hlY, -, -, -, -⟩ := Cond.code_spec hnm hc1
  obtain ⟨kY, hkY, -⟩ := className_of_methodNamed hnm
  have hi1 : (Cond.initialized y.cls).before (Value.ref b :: As).toArray (T.setVm vm₁) = true := word_at X₁.warmed (Or.inl (by first | rfl | simp [Cond.onTables, Cond.keeps, Cond.steady])) hini
  have hinitY : kY.init = .initialized := Cond.initialized_spec (findClass_of_methodNamed hnm) hkY hi1
  have hA : At (T.setVm vm₁) ({ g with stack := rest } : JFrame).method c below := by
    show At (T.setVm vm₁) g.method c below
    rw [hg]; exact X₁.here
  have happ : (headSpec ws rm).appliesLoose y e.platform ((T.setVm vm₁).calling { g with stack := rest } mk (Value.ref b :: As).toArray) = true :=
    Spec.appliesLoose_calling (g := { g with stack := rest }) hA hdg' hnm hkY hinitY
      (X₁.room_calling (g := { g with stack := rest }) (R' := (headSpec ws rm).room) (hsize.trans hml.symm) hmY hcY hfr (by rw [hlY]; show 2 * g.monitorRoom + (rest.map fun v => v.category).sum + (maxL + 11) + rm.locals ≤ R.locals; omega) (by show cells + rm.cells ≤ R.cells; rw [hrc]; exact hf.1) (by show slots + rm.slots ≤ R.slots; rw [hrs]; exact hf.2)) (atoms_intro fun w hw => hws w hw _ _ X₁.warmed)
  obtain ⟨mid, hmid⟩ := hA.above
  have hfr2 : ((T.setVm vm₁).setTop { g with stack := rest }).frames = (.java { g with stack := rest } :: mid) ++ below := by rw [State.frames_setTop' _ hA.top, hmid]; rfl
  obtain ⟨o, s₂, hsteps, -, hend, hq, L, hFE, hL⟩ := Steps.callFree hM p X₁.admits X₁.cas X₁.clock (acts := []) hfr2 happ (hbl _ _ _ _ (hPc (T.setVm vm₁) hT X₁.warmed)) trivial
  rw [State.frames_setTop' _ hA.top, X₁.tail] at hend
  cases o with
  | returned v =>
    obtain ⟨T', X', hW', hsame, ht⟩ := X₁.outOf (g := { g with stack := rest }) hg (ig := .invokevirtual index) (len := 3) hdg' hend hFE.1 hFE.2
    refine ⟨.returned v, _, s₂, T', L, ?_, X', hL, ?_, ?_, hq, ?_⟩
    · exact hT
    · rw [ht]; rfl
    · rw [ht]; rfl
    · intro target h
      refine hstep₁ _ fun acts => ?_
      rw [doInvoke_state]
      exact hsteps.trans (by rw [ht]; exact h)
  | threw x =>
    obtain ⟨T', X', hW', hsame, ht⟩ := X₁.outOfThrown (g := { g with stack := rest }) hg hend hFE.1 hFE.2
    refine ⟨.threw x, _, s₂, T', L, ?_, X', hL, ?_, ?_, hq, ?_⟩
    · exact hT
    · rw [ht]; exact (Stand.throwing_heap T' _ x).symm
    · rw [ht]; exact (Stand.throwing_vm T' _ x).symm
    · intro target h
      refine hstep₁ _ fun acts => ?_
      rw [doInvoke_state]
      exact hsteps.trans (by rw [ht]; exact h)
/-- the walk stands with an exception thrown over its frame -/
def bw_WT (p : Program) (l : Launch) (e : Env) (R : Room) (s : State) (m : MethodId) (args : Array Value) (below : List Frame) (meth : Method) (c : Code) (H : Heap) (locs : List Loc) (cells slots : Nat) (Q : State → Prop) (g : JFrame) (x : Nat) : Prop :=
  ∀ T : State, T.heap = H → Stand p l e R s m args below meth c T locs cells slots → ∃ t, Steps p.tables e below ((T.setTop g).pushFrame (.throwing x)) t ∧ Q t
theorem bw_leave {Qc : Array Value → State → Outcome → State → Prop} {free : Addr → Prop} {x : Nat} (hno : c.exceptionTable.isEmpty = true) (hlocks : meth.locks = false)
    (hq : ∀ t : State, t.heap = H → s.WarmedH t.vm → Qc args s (.threw x) t) (hf : ∀ q ∈ locs, free q.base) : bw_WT p l e R s m args below meth c H locs cells slots (MQT below Qc args s cells slots free) (F0 m pc ls rest) x := by
  intro T hT X
  obtain ⟨st, h1, h2, h3, h4⟩ := X.leaveThrown x (g := F0 m pc ls rest) rfl rfl rfl (fun y hy => noH hno hy) hlocks
  exact ⟨_, st, .threw x, h1, h2, hq _ hT h3, locs, ⟨h3, h4⟩, hf⟩
theorem bw_stepCatch {f : JFrame} {a : Addr} {r : List Frame} {pc : Nat} {vm' : Vm} {s : State} (hfind : ∀ (Q : Handler → Pre) (E : CtlPost) (d : Bool) (acts : List Action), wp (findHandler f a) Q E e d acts s ↔ Q (.found pc) d acts (s.setVm vm')) :
    (stepThrowing e s a (.java f :: r)).1 = (s.setVm vm').setFrames (.java { f with pc := pc, stack := [.ref a] } :: r) := by
  simp only [stepThrowing, searchFrame, vmDo]
  generalize hr : Sem.go _ e false [] s = res
  obtain ⟨as, rfl, ha⟩ := Sem.eq_ok_of hr (a := Handler.found pc) (s' := s.setVm vm') (acts' := []) (by simp [hfind _ _ _ _])
  rfl
theorem bw_catch {own nm : String} {index hp : Nat} {x : ExceptionTableEntry} {a : Nat} (hown : s.vm.findClass own = some m.cls) (hlink : (Cond.classLink own index nm).before args s = true) (htab : c.exceptionTable.toList = [x]) (hcov : covers x pc = true) (hix : x.catchType = index) (h0 : index ≠ 0) (hhp : x.handlerPc = hp)
    (hr : ∃ cell : Cell, H[a]? = some cell ∧ cell.vm.isStatics = false ∧ s.vm.findClass nm = some cell.cls)
    (k : W p l e R s m args below meth c H locs cells slots Q (F0 m hp ls [.ref a])) : bw_WT p l e R s m args below meth c H locs cells slots Q (F0 m pc ls rest) a := by
  intro T hT X
  obtain ⟨cell, hcell, hobj, hcT⟩ := hr
  have hpl : e.platform.magicAccessors = ({} : Platform).magicAccessors := by rw [X.admits.platform]
  obtain ⟨c', hc', hcl⟩ := Cond.classLink_spec hown hlink e.platform hpl
  cases hcT.symm.trans hc'
  obtain ⟨dk, _, _, kt, hd, _, _, _, _, hkt, _, hopen⟩ := hcl.here
  have hasg : s.vm.assignable cell.cls cell.cls = true := va_asg _ _
  have hcl₀ := X.warmed.classLinks hcl
  have hW' : s.WarmedH (T.vm.noted m.cls index (.cls cell.cls)) := X.warmed.noted hd hopen (State.rightAt_cls hcl)
  obtain ⟨kt', hkt', -⟩ := hW'.alike.2.2 _ _ hkt
  obtain ⟨t, a1, b1⟩ := k (T.setVm (T.vm.noted m.cls index (.cls cell.cls))) hT (X.noted hW')
  refine ⟨t, ?_, b1⟩
  have h : At T m c below := X.here
  obtain ⟨hgo, hw⟩ := At.throwing (g := F0 m pc ls rest) h a
  refine Steps.head hgo hw ?_
  have hasg' : (T.vm.noted m.cls index (Resolved.cls cell.cls)).assignable cell.cls cell.cls = true := by rw [hW'.alike.assignable]; exact hasg
  have hg := resolveClass_links e.toSetting hcl₀
  obtain ⟨ha, ht⟩ := hg.op (op := VmOp.resolveClass m.cls index) rfl
  have hsz : (T.vm.noted m.cls index (Resolved.cls cell.cls)).classes.size ≤ T.vm.classes.size := by no_record
  rw [stepThread_throwing (frames_entered h.top _), bw_stepCatch (vm' := T.vm.noted m.cls index (.cls cell.cls)) (pc := hp)]
  · obtain ⟨g₀, hg⟩ := Option.isSome_iff_exists.mp h.top
    obtain ⟨r, hr⟩ := State.topJava?_eq_some.mp hg
    have hr2 : (T.setVm (T.vm.noted m.cls index (.cls cell.cls))).frames = .java g₀ :: r := hr
    rw [State.setTop_of_frames _ hr2] at a1
    rw [State.pushFrame, State.setTop_of_frames _ hr, State.setFrames_setFrames, hr]
    have e9 : ∀ X Y : List Frame, ((T.setFrames X).setVm (T.vm.noted m.cls index (.cls cell.cls))).setFrames Y = (T.setVm (T.vm.noted m.cls index (.cls cell.cls))).setFrames Y := fun X Y => State.setFrames_setFrames (T.setVm (T.vm.noted m.cls index (.cls cell.cls))) X Y
    rw [e9]
    exact a1
  · intro Q1 E1 d1 acts1
    have hm : ((T.setTop (F0 m pc ls rest)).pushFrame (.throwing a)).vm.method? m = some meth := by rw [Stand.throwing_vm]; exact X.method'
    rw [W.findHandler_eq (f := F0 m pc ls rest) hm X.code, htab]
    have hvm : ((T.setTop (F0 m pc ls rest)).pushFrame (.throwing a)).vm = T.vm := Stand.throwing_vm _ _ _
    have hhe : ((T.setTop (F0 m pc ls rest)).pushFrame (.throwing a)).heap = T.heap := Stand.throwing_heap _ _ _
    have hcell' : T.heap[a]? = some cell := by rw [hT]; exact hcell
    have hcov2 : (decide (x.startPc ≤ pc) && decide (pc < x.endPc)) = true := hcov
    subst hix; subst hhp
    have hna : (T.vm.noted m.cls x.catchType (Resolved.cls cell.cls)).classes[cell.cls]? = some kt' := hkt'
    have hob : ∀ k, cell.vm ≠ .statics k := fun k => VmData.ne_statics_of hobj k
    simp [findHandler.go, hcov2, h0, hvm, hhe, ha, ht, hsz, hcell', hob, hna, hasg', VmOp.dirties, VmOp.acts]
end BW2
section BW3
variable {p : Program} {l : Launch} {e : Env} {R : Room} {s : State} {m : MethodId} {args : Array Value} {below : List Frame} {meth : Method} {c : Code} {H : Heap} {locs : List Loc} {cells slots : Nat} {Q : State → Prop}
variable {pc : Nat} {ls : Array Slot} {rest st0 : List Value} {a : Array Value} {A0 A1 : Nat → Prop} {H0 : Heap} {free : Addr → Prop}
def bt_Qi {S S2 : Type} (post : Int32 → S → Prop) (B : S → State → Prop) (xa : Nat) (postT : S2 → Prop) (BT : S2 → State → Prop) (A : Nat → Prop) : Array Value → State → Outcome → State → Prop := fun _ st oc t => ((∃ (r : Int32) (u : S), oc = .returned (some (.int r)) ∧ post r u ∧ B u t) ∨ (∃ u : S2, oc = .threw xa ∧ postT u ∧ BT u t)) ∧ va_F A st t
def bt_Qv {S S2 : Type} (post : S → Prop) (B : S → State → Prop) (xa : Nat) (postT : S2 → Prop) (BT : S2 → State → Prop) (A : Nat → Prop) : Array Value → State → Outcome → State → Prop := fun _ st oc t => ((∃ u : S, oc = .returned none ∧ post u ∧ B u t) ∨ (∃ u : S2, oc = .threw xa ∧ postT u ∧ BT u t)) ∧ va_F A st t
theorem bt_calli {S S2 : Type} {post : Int32 → S → Prop} {B : S → State → Prop} {xa : Nat} {postT : S2 → Prop} {BT : S2 → State → Prop} (hr : bw_RunT p l e R s m args below meth c H locs cells slots 0 0 (F0 m pc ls st0) rest (bt_Qi post B xa postT BT A1 a) free) (hS : va_S A0 H0 H locs) (hA : ∀ q, q < H.size → A1 q → A0 q) (hf : ∀ q, free q → A0 q)
    (kk : ∀ (r : Int32) (u : S) (t : State) (H1 : Heap) (locs1 : List Loc), t.heap = H1 → s.vm.Alike t.vm → post r u → B u t → H.size ≤ H1.size → (∀ q : Nat, q < H.size → ¬ A1 q → H1[q]? = H[q]?) → va_S A0 H0 H1 locs1 → W p l e R s m args below meth c H1 locs1 cells slots Q (F0 m (pc + 3) ls (.int r :: rest)))
    (kt : ∀ (u : S2) (t : State) (H1 : Heap) (locs1 : List Loc), t.heap = H1 → s.vm.Alike t.vm → postT u → BT u t → H.size ≤ H1.size → (∀ q : Nat, q < H.size → ¬ A1 q → H1[q]? = H[q]?) → va_S A0 H0 H1 locs1 → bw_WT p l e R s m args below meth c H1 locs1 cells slots Q (F0 m pc ls rest) xa) : W p l e R s m args below meth c H locs cells slots Q (F0 m pc ls st0) := by
  intro T hT X
  obtain ⟨o, st₀, t, T', L, h0, X', hL, e1, e2, ⟨hcase, hz, hk⟩, st⟩ := hr T hT X
  rw [h0] at hz hk
  have hS1 : va_S A0 H0 T'.heap (locs ++ L) := ⟨Nat.le_trans hS.1 (by rw [e1]; exact hz), fun q h1 h2 => by rw [e1, hk q (Nat.lt_of_lt_of_le h1 hS.1) (fun z => h2 (hA q (Nat.lt_of_lt_of_le h1 hS.1) z))]; exact hS.2.1 q h1 h2, fun q hq => by
      rcases List.mem_append.mp hq with h | h
      · exact hS.2.2 q h
      · exact hf _ (hL q h)⟩
  rcases hcase with ⟨r, u, hv, hp, hb⟩ | ⟨u, hv, hp, hb⟩
  · subst hv
    obtain ⟨t2, a1, b1⟩ := kk r u t T'.heap (locs ++ L) e1.symm (by rw [← e2]; exact X'.warmed.alike) hp hb (by rw [e1]; exact hz) (fun q h1 h2 => by rw [e1]; exact hk q h1 h2) hS1 T' rfl X'
    exact ⟨t2, st t2 a1, b1⟩
  · subst hv
    obtain ⟨t2, a1, b1⟩ := kt u t T'.heap (locs ++ L) e1.symm (by rw [← e2]; exact X'.warmed.alike) hp hb (by rw [e1]; exact hz) (fun q h1 h2 => by rw [e1]; exact hk q h1 h2) hS1 T' rfl X'
    exact ⟨t2, st t2 a1, b1⟩
theorem bt_callv {S S2 : Type} {post : S → Prop} {B : S → State → Prop} {xa : Nat} {postT : S2 → Prop} {BT : S2 → State → Prop} (hr : bw_RunT p l e R s m args below meth c H locs cells slots 0 0 (F0 m pc ls st0) rest (bt_Qv post B xa postT BT A1 a) free) (hS : va_S A0 H0 H locs) (hA : ∀ q, q < H.size → A1 q → A0 q) (hf : ∀ q, free q → A0 q)
    (kk : ∀ (u : S) (t : State) (H1 : Heap) (locs1 : List Loc), t.heap = H1 → s.vm.Alike t.vm → post u → B u t → H.size ≤ H1.size → (∀ q : Nat, q < H.size → ¬ A1 q → H1[q]? = H[q]?) → va_S A0 H0 H1 locs1 → W p l e R s m args below meth c H1 locs1 cells slots Q (F0 m (pc + 3) ls rest))
    (kt : ∀ (u : S2) (t : State) (H1 : Heap) (locs1 : List Loc), t.heap = H1 → s.vm.Alike t.vm → postT u → BT u t → H.size ≤ H1.size → (∀ q : Nat, q < H.size → ¬ A1 q → H1[q]? = H[q]?) → va_S A0 H0 H1 locs1 → bw_WT p l e R s m args below meth c H1 locs1 cells slots Q (F0 m pc ls rest) xa) : W p l e R s m args below meth c H locs cells slots Q (F0 m pc ls st0) := by
  intro T hT X
  obtain ⟨o, st₀, t, T', L, h0, X', hL, e1, e2, ⟨hcase, hz, hk⟩, st⟩ := hr T hT X
  rw [h0] at hz hk
  have hS1 : va_S A0 H0 T'.heap (locs ++ L) := ⟨Nat.le_trans hS.1 (by rw [e1]; exact hz), fun q h1 h2 => by rw [e1, hk q (Nat.lt_of_lt_of_le h1 hS.1) (fun z => h2 (hA q (Nat.lt_of_lt_of_le h1 hS.1) z))]; exact hS.2.1 q h1 h2, fun q hq => by
      rcases List.mem_append.mp hq with h | h
      · exact hS.2.2 q h
      · exact hf _ (hL q h)⟩
  rcases hcase with ⟨u, hv, hp, hb⟩ | ⟨u, hv, hp, hb⟩
  · subst hv
    obtain ⟨t2, a1, b1⟩ := kk u t T'.heap (locs ++ L) e1.symm (by rw [← e2]; exact X'.warmed.alike) hp hb (by rw [e1]; exact hz) (fun q h1 h2 => by rw [e1]; exact hk q h1 h2) hS1 T' rfl X'
    exact ⟨t2, st t2 a1, b1⟩
  · subst hv
    obtain ⟨t2, a1, b1⟩ := kt u t T'.heap (locs ++ L) e1.symm (by rw [← e2]; exact X'.warmed.alike) hp hb (by rw [e1]; exact hz) (fun q h1 h2 => by rw [e1]; exact hk q h1 h2) hS1 T' rfl X'
    exact ⟨t2, st t2 a1, b1⟩
end BW3
