/-! THROWS AND CATCHES -/
section TXF
variable {E : CtlPost} {e : Env} {d : Bool} {acts : List Action} {s : State} {f : JFrame} {a : Addr} {Q : Handler → Pre}
/-- a catch type whose entry may not be resolved yet: the search goes on in the tables that resolution leaves -/
theorem tx_go {x : ExceptionTableEntry} {t : List ExceptionTableEntry} {c : ClassId} {cell : Cell} {vm' : Vm} (hx : covers x f.pc = true) (h0 : x.catchType ≠ 0)
    (hg : (Jvm.resolveClass f.method.cls x.catchType).Gives e.toSetting s.vm (.ok c) vm') (hsz : vm'.classes.size ≤ s.vm.classes.size) (hcell : s.heap[a]? = some cell) (hobj : ∀ k, cell.vm ≠ .statics k)
    (hk : ∃ k, vm'.classes[cell.cls]? = some k) (hc : ∃ k, vm'.classes[c]? = some k) :
    wp (findHandler.go f a (x :: t)) Q E e d acts s ↔ if vm'.assignable cell.cls c = true then Q (.found x.handlerPc) d acts (s.setVm vm') else wp (findHandler.go f a t) Q E e d acts (s.setVm vm') := by
  simp only [covers] at hx
  obtain ⟨ha, ht⟩ := hg.op (op := VmOp.resolveClass f.method.cls x.catchType) rfl
  cases hfit : vm'.assignable cell.cls c <;>
    simp [findHandler.go, hx, h0, ha, ht, hsz, hcell, hobj, hk, hc, hfit, VmOp.dirties, VmOp.acts]
end TXF
/-- the search ends at a handler, in other tables -/
def tx_F (e : Env) (s : State) (f : JFrame) (a : Addr) (pc : Nat) (vm' : Vm) : Prop :=
  ∀ (Q : Handler → Pre) (E : CtlPost) (d : Bool) (acts : List Action), wp (findHandler f a) Q E e d acts s ↔ Q (.found pc) d acts (s.setVm vm')
theorem tx_step {e : Env} {s : State} {a : Addr} {f : JFrame} {r : List Frame} {pc : Nat} {vm' : Vm} (hfind : tx_F e s f a pc vm') :
    (stepThrowing e s a (.java f :: r)).Is ((s.setVm vm').setFrames (.java { f with pc := pc, stack := [.ref a] } :: r)) [] := by
  simp only [stepThrowing, searchFrame, vmDo]
  generalize hr : Sem.go _ e false [] s = res
  obtain ⟨as, rfl, ha⟩ := Sem.eq_ok_of hr (a := Handler.found pc) (s' := s.setVm vm') (acts' := []) (by simp [hfind _ _ _ _])
  exact ⟨rfl, ha⟩
theorem tx_caught {tb : Tables} [Ours tb] {e : Env} {s target : State} {g : JFrame} {c : Code} {below : List Frame} {a : Addr} (h : At s g.method c below) {pc : Nat} {vm' : Vm} (hfind : tx_F e ((s.setTop g).pushFrame (.throwing a)) g a pc vm')
    (hrest : Steps tb e below ((s.setVm vm').setTop { g with pc := pc, stack := [.ref a] }) target) : Steps tb e below ((s.setTop g).pushFrame (.throwing a)) target := by
  obtain ⟨hgo, hw⟩ := h.throwing a
  refine Steps.head hgo hw ?_
  obtain ⟨g₀, hg⟩ := Option.isSome_iff_exists.mp h.top
  obtain ⟨r, hr⟩ := State.topJava?_eq_some.mp hg
  have hfr : ((s.setTop g).pushFrame (.throwing a)).frames = .throwing a :: .java g :: r := by
    rw [State.pushFrame, State.setTop_of_frames _ hr, State.setFrames_setFrames, State.frames_setFrames _ (State.cur_lt_of_frames hr)]
    rw [State.frames_setFrames _ (State.cur_lt_of_frames hr)]
  rw [stepThread_throwing hfr, (tx_step (s := (s.setTop g).pushFrame (.throwing a)) hfind).1]
  rw [State.setTop_of_frames _ (show (s.setVm vm').frames = .java g₀ :: r from hr)] at hrest
  have e1 : (((s.setTop g).pushFrame (.throwing a)).setVm vm').setFrames (.java { g with pc := pc, stack := [.ref a] } :: r) = (s.setVm vm').setFrames (.java { g with pc := pc, stack := [.ref a] } :: r) := by
    rw [State.pushFrame, State.setTop_of_frames _ hr, State.setFrames_setFrames]
    exact State.setFrames_setFrames (s.setVm vm') _ _
  rw [e1]
  exact hrest
/-- the exception at x: new, of the class X -/
def tx_E (X : String) (x : Nat) (st t : State) : Prop := st.heap.size ≤ x ∧ ∃ ce : Cell, t.heap[x]? = some ce ∧ st.vm.findClass X = some ce.cls ∧ ce.vm = .none
/-- the end of a method that throws and has written nothing -/
def tx_Q (below : List Frame) (X : String) (s : State) : State → Prop := fun t => ∃ x : Addr, t.status = .running ∧ Ended t below (.threw x) ∧ tx_E X x s t ∧ FrameEndT s (.threw x) t [] 1 6
def MetT (l : Launch) (y : MethodName) (ws : List Cond) (rm : Room) (Pc : Array Value → State → Prop) (X : String) : Prop :=
  MetFree l y (headSpec ws rm) Pc (fun _ _ _ _ _ => True) (fun _ st o t => ∃ x : Addr, o = .threw x ∧ tx_E X x st t ∧ FrameEndT st o t [] 1 6)
theorem MetT.ofW {l : Launch} {y : MethodName} {ws ws' : List Cond} {rm : Room} {Pc : Array Value → State → Prop} {X : String} {cc : ByteArray} {maxL : Nat} {ret : Option FieldType}
    (hy : plainName y.cls = true) (hw : ws = Cond.code y cc maxL ret :: ws')
    (body : ∀ p e s m args below meth c s₁, BodyLoose p l y (headSpec ws rm) cc maxL ret e s m args below meth c s₁ → c.maxLocals = maxL → Pc args s → (∀ x ∈ c.exceptionTable.toList, False) →
      W p l e (headSpec ws rm).room s m args below meth c s.heap [] 0 0 (tx_Q below X s) (entryFrame m args maxL)) : MetT l y ws rm Pc X := by
  refine MetFree.of_bodyS (code := cc) (maxLocals := maxL) (ret := ret) hy ?_ ?_
  · intro args s m h hn
    obtain ⟨meth, c, h1, h2, h3, h4, h5, h6, -, -⟩ := Cond.code_spec hn (atoms_spec (ws := ws) h _ (by rw [hw]; exact List.mem_cons_self))
    exact ⟨meth, c, h1, h2, h3, h4, h5, h6⟩
  · intro p e s m args below meth c s₁ B hml hP _
    have hh0 : s₁.heap = s.heap := by rw [B.state]; rfl
    have hne := B.noHandlers (atoms_spec (ws := ws) B.pre _ (by rw [hw]; exact List.mem_cons_self))
    have hnn : ∀ x ∈ c.exceptionTable.toList, False := fun x hx => by
      rw [Array.isEmpty_iff] at hne
      rw [hne] at hx
      simp at hx
    obtain ⟨t, a1, x, b1, b2, b3, b4⟩ := body p e s m args below meth c s₁ B hml hP hnn s₁ hh0 (Stand.of_body B)
    exact ⟨t, .threw x, a1, b1, b2, x, rfl, b3, b4⟩
/-- nothing but new cells: what was there is there -/
theorem tx_keep {s t : State} {cells slots : Nat} (h : s.sameButNew t [] cells slots) {a : Nat} {c : Cell} (ha : s.heap[a]? = some c) : t.heap[a]? = some c := by
  obtain ⟨c', h1, h2, h3, h4⟩ := h.2.2.2.2.2 a c ha
  rw [h1]
  congr 1
  rw [h2]
  have : c'.slots = c.slots := Array.ext_getElem? (fun i => h4 i (by simp))
  rw [this]
theorem tx_keepL {s t : State} {cells slots : Nat} (h : s.sameButNew t [] cells slots) (a : Nat) (ha : a < s.heap.size) : t.heap[a]? = s.heap[a]? := by
  rw [tx_keep h (Array.getElem?_eq_getElem ha), Array.getElem?_eq_getElem ha]
section TXR
variable {p : Program} {l : Launch} {e : Env} {R : Room} {s : State} {m : MethodId} {args : Array Value} {below : List Frame} {meth : Method} {c : Code} {locs : List Loc} {cells slots : Nat}
variable {y : MethodName} {bytes cc : ByteArray} {maxL nL n index : Nat} {ret : Option FieldType} {ws : List Cond} {rm : Room} {Pc : Array Value → State → Prop} {X : String} {Ts : List Cond} {own C : String} {b : Addr} {As rest : List Value} {g : JFrame}
theorem tx_back (hM : MetT l y ws rm Pc X) (cw : CallB R s args own index y bytes maxL ret ws rm 1 6 n) (hbl : FrameBlind Pc) :
    BackT l R p e below s args y 3 8 (PreOf R 1 6 Pc) (fun A a x B => tx_E X x A.U B.U ∧ B.locs = A.locs ∧ B.cells = A.cells + 1 ∧ B.slots = A.slots + 6 ∧ (∀ q : Nat, q < A.U.heap.size → B.U.heap[q]? = A.U.heap[q]?)) := by
  obtain ⟨hrc, hrs, hfr, hlo, hws, hcw, hco, hini, -, -, -⟩ := cw
  refine BackT.of_free (S := headSpec ws rm) (P := Pc) (K := fun _ _ _ _ _ => True) (bytes := bytes) (maxL := maxL) (ret := ret) (E := fun a st o t L k n => L = [] ∧ k = 1 ∧ n = 6) hM hfr hlo ?_ ?_ (fun _ _ _ _ _ _ _ _ _ => trivial) ?_ ?_
  · intro m meth c A a X hp
    exact ⟨atoms_intro fun w hw => hws w hw _ _ X.warmed, hws _ hcw _ _ X.warmed, word_at X.warmed (Or.inl (by first | rfl | simp [Cond.onTables, Cond.keeps, Cond.steady])) hini, by rw [show (headSpec ws rm).room.cells = 1 from hrc]; exact hp.1, by rw [show (headSpec ws rm).room.slots = 6 from hrs]; exact hp.2.1⟩
  · intro m meth c A a g mk X hp
    exact hbl _ _ _ _ hp.2.2
  · intro a st o t ⟨x, _, _, hF⟩
    exact ⟨[], 1, 6, hF, rfl, rfl, rfl⟩
  · intro m meth c A a g mk v t L k n X hp hq hF ⟨e1, e2, e3⟩
    subst e1; subst e2; subst e3
    obtain ⟨x, hx, hE, -⟩ := hq
    cases hx
    exact ⟨hE, by simp, rfl, rfl, fun q hq => tx_keepL hF.2.2 q hq⟩
/-- a call that throws: the note lies over the caller's frame -/
theorem tx_callV {H : Heap} {T : State} (S : CallFix p m c cc nL s args Ts own) (hM : MetT l y ws rm Pc X) (cw : CallW R s args own C index y bytes maxL ret ws rm 1 6 n) (hp : PreV s H C b Pc As)
    (hg : g.method = m) (hn : As.length = n) (hsize : g.locals.size = nL) (hstack : g.stack = As.reverse ++ .ref b :: rest) (hW : 2 * g.monitorRoom + (rest.map fun v => v.category).sum ≤ 8) (hdg : decode cc g.pc = .ok (.invokevirtual index, 3)) (hf : cells + 1 ≤ R.cells ∧ slots + 6 ≤ R.slots)
    (hT : T.heap = H) (X0 : Stand p l e R s m args below meth c T locs cells slots) :
    ∃ (x : Addr) (T' : State), Stand p l e R s m args below meth c T' locs (cells + 1) (slots + 6) ∧ H.size ≤ x ∧ (∃ ce : Cell, T'.heap[x]? = some ce ∧ s.vm.findClass X = some ce.cls ∧ ce.vm = .none) ∧ (∀ q : Nat, q < H.size → T'.heap[q]? = H[q]?) ∧
      ∀ target, Steps p.tables e below ((T'.setTop { g with stack := rest }).pushFrame (.throwing x)) target → Steps p.tables e below (T.setTop g) target := by
  have hK := tx_back (p := p) (e := e) (below := below) hM cw.1 hp.1
  obtain ⟨⟨-, -, -, -, -, -, hcode, -, hy, hlen, hl⟩, hin, hse⟩ := cw
  obtain ⟨hx, hb, hml, ho, -⟩ := S
  obtain ⟨-, ⟨cellB, hcB, hoB, hclB⟩, hPc⟩ := hp
  obtain ⟨mk, methM, hnamed, hmethM, hstM, habM⟩ := Cond.instanceMethod_spec hin
  obtain ⟨methM', cM, hmethM', -, -, -, -, -, -, hsigM⟩ := Cond.code_spec hnamed hcode
  cases hmethM.symm.trans hmethM'
  obtain ⟨c2, r2, m2, q1, q2, q3, q4, kP, hkP, hkPi⟩ := Cond.selects_spec hse
  cases hclB.symm.trans q1
  cases (State.methodFound?_of_named hnamed hy).symm.trans q2
  cases hnamed.symm.trans q3
  have hselP : selectMethod e.platform s.vm cellB.cls mk = .method mk := by rw [Launch.admits_selectMethod X0.admits]; exact q4
  obtain ⟨vm₁, X₁, hstep₁⟩ := X0.invokevirtual hx ho hl hnamed hmethM hstM hkP hkPi hy (a := b) (cell := cellB) (by rw [hT]; exact hcB)
    (fun z h => by rw [h] at hoB; cases hoB) hselP hmethM habM hkP hkPi (g := g) hg (argsL := As) (rest := rest) (hn.trans (hlen _ hsigM)) hstack (by rw [hb]; exact hdg)
  obtain ⟨x, B, X', ⟨⟨hE1, ce, hE2, hE3, hE4⟩, hL, hC, hSl, hk⟩, hsteps⟩ := hK m meth c ⟨T.setVm vm₁, locs, cells, slots⟩ { g with stack := rest } (.invokevirtual index) mk (Value.ref b :: As).toArray X₁ hg (hsize.trans hml.symm) (by rw [hb]; exact hdg) hW (X₁.named hnamed) ⟨hf.1, hf.2, hPc (T.setVm vm₁) hT X₁.warmed⟩
  obtain ⟨U', l2, c2, s2⟩ := B
  dsimp only [Pt.U, Pt.locs, Pt.cells, Pt.slots] at X' hE1 hE2 hE3 hL hC hSl hk hsteps
  subst hL; subst hC; subst hSl
  refine ⟨x, U', X', by rw [← hT]; exact hE1, ⟨ce, hE2, ?_, hE4⟩, fun q hq => ?_, fun target h => hstep₁ _ fun acts => by rw [doInvoke_state]; exact hsteps.trans h⟩
  · rw [← X₁.warmed.alike.findClass]; exact hE3
  · have := hk q (by rw [show (T.setVm vm₁).heap = T.heap from rfl, hT]; exact hq)
    rw [this, show (T.setVm vm₁).heap = T.heap from rfl, hT]
/-- the caller has no handler: it throws too -/
theorem tx_prop {pc : Nat} {ls : Array Slot} (S : CallFix p m c cc nL s args Ts own) (hM : MetT l y ws rm Pc X) (cw : CallW R s args own C index y bytes maxL ret ws rm 1 6 n) (hp : PreV s s.heap C b Pc As)
    (hn : As.length = n) (hsize : ls.size = nL) {st0 : List Value} (hstack : st0 = As.reverse ++ .ref b :: rest) (hW : (rest.map fun v => v.category).sum ≤ 8) (hdg : decode cc pc = .ok (.invokevirtual index, 3)) (hf : 1 ≤ R.cells ∧ 6 ≤ R.slots) (hout : ∀ x ∈ c.exceptionTable.toList, False) (hlocks : meth.locks = false) :
    W p l e R s m args below meth c s.heap [] 0 0 (tx_Q below X s) (F0 m pc ls st0) := by
  intro T hT X0
  obtain ⟨x, T', X', h1, ⟨ce, h2, h3, h4⟩, h5, st⟩ := tx_callV (g := F0 m pc ls st0) S hM cw hp rfl hn hsize hstack (by show 2 * 0 + _ ≤ 8; omega) hdg ⟨by omega, by omega⟩ hT X0
  obtain ⟨w1, w2, w3, w4, w5⟩ := X'.leaveThrown x (g := { F0 m pc ls st0 with stack := rest }) rfl rfl rfl (fun x hx => (hout x hx).elim) hlocks
  refine ⟨_, st _ w1, x, w2, w3, ⟨h1, ce, h2, h3, h4⟩, ⟨x, rfl⟩, w4, ?_⟩
  rw [show 0 + 1 = 1 from rfl, show 0 + 6 = 6 from rfl] at w5
  exact w5
end TXR
section TXC
variable {p : Program} {l : Launch} {e : Env} {R : Room} {s : State} {m : MethodId} {args : Array Value} {below : List Frame} {meth : Method} {c : Code} {locs : List Loc} {cells slots : Nat} {H : Heap} {Q : State → Prop}
/-- one entry of the table is asked: the class's number, the tables behind -/
theorem tx_ask {T : State} (X0 : Stand p l e R s m args below meth c T locs cells slots) {own X Y : String} {ct : Nat} (hown : s.vm.findClass own = some m.cls) (hlink : (Cond.classLink own ct Y).before args s = true) {ce : Cell} (hce : s.vm.findClass X = some ce.cls) {r : Bool} (hasg : ∀ cY : ClassId, s.vm.findClass Y = some cY → s.vm.assignable ce.cls cY = r) :
    ∃ (cY : ClassId) (vm' : Vm), s.WarmedH vm' ∧ (Jvm.resolveClass m.cls ct).Gives e.toSetting T.vm (.ok cY) vm' ∧ vm'.classes.size ≤ T.vm.classes.size ∧ (∃ k, vm'.classes[ce.cls]? = some k) ∧ (∃ k, vm'.classes[cY]? = some k) ∧ vm'.assignable ce.cls cY = r := by
  have hpl : e.platform.magicAccessors = ({} : Platform).magicAccessors := by rw [X0.admits.platform]
  obtain ⟨cY, hc', hcl⟩ := Cond.classLink_spec hown hlink e.platform hpl
  obtain ⟨dk, _, _, kt, hd, _, _, _, _, hkt, _, hop⟩ := hcl.here
  have hcl₀ := X0.warmed.classLinks hcl
  have hW' : s.WarmedH (T.vm.noted m.cls ct (.cls cY)) := X0.warmed.noted hd hop (State.rightAt_cls hcl)
  obtain ⟨ks, hks⟩ := Vm.classAt_of_findClass hce
  obtain ⟨ks', hks', -⟩ := hW'.alike.2.2 _ _ hks
  obtain ⟨kt', hkt', -⟩ := hW'.alike.2.2 _ _ hkt
  exact ⟨cY, _, hW', resolveClass_links e.toSetting hcl₀, by no_record, ⟨ks', hks'⟩, ⟨kt', hkt'⟩, by rw [hW'.alike.assignable]; exact hasg cY hc'⟩
theorem tx_split {c : Code} {a b h k : Nat} {r : List (Nat × Nat × Nat × Nat)} (ht : c.exceptionTable.toList.map (fun h => (h.startPc, h.endPc, h.handlerPc, h.catchType)) = (a, b, h, k) :: r) : ∃ (x : ExceptionTableEntry) (t : List ExceptionTableEntry), c.exceptionTable.toList = x :: t ∧ x.startPc = a ∧ x.endPc = b ∧ x.handlerPc = h ∧ x.catchType = k ∧ t.map (fun h => (h.startPc, h.endPc, h.handlerPc, h.catchType)) = r := by
  cases hl : c.exceptionTable.toList with
  | nil => rw [hl] at ht; cases ht
  | cons x t =>
    rw [hl, List.map_cons] at ht
    injection ht with h1 h2
    injection h1 with h3 h4
    injection h4 with h5 h6
    injection h6 with h7 h8
    exact ⟨x, t, rfl, h3, h5, h7, h8, h2⟩
variable {y : MethodName} {bytes cc : ByteArray} {maxL nL n index : Nat} {ret : Option FieldType} {ws : List Cond} {rm : Room} {Pc : Array Value → State → Prop} {X : String} {Ts : List Cond} {own C : String} {b : Addr} {As rest : List Value} {pc : Nat} {ls : Array Slot}
/-- the first entry of the table takes it -/
theorem tx_catch1 (S : CallFix p m c cc nL s args Ts own) (hM : MetT l y ws rm Pc X) (cw : CallW R s args own C index y bytes maxL ret ws rm 1 6 n) (hp : PreV s H C b Pc As)
    (hn : As.length = n) (hsize : ls.size = nL) {st0 : List Value} (hstack : st0 = As.reverse ++ .ref b :: rest) (hW : (rest.map fun v => v.category).sum ≤ 8) (hdg : decode cc pc = .ok (.invokevirtual index, 3)) (hf : cells + 1 ≤ R.cells ∧ slots + 6 ≤ R.slots)
    {a1 b1 h1 k1 : Nat} {tr : List (Nat × Nat × Nat × Nat)} (ht : c.exceptionTable.toList.map (fun h => (h.startPc, h.endPc, h.handlerPc, h.catchType)) = (a1, b1, h1, k1) :: tr) (hco : a1 ≤ pc ∧ pc < b1) (hk0 : k1 ≠ 0) (hlink : (Cond.classLink own k1 X).before args s = true) (hcast : va_Nw (.castable X X) s)
    (kk : ∀ (x : Nat) (H1 : Heap), (∀ q : Nat, q < H.size → H1[q]? = H[q]?) → H.size ≤ H1.size → W p l e R s m args below meth c H1 locs (cells + 1) (slots + 6) Q (F0 m h1 ls [.ref x])) :
    W p l e R s m args below meth c H locs cells slots Q (F0 m pc ls st0) := by
  intro T hT X0
  obtain ⟨x, T', X', g1, ⟨ce, g2, g3, g4⟩, g5, st⟩ := tx_callV (g := F0 m pc ls st0) S hM cw hp rfl hn hsize hstack (by show 2 * 0 + _ ≤ 8; omega) hdg hf hT X0
  obtain ⟨z, t, e1, e2, e3, e4, e5, -⟩ := tx_split ht
  obtain ⟨c3, c4, hc3, hc4, hasg⟩ := Cond.castable_spec hcast
  cases Option.some.inj (hc3.symm.trans g3)
  cases Option.some.inj (hc4.symm.trans g3)
  obtain ⟨cY, vm', w1, w2, w3, w4, w5, w6⟩ := tx_ask X' (X := X) (Y := X) (ct := k1) S.2.2.2.1 hlink g3 (r := true) (fun cY h => by cases Option.some.inj (h.symm.trans g3); exact hasg)
  have hsz : H.size ≤ T'.heap.size := Nat.le_of_lt (Nat.lt_of_le_of_lt g1 (Array.getElem?_eq_some_iff.mp g2).1)
  obtain ⟨t9, s9, q9⟩ := kk x T'.heap g5 hsz (T'.setVm vm') rfl (X'.noted w1)
  refine ⟨t9, st _ (tx_caught (vm' := vm') (pc := h1) (g := { F0 m pc ls st0 with stack := rest }) X'.here ?_ s9), q9⟩
  intro Q' E' d' acts'
  have hgo := tx_go (Q := Q') (E := E') (d := d') (acts := acts') (s := (T'.setTop { F0 m pc ls st0 with stack := rest }).pushFrame (.throwing x)) (f := { F0 m pc ls st0 with stack := rest }) (a := x) (x := z) (t := t) (c := cY) (cell := ce) (vm' := vm') (e := e) (by unfold covers; rw [e2, e3]; simp [hco.1, hco.2]) (by rw [e5]; exact hk0) (by rw [Stand.throwing_vm, e5]; exact w2) (by rw [Stand.throwing_vm]; exact w3) (by rw [Stand.throwing_heap]; exact g2) (fun k => by rw [g4]; simp) w4 w5
  rw [W.findHandler_eq (meth := meth) (code := c) (by rw [Stand.throwing_vm]; exact X'.method') X'.code, e1, hgo, if_pos w6, e4]
/-- the first entry names another class; the second takes it -/
theorem tx_catch2 (S : CallFix p m c cc nL s args Ts own) (hM : MetT l y ws rm Pc X) (cw : CallW R s args own C index y bytes maxL ret ws rm 1 6 n) (hp : PreV s H C b Pc As)
    (hn : As.length = n) (hsize : ls.size = nL) {st0 : List Value} (hstack : st0 = As.reverse ++ .ref b :: rest) (hW : (rest.map fun v => v.category).sum ≤ 8) (hdg : decode cc pc = .ok (.invokevirtual index, 3)) (hf : cells + 1 ≤ R.cells ∧ slots + 6 ≤ R.slots)
    {a1 b1 h1 k1 a2 b2 h2 k2 : Nat} {tr : List (Nat × Nat × Nat × Nat)} (ht : c.exceptionTable.toList.map (fun h => (h.startPc, h.endPc, h.handlerPc, h.catchType)) = (a1, b1, h1, k1) :: (a2, b2, h2, k2) :: tr) (hco : a1 ≤ pc ∧ pc < b1) (hco2 : a2 ≤ pc ∧ pc < b2) (hk0 : k1 ≠ 0) (hk2 : k2 ≠ 0) {Y : String} (hlink : (Cond.classLink own k1 Y).before args s = true) (hlink2 : (Cond.classLink own k2 X).before args s = true) (hnc : va_Nc X Y s) (hcast : va_Nw (.castable X X) s)
    (kk : ∀ (x : Nat) (H1 : Heap), (∀ q : Nat, q < H.size → H1[q]? = H[q]?) → H.size ≤ H1.size → W p l e R s m args below meth c H1 locs (cells + 1) (slots + 6) Q (F0 m h2 ls [.ref x])) :
    W p l e R s m args below meth c H locs cells slots Q (F0 m pc ls st0) := by
  intro T hT X0
  obtain ⟨x, T', X', g1, ⟨ce, g2, g3, g4⟩, g5, st⟩ := tx_callV (g := F0 m pc ls st0) S hM cw hp rfl hn hsize hstack (by show 2 * 0 + _ ≤ 8; omega) hdg hf hT X0
  obtain ⟨z, t, e1, e2, e3, e4, e5, ht2⟩ := tx_split ht
  obtain ⟨z2, t2, f1, f2, f3, f4, f5⟩ : ∃ (x : ExceptionTableEntry) (t2 : List ExceptionTableEntry), t = x :: t2 ∧ x.startPc = a2 ∧ x.endPc = b2 ∧ x.handlerPc = h2 ∧ x.catchType = k2 := by
    cases t with
    | nil => cases ht2
    | cons x t2 =>
      rw [List.map_cons] at ht2
      injection ht2 with h1 h2
      injection h1 with h3 h4
      injection h4 with h5 h6
      injection h6 with h7 h8
      exact ⟨x, t2, rfl, h3, h5, h7, h8⟩
  obtain ⟨c3, c4, hc3, hc4, hasg⟩ := Cond.castable_spec hcast
  cases Option.some.inj (hc3.symm.trans g3)
  cases Option.some.inj (hc4.symm.trans g3)
  obtain ⟨d3, d4, hd3, hd4, hno⟩ := hnc
  cases Option.some.inj (hd3.symm.trans g3)
  obtain ⟨cY, vm1, w1, w2, w3, w4, w5, w6⟩ := tx_ask X' (X := X) (Y := Y) (ct := k1) S.2.2.2.1 hlink g3 (r := false) (fun cY h => by cases Option.some.inj (h.symm.trans hd4); exact hno)
  have X1 := X'.noted w1
  obtain ⟨cX, vm', u1, u2, u3, u4, u5, u6⟩ := tx_ask X1 (X := X) (Y := X) (ct := k2) S.2.2.2.1 hlink2 g3 (r := true) (fun cY h => by cases Option.some.inj (h.symm.trans g3); exact hasg)
  have hsz : H.size ≤ T'.heap.size := Nat.le_of_lt (Nat.lt_of_le_of_lt g1 (Array.getElem?_eq_some_iff.mp g2).1)
  obtain ⟨t9, s9, q9⟩ := kk x T'.heap g5 hsz (T'.setVm vm') rfl (X'.noted u1)
  refine ⟨t9, st _ (tx_caught (vm' := vm') (pc := h2) (g := { F0 m pc ls st0 with stack := rest }) X'.here ?_ s9), q9⟩
  intro Q' E' d' acts'
  have hgo := tx_go (Q := Q') (E := E') (d := d') (acts := acts') (s := (T'.setTop { F0 m pc ls st0 with stack := rest }).pushFrame (.throwing x)) (f := { F0 m pc ls st0 with stack := rest }) (a := x) (x := z) (t := t) (c := cY) (cell := ce) (vm' := vm1) (e := e) (by unfold covers; rw [e2, e3]; simp [hco.1, hco.2]) (by rw [e5]; exact hk0) (by rw [Stand.throwing_vm, e5]; exact w2) (by rw [Stand.throwing_vm]; exact w3) (by rw [Stand.throwing_heap]; exact g2) (fun k => by rw [g4]; simp) w4 w5
  have hgo2 := tx_go (Q := Q') (E := E') (d := d') (acts := acts') (s := ((T'.setTop { F0 m pc ls st0 with stack := rest }).pushFrame (.throwing x)).setVm vm1) (f := { F0 m pc ls st0 with stack := rest }) (a := x) (x := z2) (t := t2) (c := cX) (cell := ce) (vm' := vm') (e := e) (by unfold covers; rw [f2, f3]; simp [hco2.1, hco2.2]) (by rw [f5]; exact hk2) (by rw [f5]; exact u2) u3 (by rw [show (((T'.setTop { F0 m pc ls st0 with stack := rest }).pushFrame (.throwing x)).setVm vm1).heap = ((T'.setTop { F0 m pc ls st0 with stack := rest }).pushFrame (.throwing x)).heap from rfl, Stand.throwing_heap]; exact g2) (fun k => by rw [g4]; simp) u4 u5
  rw [W.findHandler_eq (meth := meth) (code := c) (by rw [Stand.throwing_vm]; exact X'.method') X'.code, e1, hgo, if_neg (by rw [w6]; decide), f1, hgo2, if_pos u6, f4]
  rfl
end TXC
section TXM
/-- what the making of an exception with a message asks: X under RuntimeException, its own constructor's call at ix -/
def tx_atoms (own : String) (ic : Nat) (X : String) (ix : Nat) (bytes : ByteArray) : List Cond :=
  Bundle.throwableAtoms ++ (Bundle.throwableSAtoms ++ (Bundle.passSAtoms X "java/lang/RuntimeException" ix bytes ++ (Bundle.chainSAtoms "java/lang/RuntimeException" ["java/lang/Exception"] ++
    [.methodLink own ic (Bundle.initS X), .instantiable X 6, .selects X Bundle.tFill0 Bundle.tFill0, .selects X Bundle.tFill Bundle.tFill, .lays X Bundle.tN "cause" "Ljava/lang/Throwable;", .lays X Bundle.tN "stackTrace" Bundle.steD, .lays X Bundle.tN "suppressedExceptions" Bundle.listD, .lays X Bundle.tN "detailMessage" "Ljava/lang/String;",
     .isRef (.static Bundle.tN "UNASSIGNED_STACK" Bundle.steD), .isRef (.static Bundle.tN "SUPPRESSED_SENTINEL" Bundle.listD), .fieldLink Bundle.tN 198 Bundle.tN "backtrace" "Ljava/lang/Object;", .lays Bundle.tN Bundle.tN "backtrace" "Ljava/lang/Object;", .lays X Bundle.tN "backtrace" "Ljava/lang/Object;"])))
variable {p : Program} {l : Launch} {e : Env} {R : Room} {s : State} {m : MethodId} {args : Array Value} {below : List Frame} {meth : Method} {c : Code} {T : State} {cells slots : Nat}
set_option maxHeartbeats 1000000 in
theorem tx_ctor (X0 : Stand p l e R s m args below meth c T [] cells slots) (hexec : p.tables.exec = Jvm.exec) (htr : e.platform.stackTraces = false) {own X : String} {ic ix : Nat} {bytes : ByteArray}
    (hown : s.vm.findClass own = some m.cls) (hX : Bundle.fit X = true) (hd0 : decode bytes 0 = .ok (.aload_n 0, 1)) (hd1 : decode bytes 1 = .ok (.aload_n 1, 1)) (hd2 : decode bytes 2 = .ok (.invokespecial ix, 3)) (hd5 : decode bytes 5 = .ok (.return_, 1))
    (h : ∀ a ∈ tx_atoms own ic X ix bytes, a.before args s = true)
    {a : Addr} {cX : ClassId} {kX : Class} (hfX : s.vm.findClass X = some cX) (hkX : s.vm.classes[cX]? = some kX) (hcell : T.heap[a]? = some (freshCell cX kX)) (hnew : s.heap.size ≤ a)
    {msg : Value} (hmsg : msg.isRef = true) {pc : Nat} {ls : Array Slot} (hsize : ls.size = c.maxLocals)
    (hd6 : decode c.code pc = .ok (.invokespecial ic, 3)) (hd9 : decode c.code (pc + 3) = .ok (.athrow, 1)) (hout : ∀ x ∈ c.exceptionTable.toList, False)
    (hRf : 5 < R.frames) (hRl : 82 ≤ R.locals) (hlocks : meth.locks = false) :
    ∃ U : State, Steps p.tables e below (T.setTop (F0 m pc ls [msg, .ref a, .ref a])) U ∧ U.status = .running ∧ Ended U below (.threw a) ∧ s.WarmedH U.vm ∧ s.sameButNew ({ U with vm := s.vm } : State) [] cells slots ∧
      ∃ ce : Cell, U.heap[a]? = some ce ∧ ce.cls = cX ∧ ce.vm = .none := by
  have howns : e.platform.frameOwnsMonitors = true := by rw [X0.admits.platform]
  have hfin : e.platform.finalization = false := by rw [X0.admits.platform]
  have hpl : e.platform.magicAccessors = ({} : Platform).magicAccessors := by rw [X0.admits.platform]
  have a' : ∀ x, x ∈ tx_atoms own ic X ix bytes → x.holds args s none s [] = true := fun x hx => h x hx
  obtain ⟨V, Z0, L, -, Y⟩ := ThrowableC.of_atoms (args := args) howns hfin hpl (fun x hx => h x (List.mem_append_left _ hx))
  obtain ⟨Z, M, LZ, LM, hnZ⟩ := Init0T.ofS_atoms (args := args) hpl L Y (fun x hx => h x (List.mem_append_right _ (List.mem_append_left _ hx)))
  obtain ⟨P0, L0, hP0m, hP0s⟩ := PassC.ofS_atoms (args := args) (s := s) hpl (X := X) (Y := "java/lang/RuntimeException") (index := ix) (bytes := bytes) (Bundle.fit_spec hX).1 ⟨by decide, by decide⟩ hd0 hd1 hd2 hd5 (fun x hx => h x (List.mem_append_right _ (List.mem_append_right _ (List.mem_append_left _ hx))))
  obtain ⟨P1, Ps, hlen, L1, hL, hP1m, hlink1, hlink⟩ := Bundle.chainS (args := args) hpl hnZ ["java/lang/Exception"] "java/lang/RuntimeException" (by decide +kernel) (by decide +kernel) (fun x hx => h x (List.mem_append_right _ (List.mem_append_right _ (List.mem_append_right _ (List.mem_append_left _ hx)))))
  have hs01 : P0.sup = P1.m := Option.some.inj (hP0s.symm.trans hP1m)
  have hfP : s.vm.findClass X = some P0.m.cls := findClass_of_methodNamed hP0m
  cases Option.some.inj (hfX.symm.trans hfP)
  obtain ⟨c1, kX', hc1, hk, hord, -, -, hn6⟩ := Cond.instantiable_spec (a' (.instantiable X 6) (by simp [tx_atoms]))
  cases Option.some.inj (hc1.symm.trans hfP)
  cases Option.some.inj (hkX.symm.trans hk)
  have hsel : ∀ (z : MethodName) (zm : MethodId), (z.cls ≠ "java/lang/invoke/MethodHandle" ∧ z.cls ≠ "java/lang/invoke/VarHandle") → s.methodNamed? z = some zm → (Cond.selects X z z).holds args s none s [] = true → selectMethod e.platform s.vm P0.m.cls zm = .method zm := by
    intro z zm hz hzm hzs
    obtain ⟨c2, r2, m2, q1, q2, q3, q4, -⟩ := Cond.selects_spec hzs
    cases Option.some.inj (q1.symm.trans hfP)
    cases Option.some.inj (q2.symm.trans (State.methodFound?_of_named hzm hz))
    cases Option.some.inj (q3.symm.trans hzm)
    rw [Launch.admits_selectMethod X0.admits]; exact q4
  obtain ⟨cS0, hcS0, hiss⟩ := Y.statics
  obtain ⟨u0, hu0⟩ := Cond.staticRefV Y.unassigned L.unassignedStatic L.statics hcS0 hiss (a' (.isRef (.static Bundle.tN "UNASSIGNED_STACK" Bundle.steD)) (by simp [tx_atoms]))
  obtain ⟨sen, hsen⟩ := Cond.staticRefV Y.sentinel L.sentinelStatic L.statics hcS0 hiss (a' (.isRef (.static Bundle.tN "SUPPRESSED_SENTINEL" Bundle.listD)) (by simp [tx_atoms]))
  obtain ⟨ci198, i198, fB, hk198, hg198, ha198, hsB, -, hnB, htB, hffB⟩ := Cond.ownField (t := .object "java/lang/Object") Y.found L.cls (by decide +kernel) (a' (.fieldLink Bundle.tN 198 Bundle.tN "backtrace" "Ljava/lang/Object;") (by simp [tx_atoms])) (a' (.lays Bundle.tN Bundle.tN "backtrace" "Ljava/lang/Object;") (by simp [tx_atoms])) e.platform hpl
  have hcellS : T.heap[V.aS]? = some cS0 := tx_keep X0.same hcS0
  have hknownS : cS0.vm ≠ .unknown := fun hu => by rw [hu] at hiss; cases hiss
  have hneS : V.aS ≠ a := Nat.ne_of_lt (Nat.lt_of_lt_of_le (Array.getElem?_eq_some_iff.mp hcS0).1 hnew)
  obtain ⟨iM, hffM⟩ := Y.msg
  obtain ⟨tyC, dC, hdC, hdnC⟩ := Cond.laysAt hfP hk Y.cause (a' (.lays X Bundle.tN "cause" "Ljava/lang/Throwable;") (by simp [tx_atoms]))
  obtain ⟨tyS, dS, hdS, hdnS⟩ := Cond.laysAt hfP hk Y.stack (a' (.lays X Bundle.tN "stackTrace" Bundle.steD) (by simp [tx_atoms]))
  obtain ⟨tyP, dP, hdP, hdnP⟩ := Cond.laysAt hfP hk Y.supp (a' (.lays X Bundle.tN "suppressedExceptions" Bundle.listD) (by simp [tx_atoms]))
  obtain ⟨tyM, dM, hdM, hdnM⟩ := Cond.laysAt hfP hk hffM (a' (.lays X Bundle.tN "detailMessage" "Ljava/lang/String;") (by simp [tx_atoms]))
  obtain ⟨tyB, dB, hdB, hdnB⟩ := Cond.laysAt hfP hk hffB (a' (.lays X Bundle.tN "backtrace" "Ljava/lang/Object;") (by simp [tx_atoms]))
  have bC := Cond.laysApart hdB hdC hdnB hdnC (by rw [hnB, Y.causeName]; decide)
  have bS := Cond.laysApart hdB hdS hdnB hdnS (by rw [hnB, Y.stackName]; decide)
  have bP := Cond.laysApart hdB hdP hdnB hdnP (by rw [hnB, Y.suppName]; decide)
  have hskip : SkipFacts V e.platform s (fun u => u) u0 ((preparedCellV V.toThrowableT (freshCell P0.m.cls kX) a u0 sen).withEntry T.cur) :=
    ⟨{ ci198 := ci198, i198 := i198, fBack := fB }, ⟨hk198, hg198, ha198, hsB⟩, by
      have := fresh_default (c := P0.m.cls) tyB
      rw [htB] at this
      simpa [preparedCellV, Cell.setSlot, Cell.withEntry, Array.getElem?_setIfInBounds, bC, bS, bP, bC.symm, bS.symm, bP.symm, defaultValue] using this, fun _ _ => rfl⟩
  obtain ⟨tm, methC, cdC, kC, vm₁, hnC, -, -, -, -, -, -, -, hW₁, st1⟩ := Steps.initColdS (tb := p.tables) (e := e) (below := below) (s := s) (U := T) X0.here hexec X0.warmed hpl hown (t := Bundle.initS X) rfl rfl (Bundle.fit_spec hX).2
    (a' (.methodLink own ic (Bundle.initS X)) (by simp [tx_atoms])) (h (.instanceMethod (Bundle.initS X)) (by simp [tx_atoms, Bundle.passSAtoms])) (bytes := bytes) (maxL := 2) (h (.code (Bundle.initS X) bytes 2 none) (by simp [tx_atoms, Bundle.passSAtoms]))
    (f := F0 m pc ls [msg, .ref a, .ref a]) rfl (a := a) (msg := msg) (rest := [.ref a]) rfl hd6
  cases Option.some.inj (hnC.symm.trans hP0m)
  have X₁ := X0.noted hW₁
  obtain ⟨vm₂, X₂, st2⟩ := X₁.ctorMessageOffV hexec (g := F0 m pc ls [.ref a]) rfl hsize V L Z LZ M LM (P0 :: P1 :: Ps)
    (fun P hP => by rcases List.mem_cons.mp hP with rfl | hP; exact L0; rcases List.mem_cons.mp hP with rfl | hP; exact L1; exact hL P hP) ⟨hs01, hlink1, hlink⟩ (u0 := u0) (sen := sen) (self := a) hmsg (cell := freshCell P0.m.cls kX) (cellS := cS0)
    hcell (fun _ => by simp) (by simp) rfl rfl (hsel Bundle.tFill0 V.fill0 ⟨by decide, by decide⟩ Y.fill0 (a' (.selects X Bundle.tFill0 Bundle.tFill0) (by simp [tx_atoms]))) (hsel Bundle.tFill V.fill ⟨by decide, by decide⟩ Y.fill (a' (.selects X Bundle.tFill Bundle.tFill) (by simp [tx_atoms]))) hcellS hneS hknownS hu0 hsen
    (Takes.of_laid hk hord tyC (by rw [Y.causeType]; rfl)) (Takes.of_laid hk hord tyS (by rw [Y.stackType]; exact fits_refV_array _ u0)) (Takes.of_laid hk hord tyP (by rw [Y.suppType]; exact fits_refV_object _ sen))
    (Takes.of_laid hk hord tyM (by rw [Y.msgType]; exact fits_refV_object _ ⟨msg, hmsg⟩)) Y.objLocals hskip htr [] hd6
    (by simp only [List.length_cons, hlen, List.length_nil]; omega) (by simp only [List.length_cons, hlen, List.length_nil]; show 2 * 0 + 1 + (13 * 3 + 42) ≤ _; omega)
  obtain ⟨hwalk, hrun, hended, hWU, hsame⟩ := X₂.athrowLeaves hexec (g := F0 m (pc + 3) ls [.ref a]) rfl rfl rfl (fun x hx => (hout x hx).elim) (a := a) (rest := []) rfl hd9 hlocks
  have hlt : a < ((T.setVm vm₁).setVm vm₂).heap.size := (Array.getElem?_eq_some_iff.mp hcell).1
  have hU := heapAt_setCell_self (s := (T.setVm vm₁).setVm vm₂) (plainBareV V.toThrowableT (freshCell P0.m.cls kX) a u0 sen msg) hlt
  refine ⟨_, st1 _ (fun acts => ?_), hrun, hended, hWU, hsame.weaken (fun y hy hlt' => ?_) (Nat.le_refl _) (Nat.le_refl _), _, hU, rfl, rfl⟩
  · rw [doInvoke_state]
    exact st2 _ hwalk
  · exfalso
    have hb : y.base = a := by
      simp only [List.nil_append, List.mem_cons, List.not_mem_nil, or_false] at hy
      rcases hy with rfl | rfl | rfl | rfl | rfl <;> rfl
    rw [hb] at hlt'
    exact Nat.not_lt.mpr hnew hlt'
end TXM
section TXT
variable {p : Program} {l : Launch} {e : Env} {R : Room} {s : State} {m : MethodId} {args : Array Value} {below : List Frame} {meth : Method} {c : Code}
/-- new X; dup; ldc; X.<init>; athrow: the method throws, and has written nothing -/
theorem tx_throw {cc : ByteArray} {nL pc icl ic ix ik q : Nat} {own X tx : String} {bytes : ByteArray} {ls : Array Slot} (hexec : p.tables.exec = Jvm.exec) (hb : c.code = cc) (hml : c.maxLocals = nL) (hls : ls.size = nL) (hout : ∀ x ∈ c.exceptionTable.toList, False) (hlocks : meth.locks = false) (hnt : l.flags = pinnedFlags ++ [noTraceFlag])
    (hown : s.vm.findClass own = some m.cls) (hX : Bundle.fit X = true) (hd0 : decode bytes 0 = .ok (.aload_n 0, 1)) (hd1 : decode bytes 1 = .ok (.aload_n 1, 1)) (hd2 : decode bytes 2 = .ok (.invokespecial ix, 3)) (hd5 : decode bytes 5 = .ok (.return_, 1)) (h : ∀ a ∈ tx_atoms own ic X ix bytes, a.before args s = true)
    (hcl : (Cond.classLink own icl X).before args s = true) (hini : (Cond.initialized X).before args s = true) (hk : vk_R own ik tx q s)
    (d0 : decode cc pc = .ok (.new icl, 3)) (d3 : decode cc (pc + 3) = .ok (.dup, 1)) (d4 : decode cc (pc + 4) = .ok (.ldc ik, 2)) (d6 : decode cc (pc + 6) = .ok (.invokespecial ic, 3)) (d9 : decode cc (pc + 9) = .ok (.athrow, 1))
    (hRf : 5 < R.frames) (hRl : 82 ≤ R.locals) (hRc : 1 ≤ R.cells) (hRs : 6 ≤ R.slots) :
    W p l e R s m args below meth c s.heap [] 0 0 (tx_Q below X s) (F0 m pc ls []) := by
  have hinst : (Cond.instantiable X 6).before args s = true := h _ (by simp [tx_atoms])
  obtain ⟨cX, kX, hfX, hkX, -⟩ := Cond.instantiable_spec (show (Cond.instantiable X 6).holds args s none s [] = true from hinst)
  refine W.newcK (g := F0 m pc ls []) hexec hb hown hcl hinst hini rfl d0 (by omega) (by omega) hfX rfl fun H1 kC hkC e1 z1 o1 => ?_
  refine lv_dup hexec hb d3 rfl ?_
  refine va_ldcS (q := q) hexec hb hown hk d4 ?_
  intro T hT X0
  obtain ⟨U, w1, w2, w3, w4, w5, ce, w6, w7, w8⟩ := tx_ctor (pc := pc + 6) (ls := ls) (msg := .ref q) (a := s.heap.size) X0 hexec (Launch.traces_off hnt X0.admits) hown hX hd0 hd1 hd2 hd5 h hfX hkC (by rw [hT]; exact e1) (Nat.le_refl _) rfl (hls.trans hml.symm) (by rw [hb]; exact d6) (by rw [hb]; exact d9) hout hRf hRl hlocks
  refine ⟨U, w1, s.heap.size, w2, w3, ⟨Nat.le_refl _, ce, w6, by rw [w7]; exact hfX, w8⟩, ⟨_, rfl⟩, w4, ?_⟩
  rw [show 0 + 1 = 1 from rfl, show 0 + 6 = 6 from rfl] at w5
  exact w5
end TXT
/-- a contract of a method that throws -/
def yT (ad : Nat → Nat) (l : Launch) (y : MethodName) (ws : List Cond) (rm : Room) (D : va_G) (cl : List vw_C) (av : List Value) (W0 : va_W) (ty0 : List (ClassId × FieldType)) (X : String) : Prop := MetT l y ws rm (va_Pc av (zy_J ad D cl W0 ty0)) X
theorem zy_enterT {ad : Nat → Nat} {l : Launch} {y : MethodName} {ws ws' : List Cond} {rm : Room} {D : va_G} {cl : List vw_C} {av : List Value} {W0 : va_W} {ty0 : List (ClassId × FieldType)} {cc : ByteArray} {nL : Nat} {ret : Option FieldType} {X : String} (hy : plainName y.cls = true) (hw : ws = Cond.code y cc nL ret :: ws') (hn : (lg_sl av).length ≤ nL)
    (body : ∀ (p : Program) (e : Env) (s : State) (m : MethodId) (below : List Frame) (meth : Method) (c : Code) (ls : Array Slot), zz_C p s m av.toArray meth c cc nL y.cls ws' y.name ret → (∀ x ∈ c.exceptionTable.toList, False) → va_P D cl W0 s.heap → va_K D cl ty0 s → lv_has ls nL (lv_args 0 av) → kx ad (fun _ => False) s s.heap →
      W p l e rm s m av.toArray below meth c s.heap [] 0 0 (tx_Q below X s) (F0 m 0 ls [])) : yT ad l y ws rm D cl av W0 ty0 X := by
  refine MetT.ofW (cc := cc) (maxL := nL) (ret := ret) hy hw ?_
  intro p e s m args below meth c s₁ B hml hv hne
  obtain ⟨rfl, ⟨hP, hK⟩, hX⟩ := hv
  have hl := lv_entry av (n := nL) hn
  rw [lg_entry_eq]
  exact body p e s m below meth c _ ⟨B.exec, B.bytes, hml, findClass_of_methodNamed B.named, fun w h => atoms_spec (ws := ws) B.pre w (by rw [hw]; exact List.mem_cons_of_mem _ h), B.returns, B.notSynchronized, (name_of_methodNamed B.named B.method).1⟩ hne hP hK hl hX
theorem tx_ISE {A : Nat → Prop} {args : Array Value} {s : State} (hg : ∀ w ∈ gw, w.before args s = true) (hk : kthr A s s.heap) : ∀ a ∈ tx_atoms "TextForge" 179 "java/lang/IllegalStateException" 7 prog_15_method_2_code, a.before args s = true := List.forall_mem_append.mpr ⟨List.forall_mem_cons.mpr ⟨(hg _ kw_10), List.forall_mem_cons.mpr ⟨((hk.1 _ (List.mem_of_getElem? (i := 5) rfl)).use rfl), List.forall_mem_cons.mpr ⟨(hg _ kw_559), List.forall_mem_cons.mpr ⟨((hk.1 _ (List.mem_of_getElem? (i := 3) rfl)).use rfl), List.forall_mem_cons.mpr ⟨(hg _ kw_566), List.forall_mem_cons.mpr ⟨((hk.1 _ (List.mem_of_getElem? (i := 4) rfl)).use rfl), List.forall_mem_cons.mpr ⟨(hg _ kw_551), List.forall_mem_cons.mpr ⟨(hg _ kw_552), List.forall_mem_cons.mpr ⟨(hg _ kw_29), List.forall_mem_cons.mpr ⟨(hg _ kw_30), List.forall_mem_cons.mpr ⟨(hg _ kw_553), List.forall_mem_cons.mpr ⟨(hg _ kw_558), List.forall_mem_cons.mpr ⟨(hg _ kw_564), List.forall_mem_cons.mpr ⟨(hg _ kw_584), List.forall_mem_cons.mpr ⟨(hg _ kw_540), List.forall_mem_cons.mpr ⟨(hg _ kw_585), List.forall_mem_cons.mpr ⟨(hg _ kw_542), List.forall_mem_cons.mpr ⟨(hg _ kw_586), List.forall_mem_cons.mpr ⟨(hg _ kw_544), List.forall_mem_cons.mpr ⟨(hg _ kw_554), List.forall_mem_cons.mpr ⟨(hk.2.1.use.1), List.forall_mem_cons.mpr ⟨(hg _ kw_556), List.forall_mem_cons.mpr ⟨(hk.2.2.1.use.1), List.forall_mem_cons.mpr ⟨(hg _ kw_546), List.forall_mem_nil _⟩⟩⟩⟩⟩⟩⟩⟩⟩⟩⟩⟩⟩⟩⟩⟩⟩⟩⟩⟩⟩⟩⟩⟩, List.forall_mem_append.mpr ⟨List.forall_mem_cons.mpr ⟨(hg _ kw_580), List.forall_mem_cons.mpr ⟨(hg _ kw_581), List.forall_mem_cons.mpr ⟨(hg _ kw_583), List.forall_mem_cons.mpr ⟨(hg _ kw_546), List.forall_mem_nil _⟩⟩⟩⟩, List.forall_mem_append.mpr ⟨List.forall_mem_cons.mpr ⟨(hg _ kw_571), List.forall_mem_cons.mpr ⟨(hg _ kw_572), List.forall_mem_cons.mpr ⟨(hg _ kw_573), List.forall_mem_cons.mpr ⟨(hg _ kw_574), List.forall_mem_cons.mpr ⟨((hk.1 _ (List.mem_of_getElem? (i := 0) rfl)).use rfl), List.forall_mem_nil _⟩⟩⟩⟩⟩, List.forall_mem_append.mpr ⟨List.forall_mem_cons.mpr ⟨(hg _ kw_574), List.forall_mem_cons.mpr ⟨(hg _ kw_575), List.forall_mem_cons.mpr ⟨(hg _ kw_576), List.forall_mem_cons.mpr ⟨(hg _ kw_577), List.forall_mem_cons.mpr ⟨((hk.1 _ (List.mem_of_getElem? (i := 1) rfl)).use rfl), List.forall_mem_cons.mpr ⟨(hg _ kw_577), List.forall_mem_cons.mpr ⟨(hg _ kw_578), List.forall_mem_cons.mpr ⟨(hg _ kw_579), List.forall_mem_cons.mpr ⟨(hg _ kw_580), List.forall_mem_cons.mpr ⟨((hk.1 _ (List.mem_of_getElem? (i := 2) rfl)).use rfl), List.forall_mem_nil _⟩⟩⟩⟩⟩⟩⟩⟩⟩⟩, List.forall_mem_cons.mpr ⟨(hg _ kw_570), List.forall_mem_cons.mpr ⟨(hg _ kw_529), List.forall_mem_cons.mpr ⟨(hg _ kw_537), List.forall_mem_cons.mpr ⟨(hg _ kw_538), List.forall_mem_cons.mpr ⟨(hg _ kw_539), List.forall_mem_cons.mpr ⟨(hg _ kw_541), List.forall_mem_cons.mpr ⟨(hg _ kw_543), List.forall_mem_cons.mpr ⟨(hg _ kw_545), List.forall_mem_cons.mpr ⟨(hk.2.1.use.2), List.forall_mem_cons.mpr ⟨(hk.2.2.1.use.2), List.forall_mem_cons.mpr ⟨(hg _ kw_549), List.forall_mem_cons.mpr ⟨(hg _ kw_548), List.forall_mem_cons.mpr ⟨(hg _ kw_547), List.forall_mem_nil _⟩⟩⟩⟩⟩⟩⟩⟩⟩⟩⟩⟩⟩⟩⟩⟩⟩
theorem tx_IAE {A : Nat → Prop} {args : Array Value} {s : State} (hg : ∀ w ∈ gw, w.before args s = true) (hk : kthr A s s.heap) : ∀ a ∈ tx_atoms "TextForge" 83 "java/lang/IllegalArgumentException" 7 prog_14_method_2_code, a.before args s = true := List.forall_mem_append.mpr ⟨List.forall_mem_cons.mpr ⟨(hg _ kw_10), List.forall_mem_cons.mpr ⟨((hk.1 _ (List.mem_of_getElem? (i := 5) rfl)).use rfl), List.forall_mem_cons.mpr ⟨(hg _ kw_559), List.forall_mem_cons.mpr ⟨((hk.1 _ (List.mem_of_getElem? (i := 3) rfl)).use rfl), List.forall_mem_cons.mpr ⟨(hg _ kw_566), List.forall_mem_cons.mpr ⟨((hk.1 _ (List.mem_of_getElem? (i := 4) rfl)).use rfl), List.forall_mem_cons.mpr ⟨(hg _ kw_551), List.forall_mem_cons.mpr ⟨(hg _ kw_552), List.forall_mem_cons.mpr ⟨(hg _ kw_29), List.forall_mem_cons.mpr ⟨(hg _ kw_30), List.forall_mem_cons.mpr ⟨(hg _ kw_553), List.forall_mem_cons.mpr ⟨(hg _ kw_558), List.forall_mem_cons.mpr ⟨(hg _ kw_564), List.forall_mem_cons.mpr ⟨(hg _ kw_584), List.forall_mem_cons.mpr ⟨(hg _ kw_540), List.forall_mem_cons.mpr ⟨(hg _ kw_585), List.forall_mem_cons.mpr ⟨(hg _ kw_542), List.forall_mem_cons.mpr ⟨(hg _ kw_586), List.forall_mem_cons.mpr ⟨(hg _ kw_544), List.forall_mem_cons.mpr ⟨(hg _ kw_554), List.forall_mem_cons.mpr ⟨(hk.2.1.use.1), List.forall_mem_cons.mpr ⟨(hg _ kw_556), List.forall_mem_cons.mpr ⟨(hk.2.2.1.use.1), List.forall_mem_cons.mpr ⟨(hg _ kw_546), List.forall_mem_nil _⟩⟩⟩⟩⟩⟩⟩⟩⟩⟩⟩⟩⟩⟩⟩⟩⟩⟩⟩⟩⟩⟩⟩⟩, List.forall_mem_append.mpr ⟨List.forall_mem_cons.mpr ⟨(hg _ kw_580), List.forall_mem_cons.mpr ⟨(hg _ kw_581), List.forall_mem_cons.mpr ⟨(hg _ kw_583), List.forall_mem_cons.mpr ⟨(hg _ kw_546), List.forall_mem_nil _⟩⟩⟩⟩, List.forall_mem_append.mpr ⟨List.forall_mem_cons.mpr ⟨(hg _ kw_655), List.forall_mem_cons.mpr ⟨(hg _ kw_656), List.forall_mem_cons.mpr ⟨(hg _ kw_657), List.forall_mem_cons.mpr ⟨(hg _ kw_574), List.forall_mem_cons.mpr ⟨((hk.1 _ (List.mem_of_getElem? (i := 0) rfl)).use rfl), List.forall_mem_nil _⟩⟩⟩⟩⟩, List.forall_mem_append.mpr ⟨List.forall_mem_cons.mpr ⟨(hg _ kw_574), List.forall_mem_cons.mpr ⟨(hg _ kw_575), List.forall_mem_cons.mpr ⟨(hg _ kw_576), List.forall_mem_cons.mpr ⟨(hg _ kw_577), List.forall_mem_cons.mpr ⟨((hk.1 _ (List.mem_of_getElem? (i := 1) rfl)).use rfl), List.forall_mem_cons.mpr ⟨(hg _ kw_577), List.forall_mem_cons.mpr ⟨(hg _ kw_578), List.forall_mem_cons.mpr ⟨(hg _ kw_579), List.forall_mem_cons.mpr ⟨(hg _ kw_580), List.forall_mem_cons.mpr ⟨((hk.1 _ (List.mem_of_getElem? (i := 2) rfl)).use rfl), List.forall_mem_nil _⟩⟩⟩⟩⟩⟩⟩⟩⟩⟩, List.forall_mem_cons.mpr ⟨(hg _ kw_654), List.forall_mem_cons.mpr ⟨(hg _ kw_645), List.forall_mem_cons.mpr ⟨(hg _ kw_647), List.forall_mem_cons.mpr ⟨(hg _ kw_561), List.forall_mem_cons.mpr ⟨(hg _ kw_648), List.forall_mem_cons.mpr ⟨(hg _ kw_649), List.forall_mem_cons.mpr ⟨(hg _ kw_650), List.forall_mem_cons.mpr ⟨(hg _ kw_651), List.forall_mem_cons.mpr ⟨(hk.2.1.use.2), List.forall_mem_cons.mpr ⟨(hk.2.2.1.use.2), List.forall_mem_cons.mpr ⟨(hg _ kw_549), List.forall_mem_cons.mpr ⟨(hg _ kw_548), List.forall_mem_cons.mpr ⟨(hg _ kw_652), List.forall_mem_nil _⟩⟩⟩⟩⟩⟩⟩⟩⟩⟩⟩⟩⟩⟩⟩⟩⟩
theorem tx_NSE {A : Nat → Prop} {args : Array Value} {s : State} (hg : ∀ w ∈ gw, w.before args s = true) (hk : kthr A s s.heap) : ∀ a ∈ tx_atoms "TextForge" 160 "java/util/NoSuchElementException" 13 prog_22_method_4_code, a.before args s = true := List.forall_mem_append.mpr ⟨List.forall_mem_cons.mpr ⟨(hg _ kw_10), List.forall_mem_cons.mpr ⟨((hk.1 _ (List.mem_of_getElem? (i := 5) rfl)).use rfl), List.forall_mem_cons.mpr ⟨(hg _ kw_559), List.forall_mem_cons.mpr ⟨((hk.1 _ (List.mem_of_getElem? (i := 3) rfl)).use rfl), List.forall_mem_cons.mpr ⟨(hg _ kw_566), List.forall_mem_cons.mpr ⟨((hk.1 _ (List.mem_of_getElem? (i := 4) rfl)).use rfl), List.forall_mem_cons.mpr ⟨(hg _ kw_551), List.forall_mem_cons.mpr ⟨(hg _ kw_552), List.forall_mem_cons.mpr ⟨(hg _ kw_29), List.forall_mem_cons.mpr ⟨(hg _ kw_30), List.forall_mem_cons.mpr ⟨(hg _ kw_553), List.forall_mem_cons.mpr ⟨(hg _ kw_558), List.forall_mem_cons.mpr ⟨(hg _ kw_564), List.forall_mem_cons.mpr ⟨(hg _ kw_584), List.forall_mem_cons.mpr ⟨(hg _ kw_540), List.forall_mem_cons.mpr ⟨(hg _ kw_585), List.forall_mem_cons.mpr ⟨(hg _ kw_542), List.forall_mem_cons.mpr ⟨(hg _ kw_586), List.forall_mem_cons.mpr ⟨(hg _ kw_544), List.forall_mem_cons.mpr ⟨(hg _ kw_554), List.forall_mem_cons.mpr ⟨(hk.2.1.use.1), List.forall_mem_cons.mpr ⟨(hg _ kw_556), List.forall_mem_cons.mpr ⟨(hk.2.2.1.use.1), List.forall_mem_cons.mpr ⟨(hg _ kw_546), List.forall_mem_nil _⟩⟩⟩⟩⟩⟩⟩⟩⟩⟩⟩⟩⟩⟩⟩⟩⟩⟩⟩⟩⟩⟩⟩⟩, List.forall_mem_append.mpr ⟨List.forall_mem_cons.mpr ⟨(hg _ kw_580), List.forall_mem_cons.mpr ⟨(hg _ kw_581), List.forall_mem_cons.mpr ⟨(hg _ kw_583), List.forall_mem_cons.mpr ⟨(hg _ kw_546), List.forall_mem_nil _⟩⟩⟩⟩, List.forall_mem_append.mpr ⟨List.forall_mem_cons.mpr ⟨(hg _ kw_696), List.forall_mem_cons.mpr ⟨(hg _ kw_697), List.forall_mem_cons.mpr ⟨(hg _ kw_698), List.forall_mem_cons.mpr ⟨(hg _ kw_574), List.forall_mem_cons.mpr ⟨((hk.1 _ (List.mem_of_getElem? (i := 0) rfl)).use rfl), List.forall_mem_nil _⟩⟩⟩⟩⟩, List.forall_mem_append.mpr ⟨List.forall_mem_cons.mpr ⟨(hg _ kw_574), List.forall_mem_cons.mpr ⟨(hg _ kw_575), List.forall_mem_cons.mpr ⟨(hg _ kw_576), List.forall_mem_cons.mpr ⟨(hg _ kw_577), List.forall_mem_cons.mpr ⟨((hk.1 _ (List.mem_of_getElem? (i := 1) rfl)).use rfl), List.forall_mem_cons.mpr ⟨(hg _ kw_577), List.forall_mem_cons.mpr ⟨(hg _ kw_578), List.forall_mem_cons.mpr ⟨(hg _ kw_579), List.forall_mem_cons.mpr ⟨(hg _ kw_580), List.forall_mem_cons.mpr ⟨((hk.1 _ (List.mem_of_getElem? (i := 2) rfl)).use rfl), List.forall_mem_nil _⟩⟩⟩⟩⟩⟩⟩⟩⟩⟩, List.forall_mem_cons.mpr ⟨(hg _ kw_695), List.forall_mem_cons.mpr ⟨(hg _ kw_686), List.forall_mem_cons.mpr ⟨(hg _ kw_688), List.forall_mem_cons.mpr ⟨(hg _ kw_562), List.forall_mem_cons.mpr ⟨(hg _ kw_689), List.forall_mem_cons.mpr ⟨(hg _ kw_690), List.forall_mem_cons.mpr ⟨(hg _ kw_691), List.forall_mem_cons.mpr ⟨(hg _ kw_692), List.forall_mem_cons.mpr ⟨(hk.2.1.use.2), List.forall_mem_cons.mpr ⟨(hk.2.2.1.use.2), List.forall_mem_cons.mpr ⟨(hg _ kw_549), List.forall_mem_cons.mpr ⟨(hg _ kw_548), List.forall_mem_cons.mpr ⟨(hg _ kw_693), List.forall_mem_nil _⟩⟩⟩⟩⟩⟩⟩⟩⟩⟩⟩⟩⟩⟩⟩⟩⟩
