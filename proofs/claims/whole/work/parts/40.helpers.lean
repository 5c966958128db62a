/-! LAW, BASE: methods with handlers -/
theorem zw_enteri {ad : Nat → Nat} {l : Launch} {y : MethodName} {ws ws' : List Cond} {rm : Room} {D : va_G} {cl : List vw_C} {av : List Value} {W0 : va_W} {ty0 : List (ClassId × FieldType)} {cc : ByteArray} {nL : Nat} {ret : Option FieldType} {hh : List (Nat × Nat × Nat × Nat)} {S : Type} {post : Int32 → S → Prop} {w1 : S → va_W} {ty1 : S → List (ClassId × FieldType)} {mc ms : Nat} (hy : plainName y.cls = true) (hw : ws = Cond.codeWith y cc nL ret hh :: ws') (hn : (lg_sl av).length ≤ nL)
    (body : ∀ (p : Program) (e : Env) (s : State) (m : MethodId) (below : List Frame) (meth : Method) (c : Code) (A : Nat → Prop) (ls : Array Slot), zz_C p s m av.toArray meth c cc nL y.cls ws' y.name ret → c.exceptionTable.toList.map (fun h => (h.startPc, h.endPc, h.handlerPc, h.catchType)) = hh → (∀ q : Nat, s.heap.size ≤ q → A q) → va_S A s.heap s.heap [] → va_P D cl W0 s.heap → va_K D cl ty0 s → va_D A W0 → lv_has ls nL (lv_args 0 av) → kx ad A s s.heap →
      W p l e rm s m av.toArray below meth c s.heap [] 0 0 (MQ below (va_Qi post (zz_B D cl A w1 ty1) A) av.toArray s mc ms A) (F0 m 0 ls [])) :
    yM_i ad l y ws rm D cl av W0 ty0 post w1 ty1 mc ms := by
  intro sz
  refine va_MetW (cc := cc) (maxL := nL) (ret := ret) (hh := hh) hy hw ?_
  intro p e s m args below meth c s₁ B hml hv
  obtain ⟨rfl, ⟨hsz, hP, hK, hD0⟩, hX⟩ := hv
  subst hsz
  have hD := hD0.self (sz := s.heap.size)
  have hl := lv_entry av (n := nL) hn
  have ht : c.exceptionTable.toList.map (fun h => (h.startPc, h.endPc, h.handlerPc, h.catchType)) = hh := by
    obtain ⟨m9, meth9, c9, h1, h2, h3, -, -, h6, -⟩ := Cond.codeWith_spec (atoms_spec (ws := ws) B.pre _ (by rw [hw]; exact List.mem_cons_self))
    cases B.named.symm.trans h1
    have hc : s₁.code? m = some c := B.here.code
    rw [B.state, State.code?_eq] at hc
    have hc2 : (s.vm.method? m).bind (·.code) = some c := hc
    rw [h2] at hc2
    have hc3 : meth9.code = some c := hc2
    cases h3.symm.trans hc3
    exact h6
  rw [lg_entry_eq]
  exact body p e s m below meth c _ _ ⟨B.exec, B.bytes, hml, findClass_of_methodNamed B.named, fun w h => atoms_spec (ws := ws) B.pre w (by rw [hw]; exact List.mem_cons_of_mem _ h), B.returns, B.notSynchronized, (name_of_methodNamed B.named B.method).1⟩ ht (fun q h => Or.inr h) va_S.rf hP hK hD hl hX
section ZWS
variable {p : Program} {l : Launch} {e : Env} {R : Room} {s : State} {m : MethodId} {args : Array Value} {below : List Frame} {meth : Method} {c : Code} {T : State} {locs : List Loc} {cells slots : Nat}
/-- a static method with handlers is called -/
theorem zw_callS (X : Stand p l e R s m args below meth c T locs cells slots) (hexec : p.tables.exec = Jvm.exec) {own : String} {index : Nat} {y : MethodName} {bytes : ByteArray} {maxL : Nat} {ret : Option FieldType} {hh : List (Nat × Nat × Nat × Nat)}
    (hown : s.vm.findClass own = some m.cls) (hlink : (Cond.methodLink own index y).before args s = true) (hstat : (Cond.static y).before args s = true) (hinit : (Cond.initialized y.cls).before args s = true)
    (hcode : (Cond.codeWith y bytes maxL ret hh).before args s = true) (hy : y.cls ≠ "java/lang/invoke/MethodHandle" ∧ y.cls ≠ "java/lang/invoke/VarHandle")
    {W : Nat} {Pre : Pt → Array Value → Prop} {Post : Pt → Array Value → Option Value → Pt → Prop} (hK : Back l R p e below s args y 3 W Pre Post)
    {g : JFrame} (hg : g.method = m) (hsize : g.locals.size = c.maxLocals) {argsL rest : List Value} (hlen : ∀ sig, parseMethodDescriptor y.desc = some sig → argsL.length = sig.parameters.length)
    (hstack : g.stack = argsL.reverse ++ rest) (hW : 2 * g.monitorRoom + (rest.map fun v => v.category).sum ≤ W) (hdg : decode c.code g.pc = .ok (.invokestatic index, 3))
    (hpre : ∀ vm₁, s.WarmedH vm₁ → Pre ⟨T.setVm vm₁, locs, cells, slots⟩ argsL.toArray) :
    ∃ (v : Option Value) (vm₁ : Vm) (B : Pt), s.WarmedH vm₁ ∧ Stand p l e R s m args below meth c B.U B.locs B.cells B.slots ∧ Post ⟨T.setVm vm₁, locs, cells, slots⟩ argsL.toArray v B ∧
      ∀ target, Steps p.tables e below (B.U.setTop { g with pc := g.pc + 3, stack := v.toList ++ rest }) target → Steps p.tables e below (T.setTop g) target := by
  obtain ⟨mk, methM, cM, hnamed, hmethM, -, -, -, -, -, -, hsigM⟩ := Cond.codeWith_spec hcode
  have hstatic : methM.isStatic = true := Cond.static_spec hnamed hmethM hstat
  obtain ⟨kP, hkP, -⟩ := className_of_methodNamed hnamed
  have hinitP : kP.init = .initialized := Cond.initialized_spec (findClass_of_methodNamed hnamed) hkP hinit
  obtain ⟨vm₁, X₁, hstep₁⟩ := X.invokestatic hexec hown hlink hnamed hmethM hstatic hkP hinitP hy (g := g) hg (argsL := argsL) (rest := rest) (hlen _ hsigM) hstack hdg
  obtain ⟨v, B, X', hpost, hsteps⟩ := hK m meth c ⟨T.setVm vm₁, locs, cells, slots⟩ { g with stack := rest } (.invokestatic index) mk argsL.toArray X₁ hg hsize hdg hW (X₁.named hnamed) (hpre vm₁ X₁.warmed)
  exact ⟨v, vm₁, B, X₁.warmed, X', hpost, fun target h => hstep₁ _ fun acts => by rw [doInvoke_state]; exact hsteps.trans h⟩
variable {H : Heap} {y : MethodName} {bytes cc : ByteArray} {maxL nL mc ms n index : Nat} {ret : Option FieldType} {hh : List (Nat × Nat × Nat × Nat)} {ws ws' : List Cond} {rm : Room} {Pc : Array Value → State → Prop} {Qc : Array Value → State → Outcome → State → Prop} {free : Addr → Prop} {Ts : List Cond} {own : String} {As rest : List Value} {g : JFrame}
/-- what a call of it stands on -/
def zw_C (R : Room) (s : State) (args : Array Value) (own : String) (index : Nat) (y : MethodName) (bytes : ByteArray) (maxL : Nat) (ret : Option FieldType) (hh : List (Nat × Nat × Nat × Nat)) (ws : List Cond) (rm : Room) (mc ms n : Nat) : Prop :=
  (rm.cells = mc ∧ rm.slots = ms ∧ rm.frames + 1 ≤ R.frames ∧ 8 + (maxL + 11) + rm.locals ≤ R.locals ∧ (∀ w ∈ ws, ∀ (a' : Array Value) (U : State), s.WarmedH U.vm → w.before a' U = true) ∧ Cond.codeWith y bytes maxL ret hh ∈ ws) ∧
  (Cond.codeWith y bytes maxL ret hh).before args s = true ∧ (Cond.initialized y.cls).before args s = true ∧ (y.cls ≠ "java/lang/invoke/MethodHandle" ∧ y.cls ≠ "java/lang/invoke/VarHandle") ∧
  (∀ sig, parseMethodDescriptor y.desc = some sig → n = sig.parameters.length) ∧ (Cond.methodLink own index y).before args s = true ∧ (Cond.static y).before args s = true
theorem zw_cw (n : Nat) (ht : ∀ w ∈ Ts, w.before args s = true) (hT : GoodIn Ts (va_wsS own index y ws)) (hw : ws = Cond.codeWith y bytes maxL ret hh :: ws') (hrc : rm.cells = mc) (hrs : rm.slots = ms)
    (hd : y.cls ≠ "java/lang/invoke/MethodHandle" ∧ y.cls ≠ "java/lang/invoke/VarHandle" ∧ (parseMethodDescriptor y.desc).map (fun d => d.parameters.length) = some n) (hR : rm.frames + 1 ≤ R.frames ∧ 8 + (maxL + 11) + rm.locals ≤ R.locals) : zw_C R s args own index y bytes maxL ret hh ws rm mc ms n := by
  have ok : ∀ w ∈ va_wsS own index y ws, w.before args s = true := fun w h => ht w (hT w h).1
  have hG : GoodIn Ts ws := fun w h => hT w (by unfold va_wsS; exact List.mem_append_right _ h)
  have hc : Cond.codeWith y bytes maxL ret hh ∈ ws := by rw [hw]; exact List.mem_cons_self
  refine ⟨⟨hrc, hrs, hR.1, hR.2, pay_in ht hG, hc⟩, ht _ (hG _ hc).1, ok _ (by simp [va_wsS]), ⟨hd.1, hd.2.1⟩, fun sig h => ?_, ok _ (by simp [va_wsS]), ok _ (by simp [va_wsS])⟩
  have h2 := hd.2.2
  rw [h] at h2
  exact (Option.some.inj h2).symm
theorem zw_runS (S : CallFix p m c cc nL s args Ts own) (hM : Met l y ws rm Pc Qc mc ms free) (cw : zw_C R s args own index y bytes maxL ret hh ws rm mc ms n) (hp : PreS s H Pc As)
    (hg : g.method = m) (hn : As.length = n) (hsize : g.locals.size = nL) (hstack : g.stack = As.reverse ++ rest) (hW : 2 * g.monitorRoom + (rest.map fun v => v.category).sum ≤ 8) (hdg : decode cc g.pc = .ok (.invokestatic index, 3)) (hf : cells + mc ≤ R.cells ∧ slots + ms ≤ R.slots) :
    va_Run p l e R s m args below meth c H locs cells slots mc ms g rest (Qc As.toArray) (free) := by
  obtain ⟨⟨hrc, hrs, hfr, hlo, hws, hcw⟩, hcode, hini, hy, hlen, hl, hstt⟩ := cw
  have hK : Back l R p e below s args y 3 8 (PreOf R mc ms Pc) (PostOf Qc mc ms free) := va_backW (hh := hh) (bytes := bytes) (maxL := maxL) (ret := ret) hM hp.1 hrc hrs hfr hlo hws hcw (fun a' U hW => word_at hW (Or.inl (by first | rfl | simp [Cond.onTables, Cond.keeps, Cond.steady])) hini)
  obtain ⟨hx, hb, hml, ho, -⟩ := S
  intro T hT X
  obtain ⟨v, vm₁, ⟨U', l2, c2, s2⟩, hW₁, X', ⟨g', mk, t, L, e1, e2, hq, h1, hL, h2, h3⟩, st⟩ := zw_callS X hx (bytes := bytes) (maxL := maxL) (ret := ret) (hh := hh) ho hl hstt hini hcode hy hK hg (hsize.trans hml.symm) (argsL := As) (rest := rest) (fun sig h => hn.trans (hlen sig h)) hstack hW (by rw [hb]; exact hdg)
    (fun vm₁ hW₁ => ⟨hf.1, hf.2, hp.2 (T.setVm vm₁) hT hW₁⟩)
  dsimp only [Pt.U, Pt.locs, Pt.cells, Pt.slots] at X' e1 e2 h1 h2 h3 st
  subst h1; subst h2; subst h3
  exact ⟨v, (T.setVm vm₁).calling g' mk As.toArray, t, U', L, hT, X', hL, e1, e2, hq, st⟩
end ZWS
/-- where only new cells came -/
theorem tw_P {D : va_G} {cl : List vw_C} {ws : va_W} {H H1 : Heap} (h : va_P D cl ws H) (hk : ∀ q : Nat, q < H.size → H1[q]? = H[q]?) : va_P D cl ws H1 := h.kept (fun k q hq => hk q.1 (h k q hq).lt)
theorem tw_S {A : Nat → Prop} {H0 H H1 : Heap} {locs : List Loc} (h : va_S A H0 H locs) (hk : ∀ q : Nat, q < H.size → H1[q]? = H[q]?) (hz : H.size ≤ H1.size) : va_S A H0 H1 locs := ⟨Nat.le_trans h.1 hz, fun q h1 h2 => (hk q (Nat.lt_of_lt_of_le h1 h.1)).trans (h.2.1 q h1 h2), h.2.2⟩
theorem zy_prJ2 {ad : Nat → Nat} {s : State} {H : Heap} {locs : List Loc} {A : Nat → Prop} {D : va_G} {cl : List vw_C} {ws wc : va_W} {tys tyc : List (ClassId × FieldType)} (hX : kx ad A s s.heap) (hS : va_S A s.heap H locs) (hP : va_P D cl ws H) (hK : va_K D cl tys s) (hPc : va_P D cl wc H) (hKc : va_K D cl tyc s) (As : List Value) {b q0 ci : Nat} {q : vw_C} {fs : List Value} (hc : cl[ci]? = some q) (he : ws[q0]? = some (b, .inr (ci, fs))) : PreV s H q.1 b (va_Pc (.ref b :: As) (zy_J ad D cl wc tyc)) As :=
  ⟨zy_blJ, va_recv hK hP hc he, fun U hU hW => ⟨rfl, ⟨by rw [hU]; exact hPc, va_K.moved hW.alike hKc⟩, hX.at hS (fun _ h => h.elim) hU hW⟩⟩
def pr_l (o : Option Int) : Int64 := if o.isSome then 1 else 0
theorem pr_t {o : Option Int} {r : Int32} (h : r = by_z o.isSome) (c : ¬ r = 0) : 1 = pr_l o := by unfold pr_l; rw [by_z_t h c]; rfl
theorem pr_f {o : Option Int} {r : Int32} (h : r = by_z o.isSome) (c : r = 0) : 0 = pr_l o := by unfold pr_l; rw [by_z_f h c]; rfl
abbrev y_La_number : MethodName := ⟨"TextForgeLaw", "number", "(LTextForge;JZ[J)I"⟩
abbrev w_La_number : List Cond := Cond.codeWith y_La_number method_3_code 6 (some .int) [(0, 11, 14, 13)] :: gw
theorem d_La_number_0 : decode method_3_code 0 = .ok (.aload 4, 2) := by decide +kernel
theorem d_La_number_2 : decode method_3_code 2 = .ok (.iconst 0, 1) := by decide +kernel
theorem d_La_number_3 : decode method_3_code 3 = .ok (.aload_n 0, 1) := by decide +kernel
theorem d_La_number_4 : decode method_3_code 4 = .ok (.lload_n 1, 1) := by decide +kernel
theorem d_La_number_5 : decode method_3_code 5 = .ok (.iload_n 3, 1) := by decide +kernel
theorem d_La_number_6 : decode method_3_code 6 = .ok (.invokevirtual 7, 3) := by decide +kernel
theorem d_La_number_9 : decode method_3_code 9 = .ok (.i2l, 1) := by decide +kernel
theorem d_La_number_10 : decode method_3_code 10 = .ok (.lastore, 1) := by decide +kernel
theorem d_La_number_11 : decode method_3_code 11 = .ok (.goto 7, 3) := by decide +kernel
theorem d_La_number_14 : decode method_3_code 14 = .ok (.astore 5, 2) := by decide +kernel
theorem d_La_number_16 : decode method_3_code 16 = .ok (.iconst 1, 1) := by decide +kernel
theorem d_La_number_17 : decode method_3_code 17 = .ok (.ireturn, 1) := by decide +kernel
theorem d_La_number_18 : decode method_3_code 18 = .ok (.iconst 0, 1) := by decide +kernel
theorem d_La_number_19 : decode method_3_code 19 = .ok (.ireturn, 1) := by decide +kernel
set_option maxHeartbeats 4000000 in
set_option maxRecDepth 100000 in
theorem c_La_number (l : Launch) (dC : Nat → ClassId) (dI : Nat → Nat → Nat) (ad : Nat → Nat) (tf hf hq hs hd hp hc : Nat) (ln : Int64) (rs : Nat) (cR : ClassId) (fR : Nat → Option Nat) (us : Nat) (cB : ClassId) (AL : List Ag) (v : Int64) (sg : Int32) (ou : Nat) (cO : ClassId) (go : Nat → Int64) (hnn : AL.length < 16) (hus : us < 1000000) : yM_i (S := Nat) ad l y_La_number w_La_number { frames := 3, cells := 1, slots := 3, locals := 63 } (dC, dI) vwCl [.ref tf, .long v, .int sg, .ref ou] ([(tf, .inr (7, [.ref hf, .ref hq, .ref hs, .ref hd, .ref hp, .ref hc, .long ln])), (hs, .inr (1, [.ref rs, .int (nI AL.length), .int (nI us)])), (rs, .inl (cR, 16, .inr (.inr (.inr (.inr fR))))), (ou, .inl (cO, 1, .inr (.inl go)))] ++ (ag_W cB AL)) [(cR, .object "TextForge$Argument"), (cO, .long)] (fun (r : Int32) (u : Nat) => r = 0) (fun u => ([(tf, .inr (7, [.ref hf, .ref hq, .ref hs, .ref hd, .ref hp, .ref hc, .long ln])), (hs, .inr (1, [.ref rs, .int (nI (AL.length + 1)), .int (nI us)])), (rs, .inl (cR, 16, .inr (.inr (.inr (.inr (va_up fR AL.length (some u))))))), (ou, .inl (cO, 1, .inr (.inl (vp_updL go (0 : Int32).toNatClampNeg ((nI (AL.length + 1)).toInt64)))))] ++ (ag_W cB (AL ++ [(u, nm_k sg, v, 0, 0, (fun _ => 0), [])])))) (fun u => [(cR, .object "TextForge$Argument"), (cO, .long)]) 1 3 := by
  refine zw_enteri (hh := [(0, 11, 14, 13)]) (cc := method_3_code) (nL := 6) (ret := (some .int)) (by decide) rfl (Nat.le_of_ble_eq_true rfl) ?_
  intro p e s m below meth c A ls C0 htab hA hS hP hK hD hl hX
  obtain ⟨hx, hb, hml, hown, hg, hr, hlocks, hin⟩ := C0
  have hown : s.vm.findClass "TextForgeLaw" = some m.cls := hown
  have hP : va_P (dC, dI) vwCl ([(tf, .inr (7, [.ref hf, .ref hq, .ref hs, .ref hd, .ref hp, .ref hc, .long ln])), (hs, .inr (1, [.ref rs, .int (nI AL.length), .int (nI us)])), (rs, .inl (cR, 16, .inr (.inr (.inr (.inr fR))))), (ou, .inl (cO, 1, .inr (.inl go)))] ++ (ag_W cB AL)) s.heap := hP
  have hK : va_K (dC, dI) vwCl [(cR, .object "TextForge$Argument"), (cO, .long)] s := hK
  have hD : va_D A ([(tf, .inr (7, [.ref hf, .ref hq, .ref hs, .ref hd, .ref hp, .ref hc, .long ln])), (hs, .inr (1, [.ref rs, .int (nI AL.length), .int (nI us)])), (rs, .inl (cR, 16, .inr (.inr (.inr (.inr fR))))), (ou, .inl (cO, 1, .inr (.inl go)))] ++ (ag_W cB AL)) := hD
  have hl : lv_has ls 6 [(0, .ref tf), (1, .long v), (3, .int sg), (4, .ref ou)] := hl
  refine lv_aload hx hb d_La_number_0 (lv_at hl 3 rfl) ?_
  refine lv_iconst (v := 0) hx hb d_La_number_2 (by decide) ?_
  refine lv_aload_n hx hb d_La_number_3 rfl (lv_at hl 0 rfl) ?_
  refine lv_lload_n hx hb d_La_number_4 rfl (lv_at hl 1 rfl) ?_
  refine lv_iload_n hx hb d_La_number_5 rfl (lv_at hl 2 rfl) ?_
  have hPc := hP.part (cx := [(tf, .inr (7, [.ref hf, .ref hq, .ref hs, .ref hd, .ref hp, .ref hc, .long ln])), (hs, .inr (1, [.ref rs, .int (nI AL.length), .int (nI us)])), (rs, .inl (cR, 16, .inr (.inr (.inr (.inr fR)))))]) [0, 1, 2] rfl
  have hKc := hK.sub (tys' := [(cR, .object "TextForge$Argument")]) [0] rfl
  have hDc := hD.part (cx := [(tf, .inr (7, [.ref hf, .ref hq, .ref hs, .ref hd, .ref hp, .ref hc, .long ln])), (hs, .inr (1, [.ref rs, .int (nI AL.length), .int (nI us)])), (rs, .inl (cR, 16, .inr (.inr (.inr (.inr fR)))))]) [0, 1, 2] (by decide) rfl
  have hFc := va_freeP (cx := [(tf, .inr (7, [.ref hf, .ref hq, .ref hs, .ref hd, .ref hp, .ref hc, .long ln])), (hs, .inr (1, [.ref rs, .int (nI AL.length), .int (nI us)])), (rs, .inl (cR, 16, .inr (.inr (.inr (.inr fR)))))]) hD hS hA [0, 1, 2] rfl
  refine zz_calli (va_runV (As := [.long v, .int sg]) (rest := [.int 0, .ref ou]) ⟨hx, hb, hml, hown, hg⟩ (c_Tf_number l dC dI tf hf hq hs hd hp hc ln rs cR fR us cB AL v sg hnn hus s.heap.size) (cwV 2 hg (gi_V kw_516 kw_517 kw_518 kw_1 kw_519) rfl rfl rfl (by decide +kernel) ⟨Nat.le_of_ble_eq_true rfl, Nat.le_of_ble_eq_true rfl⟩) (zz_preV hPc hKc hDc _ (q0 := 0) (ci := 7) rfl rfl) rfl rfl hl.1 rfl (lv_room (Nat.le_of_ble_eq_true rfl)) d_La_number_6 ⟨Nat.le_of_ble_eq_true rfl, Nat.le_of_ble_eq_true rfl⟩) hS hFc (fun u H1 k9 p9 d9 => va_joinP (wr := [(ou, .inl (cO, 1, .inr (.inl go)))]) hP hD [0, 1, 2] [3] rfl rfl (by decide) (by decide) k9 hFc p9 d9) (fun r_1 u H locs hw hP hD hK1 hS => ?_)
  obtain ⟨a0, rfl⟩ : ∃ z, z = u := ⟨_, rfl⟩
  try dsimp only at hw
  have hP : va_P (dC, dI) vwCl ([(ou, .inl (cO, 1, .inr (.inl go))), (tf, .inr (7, [.ref hf, .ref hq, .ref hs, .ref hd, .ref hp, .ref hc, .long ln])), (hs, .inr (1, [.ref rs, .int (nI (AL.length + 1)), .int (nI us)])), (rs, .inl (cR, 16, .inr (.inr (.inr (.inr (va_up fR AL.length (some a0)))))))] ++ (ag_W cB (AL ++ [(a0, nm_k sg, v, 0, 0, (fun _ => 0), [])]))) H := hP
  have hD : va_D A ([(ou, .inl (cO, 1, .inr (.inl go))), (tf, .inr (7, [.ref hf, .ref hq, .ref hs, .ref hd, .ref hp, .ref hc, .long ln])), (hs, .inr (1, [.ref rs, .int (nI (AL.length + 1)), .int (nI us)])), (rs, .inl (cR, 16, .inr (.inr (.inr (.inr (va_up fR AL.length (some a0)))))))] ++ (ag_W cB (AL ++ [(a0, nm_k sg, v, 0, 0, (fun _ => 0), [])]))) := hD
  have hwr := hw
  rw [hwr]
  refine lv_i2l hx hb d_La_number_9 rfl ?_
  refine va_last hx hb hK hP hD hS 0 1 rfl rfl (show vp_in (nI 0) 1 from vp_in_nI (by decide) (by decide)) d_La_number_10 (fun H locs hP hD hS => ?_)
  have hP : va_P (dC, dI) vwCl ([(ou, .inl (cO, 1, .inr (.inl (vp_updL go (0 : Int32).toNatClampNeg ((nI (AL.length + 1)).toInt64))))), (tf, .inr (7, [.ref hf, .ref hq, .ref hs, .ref hd, .ref hp, .ref hc, .long ln])), (hs, .inr (1, [.ref rs, .int (nI (AL.length + 1)), .int (nI us)])), (rs, .inl (cR, 16, .inr (.inr (.inr (.inr (va_up fR AL.length (some a0)))))))] ++ (ag_W cB (AL ++ [(a0, nm_k sg, v, 0, 0, (fun _ => 0), [])]))) H := hP
  have hD : va_D A ([(ou, .inl (cO, 1, .inr (.inl (vp_updL go (0 : Int32).toNatClampNeg ((nI (AL.length + 1)).toInt64))))), (tf, .inr (7, [.ref hf, .ref hq, .ref hs, .ref hd, .ref hp, .ref hc, .long ln])), (hs, .inr (1, [.ref rs, .int (nI (AL.length + 1)), .int (nI us)])), (rs, .inl (cR, 16, .inr (.inr (.inr (.inr (va_up fR AL.length (some a0)))))))] ++ (ag_W cB (AL ++ [(a0, nm_k sg, v, 0, 0, (fun _ => 0), [])]))) := hD
  refine lv_goto (tgt := 18) hx hb d_La_number_11 (by decide) ?_
  refine lv_iconst (v := 0) hx hb d_La_number_18 (by decide) ?_
  have hP9 := hP.part (cx := [(tf, .inr (7, [.ref hf, .ref hq, .ref hs, .ref hd, .ref hp, .ref hc, .long ln])), (hs, .inr (1, [.ref rs, .int (nI (AL.length + 1)), .int (nI us)])), (rs, .inl (cR, 16, .inr (.inr (.inr (.inr (va_up fR AL.length (some a0))))))), (ou, .inl (cO, 1, .inr (.inl (vp_updL go (0 : Int32).toNatClampNeg ((nI (AL.length + 1)).toInt64)))))]) [1, 2, 3, 0] rfl
  have hD9 := hD.part (cx := [(tf, .inr (7, [.ref hf, .ref hq, .ref hs, .ref hd, .ref hp, .ref hc, .long ln])), (hs, .inr (1, [.ref rs, .int (nI (AL.length + 1)), .int (nI us)])), (rs, .inl (cR, 16, .inr (.inr (.inr (.inr (va_up fR AL.length (some a0))))))), (ou, .inl (cO, 1, .inr (.inl (vp_updL go (0 : Int32).toNatClampNeg ((nI (AL.length + 1)).toInt64)))))]) [1, 2, 3, 0] (by decide) rfl
  have hK9 := hK.sub (tys' := [(cR, .object "TextForge$Argument"), (cO, .long)]) [0, 1] rfl
  exact zz_iret hx hb hr hlocks d_La_number_19 hS (by first | exact Nat.le_refl _ | decide | omega | (dsimp only; omega)) (by first | exact Nat.le_refl _ | decide | omega | (dsimp only; omega)) a0 rfl hP9 hK9 hD9
set_option maxHeartbeats 4000000 in
set_option maxRecDepth 100000 in
theorem c_La_numberT (l : Launch) (dC : Nat → ClassId) (dI : Nat → Nat → Nat) (ad : Nat → Nat) (tf hf hq hs hd hp hc : Nat) (ln : Int64) (rs : Nat) (cR : ClassId) (fR : Nat → Option Nat) (n us : Nat) (v : Int64) (sg : Int32) (ou : Nat) (cO : ClassId) (go : Nat → Int64) (hnt : l.flags = pinnedFlags ++ [noTraceFlag]) (hnn : n = 16) (hus : us < 1000000) : yM_i (S := Unit) ad l y_La_number w_La_number { frames := 8, cells := 1, slots := 6, locals := 125 } (dC, dI) vwCl [.ref tf, .long v, .int sg, .ref ou] [(tf, .inr (7, [.ref hf, .ref hq, .ref hs, .ref hd, .ref hp, .ref hc, .long ln])), (hs, .inr (1, [.ref rs, .int (nI n), .int (nI us)])), (rs, .inl (cR, 16, .inr (.inr (.inr (.inr fR))))), (ou, .inl (cO, 1, .inr (.inl go)))] [(cR, .object "TextForge$Argument"), (cO, .long)] (fun (r : Int32) (u : Unit) => r = 1) (fun u => [(tf, .inr (7, [.ref hf, .ref hq, .ref hs, .ref hd, .ref hp, .ref hc, .long ln])), (hs, .inr (1, [.ref rs, .int (nI n), .int (nI us)])), (rs, .inl (cR, 16, .inr (.inr (.inr (.inr fR))))), (ou, .inl (cO, 1, .inr (.inl go)))]) (fun u => [(cR, .object "TextForge$Argument"), (cO, .long)]) 1 6 := by
  refine zw_enteri (hh := [(0, 11, 14, 13)]) (cc := method_3_code) (nL := 6) (ret := (some .int)) (by decide) rfl (Nat.le_of_ble_eq_true rfl) ?_
  intro p e s m below meth c A ls C0 htab hA hS hP hK hD hl hX
  obtain ⟨hx, hb, hml, hown, hg, hr, hlocks, hin⟩ := C0
  have hown : s.vm.findClass "TextForgeLaw" = some m.cls := hown
  have hP : va_P (dC, dI) vwCl [(tf, .inr (7, [.ref hf, .ref hq, .ref hs, .ref hd, .ref hp, .ref hc, .long ln])), (hs, .inr (1, [.ref rs, .int (nI n), .int (nI us)])), (rs, .inl (cR, 16, .inr (.inr (.inr (.inr fR))))), (ou, .inl (cO, 1, .inr (.inl go)))] s.heap := hP
  have hK : va_K (dC, dI) vwCl [(cR, .object "TextForge$Argument"), (cO, .long)] s := hK
  have hD : va_D A [(tf, .inr (7, [.ref hf, .ref hq, .ref hs, .ref hd, .ref hp, .ref hc, .long ln])), (hs, .inr (1, [.ref rs, .int (nI n), .int (nI us)])), (rs, .inl (cR, 16, .inr (.inr (.inr (.inr fR))))), (ou, .inl (cO, 1, .inr (.inl go)))] := hD
  have hl : lv_has ls 6 [(0, .ref tf), (1, .long v), (3, .int sg), (4, .ref ou)] := hl
  refine lv_aload hx hb d_La_number_0 (lv_at hl 3 rfl) ?_
  refine lv_iconst (v := 0) hx hb d_La_number_2 (by decide) ?_
  refine lv_aload_n hx hb d_La_number_3 rfl (lv_at hl 0 rfl) ?_
  refine lv_lload_n hx hb d_La_number_4 rfl (lv_at hl 1 rfl) ?_
  refine lv_iload_n hx hb d_La_number_5 rfl (lv_at hl 2 rfl) ?_
  have hPc := hP.sub (ws' := [(tf, .inr (7, [.ref hf, .ref hq, .ref hs, .ref hd, .ref hp, .ref hc, .long ln])), (hs, .inr (1, [.ref rs, .int (nI n), .int (nI us)])), (rs, .inl (cR, 16, .inr (.inr (.inr (.inr fR)))))]) [0, 1, 2] rfl
  have hKc := hK.sub (tys' := [(cR, .object "TextForge$Argument")]) [0] rfl
  refine tx_catch1 (As := [.long v, .int sg]) (rest := [.int 0, .ref ou]) ⟨hx, hb, hml, hown, hg⟩ (c_Tf_numberT l dC dI ad tf hf hq hs hd hp hc ln rs cR fR n us v sg hnt hnn hus) (cwV 2 hg (gi_V kw_516 kw_517 kw_518 kw_1 kw_519) rfl rfl rfl (by decide +kernel) ⟨Nat.le_of_ble_eq_true rfl, Nat.le_of_ble_eq_true rfl⟩) (zy_prJ2 hX hS hP hK hPc hKc _ (q0 := 0) (ci := 7) rfl rfl) rfl hl.1 rfl (Nat.le_of_ble_eq_true rfl) d_La_number_6 ⟨(Nat.le_of_ble_eq_true rfl), (Nat.le_of_ble_eq_true rfl)⟩ htab ⟨by decide, by decide⟩ (by decide) (hg _ kw_515) (hX.2.2.2.2.2.1 _ (List.mem_of_getElem? (i := 6) rfl)) (fun x1 H hk1 hz1 => ?_)
  have hP := tw_P hP hk1
  have hS := tw_S hS hk1 hz1
  have hP : va_P (dC, dI) vwCl [(tf, .inr (7, [.ref hf, .ref hq, .ref hs, .ref hd, .ref hp, .ref hc, .long ln])), (hs, .inr (1, [.ref rs, .int (nI n), .int (nI us)])), (rs, .inl (cR, 16, .inr (.inr (.inr (.inr fR))))), (ou, .inl (cO, 1, .inr (.inl go)))] H := hP
  have hD : va_D A [(tf, .inr (7, [.ref hf, .ref hq, .ref hs, .ref hd, .ref hp, .ref hc, .long ln])), (hs, .inr (1, [.ref rs, .int (nI n), .int (nI us)])), (rs, .inl (cR, 16, .inr (.inr (.inr (.inr fR))))), (ou, .inl (cO, 1, .inr (.inl go)))] := hD
  refine lv_astore (lv' := [(5, .ref x1), (0, .ref tf), (1, .long v), (3, .int sg), (4, .ref ou)]) hx hb d_La_number_14 hl (by decide) rfl (fun ls hl => ?_)
  refine lv_iconst (v := 1) hx hb d_La_number_16 (by decide) ?_
  have hP9 := hP.sub (ws' := [(tf, .inr (7, [.ref hf, .ref hq, .ref hs, .ref hd, .ref hp, .ref hc, .long ln])), (hs, .inr (1, [.ref rs, .int (nI n), .int (nI us)])), (rs, .inl (cR, 16, .inr (.inr (.inr (.inr fR))))), (ou, .inl (cO, 1, .inr (.inl go)))]) [0, 1, 2, 3] rfl
  have hD9 := hD.sub (ws' := [(tf, .inr (7, [.ref hf, .ref hq, .ref hs, .ref hd, .ref hp, .ref hc, .long ln])), (hs, .inr (1, [.ref rs, .int (nI n), .int (nI us)])), (rs, .inl (cR, 16, .inr (.inr (.inr (.inr fR))))), (ou, .inl (cO, 1, .inr (.inl go)))]) [0, 1, 2, 3] (by decide) rfl
  have hK9 := hK.sub (tys' := [(cR, .object "TextForge$Argument"), (cO, .long)]) [0, 1] rfl
  exact zz_iret hx hb hr hlocks d_La_number_17 hS (by first | exact Nat.le_refl _ | decide | omega | (dsimp only; omega)) (by first | exact Nat.le_refl _ | decide | omega | (dsimp only; omega)) () rfl hP9 hK9 hD9
abbrev y_La_truth : MethodName := ⟨"TextForgeLaw", "truth", "(LTextForge;Z[J)I"⟩
abbrev w_La_truth : List Cond := Cond.codeWith y_La_truth method_4_code 4 (some .int) [(0, 9, 12, 13)] :: gw
theorem d_La_truth_0 : decode method_4_code 0 = .ok (.aload_n 2, 1) := by decide +kernel
theorem d_La_truth_1 : decode method_4_code 1 = .ok (.iconst 0, 1) := by decide +kernel
theorem d_La_truth_2 : decode method_4_code 2 = .ok (.aload_n 0, 1) := by decide +kernel
theorem d_La_truth_3 : decode method_4_code 3 = .ok (.iload_n 1, 1) := by decide +kernel
theorem d_La_truth_4 : decode method_4_code 4 = .ok (.invokevirtual 15, 3) := by decide +kernel
theorem d_La_truth_7 : decode method_4_code 7 = .ok (.i2l, 1) := by decide +kernel
theorem d_La_truth_8 : decode method_4_code 8 = .ok (.lastore, 1) := by decide +kernel
theorem d_La_truth_9 : decode method_4_code 9 = .ok (.goto 6, 3) := by decide +kernel
theorem d_La_truth_12 : decode method_4_code 12 = .ok (.astore_n 3, 1) := by decide +kernel
theorem d_La_truth_13 : decode method_4_code 13 = .ok (.iconst 1, 1) := by decide +kernel
theorem d_La_truth_14 : decode method_4_code 14 = .ok (.ireturn, 1) := by decide +kernel
theorem d_La_truth_15 : decode method_4_code 15 = .ok (.iconst 0, 1) := by decide +kernel
theorem d_La_truth_16 : decode method_4_code 16 = .ok (.ireturn, 1) := by decide +kernel
set_option maxHeartbeats 4000000 in
set_option maxRecDepth 100000 in
theorem c_La_truth (l : Launch) (dC : Nat → ClassId) (dI : Nat → Nat → Nat) (ad : Nat → Nat) (tf hf hq hs hd hp hc : Nat) (ln : Int64) (rs : Nat) (cR : ClassId) (fR : Nat → Option Nat) (us : Nat) (cB : ClassId) (AL : List Ag) (sg : Int32) (ou : Nat) (cO : ClassId) (go : Nat → Int64) (hnn : AL.length < 16) (hus : us < 1000000) : yM_i (S := Nat) ad l y_La_truth w_La_truth { frames := 3, cells := 1, slots := 3, locals := 61 } (dC, dI) vwCl [.ref tf, .int sg, .ref ou] ([(tf, .inr (7, [.ref hf, .ref hq, .ref hs, .ref hd, .ref hp, .ref hc, .long ln])), (hs, .inr (1, [.ref rs, .int (nI AL.length), .int (nI us)])), (rs, .inl (cR, 16, .inr (.inr (.inr (.inr fR))))), (ou, .inl (cO, 1, .inr (.inl go)))] ++ (ag_W cB AL)) [(cR, .object "TextForge$Argument"), (cO, .long)] (fun (r : Int32) (u : Nat) => r = 0) (fun u => ([(tf, .inr (7, [.ref hf, .ref hq, .ref hs, .ref hd, .ref hp, .ref hc, .long ln])), (hs, .inr (1, [.ref rs, .int (nI (AL.length + 1)), .int (nI us)])), (rs, .inl (cR, 16, .inr (.inr (.inr (.inr (va_up fR AL.length (some u))))))), (ou, .inl (cO, 1, .inr (.inl (vp_updL go (0 : Int32).toNatClampNeg ((nI (AL.length + 1)).toInt64)))))] ++ (ag_W cB (AL ++ [(u, 2, nm_t sg, 0, 0, (fun _ => 0), [])])))) (fun u => [(cR, .object "TextForge$Argument"), (cO, .long)]) 1 3 := by
  refine zw_enteri (hh := [(0, 9, 12, 13)]) (cc := method_4_code) (nL := 4) (ret := (some .int)) (by decide) rfl (Nat.le_of_ble_eq_true rfl) ?_
  intro p e s m below meth c A ls C0 htab hA hS hP hK hD hl hX
  obtain ⟨hx, hb, hml, hown, hg, hr, hlocks, hin⟩ := C0
  have hown : s.vm.findClass "TextForgeLaw" = some m.cls := hown
  have hP : va_P (dC, dI) vwCl ([(tf, .inr (7, [.ref hf, .ref hq, .ref hs, .ref hd, .ref hp, .ref hc, .long ln])), (hs, .inr (1, [.ref rs, .int (nI AL.length), .int (nI us)])), (rs, .inl (cR, 16, .inr (.inr (.inr (.inr fR))))), (ou, .inl (cO, 1, .inr (.inl go)))] ++ (ag_W cB AL)) s.heap := hP
  have hK : va_K (dC, dI) vwCl [(cR, .object "TextForge$Argument"), (cO, .long)] s := hK
  have hD : va_D A ([(tf, .inr (7, [.ref hf, .ref hq, .ref hs, .ref hd, .ref hp, .ref hc, .long ln])), (hs, .inr (1, [.ref rs, .int (nI AL.length), .int (nI us)])), (rs, .inl (cR, 16, .inr (.inr (.inr (.inr fR))))), (ou, .inl (cO, 1, .inr (.inl go)))] ++ (ag_W cB AL)) := hD
  have hl : lv_has ls 4 [(0, .ref tf), (1, .int sg), (2, .ref ou)] := hl
  refine lv_aload_n hx hb d_La_truth_0 rfl (lv_at hl 2 rfl) ?_
  refine lv_iconst (v := 0) hx hb d_La_truth_1 (by decide) ?_
  refine lv_aload_n hx hb d_La_truth_2 rfl (lv_at hl 0 rfl) ?_
  refine lv_iload_n hx hb d_La_truth_3 rfl (lv_at hl 1 rfl) ?_
  have hPc := hP.part (cx := [(tf, .inr (7, [.ref hf, .ref hq, .ref hs, .ref hd, .ref hp, .ref hc, .long ln])), (hs, .inr (1, [.ref rs, .int (nI AL.length), .int (nI us)])), (rs, .inl (cR, 16, .inr (.inr (.inr (.inr fR)))))]) [0, 1, 2] rfl
  have hKc := hK.sub (tys' := [(cR, .object "TextForge$Argument")]) [0] rfl
  have hDc := hD.part (cx := [(tf, .inr (7, [.ref hf, .ref hq, .ref hs, .ref hd, .ref hp, .ref hc, .long ln])), (hs, .inr (1, [.ref rs, .int (nI AL.length), .int (nI us)])), (rs, .inl (cR, 16, .inr (.inr (.inr (.inr fR)))))]) [0, 1, 2] (by decide) rfl
  have hFc := va_freeP (cx := [(tf, .inr (7, [.ref hf, .ref hq, .ref hs, .ref hd, .ref hp, .ref hc, .long ln])), (hs, .inr (1, [.ref rs, .int (nI AL.length), .int (nI us)])), (rs, .inl (cR, 16, .inr (.inr (.inr (.inr fR)))))]) hD hS hA [0, 1, 2] rfl
  refine zz_calli (va_runV (As := [.int sg]) (rest := [.int 0, .ref ou]) ⟨hx, hb, hml, hown, hg⟩ (c_Tf_truth l dC dI tf hf hq hs hd hp hc ln rs cR fR us cB AL sg hnn hus s.heap.size) (cwV 1 hg (gi_V kw_618 kw_619 kw_620 kw_1 kw_621) rfl rfl rfl (by decide +kernel) ⟨Nat.le_of_ble_eq_true rfl, Nat.le_of_ble_eq_true rfl⟩) (zz_preV hPc hKc hDc _ (q0 := 0) (ci := 7) rfl rfl) rfl rfl hl.1 rfl (lv_room (Nat.le_of_ble_eq_true rfl)) d_La_truth_4 ⟨Nat.le_of_ble_eq_true rfl, Nat.le_of_ble_eq_true rfl⟩) hS hFc (fun u H1 k9 p9 d9 => va_joinP (wr := [(ou, .inl (cO, 1, .inr (.inl go)))]) hP hD [0, 1, 2] [3] rfl rfl (by decide) (by decide) k9 hFc p9 d9) (fun r_1 u H locs hw hP hD hK1 hS => ?_)
  obtain ⟨a0, rfl⟩ : ∃ z, z = u := ⟨_, rfl⟩
  try dsimp only at hw
  have hP : va_P (dC, dI) vwCl ([(ou, .inl (cO, 1, .inr (.inl go))), (tf, .inr (7, [.ref hf, .ref hq, .ref hs, .ref hd, .ref hp, .ref hc, .long ln])), (hs, .inr (1, [.ref rs, .int (nI (AL.length + 1)), .int (nI us)])), (rs, .inl (cR, 16, .inr (.inr (.inr (.inr (va_up fR AL.length (some a0)))))))] ++ (ag_W cB (AL ++ [(a0, 2, nm_t sg, 0, 0, (fun _ => 0), [])]))) H := hP
  have hD : va_D A ([(ou, .inl (cO, 1, .inr (.inl go))), (tf, .inr (7, [.ref hf, .ref hq, .ref hs, .ref hd, .ref hp, .ref hc, .long ln])), (hs, .inr (1, [.ref rs, .int (nI (AL.length + 1)), .int (nI us)])), (rs, .inl (cR, 16, .inr (.inr (.inr (.inr (va_up fR AL.length (some a0)))))))] ++ (ag_W cB (AL ++ [(a0, 2, nm_t sg, 0, 0, (fun _ => 0), [])]))) := hD
  have hwr := hw
  rw [hwr]
  refine lv_i2l hx hb d_La_truth_7 rfl ?_
  refine va_last hx hb hK hP hD hS 0 1 rfl rfl (show vp_in (nI 0) 1 from vp_in_nI (by decide) (by decide)) d_La_truth_8 (fun H locs hP hD hS => ?_)
  have hP : va_P (dC, dI) vwCl ([(ou, .inl (cO, 1, .inr (.inl (vp_updL go (0 : Int32).toNatClampNeg ((nI (AL.length + 1)).toInt64))))), (tf, .inr (7, [.ref hf, .ref hq, .ref hs, .ref hd, .ref hp, .ref hc, .long ln])), (hs, .inr (1, [.ref rs, .int (nI (AL.length + 1)), .int (nI us)])), (rs, .inl (cR, 16, .inr (.inr (.inr (.inr (va_up fR AL.length (some a0)))))))] ++ (ag_W cB (AL ++ [(a0, 2, nm_t sg, 0, 0, (fun _ => 0), [])]))) H := hP
  have hD : va_D A ([(ou, .inl (cO, 1, .inr (.inl (vp_updL go (0 : Int32).toNatClampNeg ((nI (AL.length + 1)).toInt64))))), (tf, .inr (7, [.ref hf, .ref hq, .ref hs, .ref hd, .ref hp, .ref hc, .long ln])), (hs, .inr (1, [.ref rs, .int (nI (AL.length + 1)), .int (nI us)])), (rs, .inl (cR, 16, .inr (.inr (.inr (.inr (va_up fR AL.length (some a0)))))))] ++ (ag_W cB (AL ++ [(a0, 2, nm_t sg, 0, 0, (fun _ => 0), [])]))) := hD
  refine lv_goto (tgt := 15) hx hb d_La_truth_9 (by decide) ?_
  refine lv_iconst (v := 0) hx hb d_La_truth_15 (by decide) ?_
  have hP9 := hP.part (cx := [(tf, .inr (7, [.ref hf, .ref hq, .ref hs, .ref hd, .ref hp, .ref hc, .long ln])), (hs, .inr (1, [.ref rs, .int (nI (AL.length + 1)), .int (nI us)])), (rs, .inl (cR, 16, .inr (.inr (.inr (.inr (va_up fR AL.length (some a0))))))), (ou, .inl (cO, 1, .inr (.inl (vp_updL go (0 : Int32).toNatClampNeg ((nI (AL.length + 1)).toInt64)))))]) [1, 2, 3, 0] rfl
  have hD9 := hD.part (cx := [(tf, .inr (7, [.ref hf, .ref hq, .ref hs, .ref hd, .ref hp, .ref hc, .long ln])), (hs, .inr (1, [.ref rs, .int (nI (AL.length + 1)), .int (nI us)])), (rs, .inl (cR, 16, .inr (.inr (.inr (.inr (va_up fR AL.length (some a0))))))), (ou, .inl (cO, 1, .inr (.inl (vp_updL go (0 : Int32).toNatClampNeg ((nI (AL.length + 1)).toInt64)))))]) [1, 2, 3, 0] (by decide) rfl
  have hK9 := hK.sub (tys' := [(cR, .object "TextForge$Argument"), (cO, .long)]) [0, 1] rfl
  exact zz_iret hx hb hr hlocks d_La_truth_16 hS (by first | exact Nat.le_refl _ | decide | omega | (dsimp only; omega)) (by first | exact Nat.le_refl _ | decide | omega | (dsimp only; omega)) a0 rfl hP9 hK9 hD9
set_option maxHeartbeats 4000000 in
set_option maxRecDepth 100000 in
theorem c_La_truthT (l : Launch) (dC : Nat → ClassId) (dI : Nat → Nat → Nat) (ad : Nat → Nat) (tf hf hq hs hd hp hc : Nat) (ln : Int64) (rs : Nat) (cR : ClassId) (fR : Nat → Option Nat) (n us : Nat) (sg : Int32) (ou : Nat) (cO : ClassId) (go : Nat → Int64) (hnt : l.flags = pinnedFlags ++ [noTraceFlag]) (hnn : n = 16) (hus : us < 1000000) : yM_i (S := Unit) ad l y_La_truth w_La_truth { frames := 8, cells := 1, slots := 6, locals := 123 } (dC, dI) vwCl [.ref tf, .int sg, .ref ou] [(tf, .inr (7, [.ref hf, .ref hq, .ref hs, .ref hd, .ref hp, .ref hc, .long ln])), (hs, .inr (1, [.ref rs, .int (nI n), .int (nI us)])), (rs, .inl (cR, 16, .inr (.inr (.inr (.inr fR))))), (ou, .inl (cO, 1, .inr (.inl go)))] [(cR, .object "TextForge$Argument"), (cO, .long)] (fun (r : Int32) (u : Unit) => r = 1) (fun u => [(tf, .inr (7, [.ref hf, .ref hq, .ref hs, .ref hd, .ref hp, .ref hc, .long ln])), (hs, .inr (1, [.ref rs, .int (nI n), .int (nI us)])), (rs, .inl (cR, 16, .inr (.inr (.inr (.inr fR))))), (ou, .inl (cO, 1, .inr (.inl go)))]) (fun u => [(cR, .object "TextForge$Argument"), (cO, .long)]) 1 6 := by
  refine zw_enteri (hh := [(0, 9, 12, 13)]) (cc := method_4_code) (nL := 4) (ret := (some .int)) (by decide) rfl (Nat.le_of_ble_eq_true rfl) ?_
  intro p e s m below meth c A ls C0 htab hA hS hP hK hD hl hX
  obtain ⟨hx, hb, hml, hown, hg, hr, hlocks, hin⟩ := C0
  have hown : s.vm.findClass "TextForgeLaw" = some m.cls := hown
  have hP : va_P (dC, dI) vwCl [(tf, .inr (7, [.ref hf, .ref hq, .ref hs, .ref hd, .ref hp, .ref hc, .long ln])), (hs, .inr (1, [.ref rs, .int (nI n), .int (nI us)])), (rs, .inl (cR, 16, .inr (.inr (.inr (.inr fR))))), (ou, .inl (cO, 1, .inr (.inl go)))] s.heap := hP
  have hK : va_K (dC, dI) vwCl [(cR, .object "TextForge$Argument"), (cO, .long)] s := hK
  have hD : va_D A [(tf, .inr (7, [.ref hf, .ref hq, .ref hs, .ref hd, .ref hp, .ref hc, .long ln])), (hs, .inr (1, [.ref rs, .int (nI n), .int (nI us)])), (rs, .inl (cR, 16, .inr (.inr (.inr (.inr fR))))), (ou, .inl (cO, 1, .inr (.inl go)))] := hD
  have hl : lv_has ls 4 [(0, .ref tf), (1, .int sg), (2, .ref ou)] := hl
  refine lv_aload_n hx hb d_La_truth_0 rfl (lv_at hl 2 rfl) ?_
  refine lv_iconst (v := 0) hx hb d_La_truth_1 (by decide) ?_
  refine lv_aload_n hx hb d_La_truth_2 rfl (lv_at hl 0 rfl) ?_
  refine lv_iload_n hx hb d_La_truth_3 rfl (lv_at hl 1 rfl) ?_
  have hPc := hP.sub (ws' := [(tf, .inr (7, [.ref hf, .ref hq, .ref hs, .ref hd, .ref hp, .ref hc, .long ln])), (hs, .inr (1, [.ref rs, .int (nI n), .int (nI us)])), (rs, .inl (cR, 16, .inr (.inr (.inr (.inr fR)))))]) [0, 1, 2] rfl
  have hKc := hK.sub (tys' := [(cR, .object "TextForge$Argument")]) [0] rfl
  refine tx_catch1 (As := [.int sg]) (rest := [.int 0, .ref ou]) ⟨hx, hb, hml, hown, hg⟩ (c_Tf_truthT l dC dI ad tf hf hq hs hd hp hc ln rs cR fR n us sg hnt hnn hus) (cwV 1 hg (gi_V kw_618 kw_619 kw_620 kw_1 kw_621) rfl rfl rfl (by decide +kernel) ⟨Nat.le_of_ble_eq_true rfl, Nat.le_of_ble_eq_true rfl⟩) (zy_prJ2 hX hS hP hK hPc hKc _ (q0 := 0) (ci := 7) rfl rfl) rfl hl.1 rfl (Nat.le_of_ble_eq_true rfl) d_La_truth_4 ⟨(Nat.le_of_ble_eq_true rfl), (Nat.le_of_ble_eq_true rfl)⟩ htab ⟨by decide, by decide⟩ (by decide) (hg _ kw_515) (hX.2.2.2.2.2.1 _ (List.mem_of_getElem? (i := 6) rfl)) (fun x1 H hk1 hz1 => ?_)
  have hP := tw_P hP hk1
  have hS := tw_S hS hk1 hz1
  have hP : va_P (dC, dI) vwCl [(tf, .inr (7, [.ref hf, .ref hq, .ref hs, .ref hd, .ref hp, .ref hc, .long ln])), (hs, .inr (1, [.ref rs, .int (nI n), .int (nI us)])), (rs, .inl (cR, 16, .inr (.inr (.inr (.inr fR))))), (ou, .inl (cO, 1, .inr (.inl go)))] H := hP
  have hD : va_D A [(tf, .inr (7, [.ref hf, .ref hq, .ref hs, .ref hd, .ref hp, .ref hc, .long ln])), (hs, .inr (1, [.ref rs, .int (nI n), .int (nI us)])), (rs, .inl (cR, 16, .inr (.inr (.inr (.inr fR))))), (ou, .inl (cO, 1, .inr (.inl go)))] := hD
  refine lv_astore_n (lv' := [(3, .ref x1), (0, .ref tf), (1, .int sg), (2, .ref ou)]) hx hb d_La_truth_12 rfl hl (by decide) rfl (fun ls hl => ?_)
  refine lv_iconst (v := 1) hx hb d_La_truth_13 (by decide) ?_
  have hP9 := hP.sub (ws' := [(tf, .inr (7, [.ref hf, .ref hq, .ref hs, .ref hd, .ref hp, .ref hc, .long ln])), (hs, .inr (1, [.ref rs, .int (nI n), .int (nI us)])), (rs, .inl (cR, 16, .inr (.inr (.inr (.inr fR))))), (ou, .inl (cO, 1, .inr (.inl go)))]) [0, 1, 2, 3] rfl
  have hD9 := hD.sub (ws' := [(tf, .inr (7, [.ref hf, .ref hq, .ref hs, .ref hd, .ref hp, .ref hc, .long ln])), (hs, .inr (1, [.ref rs, .int (nI n), .int (nI us)])), (rs, .inl (cR, 16, .inr (.inr (.inr (.inr fR))))), (ou, .inl (cO, 1, .inr (.inl go)))]) [0, 1, 2, 3] (by decide) rfl
  have hK9 := hK.sub (tys' := [(cR, .object "TextForge$Argument"), (cO, .long)]) [0, 1] rfl
  exact zz_iret hx hb hr hlocks d_La_truth_14 hS (by first | exact Nat.le_refl _ | decide | omega | (dsimp only; omega)) (by first | exact Nat.le_refl _ | decide | omega | (dsimp only; omega)) () rfl hP9 hK9 hD9
abbrev y_La_text : MethodName := ⟨"TextForgeLaw", "text", "(LTextForge;[J)I"⟩
abbrev w_La_text : List Cond := Cond.codeWith y_La_text method_5_code 3 (some .int) [(0, 8, 11, 13)] :: gw
theorem d_La_text_0 : decode method_5_code 0 = .ok (.aload_n 1, 1) := by decide +kernel
theorem d_La_text_1 : decode method_5_code 1 = .ok (.iconst 0, 1) := by decide +kernel
theorem d_La_text_2 : decode method_5_code 2 = .ok (.aload_n 0, 1) := by decide +kernel
theorem d_La_text_3 : decode method_5_code 3 = .ok (.invokevirtual 19, 3) := by decide +kernel
theorem d_La_text_6 : decode method_5_code 6 = .ok (.i2l, 1) := by decide +kernel
theorem d_La_text_7 : decode method_5_code 7 = .ok (.lastore, 1) := by decide +kernel
theorem d_La_text_8 : decode method_5_code 8 = .ok (.goto 6, 3) := by decide +kernel
theorem d_La_text_11 : decode method_5_code 11 = .ok (.astore_n 2, 1) := by decide +kernel
theorem d_La_text_12 : decode method_5_code 12 = .ok (.iconst 1, 1) := by decide +kernel
theorem d_La_text_13 : decode method_5_code 13 = .ok (.ireturn, 1) := by decide +kernel
theorem d_La_text_14 : decode method_5_code 14 = .ok (.iconst 0, 1) := by decide +kernel
theorem d_La_text_15 : decode method_5_code 15 = .ok (.ireturn, 1) := by decide +kernel
set_option maxHeartbeats 4000000 in
set_option maxRecDepth 100000 in
theorem c_La_text (l : Launch) (dC : Nat → ClassId) (dI : Nat → Nat → Nat) (ad : Nat → Nat) (tf hf hq hs hd hp hc : Nat) (ln : Int64) (rs : Nat) (cR : ClassId) (fR : Nat → Option Nat) (us : Nat) (cB : ClassId) (AL : List Ag) (rf : Nat) (ff : Nat → Int32) (F : List Nat) (ou : Nat) (cO : ClassId) (go : Nat → Int64) (hnn : AL.length < 16) (hus : us < 1000000) (hLf : by_L F ff) (hcf : F.length ≤ 4096) : yM_i (S := Nat × Nat × Nat × (Nat → Int32)) ad l y_La_text w_La_text { frames := 4, cells := 3, slots := (5 + F.length), locals := 87 } (dC, dI) vwCl [.ref tf, .ref ou] ([(tf, .inr (7, [.ref hf, .ref hq, .ref hs, .ref hd, .ref hp, .ref hc, .long ln])), (hs, .inr (1, [.ref rs, .int (nI AL.length), .int (nI us)])), (rs, .inl (cR, 16, .inr (.inr (.inr (.inr fR))))), (hf, .inr (2, [.ref rf, .int (nI F.length)])), (rf, .inl (cB, 4096, .inl ff)), (ou, .inl (cO, 1, .inr (.inl go)))] ++ (ag_W cB AL)) [(cR, .object "TextForge$Argument"), (cB, .byte), (cO, .long)] (fun (r : Int32) (u : Nat × Nat × Nat × (Nat → Int32)) => match u with | (a0, b0, r0, f0) => r = 0 ∧ by_L F f0) (fun u => match u with | (a0, b0, r0, f0) => ([(tf, .inr (7, [.ref hf, .ref hq, .ref hs, .ref hd, .ref hp, .ref hc, .long ln])), (hs, .inr (1, [.ref rs, .int (nI (AL.length + 1)), .int (nI us)])), (rs, .inl (cR, 16, .inr (.inr (.inr (.inr (va_up fR AL.length (some a0))))))), (hf, .inr (2, [.ref rf, .int (nI (List.take 0 F).length)])), (rf, .inl (cB, 4096, .inl ff)), (ou, .inl (cO, 1, .inr (.inl (vp_updL go (0 : Int32).toNatClampNeg ((nI (AL.length + 1)).toInt64)))))] ++ (ag_W cB (AL ++ [(a0, 3, 0, b0, r0, f0, F)])))) (fun u => match u with | (a0, b0, r0, f0) => [(cR, .object "TextForge$Argument"), (cB, .byte), (cO, .long)]) 3 (5 + F.length) := by
  refine zw_enteri (hh := [(0, 8, 11, 13)]) (cc := method_5_code) (nL := 3) (ret := (some .int)) (by decide) rfl (Nat.le_of_ble_eq_true rfl) ?_
  intro p e s m below meth c A ls C0 htab hA hS hP hK hD hl hX
  obtain ⟨hx, hb, hml, hown, hg, hr, hlocks, hin⟩ := C0
  have hown : s.vm.findClass "TextForgeLaw" = some m.cls := hown
  have hP : va_P (dC, dI) vwCl ([(tf, .inr (7, [.ref hf, .ref hq, .ref hs, .ref hd, .ref hp, .ref hc, .long ln])), (hs, .inr (1, [.ref rs, .int (nI AL.length), .int (nI us)])), (rs, .inl (cR, 16, .inr (.inr (.inr (.inr fR))))), (hf, .inr (2, [.ref rf, .int (nI F.length)])), (rf, .inl (cB, 4096, .inl ff)), (ou, .inl (cO, 1, .inr (.inl go)))] ++ (ag_W cB AL)) s.heap := hP
  have hK : va_K (dC, dI) vwCl [(cR, .object "TextForge$Argument"), (cB, .byte), (cO, .long)] s := hK
  have hD : va_D A ([(tf, .inr (7, [.ref hf, .ref hq, .ref hs, .ref hd, .ref hp, .ref hc, .long ln])), (hs, .inr (1, [.ref rs, .int (nI AL.length), .int (nI us)])), (rs, .inl (cR, 16, .inr (.inr (.inr (.inr fR))))), (hf, .inr (2, [.ref rf, .int (nI F.length)])), (rf, .inl (cB, 4096, .inl ff)), (ou, .inl (cO, 1, .inr (.inl go)))] ++ (ag_W cB AL)) := hD
  have hl : lv_has ls 3 [(0, .ref tf), (1, .ref ou)] := hl
  refine lv_aload_n hx hb d_La_text_0 rfl (lv_at hl 1 rfl) ?_
  refine lv_iconst (v := 0) hx hb d_La_text_1 (by decide) ?_
  refine lv_aload_n hx hb d_La_text_2 rfl (lv_at hl 0 rfl) ?_
  have hPc := hP.part (cx := [(tf, .inr (7, [.ref hf, .ref hq, .ref hs, .ref hd, .ref hp, .ref hc, .long ln])), (hs, .inr (1, [.ref rs, .int (nI AL.length), .int (nI us)])), (rs, .inl (cR, 16, .inr (.inr (.inr (.inr fR))))), (hf, .inr (2, [.ref rf, .int (nI F.length)])), (rf, .inl (cB, 4096, .inl ff))]) [0, 1, 2, 3, 4] rfl
  have hKc := hK.sub (tys' := [(cR, .object "TextForge$Argument"), (cB, .byte)]) [0, 1] rfl
  have hDc := hD.part (cx := [(tf, .inr (7, [.ref hf, .ref hq, .ref hs, .ref hd, .ref hp, .ref hc, .long ln])), (hs, .inr (1, [.ref rs, .int (nI AL.length), .int (nI us)])), (rs, .inl (cR, 16, .inr (.inr (.inr (.inr fR))))), (hf, .inr (2, [.ref rf, .int (nI F.length)])), (rf, .inl (cB, 4096, .inl ff))]) [0, 1, 2, 3, 4] (by decide) rfl
  have hFc := va_freeP (cx := [(tf, .inr (7, [.ref hf, .ref hq, .ref hs, .ref hd, .ref hp, .ref hc, .long ln])), (hs, .inr (1, [.ref rs, .int (nI AL.length), .int (nI us)])), (rs, .inl (cR, 16, .inr (.inr (.inr (.inr fR))))), (hf, .inr (2, [.ref rf, .int (nI F.length)])), (rf, .inl (cB, 4096, .inl ff))]) hD hS hA [0, 1, 2, 3, 4] rfl
  refine zz_calli (va_runV (As := []) (rest := [.int 0, .ref ou]) ⟨hx, hb, hml, hown, hg⟩ (c_Tf_text l dC dI tf hf hq hs hd hp hc ln rs cR fR us cB AL rf ff F hnn hus hLf hcf s.heap.size) (cwV 0 hg (gi_V kw_625 kw_626 kw_627 kw_1 kw_628) rfl rfl rfl (by decide +kernel) ⟨Nat.le_of_ble_eq_true rfl, Nat.le_of_ble_eq_true rfl⟩) (zz_preV hPc hKc hDc _ (q0 := 0) (ci := 7) rfl rfl) rfl rfl hl.1 rfl (lv_room (Nat.le_of_ble_eq_true rfl)) d_La_text_3 ⟨Nat.le_of_ble_eq_true rfl, (by show 0 + (5 + F.length) ≤ 5 + F.length; omega)⟩) hS hFc (fun u H1 k9 p9 d9 => va_joinP (wr := [(ou, .inl (cO, 1, .inr (.inl go)))]) hP hD [0, 1, 2, 3, 4] [5] rfl rfl (by decide) (by decide) k9 hFc p9 d9) (fun r_1 u H locs hw hP hD hK1 hS => ?_)
  obtain ⟨a0, b0, r0, f0⟩ := u
  try dsimp only at hw
  have hP : va_P (dC, dI) vwCl ([(ou, .inl (cO, 1, .inr (.inl go))), (tf, .inr (7, [.ref hf, .ref hq, .ref hs, .ref hd, .ref hp, .ref hc, .long ln])), (hs, .inr (1, [.ref rs, .int (nI (AL.length + 1)), .int (nI us)])), (rs, .inl (cR, 16, .inr (.inr (.inr (.inr (va_up fR AL.length (some a0))))))), (hf, .inr (2, [.ref rf, .int (nI (List.take 0 F).length)])), (rf, .inl (cB, 4096, .inl ff))] ++ (ag_W cB (AL ++ [(a0, 3, 0, b0, r0, f0, F)]))) H := hP
  have hD : va_D A ([(ou, .inl (cO, 1, .inr (.inl go))), (tf, .inr (7, [.ref hf, .ref hq, .ref hs, .ref hd, .ref hp, .ref hc, .long ln])), (hs, .inr (1, [.ref rs, .int (nI (AL.length + 1)), .int (nI us)])), (rs, .inl (cR, 16, .inr (.inr (.inr (.inr (va_up fR AL.length (some a0))))))), (hf, .inr (2, [.ref rf, .int (nI (List.take 0 F).length)])), (rf, .inl (cB, 4096, .inl ff))] ++ (ag_W cB (AL ++ [(a0, 3, 0, b0, r0, f0, F)]))) := hD
  have hwr := hw
  have hw2 := hwr.2
  have hwr := hwr.1
  rw [hwr]
  refine lv_i2l hx hb d_La_text_6 rfl ?_
  refine va_last hx hb hK hP hD hS 0 2 rfl rfl (show vp_in (nI 0) 1 from vp_in_nI (by decide) (by decide)) d_La_text_7 (fun H locs hP hD hS => ?_)
  have hP : va_P (dC, dI) vwCl ([(ou, .inl (cO, 1, .inr (.inl (vp_updL go (0 : Int32).toNatClampNeg ((nI (AL.length + 1)).toInt64))))), (tf, .inr (7, [.ref hf, .ref hq, .ref hs, .ref hd, .ref hp, .ref hc, .long ln])), (hs, .inr (1, [.ref rs, .int (nI (AL.length + 1)), .int (nI us)])), (rs, .inl (cR, 16, .inr (.inr (.inr (.inr (va_up fR AL.length (some a0))))))), (hf, .inr (2, [.ref rf, .int (nI (List.take 0 F).length)])), (rf, .inl (cB, 4096, .inl ff))] ++ (ag_W cB (AL ++ [(a0, 3, 0, b0, r0, f0, F)]))) H := hP
  have hD : va_D A ([(ou, .inl (cO, 1, .inr (.inl (vp_updL go (0 : Int32).toNatClampNeg ((nI (AL.length + 1)).toInt64))))), (tf, .inr (7, [.ref hf, .ref hq, .ref hs, .ref hd, .ref hp, .ref hc, .long ln])), (hs, .inr (1, [.ref rs, .int (nI (AL.length + 1)), .int (nI us)])), (rs, .inl (cR, 16, .inr (.inr (.inr (.inr (va_up fR AL.length (some a0))))))), (hf, .inr (2, [.ref rf, .int (nI (List.take 0 F).length)])), (rf, .inl (cB, 4096, .inl ff))] ++ (ag_W cB (AL ++ [(a0, 3, 0, b0, r0, f0, F)]))) := hD
  refine lv_goto (tgt := 14) hx hb d_La_text_8 (by decide) ?_
  refine lv_iconst (v := 0) hx hb d_La_text_14 (by decide) ?_
  have hP9 := hP.part (cx := [(tf, .inr (7, [.ref hf, .ref hq, .ref hs, .ref hd, .ref hp, .ref hc, .long ln])), (hs, .inr (1, [.ref rs, .int (nI (AL.length + 1)), .int (nI us)])), (rs, .inl (cR, 16, .inr (.inr (.inr (.inr (va_up fR AL.length (some a0))))))), (hf, .inr (2, [.ref rf, .int (nI (List.take 0 F).length)])), (rf, .inl (cB, 4096, .inl ff)), (ou, .inl (cO, 1, .inr (.inl (vp_updL go (0 : Int32).toNatClampNeg ((nI (AL.length + 1)).toInt64)))))]) [1, 2, 3, 4, 5, 0] rfl
  have hD9 := hD.part (cx := [(tf, .inr (7, [.ref hf, .ref hq, .ref hs, .ref hd, .ref hp, .ref hc, .long ln])), (hs, .inr (1, [.ref rs, .int (nI (AL.length + 1)), .int (nI us)])), (rs, .inl (cR, 16, .inr (.inr (.inr (.inr (va_up fR AL.length (some a0))))))), (hf, .inr (2, [.ref rf, .int (nI (List.take 0 F).length)])), (rf, .inl (cB, 4096, .inl ff)), (ou, .inl (cO, 1, .inr (.inl (vp_updL go (0 : Int32).toNatClampNeg ((nI (AL.length + 1)).toInt64)))))]) [1, 2, 3, 4, 5, 0] (by decide) rfl
  have hK9 := hK.sub (tys' := [(cR, .object "TextForge$Argument"), (cB, .byte), (cO, .long)]) [0, 1, 2] rfl
  exact zz_iret hx hb hr hlocks d_La_text_15 hS (by first | exact Nat.le_refl _ | decide | omega | (dsimp only; omega)) (by first | exact Nat.le_refl _ | decide | omega | (dsimp only; omega)) (a0, b0, r0, f0) ⟨rfl, hw2⟩ hP9 hK9 hD9
set_option maxHeartbeats 4000000 in
set_option maxRecDepth 100000 in
theorem c_La_textT (l : Launch) (dC : Nat → ClassId) (dI : Nat → Nat → Nat) (ad : Nat → Nat) (tf hf hq hs hd hp hc : Nat) (ln : Int64) (rs : Nat) (cR : ClassId) (fR : Nat → Option Nat) (n us : Nat) (ou : Nat) (cO : ClassId) (go : Nat → Int64) (hnt : l.flags = pinnedFlags ++ [noTraceFlag]) (hnn : n = 16) (hus : us < 1000000) : yM_i (S := Unit) ad l y_La_text w_La_text { frames := 8, cells := 1, slots := 6, locals := 123 } (dC, dI) vwCl [.ref tf, .ref ou] [(tf, .inr (7, [.ref hf, .ref hq, .ref hs, .ref hd, .ref hp, .ref hc, .long ln])), (hs, .inr (1, [.ref rs, .int (nI n), .int (nI us)])), (rs, .inl (cR, 16, .inr (.inr (.inr (.inr fR))))), (ou, .inl (cO, 1, .inr (.inl go)))] [(cR, .object "TextForge$Argument"), (cO, .long)] (fun (r : Int32) (u : Unit) => r = 1) (fun u => [(tf, .inr (7, [.ref hf, .ref hq, .ref hs, .ref hd, .ref hp, .ref hc, .long ln])), (hs, .inr (1, [.ref rs, .int (nI n), .int (nI us)])), (rs, .inl (cR, 16, .inr (.inr (.inr (.inr fR))))), (ou, .inl (cO, 1, .inr (.inl go)))]) (fun u => [(cR, .object "TextForge$Argument"), (cO, .long)]) 1 6 := by
  refine zw_enteri (hh := [(0, 8, 11, 13)]) (cc := method_5_code) (nL := 3) (ret := (some .int)) (by decide) rfl (Nat.le_of_ble_eq_true rfl) ?_
  intro p e s m below meth c A ls C0 htab hA hS hP hK hD hl hX
  obtain ⟨hx, hb, hml, hown, hg, hr, hlocks, hin⟩ := C0
  have hown : s.vm.findClass "TextForgeLaw" = some m.cls := hown
  have hP : va_P (dC, dI) vwCl [(tf, .inr (7, [.ref hf, .ref hq, .ref hs, .ref hd, .ref hp, .ref hc, .long ln])), (hs, .inr (1, [.ref rs, .int (nI n), .int (nI us)])), (rs, .inl (cR, 16, .inr (.inr (.inr (.inr fR))))), (ou, .inl (cO, 1, .inr (.inl go)))] s.heap := hP
  have hK : va_K (dC, dI) vwCl [(cR, .object "TextForge$Argument"), (cO, .long)] s := hK
  have hD : va_D A [(tf, .inr (7, [.ref hf, .ref hq, .ref hs, .ref hd, .ref hp, .ref hc, .long ln])), (hs, .inr (1, [.ref rs, .int (nI n), .int (nI us)])), (rs, .inl (cR, 16, .inr (.inr (.inr (.inr fR))))), (ou, .inl (cO, 1, .inr (.inl go)))] := hD
  have hl : lv_has ls 3 [(0, .ref tf), (1, .ref ou)] := hl
  refine lv_aload_n hx hb d_La_text_0 rfl (lv_at hl 1 rfl) ?_
  refine lv_iconst (v := 0) hx hb d_La_text_1 (by decide) ?_
  refine lv_aload_n hx hb d_La_text_2 rfl (lv_at hl 0 rfl) ?_
  have hPc := hP.sub (ws' := [(tf, .inr (7, [.ref hf, .ref hq, .ref hs, .ref hd, .ref hp, .ref hc, .long ln])), (hs, .inr (1, [.ref rs, .int (nI n), .int (nI us)])), (rs, .inl (cR, 16, .inr (.inr (.inr (.inr fR)))))]) [0, 1, 2] rfl
  have hKc := hK.sub (tys' := [(cR, .object "TextForge$Argument")]) [0] rfl
  refine tx_catch1 (As := []) (rest := [.int 0, .ref ou]) ⟨hx, hb, hml, hown, hg⟩ (c_Tf_textT l dC dI ad tf hf hq hs hd hp hc ln rs cR fR n us hnt hnn hus) (cwV 0 hg (gi_V kw_625 kw_626 kw_627 kw_1 kw_628) rfl rfl rfl (by decide +kernel) ⟨Nat.le_of_ble_eq_true rfl, Nat.le_of_ble_eq_true rfl⟩) (zy_prJ2 hX hS hP hK hPc hKc _ (q0 := 0) (ci := 7) rfl rfl) rfl hl.1 rfl (Nat.le_of_ble_eq_true rfl) d_La_text_3 ⟨(Nat.le_of_ble_eq_true rfl), (Nat.le_of_ble_eq_true rfl)⟩ htab ⟨by decide, by decide⟩ (by decide) (hg _ kw_515) (hX.2.2.2.2.2.1 _ (List.mem_of_getElem? (i := 6) rfl)) (fun x1 H hk1 hz1 => ?_)
  have hP := tw_P hP hk1
  have hS := tw_S hS hk1 hz1
  have hP : va_P (dC, dI) vwCl [(tf, .inr (7, [.ref hf, .ref hq, .ref hs, .ref hd, .ref hp, .ref hc, .long ln])), (hs, .inr (1, [.ref rs, .int (nI n), .int (nI us)])), (rs, .inl (cR, 16, .inr (.inr (.inr (.inr fR))))), (ou, .inl (cO, 1, .inr (.inl go)))] H := hP
  have hD : va_D A [(tf, .inr (7, [.ref hf, .ref hq, .ref hs, .ref hd, .ref hp, .ref hc, .long ln])), (hs, .inr (1, [.ref rs, .int (nI n), .int (nI us)])), (rs, .inl (cR, 16, .inr (.inr (.inr (.inr fR))))), (ou, .inl (cO, 1, .inr (.inl go)))] := hD
  refine lv_astore_n (lv' := [(2, .ref x1), (0, .ref tf), (1, .ref ou)]) hx hb d_La_text_11 rfl hl (by decide) rfl (fun ls hl => ?_)
  refine lv_iconst (v := 1) hx hb d_La_text_12 (by decide) ?_
  have hP9 := hP.sub (ws' := [(tf, .inr (7, [.ref hf, .ref hq, .ref hs, .ref hd, .ref hp, .ref hc, .long ln])), (hs, .inr (1, [.ref rs, .int (nI n), .int (nI us)])), (rs, .inl (cR, 16, .inr (.inr (.inr (.inr fR))))), (ou, .inl (cO, 1, .inr (.inl go)))]) [0, 1, 2, 3] rfl
  have hD9 := hD.sub (ws' := [(tf, .inr (7, [.ref hf, .ref hq, .ref hs, .ref hd, .ref hp, .ref hc, .long ln])), (hs, .inr (1, [.ref rs, .int (nI n), .int (nI us)])), (rs, .inl (cR, 16, .inr (.inr (.inr (.inr fR))))), (ou, .inl (cO, 1, .inr (.inl go)))]) [0, 1, 2, 3] (by decide) rfl
  have hK9 := hK.sub (tys' := [(cR, .object "TextForge$Argument"), (cO, .long)]) [0, 1] rfl
  exact zz_iret hx hb hr hlocks d_La_text_13 hS (by first | exact Nat.le_refl _ | decide | omega | (dsimp only; omega)) (by first | exact Nat.le_refl _ | decide | omega | (dsimp only; omega)) () rfl hP9 hK9 hD9
abbrev y_La_thing : MethodName := ⟨"TextForgeLaw", "thing", "(LTextForge;I[J)I"⟩
abbrev w_La_thing : List Cond := Cond.codeWith y_La_thing method_6_code 4 (some .int) [(0, 9, 12, 27), (0, 9, 15, 13)] :: gw
theorem d_La_thing_0 : decode method_6_code 0 = .ok (.aload_n 2, 1) := by decide +kernel
theorem d_La_thing_1 : decode method_6_code 1 = .ok (.iconst 0, 1) := by decide +kernel
theorem d_La_thing_2 : decode method_6_code 2 = .ok (.aload_n 0, 1) := by decide +kernel
theorem d_La_thing_3 : decode method_6_code 3 = .ok (.iload_n 1, 1) := by decide +kernel
theorem d_La_thing_4 : decode method_6_code 4 = .ok (.invokevirtual 23, 3) := by decide +kernel
theorem d_La_thing_7 : decode method_6_code 7 = .ok (.i2l, 1) := by decide +kernel
theorem d_La_thing_8 : decode method_6_code 8 = .ok (.lastore, 1) := by decide +kernel
theorem d_La_thing_9 : decode method_6_code 9 = .ok (.goto 9, 3) := by decide +kernel
theorem d_La_thing_12 : decode method_6_code 12 = .ok (.astore_n 3, 1) := by decide +kernel
theorem d_La_thing_13 : decode method_6_code 13 = .ok (.iconst 1, 1) := by decide +kernel
theorem d_La_thing_14 : decode method_6_code 14 = .ok (.ireturn, 1) := by decide +kernel
theorem d_La_thing_15 : decode method_6_code 15 = .ok (.astore_n 3, 1) := by decide +kernel
theorem d_La_thing_16 : decode method_6_code 16 = .ok (.iconst 2, 1) := by decide +kernel
theorem d_La_thing_17 : decode method_6_code 17 = .ok (.ireturn, 1) := by decide +kernel
theorem d_La_thing_18 : decode method_6_code 18 = .ok (.iconst 0, 1) := by decide +kernel
theorem d_La_thing_19 : decode method_6_code 19 = .ok (.ireturn, 1) := by decide +kernel
set_option maxHeartbeats 4000000 in
set_option maxRecDepth 100000 in
theorem c_La_thing (l : Launch) (dC : Nat → ClassId) (dI : Nat → Nat → Nat) (ad : Nat → Nat) (tf hf hq hs hd hp hc : Nat) (ln : Int64) (rs : Nat) (cR : ClassId) (fR : Nat → Option Nat) (us : Nat) (cB : ClassId) (AL : List Ag) (v : Int32) (ou : Nat) (cO : ClassId) (go : Nat → Int64) (hnn : AL.length < 16) (hus : us < 1000000) (hv1 : ¬ v < -1) (hv2 : v ≤ 8) : yM_i (S := Nat) ad l y_La_thing w_La_thing { frames := 3, cells := 1, slots := 3, locals := 61 } (dC, dI) vwCl [.ref tf, .int v, .ref ou] ([(tf, .inr (7, [.ref hf, .ref hq, .ref hs, .ref hd, .ref hp, .ref hc, .long ln])), (hs, .inr (1, [.ref rs, .int (nI AL.length), .int (nI us)])), (rs, .inl (cR, 16, .inr (.inr (.inr (.inr fR))))), (ou, .inl (cO, 1, .inr (.inl go)))] ++ (ag_W cB AL)) [(cR, .object "TextForge$Argument"), (cO, .long)] (fun (r : Int32) (u : Nat) => r = 0) (fun u => ([(tf, .inr (7, [.ref hf, .ref hq, .ref hs, .ref hd, .ref hp, .ref hc, .long ln])), (hs, .inr (1, [.ref rs, .int (nI (AL.length + 1)), .int (nI us)])), (rs, .inl (cR, 16, .inr (.inr (.inr (.inr (va_up fR AL.length (some u))))))), (ou, .inl (cO, 1, .inr (.inl (vp_updL go (0 : Int32).toNatClampNeg ((nI (AL.length + 1)).toInt64)))))] ++ (ag_W cB (AL ++ [(u, 4, v.toInt64, 0, 0, (fun _ => 0), [])])))) (fun u => [(cR, .object "TextForge$Argument"), (cO, .long)]) 1 3 := by
  refine zw_enteri (hh := [(0, 9, 12, 27), (0, 9, 15, 13)]) (cc := method_6_code) (nL := 4) (ret := (some .int)) (by decide) rfl (Nat.le_of_ble_eq_true rfl) ?_
  intro p e s m below meth c A ls C0 htab hA hS hP hK hD hl hX
  obtain ⟨hx, hb, hml, hown, hg, hr, hlocks, hin⟩ := C0
  have hown : s.vm.findClass "TextForgeLaw" = some m.cls := hown
  have hP : va_P (dC, dI) vwCl ([(tf, .inr (7, [.ref hf, .ref hq, .ref hs, .ref hd, .ref hp, .ref hc, .long ln])), (hs, .inr (1, [.ref rs, .int (nI AL.length), .int (nI us)])), (rs, .inl (cR, 16, .inr (.inr (.inr (.inr fR))))), (ou, .inl (cO, 1, .inr (.inl go)))] ++ (ag_W cB AL)) s.heap := hP
  have hK : va_K (dC, dI) vwCl [(cR, .object "TextForge$Argument"), (cO, .long)] s := hK
  have hD : va_D A ([(tf, .inr (7, [.ref hf, .ref hq, .ref hs, .ref hd, .ref hp, .ref hc, .long ln])), (hs, .inr (1, [.ref rs, .int (nI AL.length), .int (nI us)])), (rs, .inl (cR, 16, .inr (.inr (.inr (.inr fR))))), (ou, .inl (cO, 1, .inr (.inl go)))] ++ (ag_W cB AL)) := hD
  have hl : lv_has ls 4 [(0, .ref tf), (1, .int v), (2, .ref ou)] := hl
  refine lv_aload_n hx hb d_La_thing_0 rfl (lv_at hl 2 rfl) ?_
  refine lv_iconst (v := 0) hx hb d_La_thing_1 (by decide) ?_
  refine lv_aload_n hx hb d_La_thing_2 rfl (lv_at hl 0 rfl) ?_
  refine lv_iload_n hx hb d_La_thing_3 rfl (lv_at hl 1 rfl) ?_
  have hPc := hP.part (cx := [(tf, .inr (7, [.ref hf, .ref hq, .ref hs, .ref hd, .ref hp, .ref hc, .long ln])), (hs, .inr (1, [.ref rs, .int (nI AL.length), .int (nI us)])), (rs, .inl (cR, 16, .inr (.inr (.inr (.inr fR)))))]) [0, 1, 2] rfl
  have hKc := hK.sub (tys' := [(cR, .object "TextForge$Argument")]) [0] rfl
  have hDc := hD.part (cx := [(tf, .inr (7, [.ref hf, .ref hq, .ref hs, .ref hd, .ref hp, .ref hc, .long ln])), (hs, .inr (1, [.ref rs, .int (nI AL.length), .int (nI us)])), (rs, .inl (cR, 16, .inr (.inr (.inr (.inr fR)))))]) [0, 1, 2] (by decide) rfl
  have hFc := va_freeP (cx := [(tf, .inr (7, [.ref hf, .ref hq, .ref hs, .ref hd, .ref hp, .ref hc, .long ln])), (hs, .inr (1, [.ref rs, .int (nI AL.length), .int (nI us)])), (rs, .inl (cR, 16, .inr (.inr (.inr (.inr fR)))))]) hD hS hA [0, 1, 2] rfl
  refine zz_calli (va_runV (As := [.int v]) (rest := [.int 0, .ref ou]) ⟨hx, hb, hml, hown, hg⟩ (c_Tf_thing l dC dI tf hf hq hs hd hp hc ln rs cR fR us cB AL v hnn hus hv1 hv2 s.heap.size) (cwV 1 hg (gi_V kw_640 kw_641 kw_642 kw_1 kw_643) rfl rfl rfl (by decide +kernel) ⟨Nat.le_of_ble_eq_true rfl, Nat.le_of_ble_eq_true rfl⟩) (zz_preV hPc hKc hDc _ (q0 := 0) (ci := 7) rfl rfl) rfl rfl hl.1 rfl (lv_room (Nat.le_of_ble_eq_true rfl)) d_La_thing_4 ⟨Nat.le_of_ble_eq_true rfl, Nat.le_of_ble_eq_true rfl⟩) hS hFc (fun u H1 k9 p9 d9 => va_joinP (wr := [(ou, .inl (cO, 1, .inr (.inl go)))]) hP hD [0, 1, 2] [3] rfl rfl (by decide) (by decide) k9 hFc p9 d9) (fun r_1 u H locs hw hP hD hK1 hS => ?_)
  obtain ⟨a0, rfl⟩ : ∃ z, z = u := ⟨_, rfl⟩
  try dsimp only at hw
  have hP : va_P (dC, dI) vwCl ([(ou, .inl (cO, 1, .inr (.inl go))), (tf, .inr (7, [.ref hf, .ref hq, .ref hs, .ref hd, .ref hp, .ref hc, .long ln])), (hs, .inr (1, [.ref rs, .int (nI (AL.length + 1)), .int (nI us)])), (rs, .inl (cR, 16, .inr (.inr (.inr (.inr (va_up fR AL.length (some a0)))))))] ++ (ag_W cB (AL ++ [(a0, 4, v.toInt64, 0, 0, (fun _ => 0), [])]))) H := hP
  have hD : va_D A ([(ou, .inl (cO, 1, .inr (.inl go))), (tf, .inr (7, [.ref hf, .ref hq, .ref hs, .ref hd, .ref hp, .ref hc, .long ln])), (hs, .inr (1, [.ref rs, .int (nI (AL.length + 1)), .int (nI us)])), (rs, .inl (cR, 16, .inr (.inr (.inr (.inr (va_up fR AL.length (some a0)))))))] ++ (ag_W cB (AL ++ [(a0, 4, v.toInt64, 0, 0, (fun _ => 0), [])]))) := hD
  have hwr := hw
  rw [hwr]
  refine lv_i2l hx hb d_La_thing_7 rfl ?_
  refine va_last hx hb hK hP hD hS 0 1 rfl rfl (show vp_in (nI 0) 1 from vp_in_nI (by decide) (by decide)) d_La_thing_8 (fun H locs hP hD hS => ?_)
  have hP : va_P (dC, dI) vwCl ([(ou, .inl (cO, 1, .inr (.inl (vp_updL go (0 : Int32).toNatClampNeg ((nI (AL.length + 1)).toInt64))))), (tf, .inr (7, [.ref hf, .ref hq, .ref hs, .ref hd, .ref hp, .ref hc, .long ln])), (hs, .inr (1, [.ref rs, .int (nI (AL.length + 1)), .int (nI us)])), (rs, .inl (cR, 16, .inr (.inr (.inr (.inr (va_up fR AL.length (some a0)))))))] ++ (ag_W cB (AL ++ [(a0, 4, v.toInt64, 0, 0, (fun _ => 0), [])]))) H := hP
  have hD : va_D A ([(ou, .inl (cO, 1, .inr (.inl (vp_updL go (0 : Int32).toNatClampNeg ((nI (AL.length + 1)).toInt64))))), (tf, .inr (7, [.ref hf, .ref hq, .ref hs, .ref hd, .ref hp, .ref hc, .long ln])), (hs, .inr (1, [.ref rs, .int (nI (AL.length + 1)), .int (nI us)])), (rs, .inl (cR, 16, .inr (.inr (.inr (.inr (va_up fR AL.length (some a0)))))))] ++ (ag_W cB (AL ++ [(a0, 4, v.toInt64, 0, 0, (fun _ => 0), [])]))) := hD
  refine lv_goto (tgt := 18) hx hb d_La_thing_9 (by decide) ?_
  refine lv_iconst (v := 0) hx hb d_La_thing_18 (by decide) ?_
  have hP9 := hP.part (cx := [(tf, .inr (7, [.ref hf, .ref hq, .ref hs, .ref hd, .ref hp, .ref hc, .long ln])), (hs, .inr (1, [.ref rs, .int (nI (AL.length + 1)), .int (nI us)])), (rs, .inl (cR, 16, .inr (.inr (.inr (.inr (va_up fR AL.length (some a0))))))), (ou, .inl (cO, 1, .inr (.inl (vp_updL go (0 : Int32).toNatClampNeg ((nI (AL.length + 1)).toInt64)))))]) [1, 2, 3, 0] rfl
  have hD9 := hD.part (cx := [(tf, .inr (7, [.ref hf, .ref hq, .ref hs, .ref hd, .ref hp, .ref hc, .long ln])), (hs, .inr (1, [.ref rs, .int (nI (AL.length + 1)), .int (nI us)])), (rs, .inl (cR, 16, .inr (.inr (.inr (.inr (va_up fR AL.length (some a0))))))), (ou, .inl (cO, 1, .inr (.inl (vp_updL go (0 : Int32).toNatClampNeg ((nI (AL.length + 1)).toInt64)))))]) [1, 2, 3, 0] (by decide) rfl
  have hK9 := hK.sub (tys' := [(cR, .object "TextForge$Argument"), (cO, .long)]) [0, 1] rfl
  exact zz_iret hx hb hr hlocks d_La_thing_19 hS (by first | exact Nat.le_refl _ | decide | omega | (dsimp only; omega)) (by first | exact Nat.le_refl _ | decide | omega | (dsimp only; omega)) a0 rfl hP9 hK9 hD9
set_option maxHeartbeats 4000000 in
set_option maxRecDepth 100000 in
theorem c_La_thingT (l : Launch) (dC : Nat → ClassId) (dI : Nat → Nat → Nat) (ad : Nat → Nat) (tf hf hq hs hd hp hc : Nat) (ln : Int64) (rs : Nat) (cR : ClassId) (fR : Nat → Option Nat) (n us : Nat) (v : Int32) (ou : Nat) (cO : ClassId) (go : Nat → Int64) (hnt : l.flags = pinnedFlags ++ [noTraceFlag]) (hnn : n = 16) (hus : us < 1000000) (hv1 : ¬ v < -1) (hv2 : v ≤ 8) : yM_i (S := Unit) ad l y_La_thing w_La_thing { frames := 8, cells := 1, slots := 6, locals := 123 } (dC, dI) vwCl [.ref tf, .int v, .ref ou] [(tf, .inr (7, [.ref hf, .ref hq, .ref hs, .ref hd, .ref hp, .ref hc, .long ln])), (hs, .inr (1, [.ref rs, .int (nI n), .int (nI us)])), (rs, .inl (cR, 16, .inr (.inr (.inr (.inr fR))))), (ou, .inl (cO, 1, .inr (.inl go)))] [(cR, .object "TextForge$Argument"), (cO, .long)] (fun (r : Int32) (u : Unit) => r = 2) (fun u => [(tf, .inr (7, [.ref hf, .ref hq, .ref hs, .ref hd, .ref hp, .ref hc, .long ln])), (hs, .inr (1, [.ref rs, .int (nI n), .int (nI us)])), (rs, .inl (cR, 16, .inr (.inr (.inr (.inr fR))))), (ou, .inl (cO, 1, .inr (.inl go)))]) (fun u => [(cR, .object "TextForge$Argument"), (cO, .long)]) 1 6 := by
  refine zw_enteri (hh := [(0, 9, 12, 27), (0, 9, 15, 13)]) (cc := method_6_code) (nL := 4) (ret := (some .int)) (by decide) rfl (Nat.le_of_ble_eq_true rfl) ?_
  intro p e s m below meth c A ls C0 htab hA hS hP hK hD hl hX
  obtain ⟨hx, hb, hml, hown, hg, hr, hlocks, hin⟩ := C0
  have hown : s.vm.findClass "TextForgeLaw" = some m.cls := hown
  have hP : va_P (dC, dI) vwCl [(tf, .inr (7, [.ref hf, .ref hq, .ref hs, .ref hd, .ref hp, .ref hc, .long ln])), (hs, .inr (1, [.ref rs, .int (nI n), .int (nI us)])), (rs, .inl (cR, 16, .inr (.inr (.inr (.inr fR))))), (ou, .inl (cO, 1, .inr (.inl go)))] s.heap := hP
  have hK : va_K (dC, dI) vwCl [(cR, .object "TextForge$Argument"), (cO, .long)] s := hK
  have hD : va_D A [(tf, .inr (7, [.ref hf, .ref hq, .ref hs, .ref hd, .ref hp, .ref hc, .long ln])), (hs, .inr (1, [.ref rs, .int (nI n), .int (nI us)])), (rs, .inl (cR, 16, .inr (.inr (.inr (.inr fR))))), (ou, .inl (cO, 1, .inr (.inl go)))] := hD
  have hl : lv_has ls 4 [(0, .ref tf), (1, .int v), (2, .ref ou)] := hl
  refine lv_aload_n hx hb d_La_thing_0 rfl (lv_at hl 2 rfl) ?_
  refine lv_iconst (v := 0) hx hb d_La_thing_1 (by decide) ?_
  refine lv_aload_n hx hb d_La_thing_2 rfl (lv_at hl 0 rfl) ?_
  refine lv_iload_n hx hb d_La_thing_3 rfl (lv_at hl 1 rfl) ?_
  have hPc := hP.sub (ws' := [(tf, .inr (7, [.ref hf, .ref hq, .ref hs, .ref hd, .ref hp, .ref hc, .long ln])), (hs, .inr (1, [.ref rs, .int (nI n), .int (nI us)])), (rs, .inl (cR, 16, .inr (.inr (.inr (.inr fR)))))]) [0, 1, 2] rfl
  have hKc := hK.sub (tys' := [(cR, .object "TextForge$Argument")]) [0] rfl
  refine tx_catch2 (As := [.int v]) (rest := [.int 0, .ref ou]) ⟨hx, hb, hml, hown, hg⟩ (c_Tf_thingT l dC dI ad tf hf hq hs hd hp hc ln rs cR fR n us v hnt hnn hus hv1 hv2) (cwV 1 hg (gi_V kw_640 kw_641 kw_642 kw_1 kw_643) rfl rfl rfl (by decide +kernel) ⟨Nat.le_of_ble_eq_true rfl, Nat.le_of_ble_eq_true rfl⟩) (zy_prJ2 hX hS hP hK hPc hKc _ (q0 := 0) (ci := 7) rfl rfl) rfl hl.1 rfl (Nat.le_of_ble_eq_true rfl) d_La_thing_4 ⟨(Nat.le_of_ble_eq_true rfl), (Nat.le_of_ble_eq_true rfl)⟩ htab ⟨by decide, by decide⟩ ⟨by decide, by decide⟩ (by decide) (by decide) (hg _ kw_639) (hg _ kw_515) hX.2.2.2.2.2.2.2.2 (hX.2.2.2.2.2.1 _ (List.mem_of_getElem? (i := 6) rfl)) (fun x1 H hk1 hz1 => ?_)
  have hP := tw_P hP hk1
  have hS := tw_S hS hk1 hz1
  have hP : va_P (dC, dI) vwCl [(tf, .inr (7, [.ref hf, .ref hq, .ref hs, .ref hd, .ref hp, .ref hc, .long ln])), (hs, .inr (1, [.ref rs, .int (nI n), .int (nI us)])), (rs, .inl (cR, 16, .inr (.inr (.inr (.inr fR))))), (ou, .inl (cO, 1, .inr (.inl go)))] H := hP
  have hD : va_D A [(tf, .inr (7, [.ref hf, .ref hq, .ref hs, .ref hd, .ref hp, .ref hc, .long ln])), (hs, .inr (1, [.ref rs, .int (nI n), .int (nI us)])), (rs, .inl (cR, 16, .inr (.inr (.inr (.inr fR))))), (ou, .inl (cO, 1, .inr (.inl go)))] := hD
  refine lv_astore_n (lv' := [(3, .ref x1), (0, .ref tf), (1, .int v), (2, .ref ou)]) hx hb d_La_thing_15 rfl hl (by decide) rfl (fun ls hl => ?_)
  refine lv_iconst (v := 2) hx hb d_La_thing_16 (by decide) ?_
  have hP9 := hP.sub (ws' := [(tf, .inr (7, [.ref hf, .ref hq, .ref hs, .ref hd, .ref hp, .ref hc, .long ln])), (hs, .inr (1, [.ref rs, .int (nI n), .int (nI us)])), (rs, .inl (cR, 16, .inr (.inr (.inr (.inr fR))))), (ou, .inl (cO, 1, .inr (.inl go)))]) [0, 1, 2, 3] rfl
  have hD9 := hD.sub (ws' := [(tf, .inr (7, [.ref hf, .ref hq, .ref hs, .ref hd, .ref hp, .ref hc, .long ln])), (hs, .inr (1, [.ref rs, .int (nI n), .int (nI us)])), (rs, .inl (cR, 16, .inr (.inr (.inr (.inr fR))))), (ou, .inl (cO, 1, .inr (.inl go)))]) [0, 1, 2, 3] (by decide) rfl
  have hK9 := hK.sub (tys' := [(cR, .object "TextForge$Argument"), (cO, .long)]) [0, 1] rfl
  exact zz_iret hx hb hr hlocks d_La_thing_17 hS (by first | exact Nat.le_refl _ | decide | omega | (dsimp only; omega)) (by first | exact Nat.le_refl _ | decide | omega | (dsimp only; omega)) () rfl hP9 hK9 hD9
set_option maxHeartbeats 4000000 in
set_option maxRecDepth 100000 in
theorem c_La_thingA (l : Launch) (dC : Nat → ClassId) (dI : Nat → Nat → Nat) (ad : Nat → Nat) (tf hf hq hs hd hp hc : Nat) (ln : Int64) (v : Int32) (ou : Nat) (cO : ClassId) (go : Nat → Int64) (hnt : l.flags = pinnedFlags ++ [noTraceFlag]) (hbad : v < -1 ∨ ¬ v ≤ 8) : yM_i (S := Unit) ad l y_La_thing w_La_thing { frames := 7, cells := 1, slots := 6, locals := 103 } (dC, dI) vwCl [.ref tf, .int v, .ref ou] [(tf, .inr (7, [.ref hf, .ref hq, .ref hs, .ref hd, .ref hp, .ref hc, .long ln])), (ou, .inl (cO, 1, .inr (.inl go)))] [(cO, .long)] (fun (r : Int32) (u : Unit) => r = 1) (fun u => [(tf, .inr (7, [.ref hf, .ref hq, .ref hs, .ref hd, .ref hp, .ref hc, .long ln])), (ou, .inl (cO, 1, .inr (.inl go)))]) (fun u => [(cO, .long)]) 1 6 := by
  refine zw_enteri (hh := [(0, 9, 12, 27), (0, 9, 15, 13)]) (cc := method_6_code) (nL := 4) (ret := (some .int)) (by decide) rfl (Nat.le_of_ble_eq_true rfl) ?_
  intro p e s m below meth c A ls C0 htab hA hS hP hK hD hl hX
  obtain ⟨hx, hb, hml, hown, hg, hr, hlocks, hin⟩ := C0
  have hown : s.vm.findClass "TextForgeLaw" = some m.cls := hown
  have hP : va_P (dC, dI) vwCl [(tf, .inr (7, [.ref hf, .ref hq, .ref hs, .ref hd, .ref hp, .ref hc, .long ln])), (ou, .inl (cO, 1, .inr (.inl go)))] s.heap := hP
  have hK : va_K (dC, dI) vwCl [(cO, .long)] s := hK
  have hD : va_D A [(tf, .inr (7, [.ref hf, .ref hq, .ref hs, .ref hd, .ref hp, .ref hc, .long ln])), (ou, .inl (cO, 1, .inr (.inl go)))] := hD
  have hl : lv_has ls 4 [(0, .ref tf), (1, .int v), (2, .ref ou)] := hl
  refine lv_aload_n hx hb d_La_thing_0 rfl (lv_at hl 2 rfl) ?_
  refine lv_iconst (v := 0) hx hb d_La_thing_1 (by decide) ?_
  refine lv_aload_n hx hb d_La_thing_2 rfl (lv_at hl 0 rfl) ?_
  refine lv_iload_n hx hb d_La_thing_3 rfl (lv_at hl 1 rfl) ?_
  have hPc := hP.sub (ws' := []) [] rfl
  have hKc := hK.sub (tys' := []) [] rfl
  refine tx_catch1 (As := [.int v]) (rest := [.int 0, .ref ou]) ⟨hx, hb, hml, hown, hg⟩ (c_Tf_thingA l dC dI ad tf v hnt hbad) (cwV 1 hg (gi_V kw_640 kw_641 kw_642 kw_1 kw_643) rfl rfl rfl (by decide +kernel) ⟨Nat.le_of_ble_eq_true rfl, Nat.le_of_ble_eq_true rfl⟩) (zy_prJ2 hX hS hP hK hPc hKc _ (q0 := 0) (ci := 7) rfl rfl) rfl hl.1 rfl (Nat.le_of_ble_eq_true rfl) d_La_thing_4 ⟨(Nat.le_of_ble_eq_true rfl), (Nat.le_of_ble_eq_true rfl)⟩ htab ⟨by decide, by decide⟩ (by decide) (hg _ kw_639) (hX.2.2.2.2.2.1 _ (List.mem_of_getElem? (i := 7) rfl)) (fun x1 H hk1 hz1 => ?_)
  have hP := tw_P hP hk1
  have hS := tw_S hS hk1 hz1
  have hP : va_P (dC, dI) vwCl [(tf, .inr (7, [.ref hf, .ref hq, .ref hs, .ref hd, .ref hp, .ref hc, .long ln])), (ou, .inl (cO, 1, .inr (.inl go)))] H := hP
  have hD : va_D A [(tf, .inr (7, [.ref hf, .ref hq, .ref hs, .ref hd, .ref hp, .ref hc, .long ln])), (ou, .inl (cO, 1, .inr (.inl go)))] := hD
  refine lv_astore_n (lv' := [(3, .ref x1), (0, .ref tf), (1, .int v), (2, .ref ou)]) hx hb d_La_thing_12 rfl hl (by decide) rfl (fun ls hl => ?_)
  refine lv_iconst (v := 1) hx hb d_La_thing_13 (by decide) ?_
  have hP9 := hP.sub (ws' := [(tf, .inr (7, [.ref hf, .ref hq, .ref hs, .ref hd, .ref hp, .ref hc, .long ln])), (ou, .inl (cO, 1, .inr (.inl go)))]) [0, 1] rfl
  have hD9 := hD.sub (ws' := [(tf, .inr (7, [.ref hf, .ref hq, .ref hs, .ref hd, .ref hp, .ref hc, .long ln])), (ou, .inl (cO, 1, .inr (.inl go)))]) [0, 1] (by decide) rfl
  have hK9 := hK.sub (tys' := [(cO, .long)]) [0] rfl
  exact zz_iret hx hb hr hlocks d_La_thing_14 hS (by first | exact Nat.le_refl _ | decide | omega | (dsimp only; omega)) (by first | exact Nat.le_refl _ | decide | omega | (dsimp only; omega)) () rfl hP9 hK9 hD9
abbrev y_La_parse : MethodName := ⟨"TextForgeLaw", "parse", "(LTextForge;I[J)I"⟩
abbrev w_La_parse : List Cond := Cond.codeWith y_La_parse method_7_code 4 (some .int) [(0, 16, 19, 27)] :: gw
theorem d_La_parse_0 : decode method_7_code 0 = .ok (.aload_n 2, 1) := by decide +kernel
theorem d_La_parse_1 : decode method_7_code 1 = .ok (.iconst 0, 1) := by decide +kernel
theorem d_La_parse_2 : decode method_7_code 2 = .ok (.aload_n 0, 1) := by decide +kernel
theorem d_La_parse_3 : decode method_7_code 3 = .ok (.iload_n 1, 1) := by decide +kernel
theorem d_La_parse_4 : decode method_7_code 4 = .ok (.invokevirtual 29, 3) := by decide +kernel
theorem d_La_parse_7 : decode method_7_code 7 = .ok (.ifCond .eq 7, 3) := by decide +kernel
theorem d_La_parse_10 : decode method_7_code 10 = .ok (.lconst 1, 1) := by decide +kernel
theorem d_La_parse_11 : decode method_7_code 11 = .ok (.goto 4, 3) := by decide +kernel
theorem d_La_parse_14 : decode method_7_code 14 = .ok (.lconst 0, 1) := by decide +kernel
theorem d_La_parse_15 : decode method_7_code 15 = .ok (.lastore, 1) := by decide +kernel
theorem d_La_parse_16 : decode method_7_code 16 = .ok (.goto 6, 3) := by decide +kernel
theorem d_La_parse_19 : decode method_7_code 19 = .ok (.astore_n 3, 1) := by decide +kernel
theorem d_La_parse_20 : decode method_7_code 20 = .ok (.iconst 1, 1) := by decide +kernel
theorem d_La_parse_21 : decode method_7_code 21 = .ok (.ireturn, 1) := by decide +kernel
theorem d_La_parse_22 : decode method_7_code 22 = .ok (.iconst 0, 1) := by decide +kernel
theorem d_La_parse_23 : decode method_7_code 23 = .ok (.ireturn, 1) := by decide +kernel
set_option maxHeartbeats 4000000 in
set_option maxRecDepth 100000 in
theorem c_La_parse (l : Launch) (dC : Nat → ClassId) (dI : Nat → Nat → Nat) (ad : Nat → Nat) (tf hf hq hs hd hp hc : Nat) (ln : Int64) (rf : Nat) (cB : ClassId) (ff : Nat → Int32) (F : List Nat) (b : Nat) (ou : Nat) (cO : ClassId) (go : Nat → Int64) (hLf : by_L F ff) (hcf : F.length ≤ 4096) (hb2 : 2 ≤ b) (hb36 : b ≤ 36) : yM_i (S := Unit) ad l y_La_parse w_La_parse { frames := 3, cells := 0, slots := 0, locals := 74 } (dC, dI) vwCl [.ref tf, .int (nI b), .ref ou] [(tf, .inr (7, [.ref hf, .ref hq, .ref hs, .ref hd, .ref hp, .ref hc, .long ln])), (hf, .inr (2, [.ref rf, .int (nI F.length)])), (rf, .inl (cB, 4096, .inl ff)), (ou, .inl (cO, 1, .inr (.inl go)))] [(cB, .byte), (cO, .long)] (fun (r : Int32) (u : Unit) => r = 0) (fun u => [(tf, .inr (7, [.ref hf, .ref hq, .ref hs, .ref hd, .ref hp, .ref hc, .long (ps_l 0 (ps_v F b))])), (hf, .inr (2, [.ref rf, .int (nI (List.take 0 F).length)])), (rf, .inl (cB, 4096, .inl ff)), (ou, .inl (cO, 1, .inr (.inl (vp_updL go (0 : Int32).toNatClampNeg (pr_l (ps_v F b))))))]) (fun u => [(cB, .byte), (cO, .long)]) 0 0 := by
  refine zw_enteri (hh := [(0, 16, 19, 27)]) (cc := method_7_code) (nL := 4) (ret := (some .int)) (by decide) rfl (Nat.le_of_ble_eq_true rfl) ?_
  intro p e s m below meth c A ls C0 htab hA hS hP hK hD hl hX
  obtain ⟨hx, hb, hml, hown, hg, hr, hlocks, hin⟩ := C0
  have hown : s.vm.findClass "TextForgeLaw" = some m.cls := hown
  have hP : va_P (dC, dI) vwCl [(tf, .inr (7, [.ref hf, .ref hq, .ref hs, .ref hd, .ref hp, .ref hc, .long ln])), (hf, .inr (2, [.ref rf, .int (nI F.length)])), (rf, .inl (cB, 4096, .inl ff)), (ou, .inl (cO, 1, .inr (.inl go)))] s.heap := hP
  have hK : va_K (dC, dI) vwCl [(cB, .byte), (cO, .long)] s := hK
  have hD : va_D A [(tf, .inr (7, [.ref hf, .ref hq, .ref hs, .ref hd, .ref hp, .ref hc, .long ln])), (hf, .inr (2, [.ref rf, .int (nI F.length)])), (rf, .inl (cB, 4096, .inl ff)), (ou, .inl (cO, 1, .inr (.inl go)))] := hD
  have hl : lv_has ls 4 [(0, .ref tf), (1, .int (nI b)), (2, .ref ou)] := hl
  refine lv_aload_n hx hb d_La_parse_0 rfl (lv_at hl 2 rfl) ?_
  refine lv_iconst (v := 0) hx hb d_La_parse_1 (by decide) ?_
  refine lv_aload_n hx hb d_La_parse_2 rfl (lv_at hl 0 rfl) ?_
  refine lv_iload_n hx hb d_La_parse_3 rfl (lv_at hl 1 rfl) ?_
  have hPc := hP.sub (ws' := [(tf, .inr (7, [.ref hf, .ref hq, .ref hs, .ref hd, .ref hp, .ref hc, .long ln])), (hf, .inr (2, [.ref rf, .int (nI F.length)])), (rf, .inl (cB, 4096, .inl ff))]) [0, 1, 2] rfl
  have hKc := hK.sub (tys' := [(cB, .byte)]) [0] rfl
  have hDc := hD.sub (ws' := [(tf, .inr (7, [.ref hf, .ref hq, .ref hs, .ref hd, .ref hp, .ref hc, .long ln])), (hf, .inr (2, [.ref rf, .int (nI F.length)])), (rf, .inl (cB, 4096, .inl ff))]) [0, 1, 2] (by decide) rfl
  have hFc := va_free (wc := [(tf, .inr (7, [.ref hf, .ref hq, .ref hs, .ref hd, .ref hp, .ref hc, .long ln])), (hf, .inr (2, [.ref rf, .int (nI F.length)])), (rf, .inl (cB, 4096, .inl ff))]) hD hS hA [0, 1, 2] rfl
  refine zz_calli (va_runV (As := [.int (nI b)]) (rest := [.int 0, .ref ou]) ⟨hx, hb, hml, hown, hg⟩ (c_Tf_parse l dC dI tf hf hq hs hd hp hc ln rf cB ff F b hLf hcf hb2 hb36 s.heap.size) (cwV 1 hg (gi_V kw_663 kw_664 kw_665 kw_1 kw_666) rfl rfl rfl (by decide +kernel) ⟨Nat.le_of_ble_eq_true rfl, Nat.le_of_ble_eq_true rfl⟩) (zz_preV hPc hKc hDc _ (q0 := 0) (ci := 7) rfl rfl) rfl rfl hl.1 rfl (lv_room (Nat.le_of_ble_eq_true rfl)) d_La_parse_4 ⟨Nat.le_of_ble_eq_true rfl, Nat.le_of_ble_eq_true rfl⟩) hS hFc (fun u H1 k9 p9 d9 => va_join (wr := [(ou, .inl (cO, 1, .inr (.inl go)))]) hP hD [0, 1, 2] [3] rfl rfl (by decide) (by decide) k9 hFc p9 d9) (fun r_2 u H locs hw hP hD hK1 hS => ?_)
  obtain ⟨u_1, rfl⟩ : ∃ z, z = u := ⟨_, rfl⟩
  try dsimp only at hw
  have hP : va_P (dC, dI) vwCl [(ou, .inl (cO, 1, .inr (.inl go))), (tf, .inr (7, [.ref hf, .ref hq, .ref hs, .ref hd, .ref hp, .ref hc, .long (ps_l 0 (ps_v F b))])), (hf, .inr (2, [.ref rf, .int (nI (List.take 0 F).length)])), (rf, .inl (cB, 4096, .inl ff))] H := hP
  have hD : va_D A [(ou, .inl (cO, 1, .inr (.inl go))), (tf, .inr (7, [.ref hf, .ref hq, .ref hs, .ref hd, .ref hp, .ref hc, .long (ps_l 0 (ps_v F b))])), (hf, .inr (2, [.ref rf, .int (nI (List.take 0 F).length)])), (rf, .inl (cB, 4096, .inl ff))] := hD
  have hwr := hw
  refine lv_if_eq (tgt := 14) hx hb d_La_parse_7 (by decide) (fun c_7 => ?_) (fun c_7 => ?_)
  · skip
    refine lv_lconst (v := 0) hx hb d_La_parse_14 (by decide) ?_
    refine lv_topl (fun y_3 ey_3 => ?_)
    have ey_3 : y_3 = (pr_l (ps_v F b) : Int64) := ey_3.trans (show 0 = pr_l (ps_v F b) from (pr_f hwr c_7))
    subst ey_3
    refine va_last hx hb hK hP hD hS 0 1 rfl rfl (show vp_in (nI 0) 1 from vp_in_nI (by decide) (by decide)) d_La_parse_15 (fun H locs hP hD hS => ?_)
    have hP : va_P (dC, dI) vwCl [(ou, .inl (cO, 1, .inr (.inl (vp_updL go (0 : Int32).toNatClampNeg (pr_l (ps_v F b)))))), (tf, .inr (7, [.ref hf, .ref hq, .ref hs, .ref hd, .ref hp, .ref hc, .long (ps_l 0 (ps_v F b))])), (hf, .inr (2, [.ref rf, .int (nI (List.take 0 F).length)])), (rf, .inl (cB, 4096, .inl ff))] H := hP
    have hD : va_D A [(ou, .inl (cO, 1, .inr (.inl (vp_updL go (0 : Int32).toNatClampNeg (pr_l (ps_v F b)))))), (tf, .inr (7, [.ref hf, .ref hq, .ref hs, .ref hd, .ref hp, .ref hc, .long (ps_l 0 (ps_v F b))])), (hf, .inr (2, [.ref rf, .int (nI (List.take 0 F).length)])), (rf, .inl (cB, 4096, .inl ff))] := hD
    refine lv_goto (tgt := 22) hx hb d_La_parse_16 (by decide) ?_
    refine lv_iconst (v := 0) hx hb d_La_parse_22 (by decide) ?_
    have hP9 := hP.sub (ws' := [(tf, .inr (7, [.ref hf, .ref hq, .ref hs, .ref hd, .ref hp, .ref hc, .long (ps_l 0 (ps_v F b))])), (hf, .inr (2, [.ref rf, .int (nI (List.take 0 F).length)])), (rf, .inl (cB, 4096, .inl ff)), (ou, .inl (cO, 1, .inr (.inl (vp_updL go (0 : Int32).toNatClampNeg (pr_l (ps_v F b))))))]) [1, 2, 3, 0] rfl
    have hD9 := hD.sub (ws' := [(tf, .inr (7, [.ref hf, .ref hq, .ref hs, .ref hd, .ref hp, .ref hc, .long (ps_l 0 (ps_v F b))])), (hf, .inr (2, [.ref rf, .int (nI (List.take 0 F).length)])), (rf, .inl (cB, 4096, .inl ff)), (ou, .inl (cO, 1, .inr (.inl (vp_updL go (0 : Int32).toNatClampNeg (pr_l (ps_v F b))))))]) [1, 2, 3, 0] (by decide) rfl
    have hK9 := hK.sub (tys' := [(cB, .byte), (cO, .long)]) [0, 1] rfl
    exact zz_iret hx hb hr hlocks d_La_parse_23 hS (by first | exact Nat.le_refl _ | decide | omega | (dsimp only; omega)) (by first | exact Nat.le_refl _ | decide | omega | (dsimp only; omega)) () rfl hP9 hK9 hD9
  · skip
    refine lv_lconst (v := 1) hx hb d_La_parse_10 (by decide) ?_
    refine lv_goto (tgt := 15) hx hb d_La_parse_11 (by decide) ?_
    refine lv_topl (fun y_4 ey_4 => ?_)
    have ey_4 : y_4 = (pr_l (ps_v F b) : Int64) := ey_4.trans (show 1 = pr_l (ps_v F b) from (pr_t hwr c_7))
    subst ey_4
    refine va_last hx hb hK hP hD hS 0 1 rfl rfl (show vp_in (nI 0) 1 from vp_in_nI (by decide) (by decide)) d_La_parse_15 (fun H locs hP hD hS => ?_)
    have hP : va_P (dC, dI) vwCl [(ou, .inl (cO, 1, .inr (.inl (vp_updL go (0 : Int32).toNatClampNeg (pr_l (ps_v F b)))))), (tf, .inr (7, [.ref hf, .ref hq, .ref hs, .ref hd, .ref hp, .ref hc, .long (ps_l 0 (ps_v F b))])), (hf, .inr (2, [.ref rf, .int (nI (List.take 0 F).length)])), (rf, .inl (cB, 4096, .inl ff))] H := hP
    have hD : va_D A [(ou, .inl (cO, 1, .inr (.inl (vp_updL go (0 : Int32).toNatClampNeg (pr_l (ps_v F b)))))), (tf, .inr (7, [.ref hf, .ref hq, .ref hs, .ref hd, .ref hp, .ref hc, .long (ps_l 0 (ps_v F b))])), (hf, .inr (2, [.ref rf, .int (nI (List.take 0 F).length)])), (rf, .inl (cB, 4096, .inl ff))] := hD
    refine lv_goto (tgt := 22) hx hb d_La_parse_16 (by decide) ?_
    refine lv_iconst (v := 0) hx hb d_La_parse_22 (by decide) ?_
    have hP9 := hP.sub (ws' := [(tf, .inr (7, [.ref hf, .ref hq, .ref hs, .ref hd, .ref hp, .ref hc, .long (ps_l 0 (ps_v F b))])), (hf, .inr (2, [.ref rf, .int (nI (List.take 0 F).length)])), (rf, .inl (cB, 4096, .inl ff)), (ou, .inl (cO, 1, .inr (.inl (vp_updL go (0 : Int32).toNatClampNeg (pr_l (ps_v F b))))))]) [1, 2, 3, 0] rfl
    have hD9 := hD.sub (ws' := [(tf, .inr (7, [.ref hf, .ref hq, .ref hs, .ref hd, .ref hp, .ref hc, .long (ps_l 0 (ps_v F b))])), (hf, .inr (2, [.ref rf, .int (nI (List.take 0 F).length)])), (rf, .inl (cB, 4096, .inl ff)), (ou, .inl (cO, 1, .inr (.inl (vp_updL go (0 : Int32).toNatClampNeg (pr_l (ps_v F b))))))]) [1, 2, 3, 0] (by decide) rfl
    have hK9 := hK.sub (tys' := [(cB, .byte), (cO, .long)]) [0, 1] rfl
    exact zz_iret hx hb hr hlocks d_La_parse_23 hS (by first | exact Nat.le_refl _ | decide | omega | (dsimp only; omega)) (by first | exact Nat.le_refl _ | decide | omega | (dsimp only; omega)) () rfl hP9 hK9 hD9
set_option maxHeartbeats 4000000 in
set_option maxRecDepth 100000 in
theorem c_La_parseA (l : Launch) (dC : Nat → ClassId) (dI : Nat → Nat → Nat) (ad : Nat → Nat) (tf hf hq hs hd hp hc : Nat) (ln : Int64) (v : Int32) (ou : Nat) (cO : ClassId) (go : Nat → Int64) (hnt : l.flags = pinnedFlags ++ [noTraceFlag]) (hbad : v < 2 ∨ ¬ v ≤ 36) : yM_i (S := Unit) ad l y_La_parse w_La_parse { frames := 7, cells := 1, slots := 6, locals := 104 } (dC, dI) vwCl [.ref tf, .int v, .ref ou] [(tf, .inr (7, [.ref hf, .ref hq, .ref hs, .ref hd, .ref hp, .ref hc, .long ln])), (ou, .inl (cO, 1, .inr (.inl go)))] [(cO, .long)] (fun (r : Int32) (u : Unit) => r = 1) (fun u => [(tf, .inr (7, [.ref hf, .ref hq, .ref hs, .ref hd, .ref hp, .ref hc, .long ln])), (ou, .inl (cO, 1, .inr (.inl go)))]) (fun u => [(cO, .long)]) 1 6 := by
  refine zw_enteri (hh := [(0, 16, 19, 27)]) (cc := method_7_code) (nL := 4) (ret := (some .int)) (by decide) rfl (Nat.le_of_ble_eq_true rfl) ?_
  intro p e s m below meth c A ls C0 htab hA hS hP hK hD hl hX
  obtain ⟨hx, hb, hml, hown, hg, hr, hlocks, hin⟩ := C0
  have hown : s.vm.findClass "TextForgeLaw" = some m.cls := hown
  have hP : va_P (dC, dI) vwCl [(tf, .inr (7, [.ref hf, .ref hq, .ref hs, .ref hd, .ref hp, .ref hc, .long ln])), (ou, .inl (cO, 1, .inr (.inl go)))] s.heap := hP
  have hK : va_K (dC, dI) vwCl [(cO, .long)] s := hK
  have hD : va_D A [(tf, .inr (7, [.ref hf, .ref hq, .ref hs, .ref hd, .ref hp, .ref hc, .long ln])), (ou, .inl (cO, 1, .inr (.inl go)))] := hD
  have hl : lv_has ls 4 [(0, .ref tf), (1, .int v), (2, .ref ou)] := hl
  refine lv_aload_n hx hb d_La_parse_0 rfl (lv_at hl 2 rfl) ?_
  refine lv_iconst (v := 0) hx hb d_La_parse_1 (by decide) ?_
  refine lv_aload_n hx hb d_La_parse_2 rfl (lv_at hl 0 rfl) ?_
  refine lv_iload_n hx hb d_La_parse_3 rfl (lv_at hl 1 rfl) ?_
  have hPc := hP.sub (ws' := []) [] rfl
  have hKc := hK.sub (tys' := []) [] rfl
  refine tx_catch1 (As := [.int v]) (rest := [.int 0, .ref ou]) ⟨hx, hb, hml, hown, hg⟩ (c_Tf_parseA l dC dI ad tf v hnt hbad) (cwV 1 hg (gi_V kw_663 kw_664 kw_665 kw_1 kw_666) rfl rfl rfl (by decide +kernel) ⟨Nat.le_of_ble_eq_true rfl, Nat.le_of_ble_eq_true rfl⟩) (zy_prJ2 hX hS hP hK hPc hKc _ (q0 := 0) (ci := 7) rfl rfl) rfl hl.1 rfl (Nat.le_of_ble_eq_true rfl) d_La_parse_4 ⟨(Nat.le_of_ble_eq_true rfl), (Nat.le_of_ble_eq_true rfl)⟩ htab ⟨by decide, by decide⟩ (by decide) (hg _ kw_639) (hX.2.2.2.2.2.1 _ (List.mem_of_getElem? (i := 7) rfl)) (fun x1 H hk1 hz1 => ?_)
  have hP := tw_P hP hk1
  have hS := tw_S hS hk1 hz1
  have hP : va_P (dC, dI) vwCl [(tf, .inr (7, [.ref hf, .ref hq, .ref hs, .ref hd, .ref hp, .ref hc, .long ln])), (ou, .inl (cO, 1, .inr (.inl go)))] H := hP
  have hD : va_D A [(tf, .inr (7, [.ref hf, .ref hq, .ref hs, .ref hd, .ref hp, .ref hc, .long ln])), (ou, .inl (cO, 1, .inr (.inl go)))] := hD
  refine lv_astore_n (lv' := [(3, .ref x1), (0, .ref tf), (1, .int v), (2, .ref ou)]) hx hb d_La_parse_19 rfl hl (by decide) rfl (fun ls hl => ?_)
  refine lv_iconst (v := 1) hx hb d_La_parse_20 (by decide) ?_
  have hP9 := hP.sub (ws' := [(tf, .inr (7, [.ref hf, .ref hq, .ref hs, .ref hd, .ref hp, .ref hc, .long ln])), (ou, .inl (cO, 1, .inr (.inl go)))]) [0, 1] rfl
  have hD9 := hD.sub (ws' := [(tf, .inr (7, [.ref hf, .ref hq, .ref hs, .ref hd, .ref hp, .ref hc, .long ln])), (ou, .inl (cO, 1, .inr (.inl go)))]) [0, 1] (by decide) rfl
  have hK9 := hK.sub (tys' := [(cO, .long)]) [0] rfl
  exact zz_iret hx hb hr hlocks d_La_parse_21 hS (by first | exact Nat.le_refl _ | decide | omega | (dsimp only; omega)) (by first | exact Nat.le_refl _ | decide | omega | (dsimp only; omega)) () rfl hP9 hK9 hD9
abbrev y_La_code : MethodName := ⟨"TextForgeLaw", "code", "(LTextForge;II[J)I"⟩
abbrev w_La_code : List Cond := Cond.codeWith y_La_code method_8_code 5 (some .int) [(0, 10, 13, 37)] :: gw
theorem d_La_code_0 : decode method_8_code 0 = .ok (.aload_n 3, 1) := by decide +kernel
theorem d_La_code_1 : decode method_8_code 1 = .ok (.iconst 0, 1) := by decide +kernel
theorem d_La_code_2 : decode method_8_code 2 = .ok (.aload_n 0, 1) := by decide +kernel
theorem d_La_code_3 : decode method_8_code 3 = .ok (.iload_n 1, 1) := by decide +kernel
theorem d_La_code_4 : decode method_8_code 4 = .ok (.iload_n 2, 1) := by decide +kernel
theorem d_La_code_5 : decode method_8_code 5 = .ok (.invokevirtual 33, 3) := by decide +kernel
theorem d_La_code_8 : decode method_8_code 8 = .ok (.i2l, 1) := by decide +kernel
theorem d_La_code_9 : decode method_8_code 9 = .ok (.lastore, 1) := by decide +kernel
theorem d_La_code_10 : decode method_8_code 10 = .ok (.goto 7, 3) := by decide +kernel
theorem d_La_code_13 : decode method_8_code 13 = .ok (.astore 4, 2) := by decide +kernel
theorem d_La_code_15 : decode method_8_code 15 = .ok (.iconst 1, 1) := by decide +kernel
theorem d_La_code_16 : decode method_8_code 16 = .ok (.ireturn, 1) := by decide +kernel
theorem d_La_code_17 : decode method_8_code 17 = .ok (.iconst 0, 1) := by decide +kernel
theorem d_La_code_18 : decode method_8_code 18 = .ok (.ireturn, 1) := by decide +kernel
set_option maxHeartbeats 4000000 in
set_option maxRecDepth 100000 in
theorem c_La_code (l : Launch) (dC : Nat → ClassId) (dI : Nat → Nat → Nat) (ad : Nat → Nat) (tf hf hq hs hd hp hc : Nat) (ln : Int64) (rv rp : Nat) (cI : ClassId) (nv : Nat) (fv fp : Nat → Int32) (kn : Nat) (j w : Nat) (o : Option Nat) (ou : Nat) (cO : ClassId) (go : Nat → Int64) (hkn : kn ≤ nv) (hnv : nv < 1000000) (hj : j < kn) (hw2 : w ≤ 2) (hfo : fv j = ut_v o) (ho : cd_ok o) : yM_i (S := Unit) ad l y_La_code w_La_code { frames := 4, cells := 0, slots := 0, locals := 85 } (dC, dI) vwCl [.ref tf, .int (nI j), .int (nI w), .ref ou] [(tf, .inr (7, [.ref hf, .ref hq, .ref hs, .ref hd, .ref hp, .ref hc, .long ln])), (hc, .inr (3, [.ref rv, .ref rp, .int (nI kn)])), (rv, .inl (cI, nv, .inl fv)), (rp, .inl (cI, nv, .inl fp)), (ou, .inl (cO, 1, .inr (.inl go)))] [(cI, .int), (cO, .long)] (fun (r : Int32) (u : Unit) => r = 0) (fun u => [(tf, .inr (7, [.ref hf, .ref hq, .ref hs, .ref hd, .ref hp, .ref hc, .long ln])), (hc, .inr (3, [.ref rv, .ref rp, .int (nI kn)])), (rv, .inl (cI, nv, .inl fv)), (rp, .inl (cI, nv, .inl fp)), (ou, .inl (cO, 1, .inr (.inl (vp_updL go (0 : Int32).toNatClampNeg ((if w = 0 then nI (cd_v o) else if w = 1 then fp j else nI (ut_bo o)).toInt64)))))]) (fun u => [(cI, .int), (cO, .long)]) 0 0 := by
  refine zw_enteri (hh := [(0, 10, 13, 37)]) (cc := method_8_code) (nL := 5) (ret := (some .int)) (by decide) rfl (Nat.le_of_ble_eq_true rfl) ?_
  intro p e s m below meth c A ls C0 htab hA hS hP hK hD hl hX
  obtain ⟨hx, hb, hml, hown, hg, hr, hlocks, hin⟩ := C0
  have hown : s.vm.findClass "TextForgeLaw" = some m.cls := hown
  have hP : va_P (dC, dI) vwCl [(tf, .inr (7, [.ref hf, .ref hq, .ref hs, .ref hd, .ref hp, .ref hc, .long ln])), (hc, .inr (3, [.ref rv, .ref rp, .int (nI kn)])), (rv, .inl (cI, nv, .inl fv)), (rp, .inl (cI, nv, .inl fp)), (ou, .inl (cO, 1, .inr (.inl go)))] s.heap := hP
  have hK : va_K (dC, dI) vwCl [(cI, .int), (cO, .long)] s := hK
  have hD : va_D A [(tf, .inr (7, [.ref hf, .ref hq, .ref hs, .ref hd, .ref hp, .ref hc, .long ln])), (hc, .inr (3, [.ref rv, .ref rp, .int (nI kn)])), (rv, .inl (cI, nv, .inl fv)), (rp, .inl (cI, nv, .inl fp)), (ou, .inl (cO, 1, .inr (.inl go)))] := hD
  have hl : lv_has ls 5 [(0, .ref tf), (1, .int (nI j)), (2, .int (nI w)), (3, .ref ou)] := hl
  refine lv_aload_n hx hb d_La_code_0 rfl (lv_at hl 3 rfl) ?_
  refine lv_iconst (v := 0) hx hb d_La_code_1 (by decide) ?_
  refine lv_aload_n hx hb d_La_code_2 rfl (lv_at hl 0 rfl) ?_
  refine lv_iload_n hx hb d_La_code_3 rfl (lv_at hl 1 rfl) ?_
  refine lv_iload_n hx hb d_La_code_4 rfl (lv_at hl 2 rfl) ?_
  have hPc := hP.sub (ws' := [(tf, .inr (7, [.ref hf, .ref hq, .ref hs, .ref hd, .ref hp, .ref hc, .long ln])), (hc, .inr (3, [.ref rv, .ref rp, .int (nI kn)])), (rv, .inl (cI, nv, .inl fv)), (rp, .inl (cI, nv, .inl fp))]) [0, 1, 2, 3] rfl
  have hKc := hK.sub (tys' := [(cI, .int)]) [0] rfl
  refine vp_callSi (W.runV (As := [.int (nI j), .int (nI w)]) (rest := [.int 0, .ref ou]) ⟨hx, hb, hml, hown, hg⟩ (c_Tf_code l dC dI tf hf hq hs hd hp hc ln rv rp cI nv fv fp kn j w o hkn hnv hj hw2 hfo ho) (cwV 2 hg (gi_V kw_681 kw_682 kw_683 kw_1 kw_684) rfl rfl rfl (by decide +kernel) ⟨Nat.le_of_ble_eq_true rfl, Nat.le_of_ble_eq_true rfl⟩) (zz_prJV hPc hKc _ (q0 := 0) (ci := 7) rfl rfl) rfl rfl hl.1 rfl (lv_room (Nat.le_of_ble_eq_true rfl)) d_La_code_5 ⟨Nat.le_of_ble_eq_true rfl, Nat.le_of_ble_eq_true rfl⟩) (fun r_1 hr_1 => ?_)
  subst hr_1
  refine lv_i2l hx hb d_La_code_8 rfl ?_
  refine va_last hx hb hK hP hD hS 4 1 rfl rfl (show vp_in (nI 0) 1 from vp_in_nI (by decide) (by decide)) d_La_code_9 (fun H locs hP hD hS => ?_)
  have hP : va_P (dC, dI) vwCl [(tf, .inr (7, [.ref hf, .ref hq, .ref hs, .ref hd, .ref hp, .ref hc, .long ln])), (hc, .inr (3, [.ref rv, .ref rp, .int (nI kn)])), (rv, .inl (cI, nv, .inl fv)), (rp, .inl (cI, nv, .inl fp)), (ou, .inl (cO, 1, .inr (.inl (vp_updL go (0 : Int32).toNatClampNeg ((if w = 0 then nI (cd_v o) else if w = 1 then fp j else nI (ut_bo o)).toInt64)))))] H := hP
  have hD : va_D A [(tf, .inr (7, [.ref hf, .ref hq, .ref hs, .ref hd, .ref hp, .ref hc, .long ln])), (hc, .inr (3, [.ref rv, .ref rp, .int (nI kn)])), (rv, .inl (cI, nv, .inl fv)), (rp, .inl (cI, nv, .inl fp)), (ou, .inl (cO, 1, .inr (.inl (vp_updL go (0 : Int32).toNatClampNeg ((if w = 0 then nI (cd_v o) else if w = 1 then fp j else nI (ut_bo o)).toInt64)))))] := hD
  refine lv_goto (tgt := 17) hx hb d_La_code_10 (by decide) ?_
  refine lv_iconst (v := 0) hx hb d_La_code_17 (by decide) ?_
  have hP9 := hP.sub (ws' := [(tf, .inr (7, [.ref hf, .ref hq, .ref hs, .ref hd, .ref hp, .ref hc, .long ln])), (hc, .inr (3, [.ref rv, .ref rp, .int (nI kn)])), (rv, .inl (cI, nv, .inl fv)), (rp, .inl (cI, nv, .inl fp)), (ou, .inl (cO, 1, .inr (.inl (vp_updL go (0 : Int32).toNatClampNeg ((if w = 0 then nI (cd_v o) else if w = 1 then fp j else nI (ut_bo o)).toInt64)))))]) [0, 1, 2, 3, 4] rfl
  have hD9 := hD.sub (ws' := [(tf, .inr (7, [.ref hf, .ref hq, .ref hs, .ref hd, .ref hp, .ref hc, .long ln])), (hc, .inr (3, [.ref rv, .ref rp, .int (nI kn)])), (rv, .inl (cI, nv, .inl fv)), (rp, .inl (cI, nv, .inl fp)), (ou, .inl (cO, 1, .inr (.inl (vp_updL go (0 : Int32).toNatClampNeg ((if w = 0 then nI (cd_v o) else if w = 1 then fp j else nI (ut_bo o)).toInt64)))))]) [0, 1, 2, 3, 4] (by decide) rfl
  have hK9 := hK.sub (tys' := [(cI, .int), (cO, .long)]) [0, 1] rfl
  exact zz_iret hx hb hr hlocks d_La_code_18 hS (by first | exact Nat.le_refl _ | decide | omega | (dsimp only; omega)) (by first | exact Nat.le_refl _ | decide | omega | (dsimp only; omega)) () rfl hP9 hK9 hD9
set_option maxHeartbeats 4000000 in
set_option maxRecDepth 100000 in
theorem c_La_codeT (l : Launch) (dC : Nat → ClassId) (dI : Nat → Nat → Nat) (ad : Nat → Nat) (tf hf hq hs hd hp hc : Nat) (ln : Int64) (rv rp : Nat) (cI : ClassId) (nv : Nat) (fv fp : Nat → Int32) (kn : Nat) (v w : Int32) (ou : Nat) (cO : ClassId) (go : Nat → Int64) (hnt : l.flags = pinnedFlags ++ [noTraceFlag]) (hbad : v < 0 ∨ nI kn ≤ v ∨ w < 0 ∨ ¬ w ≤ 2) : yM_i (S := Unit) ad l y_La_code w_La_code { frames := 7, cells := 1, slots := 6, locals := 104 } (dC, dI) vwCl [.ref tf, .int v, .int w, .ref ou] [(tf, .inr (7, [.ref hf, .ref hq, .ref hs, .ref hd, .ref hp, .ref hc, .long ln])), (hc, .inr (3, [.ref rv, .ref rp, .int (nI kn)])), (rv, .inl (cI, nv, .inl fv)), (rp, .inl (cI, nv, .inl fp)), (ou, .inl (cO, 1, .inr (.inl go)))] [(cI, .int), (cO, .long)] (fun (r : Int32) (u : Unit) => r = 1) (fun u => [(tf, .inr (7, [.ref hf, .ref hq, .ref hs, .ref hd, .ref hp, .ref hc, .long ln])), (hc, .inr (3, [.ref rv, .ref rp, .int (nI kn)])), (rv, .inl (cI, nv, .inl fv)), (rp, .inl (cI, nv, .inl fp)), (ou, .inl (cO, 1, .inr (.inl go)))]) (fun u => [(cI, .int), (cO, .long)]) 1 6 := by
  refine zw_enteri (hh := [(0, 10, 13, 37)]) (cc := method_8_code) (nL := 5) (ret := (some .int)) (by decide) rfl (Nat.le_of_ble_eq_true rfl) ?_
  intro p e s m below meth c A ls C0 htab hA hS hP hK hD hl hX
  obtain ⟨hx, hb, hml, hown, hg, hr, hlocks, hin⟩ := C0
  have hown : s.vm.findClass "TextForgeLaw" = some m.cls := hown
  have hP : va_P (dC, dI) vwCl [(tf, .inr (7, [.ref hf, .ref hq, .ref hs, .ref hd, .ref hp, .ref hc, .long ln])), (hc, .inr (3, [.ref rv, .ref rp, .int (nI kn)])), (rv, .inl (cI, nv, .inl fv)), (rp, .inl (cI, nv, .inl fp)), (ou, .inl (cO, 1, .inr (.inl go)))] s.heap := hP
  have hK : va_K (dC, dI) vwCl [(cI, .int), (cO, .long)] s := hK
  have hD : va_D A [(tf, .inr (7, [.ref hf, .ref hq, .ref hs, .ref hd, .ref hp, .ref hc, .long ln])), (hc, .inr (3, [.ref rv, .ref rp, .int (nI kn)])), (rv, .inl (cI, nv, .inl fv)), (rp, .inl (cI, nv, .inl fp)), (ou, .inl (cO, 1, .inr (.inl go)))] := hD
  have hl : lv_has ls 5 [(0, .ref tf), (1, .int v), (2, .int w), (3, .ref ou)] := hl
  refine lv_aload_n hx hb d_La_code_0 rfl (lv_at hl 3 rfl) ?_
  refine lv_iconst (v := 0) hx hb d_La_code_1 (by decide) ?_
  refine lv_aload_n hx hb d_La_code_2 rfl (lv_at hl 0 rfl) ?_
  refine lv_iload_n hx hb d_La_code_3 rfl (lv_at hl 1 rfl) ?_
  refine lv_iload_n hx hb d_La_code_4 rfl (lv_at hl 2 rfl) ?_
  have hPc := hP.sub (ws' := [(tf, .inr (7, [.ref hf, .ref hq, .ref hs, .ref hd, .ref hp, .ref hc, .long ln])), (hc, .inr (3, [.ref rv, .ref rp, .int (nI kn)])), (rv, .inl (cI, nv, .inl fv)), (rp, .inl (cI, nv, .inl fp))]) [0, 1, 2, 3] rfl
  have hKc := hK.sub (tys' := [(cI, .int)]) [0] rfl
  refine tx_catch1 (As := [.int v, .int w]) (rest := [.int 0, .ref ou]) ⟨hx, hb, hml, hown, hg⟩ (c_Tf_codeT l dC dI ad tf hf hq hs hd hp hc ln rv rp cI nv fv fp kn v w hnt hbad) (cwV 2 hg (gi_V kw_681 kw_682 kw_683 kw_1 kw_684) rfl rfl rfl (by decide +kernel) ⟨Nat.le_of_ble_eq_true rfl, Nat.le_of_ble_eq_true rfl⟩) (zy_prJ2 hX hS hP hK hPc hKc _ (q0 := 0) (ci := 7) rfl rfl) rfl hl.1 rfl (Nat.le_of_ble_eq_true rfl) d_La_code_5 ⟨(Nat.le_of_ble_eq_true rfl), (Nat.le_of_ble_eq_true rfl)⟩ htab ⟨by decide, by decide⟩ (by decide) (hg _ kw_680) (hX.2.2.2.2.2.1 _ (List.mem_of_getElem? (i := 8) rfl)) (fun x1 H hk1 hz1 => ?_)
  have hP := tw_P hP hk1
  have hS := tw_S hS hk1 hz1
  have hP : va_P (dC, dI) vwCl [(tf, .inr (7, [.ref hf, .ref hq, .ref hs, .ref hd, .ref hp, .ref hc, .long ln])), (hc, .inr (3, [.ref rv, .ref rp, .int (nI kn)])), (rv, .inl (cI, nv, .inl fv)), (rp, .inl (cI, nv, .inl fp)), (ou, .inl (cO, 1, .inr (.inl go)))] H := hP
  have hD : va_D A [(tf, .inr (7, [.ref hf, .ref hq, .ref hs, .ref hd, .ref hp, .ref hc, .long ln])), (hc, .inr (3, [.ref rv, .ref rp, .int (nI kn)])), (rv, .inl (cI, nv, .inl fv)), (rp, .inl (cI, nv, .inl fp)), (ou, .inl (cO, 1, .inr (.inl go)))] := hD
  refine lv_astore (lv' := [(4, .ref x1), (0, .ref tf), (1, .int v), (2, .int w), (3, .ref ou)]) hx hb d_La_code_13 hl (by decide) rfl (fun ls hl => ?_)
  refine lv_iconst (v := 1) hx hb d_La_code_15 (by decide) ?_
  have hP9 := hP.sub (ws' := [(tf, .inr (7, [.ref hf, .ref hq, .ref hs, .ref hd, .ref hp, .ref hc, .long ln])), (hc, .inr (3, [.ref rv, .ref rp, .int (nI kn)])), (rv, .inl (cI, nv, .inl fv)), (rp, .inl (cI, nv, .inl fp)), (ou, .inl (cO, 1, .inr (.inl go)))]) [0, 1, 2, 3, 4] rfl
  have hD9 := hD.sub (ws' := [(tf, .inr (7, [.ref hf, .ref hq, .ref hs, .ref hd, .ref hp, .ref hc, .long ln])), (hc, .inr (3, [.ref rv, .ref rp, .int (nI kn)])), (rv, .inl (cI, nv, .inl fv)), (rp, .inl (cI, nv, .inl fp)), (ou, .inl (cO, 1, .inr (.inl go)))]) [0, 1, 2, 3, 4] (by decide) rfl
  have hK9 := hK.sub (tys' := [(cI, .int), (cO, .long)]) [0, 1] rfl
  exact zz_iret hx hb hr hlocks d_La_code_16 hS (by first | exact Nat.le_refl _ | decide | omega | (dsimp only; omega)) (by first | exact Nat.le_refl _ | decide | omega | (dsimp only; omega)) () rfl hP9 hK9 hD9
abbrev y_La_byteOf : MethodName := ⟨"TextForgeLaw", "byteOf", "(LTextForge;I[J)I"⟩
abbrev w_La_byteOf : List Cond := Cond.codeWith y_La_byteOf method_9_code 4 (some .int) [(0, 9, 12, 37)] :: gw
theorem d_La_byteOf_0 : decode method_9_code 0 = .ok (.aload_n 2, 1) := by decide +kernel
theorem d_La_byteOf_1 : decode method_9_code 1 = .ok (.iconst 0, 1) := by decide +kernel
theorem d_La_byteOf_2 : decode method_9_code 2 = .ok (.aload_n 0, 1) := by decide +kernel
theorem d_La_byteOf_3 : decode method_9_code 3 = .ok (.iload_n 1, 1) := by decide +kernel
theorem d_La_byteOf_4 : decode method_9_code 4 = .ok (.invokevirtual 39, 3) := by decide +kernel
theorem d_La_byteOf_7 : decode method_9_code 7 = .ok (.i2l, 1) := by decide +kernel
theorem d_La_byteOf_8 : decode method_9_code 8 = .ok (.lastore, 1) := by decide +kernel
theorem d_La_byteOf_9 : decode method_9_code 9 = .ok (.goto 6, 3) := by decide +kernel
theorem d_La_byteOf_12 : decode method_9_code 12 = .ok (.astore_n 3, 1) := by decide +kernel
theorem d_La_byteOf_13 : decode method_9_code 13 = .ok (.iconst 1, 1) := by decide +kernel
theorem d_La_byteOf_14 : decode method_9_code 14 = .ok (.ireturn, 1) := by decide +kernel
theorem d_La_byteOf_15 : decode method_9_code 15 = .ok (.iconst 0, 1) := by decide +kernel
theorem d_La_byteOf_16 : decode method_9_code 16 = .ok (.ireturn, 1) := by decide +kernel
set_option maxHeartbeats 4000000 in
set_option maxRecDepth 100000 in
theorem c_La_byteOf (l : Launch) (dC : Nat → ClassId) (dI : Nat → Nat → Nat) (ad : Nat → Nat) (tf hf hq hs hd hp hc : Nat) (ln : Int64) (rq : Nat) (cB : ClassId) (fq : Nat → Int32) (G : List Nat) (i : Nat) (ou : Nat) (cO : ClassId) (go : Nat → Int64) (hLq : by_L G fq) (hcq : G.length ≤ 4195) (hi : i < G.length) : yM_i (S := Unit) ad l y_La_byteOf w_La_byteOf { frames := 2, cells := 0, slots := 0, locals := 43 } (dC, dI) vwCl [.ref tf, .int (nI i), .ref ou] [(tf, .inr (7, [.ref hf, .ref hq, .ref hs, .ref hd, .ref hp, .ref hc, .long ln])), (hq, .inr (2, [.ref rq, .int (nI G.length)])), (rq, .inl (cB, 4195, .inl fq)), (ou, .inl (cO, 1, .inr (.inl go)))] [(cB, .byte), (cO, .long)] (fun (r : Int32) (u : Unit) => r = 0) (fun u => [(tf, .inr (7, [.ref hf, .ref hq, .ref hs, .ref hd, .ref hp, .ref hc, .long ln])), (hq, .inr (2, [.ref rq, .int (nI G.length)])), (rq, .inl (cB, 4195, .inl fq)), (ou, .inl (cO, 1, .inr (.inl (vp_updL go (0 : Int32).toNatClampNeg ((nI (G.getD i 0)).toInt64)))))]) (fun u => [(cB, .byte), (cO, .long)]) 0 0 := by
  refine zw_enteri (hh := [(0, 9, 12, 37)]) (cc := method_9_code) (nL := 4) (ret := (some .int)) (by decide) rfl (Nat.le_of_ble_eq_true rfl) ?_
  intro p e s m below meth c A ls C0 htab hA hS hP hK hD hl hX
  obtain ⟨hx, hb, hml, hown, hg, hr, hlocks, hin⟩ := C0
  have hown : s.vm.findClass "TextForgeLaw" = some m.cls := hown
  have hP : va_P (dC, dI) vwCl [(tf, .inr (7, [.ref hf, .ref hq, .ref hs, .ref hd, .ref hp, .ref hc, .long ln])), (hq, .inr (2, [.ref rq, .int (nI G.length)])), (rq, .inl (cB, 4195, .inl fq)), (ou, .inl (cO, 1, .inr (.inl go)))] s.heap := hP
  have hK : va_K (dC, dI) vwCl [(cB, .byte), (cO, .long)] s := hK
  have hD : va_D A [(tf, .inr (7, [.ref hf, .ref hq, .ref hs, .ref hd, .ref hp, .ref hc, .long ln])), (hq, .inr (2, [.ref rq, .int (nI G.length)])), (rq, .inl (cB, 4195, .inl fq)), (ou, .inl (cO, 1, .inr (.inl go)))] := hD
  have hl : lv_has ls 4 [(0, .ref tf), (1, .int (nI i)), (2, .ref ou)] := hl
  refine lv_aload_n hx hb d_La_byteOf_0 rfl (lv_at hl 2 rfl) ?_
  refine lv_iconst (v := 0) hx hb d_La_byteOf_1 (by decide) ?_
  refine lv_aload_n hx hb d_La_byteOf_2 rfl (lv_at hl 0 rfl) ?_
  refine lv_iload_n hx hb d_La_byteOf_3 rfl (lv_at hl 1 rfl) ?_
  have hPc := hP.sub (ws' := [(tf, .inr (7, [.ref hf, .ref hq, .ref hs, .ref hd, .ref hp, .ref hc, .long ln])), (hq, .inr (2, [.ref rq, .int (nI G.length)])), (rq, .inl (cB, 4195, .inl fq))]) [0, 1, 2] rfl
  have hKc := hK.sub (tys' := [(cB, .byte)]) [0] rfl
  refine vp_callSi (W.runV (As := [.int (nI i)]) (rest := [.int 0, .ref ou]) ⟨hx, hb, hml, hown, hg⟩ (c_Tf_byteOf l dC dI tf hf hq hs hd hp hc ln rq cB fq G i hLq hcq hi) (cwV 1 hg (gi_V kw_714 kw_715 kw_716 kw_1 kw_717) rfl rfl rfl (by decide +kernel) ⟨Nat.le_of_ble_eq_true rfl, Nat.le_of_ble_eq_true rfl⟩) (zz_prJV hPc hKc _ (q0 := 0) (ci := 7) rfl rfl) rfl rfl hl.1 rfl (lv_room (Nat.le_of_ble_eq_true rfl)) d_La_byteOf_4 ⟨Nat.le_of_ble_eq_true rfl, Nat.le_of_ble_eq_true rfl⟩) (fun r_1 hr_1 => ?_)
  subst hr_1
  refine lv_i2l hx hb d_La_byteOf_7 rfl ?_
  refine va_last hx hb hK hP hD hS 3 1 rfl rfl (show vp_in (nI 0) 1 from vp_in_nI (by decide) (by decide)) d_La_byteOf_8 (fun H locs hP hD hS => ?_)
  have hP : va_P (dC, dI) vwCl [(tf, .inr (7, [.ref hf, .ref hq, .ref hs, .ref hd, .ref hp, .ref hc, .long ln])), (hq, .inr (2, [.ref rq, .int (nI G.length)])), (rq, .inl (cB, 4195, .inl fq)), (ou, .inl (cO, 1, .inr (.inl (vp_updL go (0 : Int32).toNatClampNeg ((nI (G.getD i 0)).toInt64)))))] H := hP
  have hD : va_D A [(tf, .inr (7, [.ref hf, .ref hq, .ref hs, .ref hd, .ref hp, .ref hc, .long ln])), (hq, .inr (2, [.ref rq, .int (nI G.length)])), (rq, .inl (cB, 4195, .inl fq)), (ou, .inl (cO, 1, .inr (.inl (vp_updL go (0 : Int32).toNatClampNeg ((nI (G.getD i 0)).toInt64)))))] := hD
  refine lv_goto (tgt := 15) hx hb d_La_byteOf_9 (by decide) ?_
  refine lv_iconst (v := 0) hx hb d_La_byteOf_15 (by decide) ?_
  have hP9 := hP.sub (ws' := [(tf, .inr (7, [.ref hf, .ref hq, .ref hs, .ref hd, .ref hp, .ref hc, .long ln])), (hq, .inr (2, [.ref rq, .int (nI G.length)])), (rq, .inl (cB, 4195, .inl fq)), (ou, .inl (cO, 1, .inr (.inl (vp_updL go (0 : Int32).toNatClampNeg ((nI (G.getD i 0)).toInt64)))))]) [0, 1, 2, 3] rfl
  have hD9 := hD.sub (ws' := [(tf, .inr (7, [.ref hf, .ref hq, .ref hs, .ref hd, .ref hp, .ref hc, .long ln])), (hq, .inr (2, [.ref rq, .int (nI G.length)])), (rq, .inl (cB, 4195, .inl fq)), (ou, .inl (cO, 1, .inr (.inl (vp_updL go (0 : Int32).toNatClampNeg ((nI (G.getD i 0)).toInt64)))))]) [0, 1, 2, 3] (by decide) rfl
  have hK9 := hK.sub (tys' := [(cB, .byte), (cO, .long)]) [0, 1] rfl
  exact zz_iret hx hb hr hlocks d_La_byteOf_16 hS (by first | exact Nat.le_refl _ | decide | omega | (dsimp only; omega)) (by first | exact Nat.le_refl _ | decide | omega | (dsimp only; omega)) () rfl hP9 hK9 hD9
set_option maxHeartbeats 4000000 in
set_option maxRecDepth 100000 in
theorem c_La_byteOfT (l : Launch) (dC : Nat → ClassId) (dI : Nat → Nat → Nat) (ad : Nat → Nat) (tf hf hq hs hd hp hc : Nat) (ln : Int64) (rq : Nat) (cB : ClassId) (fq : Nat → Int32) (G : List Nat) (v : Int32) (ou : Nat) (cO : ClassId) (go : Nat → Int64) (hnt : l.flags = pinnedFlags ++ [noTraceFlag]) (hLq : by_L G fq) (hcq : G.length ≤ 4195) (hbad : v < 0 ∨ nI G.length ≤ v) : yM_i (S := Unit) ad l y_La_byteOf w_La_byteOf { frames := 7, cells := 1, slots := 6, locals := 104 } (dC, dI) vwCl [.ref tf, .int v, .ref ou] [(tf, .inr (7, [.ref hf, .ref hq, .ref hs, .ref hd, .ref hp, .ref hc, .long ln])), (hq, .inr (2, [.ref rq, .int (nI G.length)])), (rq, .inl (cB, 4195, .inl fq)), (ou, .inl (cO, 1, .inr (.inl go)))] [(cB, .byte), (cO, .long)] (fun (r : Int32) (u : Unit) => r = 1) (fun u => [(tf, .inr (7, [.ref hf, .ref hq, .ref hs, .ref hd, .ref hp, .ref hc, .long ln])), (hq, .inr (2, [.ref rq, .int (nI G.length)])), (rq, .inl (cB, 4195, .inl fq)), (ou, .inl (cO, 1, .inr (.inl go)))]) (fun u => [(cB, .byte), (cO, .long)]) 1 6 := by
  refine zw_enteri (hh := [(0, 9, 12, 37)]) (cc := method_9_code) (nL := 4) (ret := (some .int)) (by decide) rfl (Nat.le_of_ble_eq_true rfl) ?_
  intro p e s m below meth c A ls C0 htab hA hS hP hK hD hl hX
  obtain ⟨hx, hb, hml, hown, hg, hr, hlocks, hin⟩ := C0
  have hown : s.vm.findClass "TextForgeLaw" = some m.cls := hown
  have hP : va_P (dC, dI) vwCl [(tf, .inr (7, [.ref hf, .ref hq, .ref hs, .ref hd, .ref hp, .ref hc, .long ln])), (hq, .inr (2, [.ref rq, .int (nI G.length)])), (rq, .inl (cB, 4195, .inl fq)), (ou, .inl (cO, 1, .inr (.inl go)))] s.heap := hP
  have hK : va_K (dC, dI) vwCl [(cB, .byte), (cO, .long)] s := hK
  have hD : va_D A [(tf, .inr (7, [.ref hf, .ref hq, .ref hs, .ref hd, .ref hp, .ref hc, .long ln])), (hq, .inr (2, [.ref rq, .int (nI G.length)])), (rq, .inl (cB, 4195, .inl fq)), (ou, .inl (cO, 1, .inr (.inl go)))] := hD
  have hl : lv_has ls 4 [(0, .ref tf), (1, .int v), (2, .ref ou)] := hl
  refine lv_aload_n hx hb d_La_byteOf_0 rfl (lv_at hl 2 rfl) ?_
  refine lv_iconst (v := 0) hx hb d_La_byteOf_1 (by decide) ?_
  refine lv_aload_n hx hb d_La_byteOf_2 rfl (lv_at hl 0 rfl) ?_
  refine lv_iload_n hx hb d_La_byteOf_3 rfl (lv_at hl 1 rfl) ?_
  have hPc := hP.sub (ws' := [(tf, .inr (7, [.ref hf, .ref hq, .ref hs, .ref hd, .ref hp, .ref hc, .long ln])), (hq, .inr (2, [.ref rq, .int (nI G.length)])), (rq, .inl (cB, 4195, .inl fq))]) [0, 1, 2] rfl
  have hKc := hK.sub (tys' := [(cB, .byte)]) [0] rfl
  refine tx_catch1 (As := [.int v]) (rest := [.int 0, .ref ou]) ⟨hx, hb, hml, hown, hg⟩ (c_Tf_byteOfT l dC dI ad tf hf hq hs hd hp hc ln rq cB fq G v hnt hLq hcq hbad) (cwV 1 hg (gi_V kw_714 kw_715 kw_716 kw_1 kw_717) rfl rfl rfl (by decide +kernel) ⟨Nat.le_of_ble_eq_true rfl, Nat.le_of_ble_eq_true rfl⟩) (zy_prJ2 hX hS hP hK hPc hKc _ (q0 := 0) (ci := 7) rfl rfl) rfl hl.1 rfl (Nat.le_of_ble_eq_true rfl) d_La_byteOf_4 ⟨(Nat.le_of_ble_eq_true rfl), (Nat.le_of_ble_eq_true rfl)⟩ htab ⟨by decide, by decide⟩ (by decide) (hg _ kw_680) (hX.2.2.2.2.2.1 _ (List.mem_of_getElem? (i := 8) rfl)) (fun x1 H hk1 hz1 => ?_)
  have hP := tw_P hP hk1
  have hS := tw_S hS hk1 hz1
  have hP : va_P (dC, dI) vwCl [(tf, .inr (7, [.ref hf, .ref hq, .ref hs, .ref hd, .ref hp, .ref hc, .long ln])), (hq, .inr (2, [.ref rq, .int (nI G.length)])), (rq, .inl (cB, 4195, .inl fq)), (ou, .inl (cO, 1, .inr (.inl go)))] H := hP
  have hD : va_D A [(tf, .inr (7, [.ref hf, .ref hq, .ref hs, .ref hd, .ref hp, .ref hc, .long ln])), (hq, .inr (2, [.ref rq, .int (nI G.length)])), (rq, .inl (cB, 4195, .inl fq)), (ou, .inl (cO, 1, .inr (.inl go)))] := hD
  refine lv_astore_n (lv' := [(3, .ref x1), (0, .ref tf), (1, .int v), (2, .ref ou)]) hx hb d_La_byteOf_12 rfl hl (by decide) rfl (fun ls hl => ?_)
  refine lv_iconst (v := 1) hx hb d_La_byteOf_13 (by decide) ?_
  have hP9 := hP.sub (ws' := [(tf, .inr (7, [.ref hf, .ref hq, .ref hs, .ref hd, .ref hp, .ref hc, .long ln])), (hq, .inr (2, [.ref rq, .int (nI G.length)])), (rq, .inl (cB, 4195, .inl fq)), (ou, .inl (cO, 1, .inr (.inl go)))]) [0, 1, 2, 3] rfl
  have hD9 := hD.sub (ws' := [(tf, .inr (7, [.ref hf, .ref hq, .ref hs, .ref hd, .ref hp, .ref hc, .long ln])), (hq, .inr (2, [.ref rq, .int (nI G.length)])), (rq, .inl (cB, 4195, .inl fq)), (ou, .inl (cO, 1, .inr (.inl go)))]) [0, 1, 2, 3] (by decide) rfl
  have hK9 := hK.sub (tys' := [(cB, .byte), (cO, .long)]) [0, 1] rfl
  exact zz_iret hx hb hr hlocks d_La_byteOf_14 hS (by first | exact Nat.le_refl _ | decide | omega | (dsimp only; omega)) (by first | exact Nat.le_refl _ | decide | omega | (dsimp only; omega)) () rfl hP9 hK9 hD9
