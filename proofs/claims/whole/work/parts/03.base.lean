/-! BASE: canonical contracts (a start world, a world behind), calls and ends over them -/
/-- the world behind a method: a list of cells that depends on u -/
def zz_B {S : Type} (D : va_G) (cl : List vw_C) (A : Nat → Prop) (w1 : S → va_W) (ty1 : S → List (ClassId × FieldType)) : S → State → Prop :=
  fun u t => va_P D cl (w1 u) t.heap ∧ va_K D cl (ty1 u) t ∧ va_D A (w1 u)
/-- the world at a method's start -/
def zz_I (D : va_G) (cl : List vw_C) (W0 : va_W) (ty0 : List (ClassId × FieldType)) (sz : Nat) : State → Prop :=
  fun U => U.heap.size = sz ∧ va_P D cl W0 U.heap ∧ va_K D cl ty0 U ∧ va_D (fun _ => True) W0
/-- the same of a method that only reads -/
def zz_J (D : va_G) (cl : List vw_C) (W0 : va_W) (ty0 : List (ClassId × FieldType)) : State → Prop :=
  fun U => va_P D cl W0 U.heap ∧ va_K D cl ty0 U
theorem zz_blI {av : List Value} {D : va_G} {cl : List vw_C} {W0 : va_W} {ty0 : List (ClassId × FieldType)} {sz : Nat} : FrameBlind (va_Pc av (zz_I D cl W0 ty0 sz)) := by
  intro a U g mk q
  obtain ⟨q0, q1, qP, qK, qD⟩ := q
  exact ⟨q0, q1, qP, va_K.moved (u := U) (U := U.calling g mk a) (Vm.Alike.refl U.vm) qK, qD⟩
theorem zz_blJ {av : List Value} {D : va_G} {cl : List vw_C} {W0 : va_W} {ty0 : List (ClassId × FieldType)} : FrameBlind (va_Pc av (zz_J D cl W0 ty0)) := by
  intro a U g mk q
  obtain ⟨q0, qP, qK⟩ := q
  exact ⟨q0, qP, va_K.moved (u := U) (U := U.calling g mk a) (Vm.Alike.refl U.vm) qK⟩
section ZP
variable {s : State} {H : Heap} {D : va_G} {cl : List vw_C} {wc : va_W} {tyc : List (ClassId × FieldType)} {A : Nat → Prop}
theorem zz_preS (hPc : va_P D cl wc H) (hKc : va_K D cl tyc s) (hDc : va_D A wc) (As : List Value) : PreS s H (va_Pc As (zz_I D cl wc tyc H.size)) As :=
  ⟨zz_blI, fun U hU hW => ⟨rfl, by rw [hU], by rw [hU]; exact hPc, va_K.moved hW.alike hKc, hDc.weaken (fun _ _ _ _ => trivial)⟩⟩
theorem zz_preV (hPc : va_P D cl wc H) (hKc : va_K D cl tyc s) (hDc : va_D A wc) (As : List Value) {b q0 ci : Nat} {q : vw_C} {fs : List Value} (hc : cl[ci]? = some q) (he : wc[q0]? = some (b, .inr (ci, fs))) : PreV s H q.1 b (va_Pc (.ref b :: As) (zz_I D cl wc tyc H.size)) As :=
  ⟨zz_blI, va_recv hKc hPc hc he, fun U hU hW => ⟨rfl, by rw [hU], by rw [hU]; exact hPc, va_K.moved hW.alike hKc, hDc.weaken (fun _ _ _ _ => trivial)⟩⟩
theorem zz_prJS (hPc : va_P D cl wc H) (hKc : va_K D cl tyc s) (As : List Value) : PreS s H (va_Pc As (zz_J D cl wc tyc)) As :=
  ⟨zz_blJ, fun U hU hW => ⟨rfl, by rw [hU]; exact hPc, va_K.moved hW.alike hKc⟩⟩
theorem zz_prJV (hPc : va_P D cl wc H) (hKc : va_K D cl tyc s) (As : List Value) {b q0 ci : Nat} {q : vw_C} {fs : List Value} (hc : cl[ci]? = some q) (he : wc[q0]? = some (b, .inr (ci, fs))) : PreV s H q.1 b (va_Pc (.ref b :: As) (zz_J D cl wc tyc)) As :=
  ⟨zz_blJ, va_recv hKc hPc hc he, fun U hU hW => ⟨rfl, by rw [hU]; exact hPc, va_K.moved hW.alike hKc⟩⟩
end ZP
/-- a contract that writes its world: void, int, long -/
def zM_v {S : Type} (l : Launch) (y : MethodName) (ws : List Cond) (rm : Room) (D : va_G) (cl : List vw_C) (av : List Value) (W0 : va_W) (ty0 : List (ClassId × FieldType)) (post : S → Prop) (w1 : S → va_W) (ty1 : S → List (ClassId × FieldType)) (mc ms : Nat) : Prop :=
  ∀ sz : Nat, Met l y ws rm (va_Pc av (zz_I D cl W0 ty0 sz)) (va_Qv post (zz_B D cl (va_A W0 sz) w1 ty1) (va_A W0 sz)) mc ms (va_A W0 sz)
def zM_i {S : Type} (l : Launch) (y : MethodName) (ws : List Cond) (rm : Room) (D : va_G) (cl : List vw_C) (av : List Value) (W0 : va_W) (ty0 : List (ClassId × FieldType)) (post : Int32 → S → Prop) (w1 : S → va_W) (ty1 : S → List (ClassId × FieldType)) (mc ms : Nat) : Prop :=
  ∀ sz : Nat, Met l y ws rm (va_Pc av (zz_I D cl W0 ty0 sz)) (va_Qi post (zz_B D cl (va_A W0 sz) w1 ty1) (va_A W0 sz)) mc ms (va_A W0 sz)
def zM_r {S : Type} (l : Launch) (y : MethodName) (ws : List Cond) (rm : Room) (D : va_G) (cl : List vw_C) (av : List Value) (W0 : va_W) (ty0 : List (ClassId × FieldType)) (post : S → Prop) (w1 : S → Nat → va_W) (ty1 : S → List (ClassId × FieldType)) (mc ms : Nat) : Prop :=
  ∀ sz : Nat, Met l y ws rm (va_Pc av (zz_I D cl W0 ty0 sz)) (va_Qr post (fun u a t => va_P D cl (w1 u a) t.heap ∧ va_K D cl (ty1 u) t ∧ va_D (va_A W0 sz) (w1 u a)) (va_A W0 sz)) mc ms (va_A W0 sz)
/-- a contract that only reads -/
def zR_i (l : Launch) (y : MethodName) (ws : List Cond) (rm : Room) (D : va_G) (cl : List vw_C) (av : List Value) (W0 : va_W) (ty0 : List (ClassId × FieldType)) (post : Int32 → Prop) : Prop :=
  Met l y ws rm (va_Pc av (zz_J D cl W0 ty0)) (vp_Si post) 0 0 (fun _ => False)
def zR_l (l : Launch) (y : MethodName) (ws : List Cond) (rm : Room) (D : va_G) (cl : List vw_C) (av : List Value) (W0 : va_W) (ty0 : List (ClassId × FieldType)) (post : Int64 → Prop) : Prop :=
  Met l y ws rm (va_Pc av (zz_J D cl W0 ty0)) (vp_Sl post) 0 0 (fun _ => False)
def zR_q (l : Launch) (y : MethodName) (ws : List Cond) (rm : Room) (D : va_G) (cl : List vw_C) (av : List Value) (W0 : va_W) (ty0 : List (ClassId × FieldType)) (post : Option Nat → Prop) : Prop :=
  Met l y ws rm (va_Pc av (zz_J D cl W0 ty0)) (va_Sq post) 0 0 (fun _ => False)
def zR_v (l : Launch) (y : MethodName) (ws : List Cond) (rm : Room) (D : va_G) (cl : List vw_C) (av : List Value) (W0 : va_W) (ty0 : List (ClassId × FieldType)) (post : Unit → Prop) : Prop :=
  Met l y ws rm (va_Pc av (zz_J D cl W0 ty0)) (va_Sv post) 0 0 (fun _ => False)
/-- what a walk stands on -/
def zz_C (p : Program) (s : State) (m : MethodId) (args : Array Value) (meth : Method) (c : Code) (cc : ByteArray) (nL : Nat) (own : String) (Ts : List Cond) (nm : String) (ret : Option FieldType) : Prop :=
  p.tables.exec = Jvm.exec ∧ c.code = cc ∧ c.maxLocals = nL ∧ s.vm.findClass own = some m.cls ∧ (∀ w ∈ Ts, w.before args s = true) ∧ meth.sig.returnType = ret ∧ meth.locks = false ∧ meth.name = nm
section ZE
variable {l : Launch} {y : MethodName} {ws ws' : List Cond} {rm : Room} {D : va_G} {cl : List vw_C} {av : List Value} {W0 : va_W} {ty0 : List (ClassId × FieldType)} {cc : ByteArray} {nL : Nat} {ret : Option FieldType}
/-- the entry of a writing method -/
theorem zz_enterv {S : Type} {post : S → Prop} {w1 : S → va_W} {ty1 : S → List (ClassId × FieldType)} {mc ms : Nat} (hy : plainName y.cls = true) (hw : ws = Cond.code y cc nL ret :: ws') (hn : (lg_sl av).length ≤ nL)
    (body : ∀ (p : Program) (e : Env) (s : State) (m : MethodId) (below : List Frame) (meth : Method) (c : Code) (A : Nat → Prop) (ls : Array Slot), zz_C p s m av.toArray meth c cc nL y.cls ws' y.name ret → (∀ q : Nat, s.heap.size ≤ q → A q) → va_S A s.heap s.heap [] → va_P D cl W0 s.heap → va_K D cl ty0 s → va_D A W0 → lv_has ls nL (lv_args 0 av) →
      W p l e rm s m av.toArray below meth c s.heap [] 0 0 (MQ below (va_Qv post (zz_B D cl A w1 ty1) A) av.toArray s mc ms A) (F0 m 0 ls [])) :
    zM_v l y ws rm D cl av W0 ty0 post w1 ty1 mc ms := by
  intro sz
  refine Met.ofW (cc := cc) (maxL := nL) (ret := ret) hy hw ?_
  intro p e s m args below meth c s₁ B hml hv
  obtain ⟨rfl, hsz, hP, hK, hD0⟩ := hv
  subst hsz
  have hD := hD0.self (sz := s.heap.size)
  have hl := lv_entry av (n := nL) hn
  rw [lg_entry_eq]
  exact body p e s m below meth c _ _ ⟨B.exec, B.bytes, hml, findClass_of_methodNamed B.named, fun w h => atoms_spec (ws := ws) B.pre w (by rw [hw]; exact List.mem_cons_of_mem _ h), B.returns, B.notSynchronized, (name_of_methodNamed B.named B.method).1⟩ (fun q h => Or.inr h) va_S.rf hP hK hD hl
theorem zz_enteri {S : Type} {post : Int32 → S → Prop} {w1 : S → va_W} {ty1 : S → List (ClassId × FieldType)} {mc ms : Nat} (hy : plainName y.cls = true) (hw : ws = Cond.code y cc nL ret :: ws') (hn : (lg_sl av).length ≤ nL)
    (body : ∀ (p : Program) (e : Env) (s : State) (m : MethodId) (below : List Frame) (meth : Method) (c : Code) (A : Nat → Prop) (ls : Array Slot), zz_C p s m av.toArray meth c cc nL y.cls ws' y.name ret → (∀ q : Nat, s.heap.size ≤ q → A q) → va_S A s.heap s.heap [] → va_P D cl W0 s.heap → va_K D cl ty0 s → va_D A W0 → lv_has ls nL (lv_args 0 av) →
      W p l e rm s m av.toArray below meth c s.heap [] 0 0 (MQ below (va_Qi post (zz_B D cl A w1 ty1) A) av.toArray s mc ms A) (F0 m 0 ls [])) :
    zM_i l y ws rm D cl av W0 ty0 post w1 ty1 mc ms := by
  intro sz
  refine Met.ofW (cc := cc) (maxL := nL) (ret := ret) hy hw ?_
  intro p e s m args below meth c s₁ B hml hv
  obtain ⟨rfl, hsz, hP, hK, hD0⟩ := hv
  subst hsz
  have hD := hD0.self (sz := s.heap.size)
  have hl := lv_entry av (n := nL) hn
  rw [lg_entry_eq]
  exact body p e s m below meth c _ _ ⟨B.exec, B.bytes, hml, findClass_of_methodNamed B.named, fun w h => atoms_spec (ws := ws) B.pre w (by rw [hw]; exact List.mem_cons_of_mem _ h), B.returns, B.notSynchronized, (name_of_methodNamed B.named B.method).1⟩ (fun q h => Or.inr h) va_S.rf hP hK hD hl
theorem zz_enterr {S : Type} {post : S → Prop} {w1 : S → Nat → va_W} {ty1 : S → List (ClassId × FieldType)} {mc ms : Nat} (hy : plainName y.cls = true) (hw : ws = Cond.code y cc nL ret :: ws') (hn : (lg_sl av).length ≤ nL)
    (body : ∀ (p : Program) (e : Env) (s : State) (m : MethodId) (below : List Frame) (meth : Method) (c : Code) (A : Nat → Prop) (ls : Array Slot), zz_C p s m av.toArray meth c cc nL y.cls ws' y.name ret → (∀ q : Nat, s.heap.size ≤ q → A q) → va_S A s.heap s.heap [] → va_P D cl W0 s.heap → va_K D cl ty0 s → va_D A W0 → lv_has ls nL (lv_args 0 av) →
      W p l e rm s m av.toArray below meth c s.heap [] 0 0 (MQ below (va_Qr post (fun u a t => va_P D cl (w1 u a) t.heap ∧ va_K D cl (ty1 u) t ∧ va_D A (w1 u a)) A) av.toArray s mc ms A) (F0 m 0 ls [])) :
    zM_r l y ws rm D cl av W0 ty0 post w1 ty1 mc ms := by
  intro sz
  refine Met.ofW (cc := cc) (maxL := nL) (ret := ret) hy hw ?_
  intro p e s m args below meth c s₁ B hml hv
  obtain ⟨rfl, hsz, hP, hK, hD0⟩ := hv
  subst hsz
  have hD := hD0.self (sz := s.heap.size)
  have hl := lv_entry av (n := nL) hn
  rw [lg_entry_eq]
  exact body p e s m below meth c _ _ ⟨B.exec, B.bytes, hml, findClass_of_methodNamed B.named, fun w h => atoms_spec (ws := ws) B.pre w (by rw [hw]; exact List.mem_cons_of_mem _ h), B.returns, B.notSynchronized, (name_of_methodNamed B.named B.method).1⟩ (fun q h => Or.inr h) va_S.rf hP hK hD hl
/-- the entry of a reading method -/
theorem zz_enterR {Qc : Array Value → State → Outcome → State → Prop} (hy : plainName y.cls = true) (hw : ws = Cond.code y cc nL ret :: ws') (hn : (lg_sl av).length ≤ nL)
    (body : ∀ (p : Program) (e : Env) (s : State) (m : MethodId) (below : List Frame) (meth : Method) (c : Code) (ls : Array Slot), zz_C p s m av.toArray meth c cc nL y.cls ws' y.name ret → va_P D cl W0 s.heap → va_K D cl ty0 s → lv_has ls nL (lv_args 0 av) →
      W p l e rm s m av.toArray below meth c s.heap [] 0 0 (MQ below Qc av.toArray s 0 0 (fun _ => False)) (F0 m 0 ls [])) :
    Met l y ws rm (va_Pc av (zz_J D cl W0 ty0)) Qc 0 0 (fun _ => False) := by
  refine Met.ofW (cc := cc) (maxL := nL) (ret := ret) hy hw ?_
  intro p e s m args below meth c s₁ B hml hv
  obtain ⟨rfl, hP, hK⟩ := hv
  have hl := lv_entry av (n := nL) hn
  rw [lg_entry_eq]
  exact body p e s m below meth c _ ⟨B.exec, B.bytes, hml, findClass_of_methodNamed B.named, fun w h => atoms_spec (ws := ws) B.pre w (by rw [hw]; exact List.mem_cons_of_mem _ h), B.returns, B.notSynchronized, (name_of_methodNamed B.named B.method).1⟩ hP hK hl
end ZE
section ZQ
variable {p : Program} {l : Launch} {e : Env} {R : Room} {s : State} {m : MethodId} {args : Array Value} {below : List Frame} {meth : Method} {c : Code} {H : Heap} {locs : List Loc} {cells slots : Nat} {cc : ByteArray} {pc : Nat} {ls : Array Slot}
variable {D : va_G} {cl : List vw_C} {A : Nat → Prop}
/-- ends of reading methods -/
theorem zz_iretR {post : Int32 → Prop} {v : Int32} (hx : p.tables.exec = Jvm.exec) (hb : c.code = cc) (hr : meth.sig.returnType = some .int) (hlocks : meth.locks = false) (hd : decode cc pc = .ok (.ireturn, 1)) (h : post v) :
    W p l e R s m args below meth c s.heap [] 0 0 (MQ below (vp_Si post) args s 0 0 (fun _ => False)) (F0 m pc ls [.int v]) :=
  W.iret hx hb hr (fun t ht hW => ⟨v, rfl, h, ht⟩) (fun q h => by cases h) hd
theorem zz_zretR {post : Int32 → Prop} {v : Int32} {ty : FieldType} (hx : p.tables.exec = Jvm.exec) (hb : c.code = cc) (hr : meth.sig.returnType = some ty) (hlocks : meth.locks = false) (hd : decode cc pc = .ok (.ireturn, 1)) (hn : narrow ty (.int v) = .int v) (h : post v) :
    W p l e R s m args below meth c s.heap [] 0 0 (MQ below (vp_Si post) args s 0 0 (fun _ => False)) (F0 m pc ls [.int v]) :=
  W.zret hx hb hr hn (fun t ht hW => ⟨v, rfl, h, ht⟩) (fun q h => by cases h) hd
theorem zz_lretR {post : Int64 → Prop} {v : Int64} (hx : p.tables.exec = Jvm.exec) (hb : c.code = cc) (hr : meth.sig.returnType = some .long) (hlocks : meth.locks = false) (hd : decode cc pc = .ok (.lreturn, 1)) (h : post v) :
    W p l e R s m args below meth c s.heap [] 0 0 (MQ below (vp_Sl post) args s 0 0 (fun _ => False)) (F0 m pc ls [.long v]) :=
  W.lret hx hb hr (fun t ht hW => ⟨v, rfl, h, ht⟩) (fun q h => by cases h) hd
theorem zz_vretR {post : Unit → Prop} (hx : p.tables.exec = Jvm.exec) (hb : c.code = cc) (hr : meth.sig.returnType = none) (hlocks : meth.locks = false) (hd : decode cc pc = .ok (.return_, 1)) (h : post ()) :
    W p l e R s m args below meth c s.heap [] 0 0 (MQ below (va_Sv post) args s 0 0 (fun _ => False)) (F0 m pc ls []) :=
  W.vret hx hb hr (fun t ht hW => ⟨rfl, h, ht⟩) (fun q h => by cases h) hd
/-- ends of writing methods -/
theorem zz_vret {S : Type} {post : S → Prop} {w1 : S → va_W} {ty1 : S → List (ClassId × FieldType)} {mc ms : Nat} (hx : p.tables.exec = Jvm.exec) (hb : c.code = cc) (hr : meth.sig.returnType = none) (hlocks : meth.locks = false) (hd : decode cc pc = .ok (.return_, 1))
    (hS : va_S A s.heap H locs) (hc : cells ≤ mc) (hs : slots ≤ ms) (u : S) (h : post u) (hP : va_P D cl (w1 u) H) (hK : va_K D cl (ty1 u) s) (hD : va_D A (w1 u)) :
    W p l e R s m args below meth c H locs cells slots (MQ below (va_Qv post (zz_B D cl A w1 ty1) A) args s mc ms A) (F0 m pc ls []) :=
  W.widen hc hs (W.vret hx hb hr (fun t ht hW => ⟨⟨u, rfl, h, by rw [ht]; exact hP, va_K.moved hW.alike hK, hD⟩, hS.F ht⟩) hS.2.2 hd)
theorem zz_iret {S : Type} {post : Int32 → S → Prop} {w1 : S → va_W} {ty1 : S → List (ClassId × FieldType)} {mc ms : Nat} {v : Int32} (hx : p.tables.exec = Jvm.exec) (hb : c.code = cc) (hr : meth.sig.returnType = some .int) (hlocks : meth.locks = false) (hd : decode cc pc = .ok (.ireturn, 1))
    (hS : va_S A s.heap H locs) (hc : cells ≤ mc) (hs : slots ≤ ms) (u : S) (h : post v u) (hP : va_P D cl (w1 u) H) (hK : va_K D cl (ty1 u) s) (hD : va_D A (w1 u)) :
    W p l e R s m args below meth c H locs cells slots (MQ below (va_Qi post (zz_B D cl A w1 ty1) A) args s mc ms A) (F0 m pc ls [.int v]) :=
  W.widen hc hs (W.iret hx hb hr (fun t ht hW => ⟨⟨v, u, rfl, h, by rw [ht]; exact hP, va_K.moved hW.alike hK, hD⟩, hS.F ht⟩) hS.2.2 hd)
theorem zz_zret {S : Type} {post : Int32 → S → Prop} {w1 : S → va_W} {ty1 : S → List (ClassId × FieldType)} {mc ms : Nat} {v : Int32} {ty : FieldType} (hx : p.tables.exec = Jvm.exec) (hb : c.code = cc) (hr : meth.sig.returnType = some ty) (hlocks : meth.locks = false) (hd : decode cc pc = .ok (.ireturn, 1)) (hn : narrow ty (.int v) = .int v)
    (hS : va_S A s.heap H locs) (hc : cells ≤ mc) (hs : slots ≤ ms) (u : S) (h : post v u) (hP : va_P D cl (w1 u) H) (hK : va_K D cl (ty1 u) s) (hD : va_D A (w1 u)) :
    W p l e R s m args below meth c H locs cells slots (MQ below (va_Qi post (zz_B D cl A w1 ty1) A) args s mc ms A) (F0 m pc ls [.int v]) :=
  W.widen hc hs (W.zret hx hb hr hn (fun t ht hW => ⟨⟨v, u, rfl, h, by rw [ht]; exact hP, va_K.moved hW.alike hK, hD⟩, hS.F ht⟩) hS.2.2 hd)
theorem zz_rret {S : Type} {post : S → Prop} {w1 : S → Nat → va_W} {ty1 : S → List (ClassId × FieldType)} {mc ms b : Nat} {rn : String} (hx : p.tables.exec = Jvm.exec) (hb : c.code = cc) (hr : meth.sig.returnType = some (.object rn)) (hlocks : meth.locks = false) (hd : decode cc pc = .ok (.areturn, 1))
    (hS : va_S A s.heap H locs) (hc : cells ≤ mc) (hs : slots ≤ ms) (u : S) (h : post u) (hP : va_P D cl (w1 u b) H) (hK : va_K D cl (ty1 u) s) (hD : va_D A (w1 u b)) :
    W p l e R s m args below meth c H locs cells slots (MQ below (va_Qr post (fun u a t => va_P D cl (w1 u a) t.heap ∧ va_K D cl (ty1 u) t ∧ va_D A (w1 u a)) A) args s mc ms A) (F0 m pc ls [.ref b]) :=
  W.widen hc hs (W.aret hx hb hr (Or.inl ⟨_, rfl⟩) (Or.inr ⟨_, rfl⟩) (fun t ht hW => ⟨⟨u, b, rfl, h, by rw [ht]; exact hP, va_K.moved hW.alike hK, hD⟩, hS.F ht⟩) hS.2.2 hd)
theorem zz_qretR {post : Option Nat → Prop} {r : Option Nat} {rn : String} (hx : p.tables.exec = Jvm.exec) (hb : c.code = cc) (hr : meth.sig.returnType = some (.object rn)) (hlocks : meth.locks = false) (hd : decode cc pc = .ok (.areturn, 1)) (h : post r) :
    W p l e R s m args below meth c s.heap [] 0 0 (MQ below (va_Sq post) args s 0 0 (fun _ => False)) (F0 m pc ls [va_rf r]) :=
  W.aret hx hb hr (Or.inl ⟨_, rfl⟩) (va_rf_or r) (fun t ht hW => ⟨r, rfl, h, ht⟩) (fun q h => by cases h) hd
end ZQ
section ZC
variable {p : Program} {l : Launch} {e : Env} {R : Room} {s : State} {m : MethodId} {args : Array Value} {below : List Frame} {meth : Method} {c : Code} {H : Heap} {locs : List Loc} {cells slots : Nat} {Q : State → Prop}
variable {pc : Nat} {ls : Array Slot} {rest st0 : List Value} {a : Array Value} {A0 : Nat → Prop} {H0 : Heap} {mc ms : Nat}
variable {D : va_G} {cl : List vw_C} {wc : va_W}
/-- behind a call of a writing method: 'hj' puts the callee's cells beside the rest -/
theorem zz_callv {S : Type} {post : S → Prop} {w1 wo : S → va_W} {ty1 : S → List (ClassId × FieldType)}
    (hr : va_Run p l e R s m args below meth c H locs cells slots mc ms (F0 m pc ls st0) rest (va_Qv post (zz_B D cl (va_A wc H.size) w1 ty1) (va_A wc H.size) a) (va_A wc H.size)) (hS : va_S A0 H0 H locs) (hF : ∀ q, va_A wc H.size q → A0 q)
    (hj : ∀ (u : S) (H1 : Heap), (∀ q : Nat, q < H.size → ¬ va_A wc H.size q → H1[q]? = H[q]?) → va_P D cl (w1 u) H1 → va_D (va_A wc H.size) (w1 u) → va_P D cl (wo u) H1 ∧ va_D A0 (wo u))
    (kk : ∀ (u : S) (H1 : Heap) (locs1 : List Loc), post u → va_P D cl (wo u) H1 → va_D A0 (wo u) → va_K D cl (ty1 u) s → va_S A0 H0 H1 locs1 → W p l e R s m args below meth c H1 locs1 (cells + mc) (slots + ms) Q (F0 m (pc + 3) ls rest)) : W p l e R s m args below meth c H locs cells slots Q (F0 m pc ls st0) := by
  refine va_callv hr hS (fun q _ h => hF q h) hF (fun u t H1 locs1 ht hvm hw hB hz1 hk1 hS1 => ?_)
  obtain ⟨hP1, hK1, hD1⟩ := hB
  rw [ht] at hP1
  obtain ⟨h1, h2⟩ := hj u H1 hk1 hP1 hD1
  exact kk u H1 locs1 hw h1 h2 (va_K.moved hvm.symm hK1) hS1
theorem zz_calli {S : Type} {post : Int32 → S → Prop} {w1 wo : S → va_W} {ty1 : S → List (ClassId × FieldType)}
    (hr : va_Run p l e R s m args below meth c H locs cells slots mc ms (F0 m pc ls st0) rest (va_Qi post (zz_B D cl (va_A wc H.size) w1 ty1) (va_A wc H.size) a) (va_A wc H.size)) (hS : va_S A0 H0 H locs) (hF : ∀ q, va_A wc H.size q → A0 q)
    (hj : ∀ (u : S) (H1 : Heap), (∀ q : Nat, q < H.size → ¬ va_A wc H.size q → H1[q]? = H[q]?) → va_P D cl (w1 u) H1 → va_D (va_A wc H.size) (w1 u) → va_P D cl (wo u) H1 ∧ va_D A0 (wo u))
    (kk : ∀ (r : Int32) (u : S) (H1 : Heap) (locs1 : List Loc), post r u → va_P D cl (wo u) H1 → va_D A0 (wo u) → va_K D cl (ty1 u) s → va_S A0 H0 H1 locs1 → W p l e R s m args below meth c H1 locs1 (cells + mc) (slots + ms) Q (F0 m (pc + 3) ls (.int r :: rest))) : W p l e R s m args below meth c H locs cells slots Q (F0 m pc ls st0) := by
  refine va_calli hr hS (fun q _ h => hF q h) hF (fun r u t H1 locs1 ht hvm hw hB hz1 hk1 hS1 => ?_)
  obtain ⟨hP1, hK1, hD1⟩ := hB
  rw [ht] at hP1
  obtain ⟨h1, h2⟩ := hj u H1 hk1 hP1 hD1
  exact kk r u H1 locs1 hw h1 h2 (va_K.moved hvm.symm hK1) hS1
theorem zz_callr {S : Type} {post : S → Prop} {w1 wo : S → Nat → va_W} {ty1 : S → List (ClassId × FieldType)}
    (hr : va_Run p l e R s m args below meth c H locs cells slots mc ms (F0 m pc ls st0) rest (va_Qr post (fun u a t => va_P D cl (w1 u a) t.heap ∧ va_K D cl (ty1 u) t ∧ va_D (va_A wc H.size) (w1 u a)) (va_A wc H.size) a) (va_A wc H.size)) (hS : va_S A0 H0 H locs) (hF : ∀ q, va_A wc H.size q → A0 q)
    (hj : ∀ (u : S) (b : Nat) (H1 : Heap), (∀ q : Nat, q < H.size → ¬ va_A wc H.size q → H1[q]? = H[q]?) → va_P D cl (w1 u b) H1 → va_D (va_A wc H.size) (w1 u b) → va_P D cl (wo u b) H1 ∧ va_D A0 (wo u b))
    (kk : ∀ (u : S) (b : Nat) (H1 : Heap) (locs1 : List Loc), post u → va_P D cl (wo u b) H1 → va_D A0 (wo u b) → va_K D cl (ty1 u) s → va_S A0 H0 H1 locs1 → W p l e R s m args below meth c H1 locs1 (cells + mc) (slots + ms) Q (F0 m (pc + 3) ls (.ref b :: rest))) : W p l e R s m args below meth c H locs cells slots Q (F0 m pc ls st0) := by
  refine va_callr hr hS (fun q _ h => hF q h) hF (fun u b t H1 locs1 ht hvm hw hB hz1 hk1 hS1 => ?_)
  obtain ⟨hP1, hK1, hD1⟩ := hB
  rw [ht] at hP1
  obtain ⟨h1, h2⟩ := hj u b H1 hk1 hP1 hD1
  exact kk u b H1 locs1 hw h1 h2 (va_K.moved hvm.symm hK1) hS1
end ZC
/-- words of a call, all of them in gw -/
theorem gi_l {L : List Cond} (h : ∀ w ∈ L, w ∈ gw) : GoodIn gw L := fun w hw => ⟨h w hw, good_of_word (gw_good (h w hw))⟩
theorem gi_0 {cd : Cond} (h5 : cd ∈ gw) : GoodIn gw (cd :: gw) := gi_l (List.forall_mem_cons.mpr ⟨h5, fun _ h => h⟩)
theorem gi_V {own C : String} {idx : Nat} {y : MethodName} {cd : Cond} (h1 : Cond.methodLink own idx y ∈ gw) (h2 : Cond.instanceMethod y ∈ gw) (h3 : Cond.selects C y y ∈ gw) (h4 : Cond.initialized C ∈ gw) (h5 : cd ∈ gw) : GoodIn gw (wsV own idx C y (cd :: gw)) :=
  gi_l (List.forall_mem_cons.mpr ⟨h1, List.forall_mem_cons.mpr ⟨h2, List.forall_mem_cons.mpr ⟨h3, List.forall_mem_cons.mpr ⟨h4, List.forall_mem_cons.mpr ⟨h5, fun _ h => h⟩⟩⟩⟩⟩)
theorem gi_S {own : String} {idx : Nat} {y : MethodName} {cd : Cond} (h1 : Cond.methodLink own idx y ∈ gw) (h2 : Cond.static y ∈ gw) (h4 : Cond.initialized y.cls ∈ gw) (h5 : cd ∈ gw) : GoodIn gw (va_wsS own idx y (cd :: gw)) :=
  gi_l (List.forall_mem_cons.mpr ⟨h1, List.forall_mem_cons.mpr ⟨h2, List.forall_mem_cons.mpr ⟨h4, List.forall_mem_cons.mpr ⟨h5, fun _ h => h⟩⟩⟩⟩)
section ZL
variable {p : Program} {l : Launch} {e : Env} {R : Room} {s : State} {m : MethodId} {args : Array Value} {below : List Frame} {meth : Method} {c : Code} {cells slots : Nat} {Q : State → Prop} {pc : Nat} {st : List Value}
/-- a loop: a state x, an invariant I, a measure -/
theorem zz_loop {σ : Type} (I : σ → Heap → List Loc → Array Slot → Prop) (μ : σ → Nat)
    (hs : ∀ (x : σ) (H : Heap) (locs : List Loc) (ls : Array Slot), I x H locs ls → (∀ (y : σ) (H1 : Heap) (locs1 : List Loc) (ls1 : Array Slot), I y H1 locs1 ls1 → μ y < μ x → W p l e R s m args below meth c H1 locs1 cells slots Q (F0 m pc ls1 st)) → W p l e R s m args below meth c H locs cells slots Q (F0 m pc ls st))
    (x : σ) {H : Heap} {locs : List Loc} {ls : Array Slot} (h : I x H locs ls) : W p l e R s m args below meth c H locs cells slots Q (F0 m pc ls st) := by
  have key : ∀ (n : Nat) (x : σ) (H : Heap) (locs : List Loc) (ls : Array Slot), μ x < n → I x H locs ls → W p l e R s m args below meth c H locs cells slots Q (F0 m pc ls st) := by
    intro n
    induction n with
    | zero => intro x H locs ls h; exact absurd h (Nat.not_lt_zero _)
    | succ n ih => intro x H locs ls h hI; exact hs x H locs ls hI (fun y H1 locs1 ls1 hJ hm => ih y H1 locs1 ls1 (by omega) hJ)
  exact key (μ x + 1) x H locs ls (Nat.lt_succ_self _) h
/-- the same where the heap stays -/
theorem zz_loopR {H : Heap} {locs : List Loc} {σ : Type} (I : σ → Array Slot → Prop) (μ : σ → Nat)
    (hs : ∀ (x : σ) (ls : Array Slot), I x ls → (∀ (y : σ) (ls1 : Array Slot), I y ls1 → μ y < μ x → W p l e R s m args below meth c H locs cells slots Q (F0 m pc ls1 st)) → W p l e R s m args below meth c H locs cells slots Q (F0 m pc ls st))
    (x : σ) {ls : Array Slot} (h : I x ls) : W p l e R s m args below meth c H locs cells slots Q (F0 m pc ls st) := by
  have key : ∀ (n : Nat) (x : σ) (ls : Array Slot), μ x < n → I x ls → W p l e R s m args below meth c H locs cells slots Q (F0 m pc ls st) := by
    intro n
    induction n with
    | zero => intro x ls h; exact absurd h (Nat.not_lt_zero _)
    | succ n ih => intro x ls h hI; exact hs x ls hI (fun y ls1 hJ hm => ih y ls1 (by omega) hJ)
  exact key (μ x + 1) x ls (Nat.lt_succ_self _) h
/-- a place where roads meet: proved once -/
theorem zz_meet {σ : Type} (I : σ → Heap → List Loc → Array Slot → Prop) {G : Prop}
    (hs : ∀ (x : σ) (H : Heap) (locs : List Loc) (ls : Array Slot), I x H locs ls → W p l e R s m args below meth c H locs cells slots Q (F0 m pc ls st))
    (k : (∀ (x : σ) (H : Heap) (locs : List Loc) (ls : Array Slot), I x H locs ls → W p l e R s m args below meth c H locs cells slots Q (F0 m pc ls st)) → G) : G := k hs
end ZL
