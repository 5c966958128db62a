/-! BASE 2: answers that are references or null; pools -/
def zM_q {S : Type} (l : Launch) (y : MethodName) (ws : List Cond) (rm : Room) (D : va_G) (cl : List vw_C) (av : List Value) (W0 : va_W) (ty0 : List (ClassId × FieldType)) (post : Option Nat → S → Prop) (w1 : S → va_W) (ty1 : S → List (ClassId × FieldType)) (mc ms : Nat) : Prop :=
  ∀ sz : Nat, Met l y ws rm (va_Pc av (zz_I D cl W0 ty0 sz)) (va_Qq post (zz_B D cl (va_A W0 sz) w1 ty1) (va_A W0 sz)) mc ms (va_A W0 sz)
theorem zz_enterq {l : Launch} {y : MethodName} {ws ws' : List Cond} {rm : Room} {D : va_G} {cl : List vw_C} {av : List Value} {W0 : va_W} {ty0 : List (ClassId × FieldType)} {cc : ByteArray} {nL : Nat} {ret : Option FieldType} {S : Type} {post : Option Nat → S → Prop} {w1 : S → va_W} {ty1 : S → List (ClassId × FieldType)} {mc ms : Nat} (hy : plainName y.cls = true) (hw : ws = Cond.code y cc nL ret :: ws') (hn : (lg_sl av).length ≤ nL)
    (body : ∀ (p : Program) (e : Env) (s : State) (m : MethodId) (below : List Frame) (meth : Method) (c : Code) (A : Nat → Prop) (ls : Array Slot), zz_C p s m av.toArray meth c cc nL y.cls ws' y.name ret → (∀ q : Nat, s.heap.size ≤ q → A q) → va_S A s.heap s.heap [] → va_P D cl W0 s.heap → va_K D cl ty0 s → va_D A W0 → lv_has ls nL (lv_args 0 av) →
      W p l e rm s m av.toArray below meth c s.heap [] 0 0 (MQ below (va_Qq post (zz_B D cl A w1 ty1) A) av.toArray s mc ms A) (F0 m 0 ls [])) :
    zM_q l y ws rm D cl av W0 ty0 post w1 ty1 mc ms := by
  intro sz
  refine Met.ofW (cc := cc) (maxL := nL) (ret := ret) hy hw ?_
  intro p e s m args below meth c s₁ B hml hv
  obtain ⟨rfl, hsz, hP, hK, hD0⟩ := hv
  subst hsz
  have hD := hD0.self (sz := s.heap.size)
  have hl := lv_entry av (n := nL) hn
  rw [lg_entry_eq]
  exact body p e s m below meth c _ _ ⟨B.exec, B.bytes, hml, findClass_of_methodNamed B.named, fun w h => atoms_spec (ws := ws) B.pre w (by rw [hw]; exact List.mem_cons_of_mem _ h), B.returns, B.notSynchronized, (name_of_methodNamed B.named B.method).1⟩ (fun q h => Or.inr h) va_S.rf hP hK hD hl
section ZB2
variable {p : Program} {l : Launch} {e : Env} {R : Room} {s : State} {m : MethodId} {args : Array Value} {below : List Frame} {meth : Method} {c : Code} {H : Heap} {locs : List Loc} {cells slots : Nat} {cc : ByteArray} {pc : Nat} {ls : Array Slot} {Q : State → Prop} {rest st0 : List Value} {a : Array Value} {A0 : Nat → Prop} {H0 : Heap} {mc ms : Nat} {wc : va_W}
variable {D : va_G} {cl : List vw_C} {A : Nat → Prop}
theorem zz_qret {S : Type} {post : Option Nat → S → Prop} {w1 : S → va_W} {ty1 : S → List (ClassId × FieldType)} {mc ms : Nat} {r : Option Nat} {rn : String} (hx : p.tables.exec = Jvm.exec) (hb : c.code = cc) (hr : meth.sig.returnType = some (.object rn)) (hlocks : meth.locks = false) (hd : decode cc pc = .ok (.areturn, 1))
    (hS : va_S A s.heap H locs) (hc : cells ≤ mc) (hs : slots ≤ ms) (u : S) (h : post r u) (hP : va_P D cl (w1 u) H) (hK : va_K D cl (ty1 u) s) (hD : va_D A (w1 u)) :
    W p l e R s m args below meth c H locs cells slots (MQ below (va_Qq post (zz_B D cl A w1 ty1) A) args s mc ms A) (F0 m pc ls [va_rf r]) :=
  W.widen hc hs (W.aret hx hb hr (Or.inl ⟨_, rfl⟩) (va_rf_or r) (fun t ht hW => ⟨⟨r, u, rfl, h, by rw [ht]; exact hP, va_K.moved hW.alike hK, hD⟩, hS.F ht⟩) hS.2.2 hd)
theorem zz_callq {S : Type} {post : Option Nat → S → Prop} {w1 wo : S → va_W} {ty1 : S → List (ClassId × FieldType)}
    (hr : va_Run p l e R s m args below meth c H locs cells slots mc ms (F0 m pc ls st0) rest (va_Qq post (zz_B D cl (va_A wc H.size) w1 ty1) (va_A wc H.size) a) (va_A wc H.size)) (hS : va_S A0 H0 H locs) (hF : ∀ q, va_A wc H.size q → A0 q)
    (hj : ∀ (u : S) (H1 : Heap), (∀ q : Nat, q < H.size → ¬ va_A wc H.size q → H1[q]? = H[q]?) → va_P D cl (w1 u) H1 → va_D (va_A wc H.size) (w1 u) → va_P D cl (wo u) H1 ∧ va_D A0 (wo u))
    (kk : ∀ (r : Option Nat) (u : S) (H1 : Heap) (locs1 : List Loc), post r u → va_P D cl (wo u) H1 → va_D A0 (wo u) → va_K D cl (ty1 u) s → va_S A0 H0 H1 locs1 → W p l e R s m args below meth c H1 locs1 (cells + mc) (slots + ms) Q (F0 m (pc + 3) ls (va_rf r :: rest))) : W p l e R s m args below meth c H locs cells slots Q (F0 m pc ls st0) := by
  refine va_callq hr hS (fun q _ h => hF q h) hF (fun r u t H1 locs1 ht hvm hw hB hz1 hk1 hS1 => ?_)
  obtain ⟨hP1, hK1, hD1⟩ := hB
  rw [ht] at hP1
  obtain ⟨h1, h2⟩ := hj u H1 hk1 hP1 hD1
  exact kk r u H1 locs1 hw h1 h2 (va_K.moved hvm.symm hK1) hS1
end ZB2
theorem pz_nd {A : Nat → Prop} {ws : va_W} (h : va_D A ws) : (ws.map (·.1)).Nodup ∧ ∀ q ∈ ws, A q.1 := by
  refine ⟨?_, fun q hq => by obtain ⟨k, hk⟩ := List.getElem?_of_mem hq; exact h.2 k q hk⟩
  unfold List.Nodup
  rw [List.pairwise_iff_getElem]
  intro i j hi hj hij e
  rw [List.length_map] at hi hj
  rw [List.getElem_map, List.getElem_map] at e
  have := h.1 i j ws[i] ws[j] (List.getElem?_eq_getElem hi) (List.getElem?_eq_getElem hj) e
  omega
theorem pz_dn {A : Nat → Prop} {ws : va_W} (h1 : (ws.map (·.1)).Nodup) (h2 : ∀ q ∈ ws, A q.1) : va_D A ws := by
  refine ⟨fun i j p q hi hj e => ?_, fun k q hk => h2 q (List.mem_of_getElem? hk)⟩
  unfold List.Nodup at h1
  rw [List.pairwise_iff_getElem] at h1
  obtain ⟨li, ei⟩ := List.getElem?_eq_some_iff.mp hi
  obtain ⟨lj, ej⟩ := List.getElem?_eq_some_iff.mp hj
  have mi : i < (ws.map (·.1)).length := by rw [List.length_map]; exact li
  have mj : j < (ws.map (·.1)).length := by rw [List.length_map]; exact lj
  rcases Nat.lt_trichotomy i j with c | c | c
  · exact absurd (by rw [List.getElem_map, List.getElem_map, ei, ej]; exact e) (h1 i j mi mj c)
  · exact c
  · exact absurd (by rw [List.getElem_map, List.getElem_map, ei, ej]; exact e.symm) (h1 j i mj mi c)
theorem pz_at {D : va_G} {cl : List vw_C} {ws : va_W} {H : Heap} (h : va_P D cl ws H) {q : Nat × va_E} (hq : q ∈ ws) : va_at D cl q H := by
  obtain ⟨k, hk⟩ := List.getElem?_of_mem hq; exact h k q hk
theorem pz_of {D : va_G} {cl : List vw_C} {ws : va_W} {H : Heap} (h : ∀ q ∈ ws, va_at D cl q H) : va_P D cl ws H := fun k q hk => h q (List.mem_of_getElem? hk)
theorem pz_A {wc : va_W} {sz q : Nat} (h : va_A wc sz q) : (∃ w ∈ wc, w.1 = q) ∨ sz ≤ q := by
  rcases h with ⟨k, e, hk⟩ | h
  · exact Or.inl ⟨(q, e), List.mem_of_getElem? hk, rfl⟩
  · exact Or.inr h
theorem pz_in {X cx : va_W} {is : List Nat} (hs : is.map (fun i => X[i]?) = cx.map some) {q : Nat × va_E} (hq : q ∈ cx) : ∃ i ∈ is, X[i]? = some q := by
  obtain ⟨k, hk⟩ := List.getElem?_of_mem hq
  obtain ⟨i, h1, h2⟩ := va_in_of is hs hk
  exact ⟨i, List.mem_of_getElem? h1, h2⟩
/-- behind a call that got cells of the pool and left them as they were -/
theorem pz_join {A0 : Nat → Prop} {D : va_G} {cl : List vw_C} {X pl cm ck wc wr wm1 : va_W} {H H1 : Heap} (hP : va_P D cl (X ++ pl) H) (hD : va_D A0 (X ++ pl))
    (isM isR : List Nat) (hM : isM.map (fun i => X[i]?) = cm.map some) (hR : isR.map (fun i => X[i]?) = wr.map some) (hn : va_nd isR = true) (hdis : ∀ i ∈ isR, i ∉ isM)
    (hck : ∀ q ∈ ck, q ∈ pl) (hwc : ∀ q ∈ wc, q ∈ cm ∨ q ∈ ck) (hk : ∀ q : Nat, q < H.size → ¬ va_A wc H.size q → H1[q]? = H[q]?) (hF : ∀ q, va_A wc H.size q → A0 q)
    (hP1 : va_P D cl (wm1 ++ ck) H1) (hD1 : va_D (va_A wc H.size) (wm1 ++ ck)) : va_P D cl ((wr ++ wm1) ++ pl) H1 ∧ va_D A0 ((wr ++ wm1) ++ pl) := by
  have nd := pz_nd hD
  have nr := pz_nd (hD.part isR hn hR)
  have n1 := pz_nd hD1
  rw [List.map_append, List.nodup_append] at nd nr n1
  have lt : ∀ q ∈ X ++ pl, q.1 < H.size := fun q hq => (pz_at hP hq).lt
  have inX : ∀ q ∈ wr, q ∈ X := fun q hq => by obtain ⟨i, _, h⟩ := pz_in hR hq; exact List.mem_of_getElem? h
  have cX : ∀ q ∈ cm, q ∈ X := fun q hq => by obtain ⟨i, _, h⟩ := pz_in hM hq; exact List.mem_of_getElem? h
  have xp : ∀ q ∈ X, ∀ r ∈ pl, q.1 ≠ r.1 := fun q hq r hr => nd.1.2.2 q.1 (List.mem_map_of_mem hq) r.1 (List.mem_map_of_mem hr)
  have rc : ∀ q ∈ wr, ∀ r ∈ cm, q.1 ≠ r.1 := fun q hq r hr e => by
    obtain ⟨i, hi, h1⟩ := pz_in hR hq
    obtain ⟨j, hj, h2⟩ := pz_in hM hr
    have l1 : i < X.length := (List.getElem?_eq_some_iff.mp h1).1
    have l2 : j < X.length := (List.getElem?_eq_some_iff.mp h2).1
    have := hD.1 i j q r (by rw [List.getElem?_append_left l1]; exact h1) (by rw [List.getElem?_append_left l2]; exact h2) e
    subst this; exact hdis i hi hj
  have oc : ∀ q ∈ wr, ¬ va_A wc H.size q.1 := fun q hq h => by
    rcases pz_A h with ⟨w, hw, e⟩ | h
    · rcases hwc w hw with z | z
      · exact rc q hq w z e.symm
      · exact xp q (inX q hq) w (hck w z) e.symm
    · have := lt q (List.mem_append_left _ (inX q hq)); omega
  have n2 : ∀ r ∈ wm1, ∀ q : Nat × va_E, q.1 < H.size → ¬ (∃ w ∈ wc, w.1 = q.1 ∧ (w ∈ cm)) → r.1 = q.1 → False := fun r hr q hq hno e => by
    rcases pz_A (n1.2 r (List.mem_append_left _ hr)) with ⟨w, hw, e2⟩ | h
    · rcases hwc w hw with z | z
      · exact hno ⟨w, hw, e2.trans e, z⟩
      · exact n1.1.2.2 r.1 (List.mem_map_of_mem hr) w.1 (List.mem_map_of_mem z) e2.symm
    · omega
  refine ⟨pz_of fun q hq => ?_, pz_dn ?_ fun q hq => ?_⟩
  · rcases List.mem_append.mp hq with h | h
    · rcases List.mem_append.mp h with h | h
      · exact (pz_at hP (List.mem_append_left _ (inX q h))).kept (hk q.1 (lt q (List.mem_append_left _ (inX q h))) (oc q h))
      · exact pz_at hP1 (List.mem_append_left _ h)
    · by_cases c : va_A wc H.size q.1
      · rcases pz_A c with ⟨w, hw, e⟩ | z
        · rcases hwc w hw with z | z
          · exact absurd e (xp w (cX w z) q h)
          · have : w = q := by
              obtain ⟨i, hi⟩ := List.getElem?_of_mem (hck w z)
              obtain ⟨j, hj⟩ := List.getElem?_of_mem h
              have e3 := hD.1 (X.length + i) (X.length + j) w q (by rw [List.getElem?_append_right (by omega), Nat.add_sub_cancel_left]; exact hi) (by rw [List.getElem?_append_right (by omega), Nat.add_sub_cancel_left]; exact hj) e
              have : i = j := by omega
              subst this; rw [hi] at hj; exact Option.some.inj hj
            rw [← this]
            exact pz_at hP1 (List.mem_append_right _ z)
        · have := lt q (List.mem_append_right _ h); omega
      · exact (pz_at hP (List.mem_append_right _ h)).kept (hk q.1 (lt q (List.mem_append_right _ h)) c)
  · rw [List.map_append, List.map_append, List.nodup_append, List.nodup_append]
    refine ⟨⟨nr.1.1, n1.1.1, fun a ha b hb e => ?_⟩, nr.1.2.1, fun a ha b hb e => ?_⟩
    · obtain ⟨q, hq, rfl⟩ := List.mem_map.mp ha
      obtain ⟨r, hr, rfl⟩ := List.mem_map.mp hb
      exact n2 r hr q (lt q (List.mem_append_left _ (inX q hq))) (fun ⟨w, _, e2, z⟩ => rc q hq w z e2.symm) e.symm
    · obtain ⟨r, hr, rfl⟩ := List.mem_map.mp hb
      rcases List.mem_append.mp ha with h | h
      · exact nr.1.2.2 a h r.1 (List.mem_map_of_mem hr) e
      · obtain ⟨q, hq, rfl⟩ := List.mem_map.mp h
        exact n2 q hq r (lt r (List.mem_append_right _ hr)) (fun ⟨w, _, e2, z⟩ => xp w (cX w z) r hr e2) e
  · rcases List.mem_append.mp hq with h | h
    · rcases List.mem_append.mp h with h | h
      · exact nr.2 q (List.mem_append_left _ h)
      · exact hF _ (n1.2 q (List.mem_append_left _ h))
    · exact nr.2 q (List.mem_append_right _ h)
