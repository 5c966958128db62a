/-! MODEL 3: parse -/
/-! BASE 3: writing methods that answer a long -/
def zM_l {S : Type} (l : Launch) (y : MethodName) (ws : List Cond) (rm : Room) (D : va_G) (cl : List vw_C) (av : List Value) (W0 : va_W) (ty0 : List (ClassId × FieldType)) (post : Int64 → S → Prop) (w1 : S → va_W) (ty1 : S → List (ClassId × FieldType)) (mc ms : Nat) : Prop :=
  ∀ sz : Nat, Met l y ws rm (va_Pc av (zz_I D cl W0 ty0 sz)) (va_Ql post (zz_B D cl (va_A W0 sz) w1 ty1) (va_A W0 sz)) mc ms (va_A W0 sz)
theorem zz_enterl {l : Launch} {y : MethodName} {ws ws' : List Cond} {rm : Room} {D : va_G} {cl : List vw_C} {av : List Value} {W0 : va_W} {ty0 : List (ClassId × FieldType)} {cc : ByteArray} {nL : Nat} {ret : Option FieldType} {S : Type} {post : Int64 → S → Prop} {w1 : S → va_W} {ty1 : S → List (ClassId × FieldType)} {mc ms : Nat} (hy : plainName y.cls = true) (hw : ws = Cond.code y cc nL ret :: ws') (hn : (lg_sl av).length ≤ nL)
    (body : ∀ (p : Program) (e : Env) (s : State) (m : MethodId) (below : List Frame) (meth : Method) (c : Code) (A : Nat → Prop) (ls : Array Slot), zz_C p s m av.toArray meth c cc nL y.cls ws' y.name ret → (∀ q : Nat, s.heap.size ≤ q → A q) → va_S A s.heap s.heap [] → va_P D cl W0 s.heap → va_K D cl ty0 s → va_D A W0 → lv_has ls nL (lv_args 0 av) →
      W p l e rm s m av.toArray below meth c s.heap [] 0 0 (MQ below (va_Ql post (zz_B D cl A w1 ty1) A) av.toArray s mc ms A) (F0 m 0 ls [])) :
    zM_l l y ws rm D cl av W0 ty0 post w1 ty1 mc ms := by
  intro sz
  refine Met.ofW (cc := cc) (maxL := nL) (ret := ret) hy hw ?_
  intro p e s m args below meth c s₁ B hml hv
  obtain ⟨rfl, hsz, hP, hK, hD0⟩ := hv
  subst hsz
  have hD := hD0.self (sz := s.heap.size)
  have hl := lv_entry av (n := nL) hn
  rw [lg_entry_eq]
  exact body p e s m below meth c _ _ ⟨B.exec, B.bytes, hml, findClass_of_methodNamed B.named, fun w h => atoms_spec (ws := ws) B.pre w (by rw [hw]; exact List.mem_cons_of_mem _ h), B.returns, B.notSynchronized, (name_of_methodNamed B.named B.method).1⟩ (fun q h => Or.inr h) va_S.rf hP hK hD hl
section ZB3
variable {p : Program} {l : Launch} {e : Env} {R : Room} {s : State} {m : MethodId} {args : Array Value} {below : List Frame} {meth : Method} {c : Code} {H : Heap} {locs : List Loc} {cells slots : Nat} {cc : ByteArray} {pc : Nat} {ls : Array Slot} {Q : State → Prop} {rest st0 : List Value} {a : Array Value} {A0 : Nat → Prop} {H0 : Heap} {mc ms : Nat} {wc : va_W}
variable {D : va_G} {cl : List vw_C} {A : Nat → Prop}
theorem zz_lret {S : Type} {post : Int64 → S → Prop} {w1 : S → va_W} {ty1 : S → List (ClassId × FieldType)} {mc ms : Nat} {r : Int64} (hx : p.tables.exec = Jvm.exec) (hb : c.code = cc) (hr : meth.sig.returnType = some .long) (hlocks : meth.locks = false) (hd : decode cc pc = .ok (.lreturn, 1))
    (hS : va_S A s.heap H locs) (hc : cells ≤ mc) (hs : slots ≤ ms) (u : S) (h : post r u) (hP : va_P D cl (w1 u) H) (hK : va_K D cl (ty1 u) s) (hD : va_D A (w1 u)) :
    W p l e R s m args below meth c H locs cells slots (MQ below (va_Ql post (zz_B D cl A w1 ty1) A) args s mc ms A) (F0 m pc ls [.long r]) :=
  W.widen hc hs (W.lret hx hb hr (fun t ht hW => ⟨⟨r, u, rfl, h, by rw [ht]; exact hP, va_K.moved hW.alike hK, hD⟩, hS.F ht⟩) hS.2.2 hd)
theorem zz_calll {S : Type} {post : Int64 → S → Prop} {w1 wo : S → va_W} {ty1 : S → List (ClassId × FieldType)}
    (hr : va_Run p l e R s m args below meth c H locs cells slots mc ms (F0 m pc ls st0) rest (va_Ql post (zz_B D cl (va_A wc H.size) w1 ty1) (va_A wc H.size) a) (va_A wc H.size)) (hS : va_S A0 H0 H locs) (hF : ∀ q, va_A wc H.size q → A0 q)
    (hj : ∀ (u : S) (H1 : Heap), (∀ q : Nat, q < H.size → ¬ va_A wc H.size q → H1[q]? = H[q]?) → va_P D cl (w1 u) H1 → va_D (va_A wc H.size) (w1 u) → va_P D cl (wo u) H1 ∧ va_D A0 (wo u))
    (kk : ∀ (r : Int64) (u : S) (H1 : Heap) (locs1 : List Loc), post r u → va_P D cl (wo u) H1 → va_D A0 (wo u) → va_K D cl (ty1 u) s → va_S A0 H0 H1 locs1 → W p l e R s m args below meth c H1 locs1 (cells + mc) (slots + ms) Q (F0 m (pc + 3) ls (.long r :: rest))) : W p l e R s m args below meth c H locs cells slots Q (F0 m pc ls st0) := by
  refine va_calll hr hS (fun q _ h => hF q h) hF (fun r u t H1 locs1 ht hvm hw hB hz1 hk1 hS1 => ?_)
  obtain ⟨hP1, hK1, hD1⟩ := hB
  rw [ht] at hP1
  obtain ⟨h1, h2⟩ := hj u H1 hk1 hP1 hD1
  exact kk r u H1 locs1 hw h1 h2 (va_K.moved hvm.symm hK1) hS1
end ZB3
theorem sb_i : ∀ v, v < 256 → (sb_b v).toInt = if v < 128 then (v : Int) else (v : Int) - 256 := by decide +kernel
theorem sb_e {v k : Nat} (hv : v < 256) (hk : k < 128) : sb_b v = nI k ↔ v = k := by
  constructor
  · intro e
    have h := sb_i v hv
    rw [e, nI_toInt (by omega)] at h
    split at h <;> omega
  · intro e
    apply Int32.toInt_inj.mp
    rw [sb_i v hv, nI_toInt (by omega), if_pos (by omega), e]
def wo_v (v : Int32) : Int32 := if ¬ v < 48 ∧ ¬ 57 < v then v - 48 else if ¬ v < 97 ∧ ¬ 122 < v then v - 97 + 10 else if ¬ v < 65 ∧ ¬ 90 < v then v - 65 + 10 else 99
theorem wo_1 {v : Int32} (h1 : ¬ v < 48) (h2 : ¬ 57 < v) : v - 48 = wo_v v := by unfold wo_v; rw [if_pos ⟨h1, h2⟩]
theorem wo_2 {v : Int32} (h0 : v < 48 ∨ 57 < v) (h1 : ¬ v < 97) (h2 : ¬ 122 < v) : v - 97 + 10 = wo_v v := by unfold wo_v; rw [if_neg (fun z => h0.elim z.1 z.2), if_pos ⟨h1, h2⟩]
theorem wo_3 {v : Int32} (h0 : v < 48 ∨ 57 < v) (h1 : v < 97 ∨ 122 < v) (h2 : ¬ v < 65) (h3 : ¬ 90 < v) : v - 65 + 10 = wo_v v := by unfold wo_v; rw [if_neg (fun z => h0.elim z.1 z.2), if_neg (fun z => h1.elim z.1 z.2), if_pos ⟨h2, h3⟩]
theorem wo_4 {v : Int32} (h0 : v < 48 ∨ 57 < v) (h1 : v < 97 ∨ 122 < v) (h2 : v < 65 ∨ 90 < v) : 99 = wo_v v := by unfold wo_v; rw [if_neg (fun z => h0.elim z.1 z.2), if_neg (fun z => h1.elim z.1 z.2), if_neg (fun z => h2.elim z.1 z.2)]
theorem wo_n : ∀ c, c < 256 → wo_v (sb_b c) = nI (dgN c) := by decide +kernel
def psM : Int := -9223372036854775808
theorem ps_pm {b : Nat} (hb : 2 ≤ b) : ∀ (L : List Nat) (v : Int), psM < v → v ≤ 0 → ps_f b (-9223372036854775807) L v = (ps_f b psM L v).bind (fun w => if w = psM then none else some w) := by
  intro L
  induction L with
  | nil => intro v h1 h2; rw [ps_f, ps_f]; show _ = if v = psM then none else some v; rw [if_neg (by omega)]
  | cons c r ih =>
    intro v h1 h2
    rw [ps_f, ps_f]
    by_cases hd : dgN c < b
    · by_cases hw : psM ≤ v * b - dgN c
      · by_cases he : v * b - dgN c = psM
        · rw [if_neg (fun z => by have := z.2; rw [he] at this; unfold psM at this; omega), if_pos ⟨hd, hw⟩, he]
          cases r with
          | nil => rw [ps_f]; rfl
          | cons c2 r2 =>
            rw [ps_f, if_neg]
            · rfl
            · intro z
              have h3 : psM * (b : Int) ≤ psM * 2 := Int.mul_le_mul_of_nonpos_left (by decide) (by omega)
              have := z.2
              unfold psM at *
              omega
        · have h0 : v * b ≤ 0 := Int.mul_nonpos_of_nonpos_of_nonneg h2 (by omega)
          rw [if_pos ⟨hd, by unfold psM at *; omega⟩, if_pos ⟨hd, hw⟩]
          exact ih _ (by omega) (by omega)
      · rw [if_neg (fun z => hw (by have := z.2; unfold psM; omega)), if_neg (fun z => hw z.2)]; rfl
    · rw [if_neg (fun z => hd z.1), if_neg (fun z => hd z.1)]; rfl
theorem ps_neg {F : List Nat} {b : Nat} (h : ps_k F < F.length) (hn : ps_n F = true) : ps_v F b = ps_f b psM (F.drop (ps_k F)) 0 := by
  rw [ps_1 h, hn, show ps_m F = psM by unfold ps_m; rw [hn]; rfl]
  cases ps_f b psM (F.drop (ps_k F)) 0 <;> rfl
theorem ps_pos {F : List Nat} {b : Nat} (hb : 2 ≤ b) (h : ps_k F < F.length) (hn : ps_n F = false) : ps_v F b = (ps_f b psM (F.drop (ps_k F)) 0).bind (fun w => if w = psM then none else some (-w)) := by
  rw [ps_1 h, hn, show ps_m F = -9223372036854775807 by unfold ps_m; rw [hn]; rfl, ps_pm hb _ 0 (by decide) (by decide)]
  cases ps_f b psM (F.drop (ps_k F)) 0 with
  | none => rfl
  | some w =>
    show Option.map _ (if w = psM then none else some w) = if w = psM then none else some (-w)
    by_cases e : w = psM
    · rw [if_pos e, if_pos e]; rfl
    · rw [if_neg e, if_neg e]; rfl
theorem ps_nn {F : List Nat} {b : Nat} (hb : 2 ≤ b) (h : ps_k F < F.length) (hf : ps_f b psM (F.drop (ps_k F)) 0 = none) : ps_v F b = none := by
  cases hn : ps_n F
  · rw [ps_pos hb h hn, hf]; rfl
  · rw [ps_neg h hn, hf]
/-- where the reading stands -/
def ps_J (F : List Nat) (b : Nat) (ov : Bool) (i : Nat) (x : Int64) : Prop := match ov with
  | true => ps_f b psM (F.drop (ps_k F)) 0 = none
  | false => ps_f b psM (F.drop (ps_k F)) 0 = ps_f b psM (F.drop i) x.toInt ∧ psM ≤ x.toInt ∧ x.toInt ≤ 0
theorem ps_J0 {F : List Nat} {b : Nat} : ps_J F b false (ps_k F) 0 := ⟨rfl, by decide, by decide⟩
theorem ps_J1 {F : List Nat} {b i : Nat} {ov : Bool} {x : Int64} (hb : 2 ≤ b) (hk : ps_k F < F.length) (h : ps_J F b ov i x) (hi : i < F.length) (hd : ¬ dgN (F.getD i 0) < b) : ps_v F b = none := by
  cases ov
  · exact ps_nn hb hk (h.1.trans (ps_no hi (fun z => hd z.1)))
  · exact ps_nn hb hk h
theorem ps_J2 {F : List Nat} {b i j : Nat} {x y : Int64} (h : ps_J F b true i x) : ps_J F b true j y := h
theorem ps_J3 {F : List Nat} {b i j : Nat} {x y : Int64} (hi : i < F.length) (h : ps_f b psM (F.drop (ps_k F)) 0 = ps_f b psM (F.drop i) x.toInt) (hd : ¬ (dgN (F.getD i 0) < b ∧ psM ≤ x.toInt * b - dgN (F.getD i 0))) : ps_J F b true j y := h.trans (ps_no hi hd)
theorem ps_J4 {F : List Nat} {b i : Nat} {x y : Int64} (hi : i < F.length) (h : ps_f b psM (F.drop (ps_k F)) 0 = ps_f b psM (F.drop i) x.toInt) (h1 : dgN (F.getD i 0) < b) (h2 : psM ≤ x.toInt * b - dgN (F.getD i 0)) (hy : y.toInt = x.toInt * b - dgN (F.getD i 0)) (h0 : y.toInt ≤ 0) : ps_J F b false (i + 1) y :=
  ⟨by rw [h, ps_yes hi h1 h2, hy], by rw [hy]; exact h2, h0⟩
abbrev y_Mo_init : MethodName := ⟨"TextForgeModel", "<init>", "()V"⟩
abbrev w_Mo_init : List Cond := Cond.code y_Mo_init prog_12_method_1_code 1 none :: gw
theorem d_Mo_init_0 : decode prog_12_method_1_code 0 = .ok (.aload_n 0, 1) := by decide +kernel
theorem d_Mo_init_1 : decode prog_12_method_1_code 1 = .ok (.invokespecial 1, 3) := by decide +kernel
theorem d_Mo_init_4 : decode prog_12_method_1_code 4 = .ok (.aload_n 0, 1) := by decide +kernel
theorem d_Mo_init_5 : decode prog_12_method_1_code 5 = .ok (.sipush 4096, 3) := by decide +kernel
theorem d_Mo_init_8 : decode prog_12_method_1_code 8 = .ok (.newarray .byte, 2) := by decide +kernel
theorem d_Mo_init_10 : decode prog_12_method_1_code 10 = .ok (.putfield 7, 3) := by decide +kernel
theorem d_Mo_init_13 : decode prog_12_method_1_code 13 = .ok (.aload_n 0, 1) := by decide +kernel
theorem d_Mo_init_14 : decode prog_12_method_1_code 14 = .ok (.bipush 16, 2) := by decide +kernel
theorem d_Mo_init_16 : decode prog_12_method_1_code 16 = .ok (.newarray .int, 2) := by decide +kernel
theorem d_Mo_init_18 : decode prog_12_method_1_code 18 = .ok (.putfield 13, 3) := by decide +kernel
theorem d_Mo_init_21 : decode prog_12_method_1_code 21 = .ok (.aload_n 0, 1) := by decide +kernel
theorem d_Mo_init_22 : decode prog_12_method_1_code 22 = .ok (.bipush 16, 2) := by decide +kernel
theorem d_Mo_init_24 : decode prog_12_method_1_code 24 = .ok (.newarray .long, 2) := by decide +kernel
theorem d_Mo_init_26 : decode prog_12_method_1_code 26 = .ok (.putfield 17, 3) := by decide +kernel
theorem d_Mo_init_29 : decode prog_12_method_1_code 29 = .ok (.aload_n 0, 1) := by decide +kernel
theorem d_Mo_init_30 : decode prog_12_method_1_code 30 = .ok (.bipush 16, 2) := by decide +kernel
theorem d_Mo_init_32 : decode prog_12_method_1_code 32 = .ok (.newarray .int, 2) := by decide +kernel
theorem d_Mo_init_34 : decode prog_12_method_1_code 34 = .ok (.putfield 21, 3) := by decide +kernel
theorem d_Mo_init_37 : decode prog_12_method_1_code 37 = .ok (.aload_n 0, 1) := by decide +kernel
theorem d_Mo_init_38 : decode prog_12_method_1_code 38 = .ok (.ldc 24, 2) := by decide +kernel
theorem d_Mo_init_40 : decode prog_12_method_1_code 40 = .ok (.newarray .byte, 2) := by decide +kernel
theorem d_Mo_init_42 : decode prog_12_method_1_code 42 = .ok (.putfield 25, 3) := by decide +kernel
theorem d_Mo_init_45 : decode prog_12_method_1_code 45 = .ok (.aload_n 0, 1) := by decide +kernel
theorem d_Mo_init_46 : decode prog_12_method_1_code 46 = .ok (.sipush 4096, 3) := by decide +kernel
theorem d_Mo_init_49 : decode prog_12_method_1_code 49 = .ok (.newarray .byte, 2) := by decide +kernel
theorem d_Mo_init_51 : decode prog_12_method_1_code 51 = .ok (.putfield 28, 3) := by decide +kernel
theorem d_Mo_init_54 : decode prog_12_method_1_code 54 = .ok (.aload_n 0, 1) := by decide +kernel
theorem d_Mo_init_55 : decode prog_12_method_1_code 55 = .ok (.sipush 16400, 3) := by decide +kernel
theorem d_Mo_init_58 : decode prog_12_method_1_code 58 = .ok (.newarray .byte, 2) := by decide +kernel
theorem d_Mo_init_60 : decode prog_12_method_1_code 60 = .ok (.putfield 31, 3) := by decide +kernel
theorem d_Mo_init_63 : decode prog_12_method_1_code 63 = .ok (.aload_n 0, 1) := by decide +kernel
theorem d_Mo_init_64 : decode prog_12_method_1_code 64 = .ok (.sipush 4096, 3) := by decide +kernel
theorem d_Mo_init_67 : decode prog_12_method_1_code 67 = .ok (.newarray .int, 2) := by decide +kernel
theorem d_Mo_init_69 : decode prog_12_method_1_code 69 = .ok (.putfield 34, 3) := by decide +kernel
theorem d_Mo_init_72 : decode prog_12_method_1_code 72 = .ok (.aload_n 0, 1) := by decide +kernel
theorem d_Mo_init_73 : decode prog_12_method_1_code 73 = .ok (.sipush 4096, 3) := by decide +kernel
theorem d_Mo_init_76 : decode prog_12_method_1_code 76 = .ok (.newarray .int, 2) := by decide +kernel
theorem d_Mo_init_78 : decode prog_12_method_1_code 78 = .ok (.putfield 37, 3) := by decide +kernel
theorem d_Mo_init_81 : decode prog_12_method_1_code 81 = .ok (.aload_n 0, 1) := by decide +kernel
theorem d_Mo_init_82 : decode prog_12_method_1_code 82 = .ok (.sipush 4096, 3) := by decide +kernel
theorem d_Mo_init_85 : decode prog_12_method_1_code 85 = .ok (.newarray .int, 2) := by decide +kernel
theorem d_Mo_init_87 : decode prog_12_method_1_code 87 = .ok (.putfield 40, 3) := by decide +kernel
theorem d_Mo_init_90 : decode prog_12_method_1_code 90 = .ok (.return_, 1) := by decide +kernel
set_option maxHeartbeats 4000000 in
set_option maxRecDepth 100000 in
theorem c_Mo_init (l : Launch) (dC : Nat → ClassId) (dI : Nat → Nat → Nat) (mo : Nat)  : zM_v (S := Nat × Nat × Nat × Nat × Nat × Nat × Nat × Nat × Nat × Nat × ClassId × ClassId × ClassId) l y_Mo_init w_Mo_init { frames := 1, cells := 10, slots := 102464, locals := 12 } (dC, dI) vwCl [.ref mo] [(mo, .inr (8, [.int 0, .int 0, .null, .int 0, .null, .null, .null, .null, .int 0, .null, .int 0, .null, .long 0, .int 0, .null, .null, .null, .int 0, .int 0]))] [] (fun (u : Nat × Nat × Nat × Nat × Nat × Nat × Nat × Nat × Nat × Nat × ClassId × ClassId × ClassId) => match u with | (rt, rk, rv, rw, ro, rr, ra, rc, rl, rb, cB, cI, cL) => True) (fun u => match u with | (rt, rk, rv, rw, ro, rr, ra, rc, rl, rb, cB, cI, cL) => [(mo, .inr (8, [.int 0, .int 0, .ref rt, .int 0, .ref rk, .ref rv, .ref rw, .ref ro, .int 0, .ref rr, .int 0, .ref ra, .long 0, .int 0, .ref rc, .ref rl, .ref rb, .int 0, .int 0])), (rt, .inl (cB, 4096, .inl (fun _ => 0))), (rk, .inl (cI, 16, .inl (fun _ => 0))), (rv, .inl (cL, 16, .inr (.inl (fun _ => 0)))), (rw, .inl (cI, 16, .inl (fun _ => 0))), (ro, .inl (cB, 65536, .inl (fun _ => 0))), (rr, .inl (cB, 4096, .inl (fun _ => 0))), (ra, .inl (cB, 16400, .inl (fun _ => 0))), (rc, .inl (cI, 4096, .inl (fun _ => 0))), (rl, .inl (cI, 4096, .inl (fun _ => 0))), (rb, .inl (cI, 4096, .inl (fun _ => 0)))]) (fun u => match u with | (rt, rk, rv, rw, ro, rr, ra, rc, rl, rb, cB, cI, cL) => [(cB, .byte), (cI, .int), (cL, .long)]) 10 102464 := by
  refine zz_enterv (cc := prog_12_method_1_code) (nL := 1) (ret := none) (by decide) rfl (Nat.le_of_ble_eq_true rfl) ?_
  intro p e s m below meth c A ls C0 hA hS hP hK hD hl
  obtain ⟨hx, hb, hml, hown, hg, hr, hlocks, hin⟩ := C0
  have hown : s.vm.findClass "TextForgeModel" = some m.cls := hown
  have hP : va_P (dC, dI) vwCl [(mo, .inr (8, [.int 0, .int 0, .null, .int 0, .null, .null, .null, .null, .int 0, .null, .int 0, .null, .long 0, .int 0, .null, .null, .null, .int 0, .int 0]))] s.heap := hP
  have hK : va_K (dC, dI) vwCl [] s := hK
  have hD : va_D A [(mo, .inr (8, [.int 0, .int 0, .null, .int 0, .null, .null, .null, .null, .int 0, .null, .int 0, .null, .long 0, .int 0, .null, .null, .null, .int 0, .int 0]))] := hD
  have hl : lv_has ls 1 [(0, .ref mo)] := hl
  refine lv_aload_n hx hb d_Mo_init_0 rfl (lv_at hl 0 rfl) ?_
  refine W.objInit hx hb hown (hg _ kw_724) (hg _ kw_29) (hg _ kw_30) rfl (by rw [hml]; exact hl.1) rfl d_Mo_init_1 (Nat.le_of_ble_eq_true rfl) (Nat.le_of_ble_eq_true rfl) ?_
  refine W.eq (g2 := F0 m 4 ls []) rfl ?_
  refine lv_aload_n hx hb d_Mo_init_4 rfl (lv_at hl 0 rfl) ?_
  refine lv_sipush (v := 4096) hx hb d_Mo_init_5 (by decide) ?_
  refine va_newa (atype := .byte) (a0 := (4096, .inl (fun _ => 0))) hx hb (hg _ kw_47) rfl hK hP hD hS hA (fun _ => rfl) (by decide) (by decide) (by decide) (by first | exact Nat.le_refl _ | decide | omega | (dsimp only; omega)) (by first | exact Nat.le_refl _ | decide | omega | (dsimp only; omega)) d_Mo_init_8 (fun q_1 cA_2 H hK hP hD hS => ?_)
  have hK : va_K (dC, dI) vwCl [(cA_2, .byte)] s := hK
  have hP : va_P (dC, dI) vwCl [(mo, .inr (8, [.int 0, .int 0, .null, .int 0, .null, .null, .null, .null, .int 0, .null, .int 0, .null, .long 0, .int 0, .null, .null, .null, .int 0, .int 0])), (q_1, .inl (cA_2, 4096, .inl (fun _ => 0)))] H := hP
  have hD : va_D A [(mo, .inr (8, [.int 0, .int 0, .null, .int 0, .null, .null, .null, .null, .int 0, .null, .int 0, .null, .long 0, .int 0, .null, .null, .null, .int 0, .int 0])), (q_1, .inl (cA_2, 4096, .inl (fun _ => 0)))] := hD
  refine va_putF (D := (dC, dI)) (ci := 8) (v := .ref q_1) (ty := .array .byte) (C := "TextForgeModel") (T := TX8) (N := 19) hx hb hg iwX8 tyX8 tyX8_ok nmX8 hown hK hP hD hS 0 rfl rfl 2 (by decide) (hg _ kw_728) (fun _ h9 => h9) rfl hin rfl (by decide +kernel) rfl rfl (Nat.le_of_ble_eq_true rfl) d_Mo_init_10 (fun H locs hP hD hS => ?_)
  have hP : va_P (dC, dI) vwCl [(mo, .inr (8, [.int 0, .int 0, .ref q_1, .int 0, .null, .null, .null, .null, .int 0, .null, .int 0, .null, .long 0, .int 0, .null, .null, .null, .int 0, .int 0])), (q_1, .inl (cA_2, 4096, .inl (fun _ => 0)))] H := hP
  have hD : va_D A [(mo, .inr (8, [.int 0, .int 0, .ref q_1, .int 0, .null, .null, .null, .null, .int 0, .null, .int 0, .null, .long 0, .int 0, .null, .null, .null, .int 0, .int 0])), (q_1, .inl (cA_2, 4096, .inl (fun _ => 0)))] := hD
  refine lv_aload_n hx hb d_Mo_init_13 rfl (lv_at hl 0 rfl) ?_
  refine lv_bipush (v := 16) hx hb d_Mo_init_14 (by decide) ?_
  refine va_newa (atype := .int) (a0 := (16, .inl (fun _ => 0))) hx hb (hg _ kw_130) rfl hK hP hD hS hA (fun _ => rfl) (by decide) (by decide) (by decide) (by first | exact Nat.le_refl _ | decide | omega | (dsimp only; omega)) (by first | exact Nat.le_refl _ | decide | omega | (dsimp only; omega)) d_Mo_init_16 (fun q_3 cA_4 H hK hP hD hS => ?_)
  have hK : va_K (dC, dI) vwCl [(cA_2, .byte), (cA_4, .int)] s := hK
  have hP : va_P (dC, dI) vwCl [(mo, .inr (8, [.int 0, .int 0, .ref q_1, .int 0, .null, .null, .null, .null, .int 0, .null, .int 0, .null, .long 0, .int 0, .null, .null, .null, .int 0, .int 0])), (q_1, .inl (cA_2, 4096, .inl (fun _ => 0))), (q_3, .inl (cA_4, 16, .inl (fun _ => 0)))] H := hP
  have hD : va_D A [(mo, .inr (8, [.int 0, .int 0, .ref q_1, .int 0, .null, .null, .null, .null, .int 0, .null, .int 0, .null, .long 0, .int 0, .null, .null, .null, .int 0, .int 0])), (q_1, .inl (cA_2, 4096, .inl (fun _ => 0))), (q_3, .inl (cA_4, 16, .inl (fun _ => 0)))] := hD
  refine va_putF (D := (dC, dI)) (ci := 8) (v := .ref q_3) (ty := .array .int) (C := "TextForgeModel") (T := TX8) (N := 19) hx hb hg iwX8 tyX8 tyX8_ok nmX8 hown hK hP hD hS 0 rfl rfl 4 (by decide) (hg _ kw_730) (fun _ h9 => h9) rfl hin rfl (by decide +kernel) rfl rfl (Nat.le_of_ble_eq_true rfl) d_Mo_init_18 (fun H locs hP hD hS => ?_)
  have hP : va_P (dC, dI) vwCl [(mo, .inr (8, [.int 0, .int 0, .ref q_1, .int 0, .ref q_3, .null, .null, .null, .int 0, .null, .int 0, .null, .long 0, .int 0, .null, .null, .null, .int 0, .int 0])), (q_1, .inl (cA_2, 4096, .inl (fun _ => 0))), (q_3, .inl (cA_4, 16, .inl (fun _ => 0)))] H := hP
  have hD : va_D A [(mo, .inr (8, [.int 0, .int 0, .ref q_1, .int 0, .ref q_3, .null, .null, .null, .int 0, .null, .int 0, .null, .long 0, .int 0, .null, .null, .null, .int 0, .int 0])), (q_1, .inl (cA_2, 4096, .inl (fun _ => 0))), (q_3, .inl (cA_4, 16, .inl (fun _ => 0)))] := hD
  refine lv_aload_n hx hb d_Mo_init_21 rfl (lv_at hl 0 rfl) ?_
  refine lv_bipush (v := 16) hx hb d_Mo_init_22 (by decide) ?_
  refine va_newa (atype := .long) (a0 := (16, .inr (.inl (fun _ => 0)))) hx hb (hg _ kw_784) rfl hK hP hD hS hA (fun _ => rfl) (by decide) (by decide) (by decide) (by first | exact Nat.le_refl _ | decide | omega | (dsimp only; omega)) (by first | exact Nat.le_refl _ | decide | omega | (dsimp only; omega)) d_Mo_init_24 (fun q_5 cA_6 H hK hP hD hS => ?_)
  have hK : va_K (dC, dI) vwCl [(cA_2, .byte), (cA_4, .int), (cA_6, .long)] s := hK
  have hP : va_P (dC, dI) vwCl [(mo, .inr (8, [.int 0, .int 0, .ref q_1, .int 0, .ref q_3, .null, .null, .null, .int 0, .null, .int 0, .null, .long 0, .int 0, .null, .null, .null, .int 0, .int 0])), (q_1, .inl (cA_2, 4096, .inl (fun _ => 0))), (q_3, .inl (cA_4, 16, .inl (fun _ => 0))), (q_5, .inl (cA_6, 16, .inr (.inl (fun _ => 0))))] H := hP
  have hD : va_D A [(mo, .inr (8, [.int 0, .int 0, .ref q_1, .int 0, .ref q_3, .null, .null, .null, .int 0, .null, .int 0, .null, .long 0, .int 0, .null, .null, .null, .int 0, .int 0])), (q_1, .inl (cA_2, 4096, .inl (fun _ => 0))), (q_3, .inl (cA_4, 16, .inl (fun _ => 0))), (q_5, .inl (cA_6, 16, .inr (.inl (fun _ => 0))))] := hD
  refine va_putF (D := (dC, dI)) (ci := 8) (v := .ref q_5) (ty := .array .long) (C := "TextForgeModel") (T := TX8) (N := 19) hx hb hg iwX8 tyX8 tyX8_ok nmX8 hown hK hP hD hS 0 rfl rfl 5 (by decide) (hg _ kw_731) (fun _ h9 => h9) rfl hin rfl (by decide +kernel) rfl rfl (Nat.le_of_ble_eq_true rfl) d_Mo_init_26 (fun H locs hP hD hS => ?_)
  have hP : va_P (dC, dI) vwCl [(mo, .inr (8, [.int 0, .int 0, .ref q_1, .int 0, .ref q_3, .ref q_5, .null, .null, .int 0, .null, .int 0, .null, .long 0, .int 0, .null, .null, .null, .int 0, .int 0])), (q_1, .inl (cA_2, 4096, .inl (fun _ => 0))), (q_3, .inl (cA_4, 16, .inl (fun _ => 0))), (q_5, .inl (cA_6, 16, .inr (.inl (fun _ => 0))))] H := hP
  have hD : va_D A [(mo, .inr (8, [.int 0, .int 0, .ref q_1, .int 0, .ref q_3, .ref q_5, .null, .null, .int 0, .null, .int 0, .null, .long 0, .int 0, .null, .null, .null, .int 0, .int 0])), (q_1, .inl (cA_2, 4096, .inl (fun _ => 0))), (q_3, .inl (cA_4, 16, .inl (fun _ => 0))), (q_5, .inl (cA_6, 16, .inr (.inl (fun _ => 0))))] := hD
  refine lv_aload_n hx hb d_Mo_init_29 rfl (lv_at hl 0 rfl) ?_
  refine lv_bipush (v := 16) hx hb d_Mo_init_30 (by decide) ?_
  refine va_newa (atype := .int) (a0 := (16, .inl (fun _ => 0))) hx hb (hg _ kw_130) rfl hK hP hD hS hA (fun _ => rfl) (by decide) (by decide) (by decide) (by first | exact Nat.le_refl _ | decide | omega | (dsimp only; omega)) (by first | exact Nat.le_refl _ | decide | omega | (dsimp only; omega)) d_Mo_init_32 (fun q_7 cA_8 H hK hP hD hS => ?_)
  have hK : va_K (dC, dI) vwCl [(cA_2, .byte), (cA_4, .int), (cA_6, .long), (cA_8, .int)] s := hK
  have hP : va_P (dC, dI) vwCl [(mo, .inr (8, [.int 0, .int 0, .ref q_1, .int 0, .ref q_3, .ref q_5, .null, .null, .int 0, .null, .int 0, .null, .long 0, .int 0, .null, .null, .null, .int 0, .int 0])), (q_1, .inl (cA_2, 4096, .inl (fun _ => 0))), (q_3, .inl (cA_4, 16, .inl (fun _ => 0))), (q_5, .inl (cA_6, 16, .inr (.inl (fun _ => 0)))), (q_7, .inl (cA_8, 16, .inl (fun _ => 0)))] H := hP
  have hD : va_D A [(mo, .inr (8, [.int 0, .int 0, .ref q_1, .int 0, .ref q_3, .ref q_5, .null, .null, .int 0, .null, .int 0, .null, .long 0, .int 0, .null, .null, .null, .int 0, .int 0])), (q_1, .inl (cA_2, 4096, .inl (fun _ => 0))), (q_3, .inl (cA_4, 16, .inl (fun _ => 0))), (q_5, .inl (cA_6, 16, .inr (.inl (fun _ => 0)))), (q_7, .inl (cA_8, 16, .inl (fun _ => 0)))] := hD
  refine va_putF (D := (dC, dI)) (ci := 8) (v := .ref q_7) (ty := .array .int) (C := "TextForgeModel") (T := TX8) (N := 19) hx hb hg iwX8 tyX8 tyX8_ok nmX8 hown hK hP hD hS 0 rfl rfl 6 (by decide) (hg _ kw_732) (fun _ h9 => h9) rfl hin rfl (by decide +kernel) rfl rfl (Nat.le_of_ble_eq_true rfl) d_Mo_init_34 (fun H locs hP hD hS => ?_)
  have hP : va_P (dC, dI) vwCl [(mo, .inr (8, [.int 0, .int 0, .ref q_1, .int 0, .ref q_3, .ref q_5, .ref q_7, .null, .int 0, .null, .int 0, .null, .long 0, .int 0, .null, .null, .null, .int 0, .int 0])), (q_1, .inl (cA_2, 4096, .inl (fun _ => 0))), (q_3, .inl (cA_4, 16, .inl (fun _ => 0))), (q_5, .inl (cA_6, 16, .inr (.inl (fun _ => 0)))), (q_7, .inl (cA_8, 16, .inl (fun _ => 0)))] H := hP
  have hD : va_D A [(mo, .inr (8, [.int 0, .int 0, .ref q_1, .int 0, .ref q_3, .ref q_5, .ref q_7, .null, .int 0, .null, .int 0, .null, .long 0, .int 0, .null, .null, .null, .int 0, .int 0])), (q_1, .inl (cA_2, 4096, .inl (fun _ => 0))), (q_3, .inl (cA_4, 16, .inl (fun _ => 0))), (q_5, .inl (cA_6, 16, .inr (.inl (fun _ => 0)))), (q_7, .inl (cA_8, 16, .inl (fun _ => 0)))] := hD
  refine lv_aload_n hx hb d_Mo_init_37 rfl (lv_at hl 0 rfl) ?_
  refine W.ldc (v := 65536) hx hb hown (hg _ kw_725) rfl d_Mo_init_38 ?_
  refine W.eq (g2 := F0 m 40 ls [.int 65536, .ref mo]) rfl ?_
  refine va_newa (atype := .byte) (a0 := (65536, .inl (fun _ => 0))) hx hb (hg _ kw_47) rfl hK hP hD hS hA (fun _ => rfl) (by decide) (by decide) (by decide) (by first | exact Nat.le_refl _ | decide | omega | (dsimp only; omega)) (by first | exact Nat.le_refl _ | decide | omega | (dsimp only; omega)) d_Mo_init_40 (fun q_9 cA_10 H hK hP hD hS => ?_)
  have hK : va_K (dC, dI) vwCl [(cA_2, .byte), (cA_4, .int), (cA_6, .long), (cA_8, .int), (cA_10, .byte)] s := hK
  have hP : va_P (dC, dI) vwCl [(mo, .inr (8, [.int 0, .int 0, .ref q_1, .int 0, .ref q_3, .ref q_5, .ref q_7, .null, .int 0, .null, .int 0, .null, .long 0, .int 0, .null, .null, .null, .int 0, .int 0])), (q_1, .inl (cA_2, 4096, .inl (fun _ => 0))), (q_3, .inl (cA_4, 16, .inl (fun _ => 0))), (q_5, .inl (cA_6, 16, .inr (.inl (fun _ => 0)))), (q_7, .inl (cA_8, 16, .inl (fun _ => 0))), (q_9, .inl (cA_10, 65536, .inl (fun _ => 0)))] H := hP
  have hD : va_D A [(mo, .inr (8, [.int 0, .int 0, .ref q_1, .int 0, .ref q_3, .ref q_5, .ref q_7, .null, .int 0, .null, .int 0, .null, .long 0, .int 0, .null, .null, .null, .int 0, .int 0])), (q_1, .inl (cA_2, 4096, .inl (fun _ => 0))), (q_3, .inl (cA_4, 16, .inl (fun _ => 0))), (q_5, .inl (cA_6, 16, .inr (.inl (fun _ => 0)))), (q_7, .inl (cA_8, 16, .inl (fun _ => 0))), (q_9, .inl (cA_10, 65536, .inl (fun _ => 0)))] := hD
  refine va_putF (D := (dC, dI)) (ci := 8) (v := .ref q_9) (ty := .array .byte) (C := "TextForgeModel") (T := TX8) (N := 19) hx hb hg iwX8 tyX8 tyX8_ok nmX8 hown hK hP hD hS 0 rfl rfl 7 (by decide) (hg _ kw_733) (fun _ h9 => h9) rfl hin rfl (by decide +kernel) rfl rfl (Nat.le_of_ble_eq_true rfl) d_Mo_init_42 (fun H locs hP hD hS => ?_)
  have hP : va_P (dC, dI) vwCl [(mo, .inr (8, [.int 0, .int 0, .ref q_1, .int 0, .ref q_3, .ref q_5, .ref q_7, .ref q_9, .int 0, .null, .int 0, .null, .long 0, .int 0, .null, .null, .null, .int 0, .int 0])), (q_1, .inl (cA_2, 4096, .inl (fun _ => 0))), (q_3, .inl (cA_4, 16, .inl (fun _ => 0))), (q_5, .inl (cA_6, 16, .inr (.inl (fun _ => 0)))), (q_7, .inl (cA_8, 16, .inl (fun _ => 0))), (q_9, .inl (cA_10, 65536, .inl (fun _ => 0)))] H := hP
  have hD : va_D A [(mo, .inr (8, [.int 0, .int 0, .ref q_1, .int 0, .ref q_3, .ref q_5, .ref q_7, .ref q_9, .int 0, .null, .int 0, .null, .long 0, .int 0, .null, .null, .null, .int 0, .int 0])), (q_1, .inl (cA_2, 4096, .inl (fun _ => 0))), (q_3, .inl (cA_4, 16, .inl (fun _ => 0))), (q_5, .inl (cA_6, 16, .inr (.inl (fun _ => 0)))), (q_7, .inl (cA_8, 16, .inl (fun _ => 0))), (q_9, .inl (cA_10, 65536, .inl (fun _ => 0)))] := hD
  refine lv_aload_n hx hb d_Mo_init_45 rfl (lv_at hl 0 rfl) ?_
  refine lv_sipush (v := 4096) hx hb d_Mo_init_46 (by decide) ?_
  refine va_newa (atype := .byte) (a0 := (4096, .inl (fun _ => 0))) hx hb (hg _ kw_47) rfl hK hP hD hS hA (fun _ => rfl) (by decide) (by decide) (by decide) (by first | exact Nat.le_refl _ | decide | omega | (dsimp only; omega)) (by first | exact Nat.le_refl _ | decide | omega | (dsimp only; omega)) d_Mo_init_49 (fun q_11 cA_12 H hK hP hD hS => ?_)
  have hK : va_K (dC, dI) vwCl [(cA_2, .byte), (cA_4, .int), (cA_6, .long), (cA_8, .int), (cA_10, .byte), (cA_12, .byte)] s := hK
  have hP : va_P (dC, dI) vwCl [(mo, .inr (8, [.int 0, .int 0, .ref q_1, .int 0, .ref q_3, .ref q_5, .ref q_7, .ref q_9, .int 0, .null, .int 0, .null, .long 0, .int 0, .null, .null, .null, .int 0, .int 0])), (q_1, .inl (cA_2, 4096, .inl (fun _ => 0))), (q_3, .inl (cA_4, 16, .inl (fun _ => 0))), (q_5, .inl (cA_6, 16, .inr (.inl (fun _ => 0)))), (q_7, .inl (cA_8, 16, .inl (fun _ => 0))), (q_9, .inl (cA_10, 65536, .inl (fun _ => 0))), (q_11, .inl (cA_12, 4096, .inl (fun _ => 0)))] H := hP
  have hD : va_D A [(mo, .inr (8, [.int 0, .int 0, .ref q_1, .int 0, .ref q_3, .ref q_5, .ref q_7, .ref q_9, .int 0, .null, .int 0, .null, .long 0, .int 0, .null, .null, .null, .int 0, .int 0])), (q_1, .inl (cA_2, 4096, .inl (fun _ => 0))), (q_3, .inl (cA_4, 16, .inl (fun _ => 0))), (q_5, .inl (cA_6, 16, .inr (.inl (fun _ => 0)))), (q_7, .inl (cA_8, 16, .inl (fun _ => 0))), (q_9, .inl (cA_10, 65536, .inl (fun _ => 0))), (q_11, .inl (cA_12, 4096, .inl (fun _ => 0)))] := hD
  refine va_putF (D := (dC, dI)) (ci := 8) (v := .ref q_11) (ty := .array .byte) (C := "TextForgeModel") (T := TX8) (N := 19) hx hb hg iwX8 tyX8 tyX8_ok nmX8 hown hK hP hD hS 0 rfl rfl 9 (by decide) (hg _ kw_735) (fun _ h9 => h9) rfl hin rfl (by decide +kernel) rfl rfl (Nat.le_of_ble_eq_true rfl) d_Mo_init_51 (fun H locs hP hD hS => ?_)
  have hP : va_P (dC, dI) vwCl [(mo, .inr (8, [.int 0, .int 0, .ref q_1, .int 0, .ref q_3, .ref q_5, .ref q_7, .ref q_9, .int 0, .ref q_11, .int 0, .null, .long 0, .int 0, .null, .null, .null, .int 0, .int 0])), (q_1, .inl (cA_2, 4096, .inl (fun _ => 0))), (q_3, .inl (cA_4, 16, .inl (fun _ => 0))), (q_5, .inl (cA_6, 16, .inr (.inl (fun _ => 0)))), (q_7, .inl (cA_8, 16, .inl (fun _ => 0))), (q_9, .inl (cA_10, 65536, .inl (fun _ => 0))), (q_11, .inl (cA_12, 4096, .inl (fun _ => 0)))] H := hP
  have hD : va_D A [(mo, .inr (8, [.int 0, .int 0, .ref q_1, .int 0, .ref q_3, .ref q_5, .ref q_7, .ref q_9, .int 0, .ref q_11, .int 0, .null, .long 0, .int 0, .null, .null, .null, .int 0, .int 0])), (q_1, .inl (cA_2, 4096, .inl (fun _ => 0))), (q_3, .inl (cA_4, 16, .inl (fun _ => 0))), (q_5, .inl (cA_6, 16, .inr (.inl (fun _ => 0)))), (q_7, .inl (cA_8, 16, .inl (fun _ => 0))), (q_9, .inl (cA_10, 65536, .inl (fun _ => 0))), (q_11, .inl (cA_12, 4096, .inl (fun _ => 0)))] := hD
  refine lv_aload_n hx hb d_Mo_init_54 rfl (lv_at hl 0 rfl) ?_
  refine lv_sipush (v := 16400) hx hb d_Mo_init_55 (by decide) ?_
  refine va_newa (atype := .byte) (a0 := (16400, .inl (fun _ => 0))) hx hb (hg _ kw_47) rfl hK hP hD hS hA (fun _ => rfl) (by decide) (by decide) (by decide) (by first | exact Nat.le_refl _ | decide | omega | (dsimp only; omega)) (by first | exact Nat.le_refl _ | decide | omega | (dsimp only; omega)) d_Mo_init_58 (fun q_13 cA_14 H hK hP hD hS => ?_)
  have hK : va_K (dC, dI) vwCl [(cA_2, .byte), (cA_4, .int), (cA_6, .long), (cA_8, .int), (cA_10, .byte), (cA_12, .byte), (cA_14, .byte)] s := hK
  have hP : va_P (dC, dI) vwCl [(mo, .inr (8, [.int 0, .int 0, .ref q_1, .int 0, .ref q_3, .ref q_5, .ref q_7, .ref q_9, .int 0, .ref q_11, .int 0, .null, .long 0, .int 0, .null, .null, .null, .int 0, .int 0])), (q_1, .inl (cA_2, 4096, .inl (fun _ => 0))), (q_3, .inl (cA_4, 16, .inl (fun _ => 0))), (q_5, .inl (cA_6, 16, .inr (.inl (fun _ => 0)))), (q_7, .inl (cA_8, 16, .inl (fun _ => 0))), (q_9, .inl (cA_10, 65536, .inl (fun _ => 0))), (q_11, .inl (cA_12, 4096, .inl (fun _ => 0))), (q_13, .inl (cA_14, 16400, .inl (fun _ => 0)))] H := hP
  have hD : va_D A [(mo, .inr (8, [.int 0, .int 0, .ref q_1, .int 0, .ref q_3, .ref q_5, .ref q_7, .ref q_9, .int 0, .ref q_11, .int 0, .null, .long 0, .int 0, .null, .null, .null, .int 0, .int 0])), (q_1, .inl (cA_2, 4096, .inl (fun _ => 0))), (q_3, .inl (cA_4, 16, .inl (fun _ => 0))), (q_5, .inl (cA_6, 16, .inr (.inl (fun _ => 0)))), (q_7, .inl (cA_8, 16, .inl (fun _ => 0))), (q_9, .inl (cA_10, 65536, .inl (fun _ => 0))), (q_11, .inl (cA_12, 4096, .inl (fun _ => 0))), (q_13, .inl (cA_14, 16400, .inl (fun _ => 0)))] := hD
  refine va_putF (D := (dC, dI)) (ci := 8) (v := .ref q_13) (ty := .array .byte) (C := "TextForgeModel") (T := TX8) (N := 19) hx hb hg iwX8 tyX8 tyX8_ok nmX8 hown hK hP hD hS 0 rfl rfl 11 (by decide) (hg _ kw_737) (fun _ h9 => h9) rfl hin rfl (by decide +kernel) rfl rfl (Nat.le_of_ble_eq_true rfl) d_Mo_init_60 (fun H locs hP hD hS => ?_)
  have hP : va_P (dC, dI) vwCl [(mo, .inr (8, [.int 0, .int 0, .ref q_1, .int 0, .ref q_3, .ref q_5, .ref q_7, .ref q_9, .int 0, .ref q_11, .int 0, .ref q_13, .long 0, .int 0, .null, .null, .null, .int 0, .int 0])), (q_1, .inl (cA_2, 4096, .inl (fun _ => 0))), (q_3, .inl (cA_4, 16, .inl (fun _ => 0))), (q_5, .inl (cA_6, 16, .inr (.inl (fun _ => 0)))), (q_7, .inl (cA_8, 16, .inl (fun _ => 0))), (q_9, .inl (cA_10, 65536, .inl (fun _ => 0))), (q_11, .inl (cA_12, 4096, .inl (fun _ => 0))), (q_13, .inl (cA_14, 16400, .inl (fun _ => 0)))] H := hP
  have hD : va_D A [(mo, .inr (8, [.int 0, .int 0, .ref q_1, .int 0, .ref q_3, .ref q_5, .ref q_7, .ref q_9, .int 0, .ref q_11, .int 0, .ref q_13, .long 0, .int 0, .null, .null, .null, .int 0, .int 0])), (q_1, .inl (cA_2, 4096, .inl (fun _ => 0))), (q_3, .inl (cA_4, 16, .inl (fun _ => 0))), (q_5, .inl (cA_6, 16, .inr (.inl (fun _ => 0)))), (q_7, .inl (cA_8, 16, .inl (fun _ => 0))), (q_9, .inl (cA_10, 65536, .inl (fun _ => 0))), (q_11, .inl (cA_12, 4096, .inl (fun _ => 0))), (q_13, .inl (cA_14, 16400, .inl (fun _ => 0)))] := hD
  refine lv_aload_n hx hb d_Mo_init_63 rfl (lv_at hl 0 rfl) ?_
  refine lv_sipush (v := 4096) hx hb d_Mo_init_64 (by decide) ?_
  refine va_newa (atype := .int) (a0 := (4096, .inl (fun _ => 0))) hx hb (hg _ kw_130) rfl hK hP hD hS hA (fun _ => rfl) (by decide) (by decide) (by decide) (by first | exact Nat.le_refl _ | decide | omega | (dsimp only; omega)) (by first | exact Nat.le_refl _ | decide | omega | (dsimp only; omega)) d_Mo_init_67 (fun q_15 cA_16 H hK hP hD hS => ?_)
  have hK : va_K (dC, dI) vwCl [(cA_2, .byte), (cA_4, .int), (cA_6, .long), (cA_8, .int), (cA_10, .byte), (cA_12, .byte), (cA_14, .byte), (cA_16, .int)] s := hK
  have hP : va_P (dC, dI) vwCl [(mo, .inr (8, [.int 0, .int 0, .ref q_1, .int 0, .ref q_3, .ref q_5, .ref q_7, .ref q_9, .int 0, .ref q_11, .int 0, .ref q_13, .long 0, .int 0, .null, .null, .null, .int 0, .int 0])), (q_1, .inl (cA_2, 4096, .inl (fun _ => 0))), (q_3, .inl (cA_4, 16, .inl (fun _ => 0))), (q_5, .inl (cA_6, 16, .inr (.inl (fun _ => 0)))), (q_7, .inl (cA_8, 16, .inl (fun _ => 0))), (q_9, .inl (cA_10, 65536, .inl (fun _ => 0))), (q_11, .inl (cA_12, 4096, .inl (fun _ => 0))), (q_13, .inl (cA_14, 16400, .inl (fun _ => 0))), (q_15, .inl (cA_16, 4096, .inl (fun _ => 0)))] H := hP
  have hD : va_D A [(mo, .inr (8, [.int 0, .int 0, .ref q_1, .int 0, .ref q_3, .ref q_5, .ref q_7, .ref q_9, .int 0, .ref q_11, .int 0, .ref q_13, .long 0, .int 0, .null, .null, .null, .int 0, .int 0])), (q_1, .inl (cA_2, 4096, .inl (fun _ => 0))), (q_3, .inl (cA_4, 16, .inl (fun _ => 0))), (q_5, .inl (cA_6, 16, .inr (.inl (fun _ => 0)))), (q_7, .inl (cA_8, 16, .inl (fun _ => 0))), (q_9, .inl (cA_10, 65536, .inl (fun _ => 0))), (q_11, .inl (cA_12, 4096, .inl (fun _ => 0))), (q_13, .inl (cA_14, 16400, .inl (fun _ => 0))), (q_15, .inl (cA_16, 4096, .inl (fun _ => 0)))] := hD
  refine va_putF (D := (dC, dI)) (ci := 8) (v := .ref q_15) (ty := .array .int) (C := "TextForgeModel") (T := TX8) (N := 19) hx hb hg iwX8 tyX8 tyX8_ok nmX8 hown hK hP hD hS 0 rfl rfl 14 (by decide) (hg _ kw_740) (fun _ h9 => h9) rfl hin rfl (by decide +kernel) rfl rfl (Nat.le_of_ble_eq_true rfl) d_Mo_init_69 (fun H locs hP hD hS => ?_)
  have hP : va_P (dC, dI) vwCl [(mo, .inr (8, [.int 0, .int 0, .ref q_1, .int 0, .ref q_3, .ref q_5, .ref q_7, .ref q_9, .int 0, .ref q_11, .int 0, .ref q_13, .long 0, .int 0, .ref q_15, .null, .null, .int 0, .int 0])), (q_1, .inl (cA_2, 4096, .inl (fun _ => 0))), (q_3, .inl (cA_4, 16, .inl (fun _ => 0))), (q_5, .inl (cA_6, 16, .inr (.inl (fun _ => 0)))), (q_7, .inl (cA_8, 16, .inl (fun _ => 0))), (q_9, .inl (cA_10, 65536, .inl (fun _ => 0))), (q_11, .inl (cA_12, 4096, .inl (fun _ => 0))), (q_13, .inl (cA_14, 16400, .inl (fun _ => 0))), (q_15, .inl (cA_16, 4096, .inl (fun _ => 0)))] H := hP
  have hD : va_D A [(mo, .inr (8, [.int 0, .int 0, .ref q_1, .int 0, .ref q_3, .ref q_5, .ref q_7, .ref q_9, .int 0, .ref q_11, .int 0, .ref q_13, .long 0, .int 0, .ref q_15, .null, .null, .int 0, .int 0])), (q_1, .inl (cA_2, 4096, .inl (fun _ => 0))), (q_3, .inl (cA_4, 16, .inl (fun _ => 0))), (q_5, .inl (cA_6, 16, .inr (.inl (fun _ => 0)))), (q_7, .inl (cA_8, 16, .inl (fun _ => 0))), (q_9, .inl (cA_10, 65536, .inl (fun _ => 0))), (q_11, .inl (cA_12, 4096, .inl (fun _ => 0))), (q_13, .inl (cA_14, 16400, .inl (fun _ => 0))), (q_15, .inl (cA_16, 4096, .inl (fun _ => 0)))] := hD
  refine lv_aload_n hx hb d_Mo_init_72 rfl (lv_at hl 0 rfl) ?_
  refine lv_sipush (v := 4096) hx hb d_Mo_init_73 (by decide) ?_
  refine va_newa (atype := .int) (a0 := (4096, .inl (fun _ => 0))) hx hb (hg _ kw_130) rfl hK hP hD hS hA (fun _ => rfl) (by decide) (by decide) (by decide) (by first | exact Nat.le_refl _ | decide | omega | (dsimp only; omega)) (by first | exact Nat.le_refl _ | decide | omega | (dsimp only; omega)) d_Mo_init_76 (fun q_17 cA_18 H hK hP hD hS => ?_)
  have hK : va_K (dC, dI) vwCl [(cA_2, .byte), (cA_4, .int), (cA_6, .long), (cA_8, .int), (cA_10, .byte), (cA_12, .byte), (cA_14, .byte), (cA_16, .int), (cA_18, .int)] s := hK
  have hP : va_P (dC, dI) vwCl [(mo, .inr (8, [.int 0, .int 0, .ref q_1, .int 0, .ref q_3, .ref q_5, .ref q_7, .ref q_9, .int 0, .ref q_11, .int 0, .ref q_13, .long 0, .int 0, .ref q_15, .null, .null, .int 0, .int 0])), (q_1, .inl (cA_2, 4096, .inl (fun _ => 0))), (q_3, .inl (cA_4, 16, .inl (fun _ => 0))), (q_5, .inl (cA_6, 16, .inr (.inl (fun _ => 0)))), (q_7, .inl (cA_8, 16, .inl (fun _ => 0))), (q_9, .inl (cA_10, 65536, .inl (fun _ => 0))), (q_11, .inl (cA_12, 4096, .inl (fun _ => 0))), (q_13, .inl (cA_14, 16400, .inl (fun _ => 0))), (q_15, .inl (cA_16, 4096, .inl (fun _ => 0))), (q_17, .inl (cA_18, 4096, .inl (fun _ => 0)))] H := hP
  have hD : va_D A [(mo, .inr (8, [.int 0, .int 0, .ref q_1, .int 0, .ref q_3, .ref q_5, .ref q_7, .ref q_9, .int 0, .ref q_11, .int 0, .ref q_13, .long 0, .int 0, .ref q_15, .null, .null, .int 0, .int 0])), (q_1, .inl (cA_2, 4096, .inl (fun _ => 0))), (q_3, .inl (cA_4, 16, .inl (fun _ => 0))), (q_5, .inl (cA_6, 16, .inr (.inl (fun _ => 0)))), (q_7, .inl (cA_8, 16, .inl (fun _ => 0))), (q_9, .inl (cA_10, 65536, .inl (fun _ => 0))), (q_11, .inl (cA_12, 4096, .inl (fun _ => 0))), (q_13, .inl (cA_14, 16400, .inl (fun _ => 0))), (q_15, .inl (cA_16, 4096, .inl (fun _ => 0))), (q_17, .inl (cA_18, 4096, .inl (fun _ => 0)))] := hD
  refine va_putF (D := (dC, dI)) (ci := 8) (v := .ref q_17) (ty := .array .int) (C := "TextForgeModel") (T := TX8) (N := 19) hx hb hg iwX8 tyX8 tyX8_ok nmX8 hown hK hP hD hS 0 rfl rfl 15 (by decide) (hg _ kw_741) (fun _ h9 => h9) rfl hin rfl (by decide +kernel) rfl rfl (Nat.le_of_ble_eq_true rfl) d_Mo_init_78 (fun H locs hP hD hS => ?_)
  have hP : va_P (dC, dI) vwCl [(mo, .inr (8, [.int 0, .int 0, .ref q_1, .int 0, .ref q_3, .ref q_5, .ref q_7, .ref q_9, .int 0, .ref q_11, .int 0, .ref q_13, .long 0, .int 0, .ref q_15, .ref q_17, .null, .int 0, .int 0])), (q_1, .inl (cA_2, 4096, .inl (fun _ => 0))), (q_3, .inl (cA_4, 16, .inl (fun _ => 0))), (q_5, .inl (cA_6, 16, .inr (.inl (fun _ => 0)))), (q_7, .inl (cA_8, 16, .inl (fun _ => 0))), (q_9, .inl (cA_10, 65536, .inl (fun _ => 0))), (q_11, .inl (cA_12, 4096, .inl (fun _ => 0))), (q_13, .inl (cA_14, 16400, .inl (fun _ => 0))), (q_15, .inl (cA_16, 4096, .inl (fun _ => 0))), (q_17, .inl (cA_18, 4096, .inl (fun _ => 0)))] H := hP
  have hD : va_D A [(mo, .inr (8, [.int 0, .int 0, .ref q_1, .int 0, .ref q_3, .ref q_5, .ref q_7, .ref q_9, .int 0, .ref q_11, .int 0, .ref q_13, .long 0, .int 0, .ref q_15, .ref q_17, .null, .int 0, .int 0])), (q_1, .inl (cA_2, 4096, .inl (fun _ => 0))), (q_3, .inl (cA_4, 16, .inl (fun _ => 0))), (q_5, .inl (cA_6, 16, .inr (.inl (fun _ => 0)))), (q_7, .inl (cA_8, 16, .inl (fun _ => 0))), (q_9, .inl (cA_10, 65536, .inl (fun _ => 0))), (q_11, .inl (cA_12, 4096, .inl (fun _ => 0))), (q_13, .inl (cA_14, 16400, .inl (fun _ => 0))), (q_15, .inl (cA_16, 4096, .inl (fun _ => 0))), (q_17, .inl (cA_18, 4096, .inl (fun _ => 0)))] := hD
  refine lv_aload_n hx hb d_Mo_init_81 rfl (lv_at hl 0 rfl) ?_
  refine lv_sipush (v := 4096) hx hb d_Mo_init_82 (by decide) ?_
  refine va_newa (atype := .int) (a0 := (4096, .inl (fun _ => 0))) hx hb (hg _ kw_130) rfl hK hP hD hS hA (fun _ => rfl) (by decide) (by decide) (by decide) (by first | exact Nat.le_refl _ | decide | omega | (dsimp only; omega)) (by first | exact Nat.le_refl _ | decide | omega | (dsimp only; omega)) d_Mo_init_85 (fun q_19 cA_20 H hK hP hD hS => ?_)
  have hK : va_K (dC, dI) vwCl [(cA_2, .byte), (cA_4, .int), (cA_6, .long), (cA_8, .int), (cA_10, .byte), (cA_12, .byte), (cA_14, .byte), (cA_16, .int), (cA_18, .int), (cA_20, .int)] s := hK
  have hP : va_P (dC, dI) vwCl [(mo, .inr (8, [.int 0, .int 0, .ref q_1, .int 0, .ref q_3, .ref q_5, .ref q_7, .ref q_9, .int 0, .ref q_11, .int 0, .ref q_13, .long 0, .int 0, .ref q_15, .ref q_17, .null, .int 0, .int 0])), (q_1, .inl (cA_2, 4096, .inl (fun _ => 0))), (q_3, .inl (cA_4, 16, .inl (fun _ => 0))), (q_5, .inl (cA_6, 16, .inr (.inl (fun _ => 0)))), (q_7, .inl (cA_8, 16, .inl (fun _ => 0))), (q_9, .inl (cA_10, 65536, .inl (fun _ => 0))), (q_11, .inl (cA_12, 4096, .inl (fun _ => 0))), (q_13, .inl (cA_14, 16400, .inl (fun _ => 0))), (q_15, .inl (cA_16, 4096, .inl (fun _ => 0))), (q_17, .inl (cA_18, 4096, .inl (fun _ => 0))), (q_19, .inl (cA_20, 4096, .inl (fun _ => 0)))] H := hP
  have hD : va_D A [(mo, .inr (8, [.int 0, .int 0, .ref q_1, .int 0, .ref q_3, .ref q_5, .ref q_7, .ref q_9, .int 0, .ref q_11, .int 0, .ref q_13, .long 0, .int 0, .ref q_15, .ref q_17, .null, .int 0, .int 0])), (q_1, .inl (cA_2, 4096, .inl (fun _ => 0))), (q_3, .inl (cA_4, 16, .inl (fun _ => 0))), (q_5, .inl (cA_6, 16, .inr (.inl (fun _ => 0)))), (q_7, .inl (cA_8, 16, .inl (fun _ => 0))), (q_9, .inl (cA_10, 65536, .inl (fun _ => 0))), (q_11, .inl (cA_12, 4096, .inl (fun _ => 0))), (q_13, .inl (cA_14, 16400, .inl (fun _ => 0))), (q_15, .inl (cA_16, 4096, .inl (fun _ => 0))), (q_17, .inl (cA_18, 4096, .inl (fun _ => 0))), (q_19, .inl (cA_20, 4096, .inl (fun _ => 0)))] := hD
  refine va_putF (D := (dC, dI)) (ci := 8) (v := .ref q_19) (ty := .array .int) (C := "TextForgeModel") (T := TX8) (N := 19) hx hb hg iwX8 tyX8 tyX8_ok nmX8 hown hK hP hD hS 0 rfl rfl 16 (by decide) (hg _ kw_742) (fun _ h9 => h9) rfl hin rfl (by decide +kernel) rfl rfl (Nat.le_of_ble_eq_true rfl) d_Mo_init_87 (fun H locs hP hD hS => ?_)
  have hP : va_P (dC, dI) vwCl [(mo, .inr (8, [.int 0, .int 0, .ref q_1, .int 0, .ref q_3, .ref q_5, .ref q_7, .ref q_9, .int 0, .ref q_11, .int 0, .ref q_13, .long 0, .int 0, .ref q_15, .ref q_17, .ref q_19, .int 0, .int 0])), (q_1, .inl (cA_2, 4096, .inl (fun _ => 0))), (q_3, .inl (cA_4, 16, .inl (fun _ => 0))), (q_5, .inl (cA_6, 16, .inr (.inl (fun _ => 0)))), (q_7, .inl (cA_8, 16, .inl (fun _ => 0))), (q_9, .inl (cA_10, 65536, .inl (fun _ => 0))), (q_11, .inl (cA_12, 4096, .inl (fun _ => 0))), (q_13, .inl (cA_14, 16400, .inl (fun _ => 0))), (q_15, .inl (cA_16, 4096, .inl (fun _ => 0))), (q_17, .inl (cA_18, 4096, .inl (fun _ => 0))), (q_19, .inl (cA_20, 4096, .inl (fun _ => 0)))] H := hP
  have hD : va_D A [(mo, .inr (8, [.int 0, .int 0, .ref q_1, .int 0, .ref q_3, .ref q_5, .ref q_7, .ref q_9, .int 0, .ref q_11, .int 0, .ref q_13, .long 0, .int 0, .ref q_15, .ref q_17, .ref q_19, .int 0, .int 0])), (q_1, .inl (cA_2, 4096, .inl (fun _ => 0))), (q_3, .inl (cA_4, 16, .inl (fun _ => 0))), (q_5, .inl (cA_6, 16, .inr (.inl (fun _ => 0)))), (q_7, .inl (cA_8, 16, .inl (fun _ => 0))), (q_9, .inl (cA_10, 65536, .inl (fun _ => 0))), (q_11, .inl (cA_12, 4096, .inl (fun _ => 0))), (q_13, .inl (cA_14, 16400, .inl (fun _ => 0))), (q_15, .inl (cA_16, 4096, .inl (fun _ => 0))), (q_17, .inl (cA_18, 4096, .inl (fun _ => 0))), (q_19, .inl (cA_20, 4096, .inl (fun _ => 0)))] := hD
  have hP9 := hP.sub (ws' := [(mo, .inr (8, [.int 0, .int 0, .ref q_1, .int 0, .ref q_3, .ref q_5, .ref q_7, .ref q_9, .int 0, .ref q_11, .int 0, .ref q_13, .long 0, .int 0, .ref q_15, .ref q_17, .ref q_19, .int 0, .int 0])), (q_1, .inl (cA_2, 4096, .inl (fun _ => 0))), (q_3, .inl (cA_4, 16, .inl (fun _ => 0))), (q_5, .inl (cA_6, 16, .inr (.inl (fun _ => 0)))), (q_7, .inl (cA_8, 16, .inl (fun _ => 0))), (q_9, .inl (cA_10, 65536, .inl (fun _ => 0))), (q_11, .inl (cA_12, 4096, .inl (fun _ => 0))), (q_13, .inl (cA_14, 16400, .inl (fun _ => 0))), (q_15, .inl (cA_16, 4096, .inl (fun _ => 0))), (q_17, .inl (cA_18, 4096, .inl (fun _ => 0))), (q_19, .inl (cA_20, 4096, .inl (fun _ => 0)))]) [0, 1, 2, 3, 4, 5, 6, 7, 8, 9, 10] rfl
  have hD9 := hD.sub (ws' := [(mo, .inr (8, [.int 0, .int 0, .ref q_1, .int 0, .ref q_3, .ref q_5, .ref q_7, .ref q_9, .int 0, .ref q_11, .int 0, .ref q_13, .long 0, .int 0, .ref q_15, .ref q_17, .ref q_19, .int 0, .int 0])), (q_1, .inl (cA_2, 4096, .inl (fun _ => 0))), (q_3, .inl (cA_4, 16, .inl (fun _ => 0))), (q_5, .inl (cA_6, 16, .inr (.inl (fun _ => 0)))), (q_7, .inl (cA_8, 16, .inl (fun _ => 0))), (q_9, .inl (cA_10, 65536, .inl (fun _ => 0))), (q_11, .inl (cA_12, 4096, .inl (fun _ => 0))), (q_13, .inl (cA_14, 16400, .inl (fun _ => 0))), (q_15, .inl (cA_16, 4096, .inl (fun _ => 0))), (q_17, .inl (cA_18, 4096, .inl (fun _ => 0))), (q_19, .inl (cA_20, 4096, .inl (fun _ => 0)))]) [0, 1, 2, 3, 4, 5, 6, 7, 8, 9, 10] (by decide) rfl
  have hK9 := hK.sub (tys' := [(cA_2, .byte), (cA_4, .int), (cA_6, .long)]) [0, 1, 2] rfl
  rw [(va_Ksm hK 3 1 rfl rfl : cA_8 = cA_4)] at hP9 hD9
  rw [(va_Ksm hK 4 0 rfl rfl : cA_10 = cA_2)] at hP9 hD9
  rw [(va_Ksm hK 5 0 rfl rfl : cA_12 = cA_2)] at hP9 hD9
  rw [(va_Ksm hK 6 0 rfl rfl : cA_14 = cA_2)] at hP9 hD9
  rw [(va_Ksm hK 7 1 rfl rfl : cA_16 = cA_4)] at hP9 hD9
  rw [(va_Ksm hK 8 1 rfl rfl : cA_18 = cA_4)] at hP9 hD9
  rw [(va_Ksm hK 9 1 rfl rfl : cA_20 = cA_4)] at hP9 hD9
  exact zz_vret hx hb hr hlocks d_Mo_init_90 hS (by first | exact Nat.le_refl _ | decide | omega | (dsimp only; omega)) (by first | exact Nat.le_refl _ | decide | omega | (dsimp only; omega)) (q_1, q_3, q_5, q_7, q_9, q_11, q_13, q_15, q_17, q_19, cA_2, cA_4, cA_6) trivial hP9 hK9 hD9
abbrev y_Mo_parsed : MethodName := ⟨"TextForgeModel", "parsed", "()J"⟩
abbrev w_Mo_parsed : List Cond := Cond.code y_Mo_parsed prog_12_method_42_code 1 (some .long) :: gw
theorem d_Mo_parsed_0 : decode prog_12_method_42_code 0 = .ok (.aload_n 0, 1) := by decide +kernel
theorem d_Mo_parsed_1 : decode prog_12_method_42_code 1 = .ok (.iconst 0, 1) := by decide +kernel
theorem d_Mo_parsed_2 : decode prog_12_method_42_code 2 = .ok (.putfield 43, 3) := by decide +kernel
theorem d_Mo_parsed_5 : decode prog_12_method_42_code 5 = .ok (.aload_n 0, 1) := by decide +kernel
theorem d_Mo_parsed_6 : decode prog_12_method_42_code 6 = .ok (.getfield 202, 3) := by decide +kernel
theorem d_Mo_parsed_9 : decode prog_12_method_42_code 9 = .ok (.lreturn, 1) := by decide +kernel
set_option maxHeartbeats 4000000 in
set_option maxRecDepth 100000 in
theorem c_Mo_parsed (l : Launch) (dC : Nat → ClassId) (dI : Nat → Nat → Nat) (mo rt rk rv rw ro rr ra rc rl rb : Nat) (th fd mn md pt : Int32) (pz : Int64) (kc la ca : Int32)  : zM_l (S := Unit) l y_Mo_parsed w_Mo_parsed { frames := 0, cells := 0, slots := 0, locals := 0 } (dC, dI) vwCl [.ref mo] [(mo, .inr (8, [.int th, .int fd, .ref rt, .int mn, .ref rk, .ref rv, .ref rw, .ref ro, .int md, .ref rr, .int pt, .ref ra, .long pz, .int kc, .ref rc, .ref rl, .ref rb, .int la, .int ca]))] [] (fun (r : Int64) (u : Unit) => r = pz) (fun u => [(mo, .inr (8, [.int 0, .int fd, .ref rt, .int mn, .ref rk, .ref rv, .ref rw, .ref ro, .int md, .ref rr, .int pt, .ref ra, .long pz, .int kc, .ref rc, .ref rl, .ref rb, .int la, .int ca]))]) (fun u => []) 0 0 := by
  refine zz_enterl (cc := prog_12_method_42_code) (nL := 1) (ret := (some .long)) (by decide) rfl (Nat.le_of_ble_eq_true rfl) ?_
  intro p e s m below meth c A ls C0 hA hS hP hK hD hl
  obtain ⟨hx, hb, hml, hown, hg, hr, hlocks, hin⟩ := C0
  have hown : s.vm.findClass "TextForgeModel" = some m.cls := hown
  have hP : va_P (dC, dI) vwCl [(mo, .inr (8, [.int th, .int fd, .ref rt, .int mn, .ref rk, .ref rv, .ref rw, .ref ro, .int md, .ref rr, .int pt, .ref ra, .long pz, .int kc, .ref rc, .ref rl, .ref rb, .int la, .int ca]))] s.heap := hP
  have hK : va_K (dC, dI) vwCl [] s := hK
  have hD : va_D A [(mo, .inr (8, [.int th, .int fd, .ref rt, .int mn, .ref rk, .ref rv, .ref rw, .ref ro, .int md, .ref rr, .int pt, .ref ra, .long pz, .int kc, .ref rc, .ref rl, .ref rb, .int la, .int ca]))] := hD
  have hl : lv_has ls 1 [(0, .ref mo)] := hl
  refine lv_aload_n hx hb d_Mo_parsed_0 rfl (lv_at hl 0 rfl) ?_
  refine lv_iconst (v := 0) hx hb d_Mo_parsed_1 (by decide) ?_
  refine va_put (D := (dC, dI)) (ci := 8) (v := .int 0) (ty := .int) (C := "TextForgeModel") (T := TX8) (N := 19) hx hb hg iwX8 tyX8 tyX8_ok nmX8 hown hK hP hD hS 0 rfl rfl 0 (by decide) (hg _ kw_726) (fun _ h9 => h9) rfl (by decide +kernel) rfl rfl (Nat.le_of_ble_eq_true rfl) d_Mo_parsed_2 (fun H locs hP hD hS => ?_)
  have hP : va_P (dC, dI) vwCl [(mo, .inr (8, [.int 0, .int fd, .ref rt, .int mn, .ref rk, .ref rv, .ref rw, .ref ro, .int md, .ref rr, .int pt, .ref ra, .long pz, .int kc, .ref rc, .ref rl, .ref rb, .int la, .int ca]))] H := hP
  have hD : va_D A [(mo, .inr (8, [.int 0, .int fd, .ref rt, .int mn, .ref rk, .ref rv, .ref rw, .ref ro, .int md, .ref rr, .int pt, .ref ra, .long pz, .int kc, .ref rc, .ref rl, .ref rb, .int la, .int ca]))] := hD
  refine lv_aload_n hx hb d_Mo_parsed_5 rfl (lv_at hl 0 rfl) ?_
  refine va_get (D := (dC, dI)) (ci := 8) (v := .long pz) (C := "TextForgeModel") (T := TX8) (N := 19) hx hb hg iwX8 hown hK hP 0 rfl rfl 12 (by decide) (hg _ kw_738) (fun _ h9 => h9) rfl d_Mo_parsed_6 ?_
  have hP9 := hP.sub (ws' := [(mo, .inr (8, [.int 0, .int fd, .ref rt, .int mn, .ref rk, .ref rv, .ref rw, .ref ro, .int md, .ref rr, .int pt, .ref ra, .long pz, .int kc, .ref rc, .ref rl, .ref rb, .int la, .int ca]))]) [0] rfl
  have hD9 := hD.sub (ws' := [(mo, .inr (8, [.int 0, .int fd, .ref rt, .int mn, .ref rk, .ref rv, .ref rw, .ref ro, .int md, .ref rr, .int pt, .ref ra, .long pz, .int kc, .ref rc, .ref rl, .ref rb, .int la, .int ca]))]) [0] (by decide) rfl
  have hK9 := hK.sub (tys' := []) [] rfl
  exact zz_lret hx hb hr hlocks d_Mo_parsed_9 hS (by first | exact Nat.le_refl _ | decide | omega | (dsimp only; omega)) (by first | exact Nat.le_refl _ | decide | omega | (dsimp only; omega)) () rfl hP9 hK9 hD9
abbrev y_Mo_worth : MethodName := ⟨"TextForgeModel", "worth", "(I)I"⟩
abbrev w_Mo_worth : List Cond := Cond.code y_Mo_worth prog_12_method_40_code 1 (some .int) :: gw
theorem d_Mo_worth_0 : decode prog_12_method_40_code 0 = .ok (.iload_n 0, 1) := by decide +kernel
theorem d_Mo_worth_1 : decode prog_12_method_40_code 1 = .ok (.bipush 48, 2) := by decide +kernel
theorem d_Mo_worth_3 : decode prog_12_method_40_code 3 = .ok (.if_icmp .lt 16, 3) := by decide +kernel
theorem d_Mo_worth_6 : decode prog_12_method_40_code 6 = .ok (.iload_n 0, 1) := by decide +kernel
theorem d_Mo_worth_7 : decode prog_12_method_40_code 7 = .ok (.bipush 57, 2) := by decide +kernel
theorem d_Mo_worth_9 : decode prog_12_method_40_code 9 = .ok (.if_icmp .gt 10, 3) := by decide +kernel
theorem d_Mo_worth_12 : decode prog_12_method_40_code 12 = .ok (.iload_n 0, 1) := by decide +kernel
theorem d_Mo_worth_13 : decode prog_12_method_40_code 13 = .ok (.bipush 48, 2) := by decide +kernel
theorem d_Mo_worth_15 : decode prog_12_method_40_code 15 = .ok (.isub, 1) := by decide +kernel
theorem d_Mo_worth_16 : decode prog_12_method_40_code 16 = .ok (.goto 49, 3) := by decide +kernel
theorem d_Mo_worth_19 : decode prog_12_method_40_code 19 = .ok (.iload_n 0, 1) := by decide +kernel
theorem d_Mo_worth_20 : decode prog_12_method_40_code 20 = .ok (.bipush 97, 2) := by decide +kernel
theorem d_Mo_worth_22 : decode prog_12_method_40_code 22 = .ok (.if_icmp .lt 19, 3) := by decide +kernel
theorem d_Mo_worth_25 : decode prog_12_method_40_code 25 = .ok (.iload_n 0, 1) := by decide +kernel
theorem d_Mo_worth_26 : decode prog_12_method_40_code 26 = .ok (.bipush 122, 2) := by decide +kernel
theorem d_Mo_worth_28 : decode prog_12_method_40_code 28 = .ok (.if_icmp .gt 13, 3) := by decide +kernel
theorem d_Mo_worth_31 : decode prog_12_method_40_code 31 = .ok (.iload_n 0, 1) := by decide +kernel
theorem d_Mo_worth_32 : decode prog_12_method_40_code 32 = .ok (.bipush 97, 2) := by decide +kernel
theorem d_Mo_worth_34 : decode prog_12_method_40_code 34 = .ok (.isub, 1) := by decide +kernel
theorem d_Mo_worth_35 : decode prog_12_method_40_code 35 = .ok (.bipush 10, 2) := by decide +kernel
theorem d_Mo_worth_37 : decode prog_12_method_40_code 37 = .ok (.iadd, 1) := by decide +kernel
theorem d_Mo_worth_38 : decode prog_12_method_40_code 38 = .ok (.goto 27, 3) := by decide +kernel
theorem d_Mo_worth_41 : decode prog_12_method_40_code 41 = .ok (.iload_n 0, 1) := by decide +kernel
theorem d_Mo_worth_42 : decode prog_12_method_40_code 42 = .ok (.bipush 65, 2) := by decide +kernel
theorem d_Mo_worth_44 : decode prog_12_method_40_code 44 = .ok (.if_icmp .lt 19, 3) := by decide +kernel
theorem d_Mo_worth_47 : decode prog_12_method_40_code 47 = .ok (.iload_n 0, 1) := by decide +kernel
theorem d_Mo_worth_48 : decode prog_12_method_40_code 48 = .ok (.bipush 90, 2) := by decide +kernel
theorem d_Mo_worth_50 : decode prog_12_method_40_code 50 = .ok (.if_icmp .gt 13, 3) := by decide +kernel
theorem d_Mo_worth_53 : decode prog_12_method_40_code 53 = .ok (.iload_n 0, 1) := by decide +kernel
theorem d_Mo_worth_54 : decode prog_12_method_40_code 54 = .ok (.bipush 65, 2) := by decide +kernel
theorem d_Mo_worth_56 : decode prog_12_method_40_code 56 = .ok (.isub, 1) := by decide +kernel
theorem d_Mo_worth_57 : decode prog_12_method_40_code 57 = .ok (.bipush 10, 2) := by decide +kernel
theorem d_Mo_worth_59 : decode prog_12_method_40_code 59 = .ok (.iadd, 1) := by decide +kernel
theorem d_Mo_worth_60 : decode prog_12_method_40_code 60 = .ok (.goto 5, 3) := by decide +kernel
theorem d_Mo_worth_63 : decode prog_12_method_40_code 63 = .ok (.bipush 99, 2) := by decide +kernel
theorem d_Mo_worth_65 : decode prog_12_method_40_code 65 = .ok (.ireturn, 1) := by decide +kernel
set_option maxHeartbeats 4000000 in
set_option maxRecDepth 100000 in
theorem c_Mo_worth (l : Launch) (dC : Nat → ClassId) (dI : Nat → Nat → Nat) (v : Int32)  : zR_i l y_Mo_worth w_Mo_worth { frames := 0, cells := 0, slots := 0, locals := 0 } (dC, dI) vwCl [.int v] [] [] (fun r : Int32 => r = wo_v v) := by
  refine zz_enterR (cc := prog_12_method_40_code) (nL := 1) (ret := (some .int)) (by decide) rfl (Nat.le_of_ble_eq_true rfl) ?_
  intro p e s m below meth c ls C0 hP hK hl
  obtain ⟨hx, hb, hml, hown, hg, hr, hlocks, hin⟩ := C0
  have hS : va_S (fun _ => False) s.heap s.heap [] := va_S.rf
  have hown : s.vm.findClass "TextForgeModel" = some m.cls := hown
  have hP : va_P (dC, dI) vwCl [] s.heap := hP
  have hK : va_K (dC, dI) vwCl [] s := hK
  have hl : lv_has ls 1 [(0, .int v)] := hl
  refine lv_iload_n hx hb d_Mo_worth_0 rfl (lv_at hl 0 rfl) ?_
  refine lv_bipush (v := 48) hx hb d_Mo_worth_1 (by decide) ?_
  refine lv_icmp_lt (tgt := 19) hx hb d_Mo_worth_3 (by decide) (fun c_3 => ?_) (fun c_3 => ?_)
  · skip
    refine lv_iload_n hx hb d_Mo_worth_19 rfl (lv_at hl 0 rfl) ?_
    refine lv_bipush (v := 97) hx hb d_Mo_worth_20 (by decide) ?_
    refine lv_icmp_lt (tgt := 41) hx hb d_Mo_worth_22 (by decide) (fun c_22 => ?_) (fun c_22 => ?_)
    · skip
      refine lv_iload_n hx hb d_Mo_worth_41 rfl (lv_at hl 0 rfl) ?_
      refine lv_bipush (v := 65) hx hb d_Mo_worth_42 (by decide) ?_
      refine lv_icmp_lt (tgt := 63) hx hb d_Mo_worth_44 (by decide) (fun c_44 => ?_) (fun c_44 => ?_)
      · skip
        refine lv_bipush (v := 99) hx hb d_Mo_worth_63 (by decide) ?_
        exact zz_iretR hx hb hr hlocks d_Mo_worth_65 (wo_4 (Or.inl c_3) (Or.inl c_22) (Or.inl c_44))
      · skip
        refine lv_iload_n hx hb d_Mo_worth_47 rfl (lv_at hl 0 rfl) ?_
        refine lv_bipush (v := 90) hx hb d_Mo_worth_48 (by decide) ?_
        refine lv_icmp_gt (tgt := 63) hx hb d_Mo_worth_50 (by decide) (fun c_50 => ?_) (fun c_50 => ?_)
        · skip
          refine lv_bipush (v := 99) hx hb d_Mo_worth_63 (by decide) ?_
          exact zz_iretR hx hb hr hlocks d_Mo_worth_65 (wo_4 (Or.inl c_3) (Or.inl c_22) (Or.inr c_50))
        · skip
          refine lv_iload_n hx hb d_Mo_worth_53 rfl (lv_at hl 0 rfl) ?_
          refine lv_bipush (v := 65) hx hb d_Mo_worth_54 (by decide) ?_
          refine lv_isub hx hb d_Mo_worth_56 ?_
          refine lv_bipush (v := 10) hx hb d_Mo_worth_57 (by decide) ?_
          refine lv_iadd hx hb d_Mo_worth_59 ?_
          refine lv_goto (tgt := 65) hx hb d_Mo_worth_60 (by decide) ?_
          exact zz_iretR hx hb hr hlocks d_Mo_worth_65 (wo_3 (Or.inl c_3) (Or.inl c_22) c_44 c_50)
    · skip
      refine lv_iload_n hx hb d_Mo_worth_25 rfl (lv_at hl 0 rfl) ?_
      refine lv_bipush (v := 122) hx hb d_Mo_worth_26 (by decide) ?_
      refine lv_icmp_gt (tgt := 41) hx hb d_Mo_worth_28 (by decide) (fun c_28 => ?_) (fun c_28 => ?_)
      · skip
        refine lv_iload_n hx hb d_Mo_worth_41 rfl (lv_at hl 0 rfl) ?_
        refine lv_bipush (v := 65) hx hb d_Mo_worth_42 (by decide) ?_
        refine lv_icmp_lt (tgt := 63) hx hb d_Mo_worth_44 (by decide) (fun c_44 => ?_) (fun c_44 => ?_)
        · skip
          refine lv_bipush (v := 99) hx hb d_Mo_worth_63 (by decide) ?_
          exact zz_iretR hx hb hr hlocks d_Mo_worth_65 (wo_4 (Or.inl c_3) (Or.inr c_28) (Or.inl c_44))
        · skip
          refine lv_iload_n hx hb d_Mo_worth_47 rfl (lv_at hl 0 rfl) ?_
          refine lv_bipush (v := 90) hx hb d_Mo_worth_48 (by decide) ?_
          refine lv_icmp_gt (tgt := 63) hx hb d_Mo_worth_50 (by decide) (fun c_50 => ?_) (fun c_50 => ?_)
          · skip
            refine lv_bipush (v := 99) hx hb d_Mo_worth_63 (by decide) ?_
            exact zz_iretR hx hb hr hlocks d_Mo_worth_65 (wo_4 (Or.inl c_3) (Or.inr c_28) (Or.inr c_50))
          · skip
            refine lv_iload_n hx hb d_Mo_worth_53 rfl (lv_at hl 0 rfl) ?_
            refine lv_bipush (v := 65) hx hb d_Mo_worth_54 (by decide) ?_
            refine lv_isub hx hb d_Mo_worth_56 ?_
            refine lv_bipush (v := 10) hx hb d_Mo_worth_57 (by decide) ?_
            refine lv_iadd hx hb d_Mo_worth_59 ?_
            refine lv_goto (tgt := 65) hx hb d_Mo_worth_60 (by decide) ?_
            exact zz_iretR hx hb hr hlocks d_Mo_worth_65 (wo_3 (Or.inl c_3) (Or.inr c_28) c_44 c_50)
      · skip
        refine lv_iload_n hx hb d_Mo_worth_31 rfl (lv_at hl 0 rfl) ?_
        refine lv_bipush (v := 97) hx hb d_Mo_worth_32 (by decide) ?_
        refine lv_isub hx hb d_Mo_worth_34 ?_
        refine lv_bipush (v := 10) hx hb d_Mo_worth_35 (by decide) ?_
        refine lv_iadd hx hb d_Mo_worth_37 ?_
        refine lv_goto (tgt := 65) hx hb d_Mo_worth_38 (by decide) ?_
        exact zz_iretR hx hb hr hlocks d_Mo_worth_65 (wo_2 (Or.inl c_3) c_22 c_28)
  · skip
    refine lv_iload_n hx hb d_Mo_worth_6 rfl (lv_at hl 0 rfl) ?_
    refine lv_bipush (v := 57) hx hb d_Mo_worth_7 (by decide) ?_
    refine lv_icmp_gt (tgt := 19) hx hb d_Mo_worth_9 (by decide) (fun c_9 => ?_) (fun c_9 => ?_)
    · skip
      refine lv_iload_n hx hb d_Mo_worth_19 rfl (lv_at hl 0 rfl) ?_
      refine lv_bipush (v := 97) hx hb d_Mo_worth_20 (by decide) ?_
      refine lv_icmp_lt (tgt := 41) hx hb d_Mo_worth_22 (by decide) (fun c_22 => ?_) (fun c_22 => ?_)
      · skip
        refine lv_iload_n hx hb d_Mo_worth_41 rfl (lv_at hl 0 rfl) ?_
        refine lv_bipush (v := 65) hx hb d_Mo_worth_42 (by decide) ?_
        refine lv_icmp_lt (tgt := 63) hx hb d_Mo_worth_44 (by decide) (fun c_44 => ?_) (fun c_44 => ?_)
        · skip
          refine lv_bipush (v := 99) hx hb d_Mo_worth_63 (by decide) ?_
          exact zz_iretR hx hb hr hlocks d_Mo_worth_65 (wo_4 (Or.inr c_9) (Or.inl c_22) (Or.inl c_44))
        · skip
          refine lv_iload_n hx hb d_Mo_worth_47 rfl (lv_at hl 0 rfl) ?_
          refine lv_bipush (v := 90) hx hb d_Mo_worth_48 (by decide) ?_
          refine lv_icmp_gt (tgt := 63) hx hb d_Mo_worth_50 (by decide) (fun c_50 => ?_) (fun c_50 => ?_)
          · skip
            refine lv_bipush (v := 99) hx hb d_Mo_worth_63 (by decide) ?_
            exact zz_iretR hx hb hr hlocks d_Mo_worth_65 (wo_4 (Or.inr c_9) (Or.inl c_22) (Or.inr c_50))
          · skip
            refine lv_iload_n hx hb d_Mo_worth_53 rfl (lv_at hl 0 rfl) ?_
            refine lv_bipush (v := 65) hx hb d_Mo_worth_54 (by decide) ?_
            refine lv_isub hx hb d_Mo_worth_56 ?_
            refine lv_bipush (v := 10) hx hb d_Mo_worth_57 (by decide) ?_
            refine lv_iadd hx hb d_Mo_worth_59 ?_
            refine lv_goto (tgt := 65) hx hb d_Mo_worth_60 (by decide) ?_
            exact zz_iretR hx hb hr hlocks d_Mo_worth_65 (wo_3 (Or.inr c_9) (Or.inl c_22) c_44 c_50)
      · skip
        refine lv_iload_n hx hb d_Mo_worth_25 rfl (lv_at hl 0 rfl) ?_
        refine lv_bipush (v := 122) hx hb d_Mo_worth_26 (by decide) ?_
        refine lv_icmp_gt (tgt := 41) hx hb d_Mo_worth_28 (by decide) (fun c_28 => ?_) (fun c_28 => ?_)
        · skip
          refine lv_iload_n hx hb d_Mo_worth_41 rfl (lv_at hl 0 rfl) ?_
          refine lv_bipush (v := 65) hx hb d_Mo_worth_42 (by decide) ?_
          refine lv_icmp_lt (tgt := 63) hx hb d_Mo_worth_44 (by decide) (fun c_44 => ?_) (fun c_44 => ?_)
          · skip
            refine lv_bipush (v := 99) hx hb d_Mo_worth_63 (by decide) ?_
            exact zz_iretR hx hb hr hlocks d_Mo_worth_65 (wo_4 (Or.inr c_9) (Or.inr c_28) (Or.inl c_44))
          · skip
            refine lv_iload_n hx hb d_Mo_worth_47 rfl (lv_at hl 0 rfl) ?_
            refine lv_bipush (v := 90) hx hb d_Mo_worth_48 (by decide) ?_
            refine lv_icmp_gt (tgt := 63) hx hb d_Mo_worth_50 (by decide) (fun c_50 => ?_) (fun c_50 => ?_)
            · skip
              refine lv_bipush (v := 99) hx hb d_Mo_worth_63 (by decide) ?_
              exact zz_iretR hx hb hr hlocks d_Mo_worth_65 (wo_4 (Or.inr c_9) (Or.inr c_28) (Or.inr c_50))
            · skip
              refine lv_iload_n hx hb d_Mo_worth_53 rfl (lv_at hl 0 rfl) ?_
              refine lv_bipush (v := 65) hx hb d_Mo_worth_54 (by decide) ?_
              refine lv_isub hx hb d_Mo_worth_56 ?_
              refine lv_bipush (v := 10) hx hb d_Mo_worth_57 (by decide) ?_
              refine lv_iadd hx hb d_Mo_worth_59 ?_
              refine lv_goto (tgt := 65) hx hb d_Mo_worth_60 (by decide) ?_
              exact zz_iretR hx hb hr hlocks d_Mo_worth_65 (wo_3 (Or.inr c_9) (Or.inr c_28) c_44 c_50)
        · skip
          refine lv_iload_n hx hb d_Mo_worth_31 rfl (lv_at hl 0 rfl) ?_
          refine lv_bipush (v := 97) hx hb d_Mo_worth_32 (by decide) ?_
          refine lv_isub hx hb d_Mo_worth_34 ?_
          refine lv_bipush (v := 10) hx hb d_Mo_worth_35 (by decide) ?_
          refine lv_iadd hx hb d_Mo_worth_37 ?_
          refine lv_goto (tgt := 65) hx hb d_Mo_worth_38 (by decide) ?_
          exact zz_iretR hx hb hr hlocks d_Mo_worth_65 (wo_2 (Or.inr c_9) c_22 c_28)
    · skip
      refine lv_iload_n hx hb d_Mo_worth_12 rfl (lv_at hl 0 rfl) ?_
      refine lv_bipush (v := 48) hx hb d_Mo_worth_13 (by decide) ?_
      refine lv_isub hx hb d_Mo_worth_15 ?_
      refine lv_goto (tgt := 65) hx hb d_Mo_worth_16 (by decide) ?_
      exact zz_iretR hx hb hr hlocks d_Mo_worth_65 (wo_1 c_3 c_9)
abbrev y_Mo_parse : MethodName := ⟨"TextForgeModel", "parse", "(I)Z"⟩
abbrev w_Mo_parse : List Cond := Cond.code y_Mo_parse prog_12_method_41_code 12 (some .boolean) :: gw
theorem d_Mo_parse_0 : decode prog_12_method_41_code 0 = .ok (.aload_n 0, 1) := by decide +kernel
theorem d_Mo_parse_1 : decode prog_12_method_41_code 1 = .ok (.iconst 0, 1) := by decide +kernel
theorem d_Mo_parse_2 : decode prog_12_method_41_code 2 = .ok (.putfield 43, 3) := by decide +kernel
theorem d_Mo_parse_5 : decode prog_12_method_41_code 5 = .ok (.iload_n 1, 1) := by decide +kernel
theorem d_Mo_parse_6 : decode prog_12_method_41_code 6 = .ok (.iconst 2, 1) := by decide +kernel
theorem d_Mo_parse_7 : decode prog_12_method_41_code 7 = .ok (.if_icmp .lt 9, 3) := by decide +kernel
theorem d_Mo_parse_10 : decode prog_12_method_41_code 10 = .ok (.iload_n 1, 1) := by decide +kernel
theorem d_Mo_parse_11 : decode prog_12_method_41_code 11 = .ok (.bipush 36, 2) := by decide +kernel
theorem d_Mo_parse_13 : decode prog_12_method_41_code 13 = .ok (.if_icmp .le 10, 3) := by decide +kernel
theorem d_Mo_parse_16 : decode prog_12_method_41_code 16 = .ok (.aload_n 0, 1) := by decide +kernel
theorem d_Mo_parse_17 : decode prog_12_method_41_code 17 = .ok (.iconst 1, 1) := by decide +kernel
theorem d_Mo_parse_18 : decode prog_12_method_41_code 18 = .ok (.putfield 43, 3) := by decide +kernel
theorem d_Mo_parse_21 : decode prog_12_method_41_code 21 = .ok (.iconst 0, 1) := by decide +kernel
theorem d_Mo_parse_22 : decode prog_12_method_41_code 22 = .ok (.ireturn, 1) := by decide +kernel
theorem d_Mo_parse_23 : decode prog_12_method_41_code 23 = .ok (.aload_n 0, 1) := by decide +kernel
theorem d_Mo_parse_24 : decode prog_12_method_41_code 24 = .ok (.getfield 47, 3) := by decide +kernel
theorem d_Mo_parse_27 : decode prog_12_method_41_code 27 = .ok (.istore_n 2, 1) := by decide +kernel
theorem d_Mo_parse_28 : decode prog_12_method_41_code 28 = .ok (.aload_n 0, 1) := by decide +kernel
theorem d_Mo_parse_29 : decode prog_12_method_41_code 29 = .ok (.iconst 0, 1) := by decide +kernel
theorem d_Mo_parse_30 : decode prog_12_method_41_code 30 = .ok (.putfield 47, 3) := by decide +kernel
theorem d_Mo_parse_33 : decode prog_12_method_41_code 33 = .ok (.aload_n 0, 1) := by decide +kernel
theorem d_Mo_parse_34 : decode prog_12_method_41_code 34 = .ok (.lconst 0, 1) := by decide +kernel
theorem d_Mo_parse_35 : decode prog_12_method_41_code 35 = .ok (.putfield 202, 3) := by decide +kernel
theorem d_Mo_parse_38 : decode prog_12_method_41_code 38 = .ok (.iload_n 2, 1) := by decide +kernel
theorem d_Mo_parse_39 : decode prog_12_method_41_code 39 = .ok (.ifCond .le 18, 3) := by decide +kernel
theorem d_Mo_parse_42 : decode prog_12_method_41_code 42 = .ok (.aload_n 0, 1) := by decide +kernel
theorem d_Mo_parse_43 : decode prog_12_method_41_code 43 = .ok (.getfield 7, 3) := by decide +kernel
theorem d_Mo_parse_46 : decode prog_12_method_41_code 46 = .ok (.iconst 0, 1) := by decide +kernel
theorem d_Mo_parse_47 : decode prog_12_method_41_code 47 = .ok (.baload, 1) := by decide +kernel
theorem d_Mo_parse_48 : decode prog_12_method_41_code 48 = .ok (.bipush 45, 2) := by decide +kernel
theorem d_Mo_parse_50 : decode prog_12_method_41_code 50 = .ok (.if_icmp .ne 7, 3) := by decide +kernel
theorem d_Mo_parse_53 : decode prog_12_method_41_code 53 = .ok (.iconst 1, 1) := by decide +kernel
theorem d_Mo_parse_54 : decode prog_12_method_41_code 54 = .ok (.goto 4, 3) := by decide +kernel
theorem d_Mo_parse_57 : decode prog_12_method_41_code 57 = .ok (.iconst 0, 1) := by decide +kernel
theorem d_Mo_parse_58 : decode prog_12_method_41_code 58 = .ok (.istore_n 3, 1) := by decide +kernel
theorem d_Mo_parse_59 : decode prog_12_method_41_code 59 = .ok (.iload_n 3, 1) := by decide +kernel
theorem d_Mo_parse_60 : decode prog_12_method_41_code 60 = .ok (.ifCond .ne 18, 3) := by decide +kernel
theorem d_Mo_parse_63 : decode prog_12_method_41_code 63 = .ok (.iload_n 2, 1) := by decide +kernel
theorem d_Mo_parse_64 : decode prog_12_method_41_code 64 = .ok (.ifCond .le 18, 3) := by decide +kernel
theorem d_Mo_parse_67 : decode prog_12_method_41_code 67 = .ok (.aload_n 0, 1) := by decide +kernel
theorem d_Mo_parse_68 : decode prog_12_method_41_code 68 = .ok (.getfield 7, 3) := by decide +kernel
theorem d_Mo_parse_71 : decode prog_12_method_41_code 71 = .ok (.iconst 0, 1) := by decide +kernel
theorem d_Mo_parse_72 : decode prog_12_method_41_code 72 = .ok (.baload, 1) := by decide +kernel
theorem d_Mo_parse_73 : decode prog_12_method_41_code 73 = .ok (.bipush 43, 2) := by decide +kernel
theorem d_Mo_parse_75 : decode prog_12_method_41_code 75 = .ok (.if_icmp .ne 7, 3) := by decide +kernel
theorem d_Mo_parse_78 : decode prog_12_method_41_code 78 = .ok (.iconst 1, 1) := by decide +kernel
theorem d_Mo_parse_79 : decode prog_12_method_41_code 79 = .ok (.goto 4, 3) := by decide +kernel
theorem d_Mo_parse_82 : decode prog_12_method_41_code 82 = .ok (.iconst 0, 1) := by decide +kernel
theorem d_Mo_parse_83 : decode prog_12_method_41_code 83 = .ok (.istore 4, 2) := by decide +kernel
theorem d_Mo_parse_85 : decode prog_12_method_41_code 85 = .ok (.iload 4, 2) := by decide +kernel
theorem d_Mo_parse_87 : decode prog_12_method_41_code 87 = .ok (.iload_n 2, 1) := by decide +kernel
theorem d_Mo_parse_88 : decode prog_12_method_41_code 88 = .ok (.if_icmp .ne 5, 3) := by decide +kernel
theorem d_Mo_parse_91 : decode prog_12_method_41_code 91 = .ok (.iconst 0, 1) := by decide +kernel
theorem d_Mo_parse_92 : decode prog_12_method_41_code 92 = .ok (.ireturn, 1) := by decide +kernel
theorem d_Mo_parse_93 : decode prog_12_method_41_code 93 = .ok (.lconst 0, 1) := by decide +kernel
theorem d_Mo_parse_94 : decode prog_12_method_41_code 94 = .ok (.lstore 5, 2) := by decide +kernel
theorem d_Mo_parse_96 : decode prog_12_method_41_code 96 = .ok (.iconst 0, 1) := by decide +kernel
theorem d_Mo_parse_97 : decode prog_12_method_41_code 97 = .ok (.istore 7, 2) := by decide +kernel
theorem d_Mo_parse_99 : decode prog_12_method_41_code 99 = .ok (.iload 4, 2) := by decide +kernel
theorem d_Mo_parse_101 : decode prog_12_method_41_code 101 = .ok (.istore 8, 2) := by decide +kernel
theorem d_Mo_parse_103 : decode prog_12_method_41_code 103 = .ok (.iload 8, 2) := by decide +kernel
theorem d_Mo_parse_105 : decode prog_12_method_41_code 105 = .ok (.iload_n 2, 1) := by decide +kernel
theorem d_Mo_parse_106 : decode prog_12_method_41_code 106 = .ok (.if_icmp .ge 84, 3) := by decide +kernel
theorem d_Mo_parse_109 : decode prog_12_method_41_code 109 = .ok (.aload_n 0, 1) := by decide +kernel
theorem d_Mo_parse_110 : decode prog_12_method_41_code 110 = .ok (.getfield 7, 3) := by decide +kernel
theorem d_Mo_parse_113 : decode prog_12_method_41_code 113 = .ok (.iload 8, 2) := by decide +kernel
theorem d_Mo_parse_115 : decode prog_12_method_41_code 115 = .ok (.baload, 1) := by decide +kernel
theorem d_Mo_parse_116 : decode prog_12_method_41_code 116 = .ok (.invokestatic 206, 3) := by decide +kernel
theorem d_Mo_parse_119 : decode prog_12_method_41_code 119 = .ok (.istore 9, 2) := by decide +kernel
theorem d_Mo_parse_121 : decode prog_12_method_41_code 121 = .ok (.iload 9, 2) := by decide +kernel
theorem d_Mo_parse_123 : decode prog_12_method_41_code 123 = .ok (.iload_n 1, 1) := by decide +kernel
theorem d_Mo_parse_124 : decode prog_12_method_41_code 124 = .ok (.if_icmp .lt 5, 3) := by decide +kernel
theorem d_Mo_parse_127 : decode prog_12_method_41_code 127 = .ok (.iconst 0, 1) := by decide +kernel
theorem d_Mo_parse_128 : decode prog_12_method_41_code 128 = .ok (.ireturn, 1) := by decide +kernel
theorem d_Mo_parse_129 : decode prog_12_method_41_code 129 = .ok (.lload 5, 2) := by decide +kernel
theorem d_Mo_parse_131 : decode prog_12_method_41_code 131 = .ok (.iload_n 1, 1) := by decide +kernel
theorem d_Mo_parse_132 : decode prog_12_method_41_code 132 = .ok (.i2l, 1) := by decide +kernel
theorem d_Mo_parse_133 : decode prog_12_method_41_code 133 = .ok (.lmul, 1) := by decide +kernel
theorem d_Mo_parse_134 : decode prog_12_method_41_code 134 = .ok (.iload 9, 2) := by decide +kernel
theorem d_Mo_parse_136 : decode prog_12_method_41_code 136 = .ok (.i2l, 1) := by decide +kernel
theorem d_Mo_parse_137 : decode prog_12_method_41_code 137 = .ok (.lsub, 1) := by decide +kernel
theorem d_Mo_parse_138 : decode prog_12_method_41_code 138 = .ok (.lstore 10, 2) := by decide +kernel
theorem d_Mo_parse_140 : decode prog_12_method_41_code 140 = .ok (.iload 7, 2) := by decide +kernel
theorem d_Mo_parse_142 : decode prog_12_method_41_code 142 = .ok (.ifCond .ne 31, 3) := by decide +kernel
theorem d_Mo_parse_145 : decode prog_12_method_41_code 145 = .ok (.lload 5, 2) := by decide +kernel
theorem d_Mo_parse_147 : decode prog_12_method_41_code 147 = .ok (.ldc2_w 83, 3) := by decide +kernel
theorem d_Mo_parse_150 : decode prog_12_method_41_code 150 = .ok (.iload_n 1, 1) := by decide +kernel
theorem d_Mo_parse_151 : decode prog_12_method_41_code 151 = .ok (.i2l, 1) := by decide +kernel
theorem d_Mo_parse_152 : decode prog_12_method_41_code 152 = .ok (.ldiv, 1) := by decide +kernel
theorem d_Mo_parse_153 : decode prog_12_method_41_code 153 = .ok (.lcmp, 1) := by decide +kernel
theorem d_Mo_parse_154 : decode prog_12_method_41_code 154 = .ok (.ifCond .lt 19, 3) := by decide +kernel
theorem d_Mo_parse_157 : decode prog_12_method_41_code 157 = .ok (.lload 5, 2) := by decide +kernel
theorem d_Mo_parse_159 : decode prog_12_method_41_code 159 = .ok (.iload_n 1, 1) := by decide +kernel
theorem d_Mo_parse_160 : decode prog_12_method_41_code 160 = .ok (.i2l, 1) := by decide +kernel
theorem d_Mo_parse_161 : decode prog_12_method_41_code 161 = .ok (.lmul, 1) := by decide +kernel
theorem d_Mo_parse_162 : decode prog_12_method_41_code 162 = .ok (.ldc2_w 83, 3) := by decide +kernel
theorem d_Mo_parse_165 : decode prog_12_method_41_code 165 = .ok (.iload 9, 2) := by decide +kernel
theorem d_Mo_parse_167 : decode prog_12_method_41_code 167 = .ok (.i2l, 1) := by decide +kernel
theorem d_Mo_parse_168 : decode prog_12_method_41_code 168 = .ok (.ladd, 1) := by decide +kernel
theorem d_Mo_parse_169 : decode prog_12_method_41_code 169 = .ok (.lcmp, 1) := by decide +kernel
theorem d_Mo_parse_170 : decode prog_12_method_41_code 170 = .ok (.ifCond .ge 7, 3) := by decide +kernel
theorem d_Mo_parse_173 : decode prog_12_method_41_code 173 = .ok (.iconst 1, 1) := by decide +kernel
theorem d_Mo_parse_174 : decode prog_12_method_41_code 174 = .ok (.goto 4, 3) := by decide +kernel
theorem d_Mo_parse_177 : decode prog_12_method_41_code 177 = .ok (.iconst 0, 1) := by decide +kernel
theorem d_Mo_parse_178 : decode prog_12_method_41_code 178 = .ok (.istore 7, 2) := by decide +kernel
theorem d_Mo_parse_180 : decode prog_12_method_41_code 180 = .ok (.lload 10, 2) := by decide +kernel
theorem d_Mo_parse_182 : decode prog_12_method_41_code 182 = .ok (.lstore 5, 2) := by decide +kernel
theorem d_Mo_parse_184 : decode prog_12_method_41_code 184 = .ok (.iinc 8 1, 3) := by decide +kernel
theorem d_Mo_parse_187 : decode prog_12_method_41_code 187 = .ok (.goto (-84), 3) := by decide +kernel
theorem d_Mo_parse_190 : decode prog_12_method_41_code 190 = .ok (.iload 7, 2) := by decide +kernel
theorem d_Mo_parse_192 : decode prog_12_method_41_code 192 = .ok (.ifCond .ne 16, 3) := by decide +kernel
theorem d_Mo_parse_195 : decode prog_12_method_41_code 195 = .ok (.iload_n 3, 1) := by decide +kernel
theorem d_Mo_parse_196 : decode prog_12_method_41_code 196 = .ok (.ifCond .ne 14, 3) := by decide +kernel
theorem d_Mo_parse_199 : decode prog_12_method_41_code 199 = .ok (.lload 5, 2) := by decide +kernel
theorem d_Mo_parse_201 : decode prog_12_method_41_code 201 = .ok (.ldc2_w 83, 3) := by decide +kernel
theorem d_Mo_parse_204 : decode prog_12_method_41_code 204 = .ok (.lcmp, 1) := by decide +kernel
theorem d_Mo_parse_205 : decode prog_12_method_41_code 205 = .ok (.ifCond .ne 5, 3) := by decide +kernel
theorem d_Mo_parse_208 : decode prog_12_method_41_code 208 = .ok (.iconst 0, 1) := by decide +kernel
theorem d_Mo_parse_209 : decode prog_12_method_41_code 209 = .ok (.ireturn, 1) := by decide +kernel
theorem d_Mo_parse_210 : decode prog_12_method_41_code 210 = .ok (.aload_n 0, 1) := by decide +kernel
theorem d_Mo_parse_211 : decode prog_12_method_41_code 211 = .ok (.iload_n 3, 1) := by decide +kernel
theorem d_Mo_parse_212 : decode prog_12_method_41_code 212 = .ok (.ifCond .eq 8, 3) := by decide +kernel
theorem d_Mo_parse_215 : decode prog_12_method_41_code 215 = .ok (.lload 5, 2) := by decide +kernel
theorem d_Mo_parse_217 : decode prog_12_method_41_code 217 = .ok (.goto 6, 3) := by decide +kernel
theorem d_Mo_parse_220 : decode prog_12_method_41_code 220 = .ok (.lload 5, 2) := by decide +kernel
theorem d_Mo_parse_222 : decode prog_12_method_41_code 222 = .ok (.lneg, 1) := by decide +kernel
theorem d_Mo_parse_223 : decode prog_12_method_41_code 223 = .ok (.putfield 202, 3) := by decide +kernel
theorem d_Mo_parse_226 : decode prog_12_method_41_code 226 = .ok (.iconst 1, 1) := by decide +kernel
theorem d_Mo_parse_227 : decode prog_12_method_41_code 227 = .ok (.ireturn, 1) := by decide +kernel
set_option maxHeartbeats 4000000 in
set_option maxRecDepth 100000 in
theorem c_Mo_parseA (l : Launch) (dC : Nat → ClassId) (dI : Nat → Nat → Nat) (mo rt rk rv rw ro rr ra rc rl rb : Nat) (th fd mn md pt : Int32) (pz : Int64) (kc la ca : Int32) (v : Int32) (hbad : v < 2 ∨ ¬ v ≤ 36) : zM_i (S := Unit) l y_Mo_parse w_Mo_parse { frames := 0, cells := 0, slots := 0, locals := 0 } (dC, dI) vwCl [.ref mo, .int v] [(mo, .inr (8, [.int th, .int fd, .ref rt, .int mn, .ref rk, .ref rv, .ref rw, .ref ro, .int md, .ref rr, .int pt, .ref ra, .long pz, .int kc, .ref rc, .ref rl, .ref rb, .int la, .int ca]))] [] (fun (r : Int32) (u : Unit) => r = 0) (fun u => [(mo, .inr (8, [.int 1, .int fd, .ref rt, .int mn, .ref rk, .ref rv, .ref rw, .ref ro, .int md, .ref rr, .int pt, .ref ra, .long pz, .int kc, .ref rc, .ref rl, .ref rb, .int la, .int ca]))]) (fun u => []) 0 0 := by
  refine zz_enteri (cc := prog_12_method_41_code) (nL := 12) (ret := (some .boolean)) (by decide) rfl (Nat.le_of_ble_eq_true rfl) ?_
  intro p e s m below meth c A ls C0 hA hS hP hK hD hl
  obtain ⟨hx, hb, hml, hown, hg, hr, hlocks, hin⟩ := C0
  have hown : s.vm.findClass "TextForgeModel" = some m.cls := hown
  have hP : va_P (dC, dI) vwCl [(mo, .inr (8, [.int th, .int fd, .ref rt, .int mn, .ref rk, .ref rv, .ref rw, .ref ro, .int md, .ref rr, .int pt, .ref ra, .long pz, .int kc, .ref rc, .ref rl, .ref rb, .int la, .int ca]))] s.heap := hP
  have hK : va_K (dC, dI) vwCl [] s := hK
  have hD : va_D A [(mo, .inr (8, [.int th, .int fd, .ref rt, .int mn, .ref rk, .ref rv, .ref rw, .ref ro, .int md, .ref rr, .int pt, .ref ra, .long pz, .int kc, .ref rc, .ref rl, .ref rb, .int la, .int ca]))] := hD
  have hl : lv_has ls 12 [(0, .ref mo), (1, .int v)] := hl
  refine lv_aload_n hx hb d_Mo_parse_0 rfl (lv_at hl 0 rfl) ?_
  refine lv_iconst (v := 0) hx hb d_Mo_parse_1 (by decide) ?_
  refine va_put (D := (dC, dI)) (ci := 8) (v := .int 0) (ty := .int) (C := "TextForgeModel") (T := TX8) (N := 19) hx hb hg iwX8 tyX8 tyX8_ok nmX8 hown hK hP hD hS 0 rfl rfl 0 (by decide) (hg _ kw_726) (fun _ h9 => h9) rfl (by decide +kernel) rfl rfl (Nat.le_of_ble_eq_true rfl) d_Mo_parse_2 (fun H locs hP hD hS => ?_)
  have hP : va_P (dC, dI) vwCl [(mo, .inr (8, [.int 0, .int fd, .ref rt, .int mn, .ref rk, .ref rv, .ref rw, .ref ro, .int md, .ref rr, .int pt, .ref ra, .long pz, .int kc, .ref rc, .ref rl, .ref rb, .int la, .int ca]))] H := hP
  have hD : va_D A [(mo, .inr (8, [.int 0, .int fd, .ref rt, .int mn, .ref rk, .ref rv, .ref rw, .ref ro, .int md, .ref rr, .int pt, .ref ra, .long pz, .int kc, .ref rc, .ref rl, .ref rb, .int la, .int ca]))] := hD
  refine lv_iload_n hx hb d_Mo_parse_5 rfl (lv_at hl 1 rfl) ?_
  refine lv_iconst (v := 2) hx hb d_Mo_parse_6 (by decide) ?_
  refine lv_icmp_lt (tgt := 16) hx hb d_Mo_parse_7 (by decide) (fun c_7 => ?_) (fun c_7 => ?_)
  · skip
    refine lv_aload_n hx hb d_Mo_parse_16 rfl (lv_at hl 0 rfl) ?_
    refine lv_iconst (v := 1) hx hb d_Mo_parse_17 (by decide) ?_
    refine va_put (D := (dC, dI)) (ci := 8) (v := .int 1) (ty := .int) (C := "TextForgeModel") (T := TX8) (N := 19) hx hb hg iwX8 tyX8 tyX8_ok nmX8 hown hK hP hD hS 0 rfl rfl 0 (by decide) (hg _ kw_726) (fun _ h9 => h9) rfl (by decide +kernel) rfl rfl (Nat.le_of_ble_eq_true rfl) d_Mo_parse_18 (fun H locs hP hD hS => ?_)
    have hP : va_P (dC, dI) vwCl [(mo, .inr (8, [.int 1, .int fd, .ref rt, .int mn, .ref rk, .ref rv, .ref rw, .ref ro, .int md, .ref rr, .int pt, .ref ra, .long pz, .int kc, .ref rc, .ref rl, .ref rb, .int la, .int ca]))] H := hP
    have hD : va_D A [(mo, .inr (8, [.int 1, .int fd, .ref rt, .int mn, .ref rk, .ref rv, .ref rw, .ref ro, .int md, .ref rr, .int pt, .ref ra, .long pz, .int kc, .ref rc, .ref rl, .ref rb, .int la, .int ca]))] := hD
    refine lv_iconst (v := 0) hx hb d_Mo_parse_21 (by decide) ?_
    have hP9 := hP.sub (ws' := [(mo, .inr (8, [.int 1, .int fd, .ref rt, .int mn, .ref rk, .ref rv, .ref rw, .ref ro, .int md, .ref rr, .int pt, .ref ra, .long pz, .int kc, .ref rc, .ref rl, .ref rb, .int la, .int ca]))]) [0] rfl
    have hD9 := hD.sub (ws' := [(mo, .inr (8, [.int 1, .int fd, .ref rt, .int mn, .ref rk, .ref rv, .ref rw, .ref ro, .int md, .ref rr, .int pt, .ref ra, .long pz, .int kc, .ref rc, .ref rl, .ref rb, .int la, .int ca]))]) [0] (by decide) rfl
    have hK9 := hK.sub (tys' := []) [] rfl
    exact zz_zret hx hb hr hlocks d_Mo_parse_22 (by decide) hS (by first | exact Nat.le_refl _ | decide | omega | (dsimp only; omega)) (by first | exact Nat.le_refl _ | decide | omega | (dsimp only; omega)) () rfl hP9 hK9 hD9
  · skip
    refine lv_iload_n hx hb d_Mo_parse_10 rfl (lv_at hl 1 rfl) ?_
    refine lv_bipush (v := 36) hx hb d_Mo_parse_11 (by decide) ?_
    refine lv_icmp_le (tgt := 23) hx hb d_Mo_parse_13 (by decide) (fun c_13 => ?_) (fun c_13 => ?_)
    · skip
      rcases hbad with h9 | h9
      · exact absurd h9 c_7
      · exact absurd c_13 h9
    · skip
      refine lv_aload_n hx hb d_Mo_parse_16 rfl (lv_at hl 0 rfl) ?_
      refine lv_iconst (v := 1) hx hb d_Mo_parse_17 (by decide) ?_
      refine va_put (D := (dC, dI)) (ci := 8) (v := .int 1) (ty := .int) (C := "TextForgeModel") (T := TX8) (N := 19) hx hb hg iwX8 tyX8 tyX8_ok nmX8 hown hK hP hD hS 0 rfl rfl 0 (by decide) (hg _ kw_726) (fun _ h9 => h9) rfl (by decide +kernel) rfl rfl (Nat.le_of_ble_eq_true rfl) d_Mo_parse_18 (fun H locs hP hD hS => ?_)
      have hP : va_P (dC, dI) vwCl [(mo, .inr (8, [.int 1, .int fd, .ref rt, .int mn, .ref rk, .ref rv, .ref rw, .ref ro, .int md, .ref rr, .int pt, .ref ra, .long pz, .int kc, .ref rc, .ref rl, .ref rb, .int la, .int ca]))] H := hP
      have hD : va_D A [(mo, .inr (8, [.int 1, .int fd, .ref rt, .int mn, .ref rk, .ref rv, .ref rw, .ref ro, .int md, .ref rr, .int pt, .ref ra, .long pz, .int kc, .ref rc, .ref rl, .ref rb, .int la, .int ca]))] := hD
      refine lv_iconst (v := 0) hx hb d_Mo_parse_21 (by decide) ?_
      have hP9 := hP.sub (ws' := [(mo, .inr (8, [.int 1, .int fd, .ref rt, .int mn, .ref rk, .ref rv, .ref rw, .ref ro, .int md, .ref rr, .int pt, .ref ra, .long pz, .int kc, .ref rc, .ref rl, .ref rb, .int la, .int ca]))]) [0] rfl
      have hD9 := hD.sub (ws' := [(mo, .inr (8, [.int 1, .int fd, .ref rt, .int mn, .ref rk, .ref rv, .ref rw, .ref ro, .int md, .ref rr, .int pt, .ref ra, .long pz, .int kc, .ref rc, .ref rl, .ref rb, .int la, .int ca]))]) [0] (by decide) rfl
      have hK9 := hK.sub (tys' := []) [] rfl
      exact zz_zret hx hb hr hlocks d_Mo_parse_22 (by decide) hS (by first | exact Nat.le_refl _ | decide | omega | (dsimp only; omega)) (by first | exact Nat.le_refl _ | decide | omega | (dsimp only; omega)) () rfl hP9 hK9 hD9
set_option maxHeartbeats 4000000 in
set_option maxRecDepth 100000 in
theorem c_Mo_parse (l : Launch) (dC : Nat → ClassId) (dI : Nat → Nat → Nat) (mo rt rk rv rw ro rr ra rc rl rb : Nat) (th fd mn md pt : Int32) (pz : Int64) (kc la ca : Int32) (cB : ClassId) (ft : Nat → Int32) (F : List Nat) (b : Nat) (hLt : by_L F ft) (hct : F.length ≤ 4096) (hb2 : 2 ≤ b) (hb36 : b ≤ 36) : zM_i (S := Unit) l y_Mo_parse w_Mo_parse { frames := 1, cells := 0, slots := 0, locals := 20 } (dC, dI) vwCl [.ref mo, .int (nI b)] [(mo, .inr (8, [.int th, .int (nI F.length), .ref rt, .int mn, .ref rk, .ref rv, .ref rw, .ref ro, .int md, .ref rr, .int pt, .ref ra, .long pz, .int kc, .ref rc, .ref rl, .ref rb, .int la, .int ca])), (rt, .inl (cB, 4096, .inl ft))] [(cB, .byte)] (fun (r : Int32) (u : Unit) => r = by_z (ps_v F b).isSome) (fun u => [(mo, .inr (8, [.int 0, .int 0, .ref rt, .int mn, .ref rk, .ref rv, .ref rw, .ref ro, .int md, .ref rr, .int pt, .ref ra, .long (ps_l 0 (ps_v F b)), .int kc, .ref rc, .ref rl, .ref rb, .int la, .int ca])), (rt, .inl (cB, 4096, .inl ft))]) (fun u => [(cB, .byte)]) 0 0 := by
  refine zz_enteri (cc := prog_12_method_41_code) (nL := 12) (ret := (some .boolean)) (by decide) rfl (Nat.le_of_ble_eq_true rfl) ?_
  intro p e s m below meth c A ls C0 hA hS hP hK hD hl
  obtain ⟨hx, hb, hml, hown, hg, hr, hlocks, hin⟩ := C0
  have hown : s.vm.findClass "TextForgeModel" = some m.cls := hown
  have hP : va_P (dC, dI) vwCl [(mo, .inr (8, [.int th, .int (nI F.length), .ref rt, .int mn, .ref rk, .ref rv, .ref rw, .ref ro, .int md, .ref rr, .int pt, .ref ra, .long pz, .int kc, .ref rc, .ref rl, .ref rb, .int la, .int ca])), (rt, .inl (cB, 4096, .inl ft))] s.heap := hP
  have hK : va_K (dC, dI) vwCl [(cB, .byte)] s := hK
  have hD : va_D A [(mo, .inr (8, [.int th, .int (nI F.length), .ref rt, .int mn, .ref rk, .ref rv, .ref rw, .ref ro, .int md, .ref rr, .int pt, .ref ra, .long pz, .int kc, .ref rc, .ref rl, .ref rb, .int la, .int ca])), (rt, .inl (cB, 4096, .inl ft))] := hD
  have hl : lv_has ls 12 [(0, .ref mo), (1, .int (nI b))] := hl
  refine lv_aload_n hx hb d_Mo_parse_0 rfl (lv_at hl 0 rfl) ?_
  refine lv_iconst (v := 0) hx hb d_Mo_parse_1 (by decide) ?_
  refine va_put (D := (dC, dI)) (ci := 8) (v := .int 0) (ty := .int) (C := "TextForgeModel") (T := TX8) (N := 19) hx hb hg iwX8 tyX8 tyX8_ok nmX8 hown hK hP hD hS 0 rfl rfl 0 (by decide) (hg _ kw_726) (fun _ h9 => h9) rfl (by decide +kernel) rfl rfl (Nat.le_of_ble_eq_true rfl) d_Mo_parse_2 (fun H locs hP hD hS => ?_)
  have hP : va_P (dC, dI) vwCl [(mo, .inr (8, [.int 0, .int (nI F.length), .ref rt, .int mn, .ref rk, .ref rv, .ref rw, .ref ro, .int md, .ref rr, .int pt, .ref ra, .long pz, .int kc, .ref rc, .ref rl, .ref rb, .int la, .int ca])), (rt, .inl (cB, 4096, .inl ft))] H := hP
  have hD : va_D A [(mo, .inr (8, [.int 0, .int (nI F.length), .ref rt, .int mn, .ref rk, .ref rv, .ref rw, .ref ro, .int md, .ref rr, .int pt, .ref ra, .long pz, .int kc, .ref rc, .ref rl, .ref rb, .int la, .int ca])), (rt, .inl (cB, 4096, .inl ft))] := hD
  refine lv_iload_n hx hb d_Mo_parse_5 rfl (lv_at hl 1 rfl) ?_
  refine lv_iconst (v := 2) hx hb d_Mo_parse_6 (by decide) ?_
  refine lv_icmp_lt (tgt := 16) hx hb d_Mo_parse_7 (by decide) (fun c9 => by first | exact absurd c9 (nI_nlt (b := 2) hb2 (by omega)) | exact absurd (nI_nlt (b := 2) hb2 (by omega)) c9) (fun _ => ?_)
  refine lv_iload_n hx hb d_Mo_parse_10 rfl (lv_at hl 1 rfl) ?_
  refine lv_bipush (v := 36) hx hb d_Mo_parse_11 (by decide) ?_
  refine lv_icmp_le (tgt := 23) hx hb d_Mo_parse_13 (by decide) (fun _ => ?_) (fun c9 => by first | exact absurd c9 (nI_le (b := 36) hb36 (by decide)) | exact absurd (nI_le (b := 36) hb36 (by decide)) c9)
  refine lv_aload_n hx hb d_Mo_parse_23 rfl (lv_at hl 0 rfl) ?_
  refine va_get (D := (dC, dI)) (ci := 8) (v := .int (nI F.length)) (C := "TextForgeModel") (T := TX8) (N := 19) hx hb hg iwX8 hown hK hP 0 rfl rfl 1 (by decide) (hg _ kw_727) (fun _ h9 => h9) rfl d_Mo_parse_24 ?_
  refine lv_istore_n (lv' := [(2, .int (nI F.length)), (0, .ref mo), (1, .int (nI b))]) hx hb d_Mo_parse_27 rfl hl (by decide) rfl (fun ls hl => ?_)
  refine lv_aload_n hx hb d_Mo_parse_28 rfl (lv_at hl 1 rfl) ?_
  refine lv_iconst (v := 0) hx hb d_Mo_parse_29 (by decide) ?_
  refine va_put (D := (dC, dI)) (ci := 8) (v := .int 0) (ty := .int) (C := "TextForgeModel") (T := TX8) (N := 19) hx hb hg iwX8 tyX8 tyX8_ok nmX8 hown hK hP hD hS 0 rfl rfl 1 (by decide) (hg _ kw_727) (fun _ h9 => h9) rfl (by decide +kernel) rfl rfl (Nat.le_of_ble_eq_true rfl) d_Mo_parse_30 (fun H locs hP hD hS => ?_)
  have hP : va_P (dC, dI) vwCl [(mo, .inr (8, [.int 0, .int 0, .ref rt, .int mn, .ref rk, .ref rv, .ref rw, .ref ro, .int md, .ref rr, .int pt, .ref ra, .long pz, .int kc, .ref rc, .ref rl, .ref rb, .int la, .int ca])), (rt, .inl (cB, 4096, .inl ft))] H := hP
  have hD : va_D A [(mo, .inr (8, [.int 0, .int 0, .ref rt, .int mn, .ref rk, .ref rv, .ref rw, .ref ro, .int md, .ref rr, .int pt, .ref ra, .long pz, .int kc, .ref rc, .ref rl, .ref rb, .int la, .int ca])), (rt, .inl (cB, 4096, .inl ft))] := hD
  refine lv_aload_n hx hb d_Mo_parse_33 rfl (lv_at hl 1 rfl) ?_
  refine lv_lconst (v := 0) hx hb d_Mo_parse_34 (by decide) ?_
  refine va_put (D := (dC, dI)) (ci := 8) (v := .long 0) (ty := .long) (C := "TextForgeModel") (T := TX8) (N := 19) hx hb hg iwX8 tyX8 tyX8_ok nmX8 hown hK hP hD hS 0 rfl rfl 12 (by decide) (hg _ kw_738) (fun _ h9 => h9) rfl (by decide +kernel) rfl rfl (Nat.le_of_ble_eq_true rfl) d_Mo_parse_35 (fun H locs hP hD hS => ?_)
  have hP : va_P (dC, dI) vwCl [(mo, .inr (8, [.int 0, .int 0, .ref rt, .int mn, .ref rk, .ref rv, .ref rw, .ref ro, .int md, .ref rr, .int pt, .ref ra, .long 0, .int kc, .ref rc, .ref rl, .ref rb, .int la, .int ca])), (rt, .inl (cB, 4096, .inl ft))] H := hP
  have hD : va_D A [(mo, .inr (8, [.int 0, .int 0, .ref rt, .int mn, .ref rk, .ref rv, .ref rw, .ref ro, .int md, .ref rr, .int pt, .ref ra, .long 0, .int kc, .ref rc, .ref rl, .ref rb, .int la, .int ca])), (rt, .inl (cB, 4096, .inl ft))] := hD
  refine lv_iload_n hx hb d_Mo_parse_38 rfl (lv_at hl 0 rfl) ?_
  refine lv_if_le (tgt := 57) hx hb d_Mo_parse_39 (by decide) (fun c_39 => ?_) (fun c_39 => ?_)
  · skip
    have f_39 : F.length = 0 := by have := (nI_leI (b := 0) (by omega) (by decide)).mp c_39; omega
    have hno : ps_v F b = none := ps_0 (by omega)
    refine lv_iconst (v := 0) hx hb d_Mo_parse_57 (by decide) ?_
    refine lv_istore_n (lv' := [(3, .int 0), (2, .int (nI F.length)), (0, .ref mo), (1, .int (nI b))]) hx hb d_Mo_parse_58 rfl hl (by decide) rfl (fun ls hl => ?_)
    refine lv_iload_n hx hb d_Mo_parse_59 rfl (lv_at hl 0 rfl) ?_
    refine lv_if_ne (tgt := 78) hx hb d_Mo_parse_60 (by decide) (fun c9 => by first | exact absurd c9 rfl | exact absurd rfl c9) (fun _ => ?_)
    refine lv_iload_n hx hb d_Mo_parse_63 rfl (lv_at hl 1 rfl) ?_
    refine lv_if_le (tgt := 82) hx hb d_Mo_parse_64 (by decide) (fun _ => ?_) (fun c9 => by first | exact absurd c9 c_39 | exact absurd c_39 c9)
    refine lv_iconst (v := 0) hx hb d_Mo_parse_82 (by decide) ?_
    refine lv_istore (lv' := [(4, .int 0), (3, .int 0), (2, .int (nI F.length)), (0, .ref mo), (1, .int (nI b))]) hx hb d_Mo_parse_83 hl (by decide) rfl (fun ls hl => ?_)
    refine lv_iload hx hb d_Mo_parse_85 (lv_at hl 0 rfl) ?_
    refine lv_iload_n hx hb d_Mo_parse_87 rfl (lv_at hl 2 rfl) ?_
    refine lv_icmp_ne (tgt := 93) hx hb d_Mo_parse_88 (by decide) (fun c9 => by first | exact absurd c9 (by rw [f_39]; rfl) | exact absurd (by rw [f_39]; rfl) c9) (fun _ => ?_)
    refine lv_iconst (v := 0) hx hb d_Mo_parse_91 (by decide) ?_
    have hP9 := hP.sub (ws' := [(mo, .inr (8, [.int 0, .int 0, .ref rt, .int mn, .ref rk, .ref rv, .ref rw, .ref ro, .int md, .ref rr, .int pt, .ref ra, .long 0, .int kc, .ref rc, .ref rl, .ref rb, .int la, .int ca])), (rt, .inl (cB, 4096, .inl ft))]) [0, 1] rfl
    have hD9 := hD.sub (ws' := [(mo, .inr (8, [.int 0, .int 0, .ref rt, .int mn, .ref rk, .ref rv, .ref rw, .ref ro, .int md, .ref rr, .int pt, .ref ra, .long 0, .int kc, .ref rc, .ref rl, .ref rb, .int la, .int ca])), (rt, .inl (cB, 4096, .inl ft))]) [0, 1] (by decide) rfl
    have hK9 := hK.sub (tys' := [(cB, .byte)]) [0] rfl
    rw [show Value.long 0 = Value.long (ps_l 0 (ps_v F b)) by rw [hno]; rfl] at hP9 hD9
    exact zz_zret hx hb hr hlocks d_Mo_parse_92 (by decide) hS (by first | exact Nat.le_refl _ | decide | omega | (dsimp only; omega)) (by first | exact Nat.le_refl _ | decide | omega | (dsimp only; omega)) () (by rw [hno]; rfl) hP9 hK9 hD9
  · skip
    have f_39 : 0 < F.length := Nat.lt_of_not_le (fun z => c_39 (nI_le (b := 0) z (by decide)))
    have ht0 := hLt 0 f_39
    have hi9 : vp_in (0 : Int32) 4096 := (show vp_in (nI 0) 4096 from vp_in_nI (by decide) (by decide))
    refine lv_aload_n hx hb d_Mo_parse_42 rfl (lv_at hl 1 rfl) ?_
    refine va_get (D := (dC, dI)) (ci := 8) (v := .ref rt) (C := "TextForgeModel") (T := TX8) (N := 19) hx hb hg iwX8 hown hK hP 0 rfl rfl 2 (by decide) (hg _ kw_728) (fun _ h9 => h9) rfl d_Mo_parse_43 ?_
    refine lv_iconst (v := 0) hx hb d_Mo_parse_46 (by decide) ?_
    refine va_bald hx hb hK hP 1 0 rfl rfl hi9 d_Mo_parse_47 ?_
    rw [show ft (0 : Int32).toNatClampNeg = sb_b (F.getD 0 0) from ht0.2]
    refine lv_bipush (v := 45) hx hb d_Mo_parse_48 (by decide) ?_
    refine lv_icmp_ne (tgt := 57) hx hb d_Mo_parse_50 (by decide) (fun c_50 => ?_) (fun c_50 => ?_)
    · skip
      have hg0 : ¬ F.getD 0 0 = 45 := fun z => c_50 ((sb_e ht0.1 (k := 45) (by decide)).mpr z)
      have hn : ps_n F = false := decide_eq_false hg0
      refine lv_iconst (v := 0) hx hb d_Mo_parse_57 (by decide) ?_
      refine lv_istore_n (lv' := [(3, .int 0), (2, .int (nI F.length)), (0, .ref mo), (1, .int (nI b))]) hx hb d_Mo_parse_58 rfl hl (by decide) rfl (fun ls hl => ?_)
      refine lv_iload_n hx hb d_Mo_parse_59 rfl (lv_at hl 0 rfl) ?_
      refine lv_if_ne (tgt := 78) hx hb d_Mo_parse_60 (by decide) (fun c9 => by first | exact absurd c9 rfl | exact absurd rfl c9) (fun _ => ?_)
      refine lv_iload_n hx hb d_Mo_parse_63 rfl (lv_at hl 1 rfl) ?_
      refine lv_if_le (tgt := 82) hx hb d_Mo_parse_64 (by decide) (fun c9 => by first | exact absurd c9 c_39 | exact absurd c_39 c9) (fun _ => ?_)
      refine lv_aload_n hx hb d_Mo_parse_67 rfl (lv_at hl 2 rfl) ?_
      refine va_get (D := (dC, dI)) (ci := 8) (v := .ref rt) (C := "TextForgeModel") (T := TX8) (N := 19) hx hb hg iwX8 hown hK hP 0 rfl rfl 2 (by decide) (hg _ kw_728) (fun _ h9 => h9) rfl d_Mo_parse_68 ?_
      refine lv_iconst (v := 0) hx hb d_Mo_parse_71 (by decide) ?_
      refine va_bald hx hb hK hP 1 0 rfl rfl hi9 d_Mo_parse_72 ?_
      rw [show ft (0 : Int32).toNatClampNeg = sb_b (F.getD 0 0) from ht0.2]
      refine lv_bipush (v := 43) hx hb d_Mo_parse_73 (by decide) ?_
      refine lv_icmp_ne (tgt := 82) hx hb d_Mo_parse_75 (by decide) (fun c_75 => ?_) (fun c_75 => ?_)
      · skip
        have hg3 : ¬ F.getD 0 0 = 43 := fun z => c_75 ((sb_e ht0.1 (k := 43) (by decide)).mpr z)
        have hk : ps_k F = 0 := if_neg (fun z => z.elim hg3 hg0)
        refine lv_iconst (v := 0) hx hb d_Mo_parse_82 (by decide) ?_
        refine lv_istore (lv' := [(4, .int 0), (3, .int 0), (2, .int (nI F.length)), (0, .ref mo), (1, .int (nI b))]) hx hb d_Mo_parse_83 hl (by decide) rfl (fun ls hl => ?_)
        refine lv_iload hx hb d_Mo_parse_85 (lv_at hl 0 rfl) ?_
        refine lv_iload_n hx hb d_Mo_parse_87 rfl (lv_at hl 2 rfl) ?_
        refine lv_icmp_ne (tgt := 93) hx hb d_Mo_parse_88 (by decide) (fun c_88 => ?_) (fun c_88 => ?_)
        · skip
          have f_88 : ps_k F < F.length := by rw [hk]; have : 0 ≠ F.length := nI_ne (a := 0) c_88; omega
          refine lv_lconst (v := 0) hx hb d_Mo_parse_93 (by decide) ?_
          refine lv_lstore (lv' := [(5, .long 0), (4, .int 0), (3, .int 0), (2, .int (nI F.length)), (0, .ref mo), (1, .int (nI b))]) hx hb d_Mo_parse_94 hl (by decide) rfl (fun ls hl => ?_)
          refine lv_iconst (v := 0) hx hb d_Mo_parse_96 (by decide) ?_
          refine lv_istore (lv' := [(7, .int 0), (5, .long 0), (4, .int 0), (3, .int 0), (2, .int (nI F.length)), (0, .ref mo), (1, .int (nI b))]) hx hb d_Mo_parse_97 hl (by decide) rfl (fun ls hl => ?_)
          refine lv_iload hx hb d_Mo_parse_99 (lv_at hl 2 rfl) ?_
          refine lv_istore (lv' := [(8, .int 0), (7, .int 0), (5, .long 0), (4, .int 0), (3, .int 0), (2, .int (nI F.length)), (0, .ref mo), (1, .int (nI b))]) hx hb d_Mo_parse_101 hl (by decide) rfl (fun ls hl => ?_)
          refine zz_loop (fun (x : Bool × Int64 × Nat) H locs ls => match x with | (ov, x, i) => va_P (dC, dI) vwCl [(mo, .inr (8, [.int 0, .int 0, .ref rt, .int mn, .ref rk, .ref rv, .ref rw, .ref ro, .int md, .ref rr, .int pt, .ref ra, .long 0, .int kc, .ref rc, .ref rl, .ref rb, .int la, .int ca])), (rt, .inl (cB, 4096, .inl ft))] H ∧ va_D A [(mo, .inr (8, [.int 0, .int 0, .ref rt, .int mn, .ref rk, .ref rv, .ref rw, .ref ro, .int md, .ref rr, .int pt, .ref ra, .long 0, .int kc, .ref rc, .ref rl, .ref rb, .int la, .int ca])), (rt, .inl (cB, 4096, .inl ft))] ∧ va_S A s.heap H locs ∧ lv_has ls 12 [(0, .ref mo), (1, .int (nI b)), (2, .int (nI F.length)), (3, .int 0), (5, .long x), (7, .int (by_z ov)), (8, .int (nI i))] ∧ ps_J F b ov i x ∧ i ≤ F.length) (fun x => match x with | (ov, x, i) => F.length - i) ?_ (false, (0 : Int64), 0) ⟨hP.sub [0, 1] rfl, hD.sub [0, 1] (by decide) rfl, hS, lv_sub hl [6, 7, 5, 4, 2, 1, 0] rfl, (by rw [← hk]; exact ps_J0), (by rw [hk] at f_88; omega)⟩
          intro x H locs ls hI ih_103
          obtain ⟨ov, x, i⟩ := x
          try dsimp only at hI
          obtain ⟨hP, hD, hS, hl, hI, hil⟩ := hI
          refine lv_iload hx hb d_Mo_parse_103 (lv_at hl 6 rfl) ?_
          refine lv_iload_n hx hb d_Mo_parse_105 rfl (lv_at hl 2 rfl) ?_
          refine lv_icmp_ge (tgt := 190) hx hb d_Mo_parse_106 (by decide) (fun c_106 => ?_) (fun c_106 => ?_)
          · skip
            have f_106 : F.length ≤ i := (nI_leI (by omega) (by omega)).mp c_106
            refine lv_iload hx hb d_Mo_parse_190 (lv_at hl 5 rfl) ?_
            refine lv_if_ne (tgt := 208) hx hb d_Mo_parse_192 (by decide) (fun c_192 => ?_) (fun c_192 => ?_)
            · skip
              have hov : ov = true := by_z_t rfl c_192
              have hno : ps_v F b = none := ps_nn hb2 f_88 (by rw [hov] at hI; exact hI)
              refine lv_iconst (v := 0) hx hb d_Mo_parse_208 (by decide) ?_
              have hP9 := hP.sub (ws' := [(mo, .inr (8, [.int 0, .int 0, .ref rt, .int mn, .ref rk, .ref rv, .ref rw, .ref ro, .int md, .ref rr, .int pt, .ref ra, .long 0, .int kc, .ref rc, .ref rl, .ref rb, .int la, .int ca])), (rt, .inl (cB, 4096, .inl ft))]) [0, 1] rfl
              have hD9 := hD.sub (ws' := [(mo, .inr (8, [.int 0, .int 0, .ref rt, .int mn, .ref rk, .ref rv, .ref rw, .ref ro, .int md, .ref rr, .int pt, .ref ra, .long 0, .int kc, .ref rc, .ref rl, .ref rb, .int la, .int ca])), (rt, .inl (cB, 4096, .inl ft))]) [0, 1] (by decide) rfl
              have hK9 := hK.sub (tys' := [(cB, .byte)]) [0] rfl
              rw [show Value.long 0 = Value.long (ps_l 0 (ps_v F b)) by rw [hno]; rfl] at hP9 hD9
              exact zz_zret hx hb hr hlocks d_Mo_parse_209 (by decide) hS (by first | exact Nat.le_refl _ | decide | omega | (dsimp only; omega)) (by first | exact Nat.le_refl _ | decide | omega | (dsimp only; omega)) () (by rw [hno]; rfl) hP9 hK9 hD9
            · skip
              have hov : ov = false := by cases ov; rfl; exact absurd c_192 (by decide)
              rw [hov] at hI
              obtain ⟨hJ1, hJ2, hJ3⟩ := hI
              rw [ps_end f_106] at hJ1
              refine lv_iload_n hx hb d_Mo_parse_195 rfl (lv_at hl 3 rfl) ?_
              refine lv_if_ne (tgt := 210) hx hb d_Mo_parse_196 (by decide) (fun c9 => by first | exact absurd c9 rfl | exact absurd rfl c9) (fun _ => ?_)
              refine lv_lload hx hb d_Mo_parse_199 (lv_at hl 4 rfl) ?_
              refine W.ldc2 (v := (-9223372036854775808)) hx hb hown (hg _ kw_881) rfl d_Mo_parse_201 ?_
              refine W.eq (g2 := F0 m 204 ls [.long (-9223372036854775808), .long x]) rfl ?_
              refine W.lcmp hx hb d_Mo_parse_204 ?_
              refine lv_if_ne (tgt := 210) hx hb d_Mo_parse_205 (by decide) (fun c_205 => ?_) (fun c_205 => ?_)
              · skip
                have f_205 : ¬ x.toInt = psM := fun z => c_205 ((lg_cmp_eq _ _).mpr (Int64.toInt_inj.mp (z.trans (by decide))))
                refine lv_aload_n hx hb d_Mo_parse_210 rfl (lv_at hl 0 rfl) ?_
                refine lv_iload_n hx hb d_Mo_parse_211 rfl (lv_at hl 3 rfl) ?_
                refine lv_if_eq (tgt := 220) hx hb d_Mo_parse_212 (by decide) (fun _ => ?_) (fun c9 => by first | exact absurd c9 rfl | exact absurd rfl c9)
                refine lv_lload hx hb d_Mo_parse_220 (lv_at hl 4 rfl) ?_
                refine lv_lneg hx hb d_Mo_parse_222 ?_
                refine lv_topl (fun y0 ey0 => ?_)
                have hso : ps_v F b = some y0.toInt := by rw [ps_pos hb2 f_88 hn, hJ1, ey0, lz_neg rfl (by unfold psM at hJ2 f_205; omega) (by omega)]; exact if_neg f_205
                refine va_put (D := (dC, dI)) (ci := 8) (v := .long y0) (ty := .long) (C := "TextForgeModel") (T := TX8) (N := 19) hx hb hg iwX8 tyX8 tyX8_ok nmX8 hown hK hP hD hS 0 rfl rfl 12 (by decide) (hg _ kw_738) (fun _ h9 => h9) rfl (by decide +kernel) rfl rfl (Nat.le_of_ble_eq_true rfl) d_Mo_parse_223 (fun H locs hP hD hS => ?_)
                have hP : va_P (dC, dI) vwCl [(mo, .inr (8, [.int 0, .int 0, .ref rt, .int mn, .ref rk, .ref rv, .ref rw, .ref ro, .int md, .ref rr, .int pt, .ref ra, .long y0, .int kc, .ref rc, .ref rl, .ref rb, .int la, .int ca])), (rt, .inl (cB, 4096, .inl ft))] H := hP
                have hD : va_D A [(mo, .inr (8, [.int 0, .int 0, .ref rt, .int mn, .ref rk, .ref rv, .ref rw, .ref ro, .int md, .ref rr, .int pt, .ref ra, .long y0, .int kc, .ref rc, .ref rl, .ref rb, .int la, .int ca])), (rt, .inl (cB, 4096, .inl ft))] := hD
                refine lv_iconst (v := 1) hx hb d_Mo_parse_226 (by decide) ?_
                have hP9 := hP.sub (ws' := [(mo, .inr (8, [.int 0, .int 0, .ref rt, .int mn, .ref rk, .ref rv, .ref rw, .ref ro, .int md, .ref rr, .int pt, .ref ra, .long y0, .int kc, .ref rc, .ref rl, .ref rb, .int la, .int ca])), (rt, .inl (cB, 4096, .inl ft))]) [0, 1] rfl
                have hD9 := hD.sub (ws' := [(mo, .inr (8, [.int 0, .int 0, .ref rt, .int mn, .ref rk, .ref rv, .ref rw, .ref ro, .int md, .ref rr, .int pt, .ref ra, .long y0, .int kc, .ref rc, .ref rl, .ref rb, .int la, .int ca])), (rt, .inl (cB, 4096, .inl ft))]) [0, 1] (by decide) rfl
                have hK9 := hK.sub (tys' := [(cB, .byte)]) [0] rfl
                rw [show Value.long y0 = Value.long (ps_l 0 (ps_v F b)) by rw [hso, ps_l, ← lz_of rfl]] at hP9 hD9
                exact zz_zret hx hb hr hlocks d_Mo_parse_227 (by decide) hS (by first | exact Nat.le_refl _ | decide | omega | (dsimp only; omega)) (by first | exact Nat.le_refl _ | decide | omega | (dsimp only; omega)) () (by rw [hso]; rfl) hP9 hK9 hD9
              · skip
                have f_205 : x = -9223372036854775808 := (lg_cmp_eq _ _).mp c_205
                have hno : ps_v F b = none := by rw [ps_pos hb2 f_88 hn, hJ1, f_205]; rfl
                refine lv_iconst (v := 0) hx hb d_Mo_parse_208 (by decide) ?_
                have hP9 := hP.sub (ws' := [(mo, .inr (8, [.int 0, .int 0, .ref rt, .int mn, .ref rk, .ref rv, .ref rw, .ref ro, .int md, .ref rr, .int pt, .ref ra, .long 0, .int kc, .ref rc, .ref rl, .ref rb, .int la, .int ca])), (rt, .inl (cB, 4096, .inl ft))]) [0, 1] rfl
                have hD9 := hD.sub (ws' := [(mo, .inr (8, [.int 0, .int 0, .ref rt, .int mn, .ref rk, .ref rv, .ref rw, .ref ro, .int md, .ref rr, .int pt, .ref ra, .long 0, .int kc, .ref rc, .ref rl, .ref rb, .int la, .int ca])), (rt, .inl (cB, 4096, .inl ft))]) [0, 1] (by decide) rfl
                have hK9 := hK.sub (tys' := [(cB, .byte)]) [0] rfl
                rw [show Value.long 0 = Value.long (ps_l 0 (ps_v F b)) by rw [hno]; rfl] at hP9 hD9
                exact zz_zret hx hb hr hlocks d_Mo_parse_209 (by decide) hS (by first | exact Nat.le_refl _ | decide | omega | (dsimp only; omega)) (by first | exact Nat.le_refl _ | decide | omega | (dsimp only; omega)) () (by rw [hno]; rfl) hP9 hK9 hD9
          · skip
            have f_106 : i < F.length := Nat.lt_of_not_le (fun z => c_106 (nI_le z (by omega)))
            have hj1 : vp_in (nI i) 4096 := vp_in_nI (by omega) (by decide)
            have htb := hLt i f_106
            have hdr := dgN_r (F.getD i 0)
            refine lv_aload_n hx hb d_Mo_parse_109 rfl (lv_at hl 0 rfl) ?_
            refine va_get (D := (dC, dI)) (ci := 8) (v := .ref rt) (C := "TextForgeModel") (T := TX8) (N := 19) hx hb hg iwX8 hown hK hP 0 rfl rfl 2 (by decide) (hg _ kw_728) (fun _ h9 => h9) rfl d_Mo_parse_110 ?_
            refine lv_iload hx hb d_Mo_parse_113 (lv_at hl 6 rfl) ?_
            refine va_bald hx hb hK hP 1 0 rfl rfl hj1 d_Mo_parse_115 ?_
            rw [show ft (nI i).toNatClampNeg = sb_b (F.getD i 0) by rw [nI_clamp (by omega)]; exact htb.2]
            have hPc := hP.sub (ws' := []) [] rfl
            have hKc := hK.sub (tys' := []) [] rfl
            refine vp_callSi (W.runS (As := [.int (sb_b (F.getD i 0))]) (rest := []) ⟨hx, hb, hml, hown, hg⟩ (c_Mo_worth l dC dI (sb_b (F.getD i 0)) ) (va_cwS 1 hg (gi_S kw_956 kw_957 kw_9 kw_958) rfl rfl rfl (by decide +kernel) ⟨Nat.le_of_ble_eq_true rfl, Nat.le_of_ble_eq_true rfl⟩) (zz_prJS hPc hKc _) rfl rfl hl.1 rfl (lv_room (Nat.le_of_ble_eq_true rfl)) d_Mo_parse_116 ⟨Nat.le_of_ble_eq_true rfl, Nat.le_of_ble_eq_true rfl⟩) (fun r_1 hr_1 => ?_)
            rw [wo_n _ htb.1] at hr_1
            subst hr_1
            refine lv_istore (lv' := [(9, .int (nI (dgN (F.getD i 0)))), (0, .ref mo), (1, .int (nI b)), (2, .int (nI F.length)), (3, .int 0), (5, .long x), (7, .int (by_z ov)), (8, .int (nI i))]) hx hb d_Mo_parse_119 hl (by decide) rfl (fun ls hl => ?_)
            refine lv_iload hx hb d_Mo_parse_121 (lv_at hl 0 rfl) ?_
            refine lv_iload_n hx hb d_Mo_parse_123 rfl (lv_at hl 2 rfl) ?_
            refine lv_icmp_lt (tgt := 129) hx hb d_Mo_parse_124 (by decide) (fun c_124 => ?_) (fun c_124 => ?_)
            · skip
              have f_124 : dgN (F.getD i 0) < b := (nI_ltI (by omega) (by omega)).mp c_124
              refine lv_lload hx hb d_Mo_parse_129 (lv_at hl 5 rfl) ?_
              refine lv_iload_n hx hb d_Mo_parse_131 rfl (lv_at hl 2 rfl) ?_
              refine lv_i2l hx hb d_Mo_parse_132 rfl ?_
              refine lv_lmul hx hb d_Mo_parse_133 ?_
              refine lv_iload hx hb d_Mo_parse_134 (lv_at hl 0 rfl) ?_
              refine lv_i2l hx hb d_Mo_parse_136 rfl ?_
              refine lv_lsub hx hb d_Mo_parse_137 ?_
              refine lv_topl (fun w0 ew0 => ?_)
              refine lv_lstore (lv' := [(10, .long w0), (9, .int (nI (dgN (F.getD i 0)))), (0, .ref mo), (1, .int (nI b)), (2, .int (nI F.length)), (3, .int 0), (5, .long x), (7, .int (by_z ov)), (8, .int (nI i))]) hx hb d_Mo_parse_138 hl (by decide) rfl (fun ls hl => ?_)
              refine lv_iload hx hb d_Mo_parse_140 (lv_at hl 7 rfl) ?_
              refine lv_if_ne (tgt := 173) hx hb d_Mo_parse_142 (by decide) (fun c_142 => ?_) (fun c_142 => ?_)
              · skip
                have hov : ov = true := by_z_t rfl c_142
                refine lv_iconst (v := 1) hx hb d_Mo_parse_173 (by decide) ?_
                refine lv_goto (tgt := 178) hx hb d_Mo_parse_174 (by decide) ?_
                refine lv_istore (lv' := [(7, .int 1), (10, .long w0), (9, .int (nI (dgN (F.getD i 0)))), (0, .ref mo), (1, .int (nI b)), (2, .int (nI F.length)), (3, .int 0), (5, .long x), (8, .int (nI i))]) hx hb d_Mo_parse_178 hl (by decide) rfl (fun ls hl => ?_)
                refine lv_lload hx hb d_Mo_parse_180 (lv_at hl 1 rfl) ?_
                refine lv_lstore (lv' := [(5, .long w0), (7, .int 1), (10, .long w0), (9, .int (nI (dgN (F.getD i 0)))), (0, .ref mo), (1, .int (nI b)), (2, .int (nI F.length)), (3, .int 0), (8, .int (nI i))]) hx hb d_Mo_parse_182 hl (by decide) rfl (fun ls hl => ?_)
                refine lv_iinc (v := (nI i) + 1) (lv' := [(8, .int ((nI i) + 1)), (5, .long w0), (7, .int 1), (10, .long w0), (9, .int (nI (dgN (F.getD i 0)))), (0, .ref mo), (1, .int (nI b)), (2, .int (nI F.length)), (3, .int 0)]) hx hb d_Mo_parse_184 hl (k := 8) rfl rfl (by decide) rfl (fun ls hl => ?_)
                refine lv_goto (tgt := 103) hx hb d_Mo_parse_187 (by decide) ?_
                rw [nI_1] at hl
                exact ih_103 (true, w0, i + 1) H locs ls ⟨hP.sub [0, 1] rfl, hD.sub [0, 1] (by decide) rfl, hS, lv_sub hl [5, 6, 7, 8, 1, 2, 0] rfl, (ps_J2 (by rw [hov] at hI; exact hI)), f_106⟩ (by dsimp only; omega)
              · skip
                have hov : ov = false := by cases ov; rfl; exact absurd c_142 (by decide)
                rw [hov] at hI
                obtain ⟨hJ1, hJ2, hJ3⟩ := hI
                refine lv_lload hx hb d_Mo_parse_145 (lv_at hl 6 rfl) ?_
                refine W.ldc2 (v := (-9223372036854775808)) hx hb hown (hg _ kw_881) rfl d_Mo_parse_147 ?_
                refine W.eq (g2 := F0 m 150 ls [.long (-9223372036854775808), .long x]) rfl ?_
                refine lv_iload_n hx hb d_Mo_parse_150 rfl (lv_at hl 3 rfl) ?_
                refine lv_i2l hx hb d_Mo_parse_151 rfl ?_
                refine lv_ldiv hx hb d_Mo_parse_152 (lz_ne hb2 hb36) ?_
                have hdv : (-9223372036854775808 / (nI b).toInt64 : Int64).toInt = psM.tdiv b := lz_div (by decide) (lz_b (by omega)) (by omega) (by decide) (by decide)
                refine W.lcmp hx hb d_Mo_parse_153 ?_
                refine lv_if_lt (tgt := 173) hx hb d_Mo_parse_154 (by decide) (fun c_154 => ?_) (fun c_154 => ?_)
                · skip
                  have f_154 : x.toInt < psM.tdiv b := li_lt hdv c_154
                  have hlo := ps_lo hb2 (by decide) f_154
                  refine lv_iconst (v := 1) hx hb d_Mo_parse_173 (by decide) ?_
                  refine lv_goto (tgt := 178) hx hb d_Mo_parse_174 (by decide) ?_
                  refine lv_istore (lv' := [(7, .int 1), (10, .long w0), (9, .int (nI (dgN (F.getD i 0)))), (0, .ref mo), (1, .int (nI b)), (2, .int (nI F.length)), (3, .int 0), (5, .long x), (8, .int (nI i))]) hx hb d_Mo_parse_178 hl (by decide) rfl (fun ls hl => ?_)
                  refine lv_lload hx hb d_Mo_parse_180 (lv_at hl 1 rfl) ?_
                  refine lv_lstore (lv' := [(5, .long w0), (7, .int 1), (10, .long w0), (9, .int (nI (dgN (F.getD i 0)))), (0, .ref mo), (1, .int (nI b)), (2, .int (nI F.length)), (3, .int 0), (8, .int (nI i))]) hx hb d_Mo_parse_182 hl (by decide) rfl (fun ls hl => ?_)
                  refine lv_iinc (v := (nI i) + 1) (lv' := [(8, .int ((nI i) + 1)), (5, .long w0), (7, .int 1), (10, .long w0), (9, .int (nI (dgN (F.getD i 0)))), (0, .ref mo), (1, .int (nI b)), (2, .int (nI F.length)), (3, .int 0)]) hx hb d_Mo_parse_184 hl (k := 8) rfl rfl (by decide) rfl (fun ls hl => ?_)
                  refine lv_goto (tgt := 103) hx hb d_Mo_parse_187 (by decide) ?_
                  rw [nI_1] at hl
                  exact ih_103 (true, w0, i + 1) H locs ls ⟨hP.sub [0, 1] rfl, hD.sub [0, 1] (by decide) rfl, hS, lv_sub hl [5, 6, 7, 8, 1, 2, 0] rfl, (ps_J3 f_106 hJ1 (fun z => by have := z.2; omega)), f_106⟩ (by dsimp only; omega)
                · skip
                  have f_154 : psM.tdiv b ≤ x.toInt := li_nlt hdv c_154
                  have hmb := ps_hi hb2 (by decide) f_154
                  have hmc : x.toInt * b ≤ 0 := Int.mul_nonpos_of_nonpos_of_nonneg hJ3 (by omega)
                  have hxb : (x * (nI b).toInt64).toInt = x.toInt * b := lz_mul rfl (lz_b (by omega)) hmb (by omega)
                  have hpm : psM = -9223372036854775808 := rfl
                  refine lv_lload hx hb d_Mo_parse_157 (lv_at hl 6 rfl) ?_
                  refine lv_iload_n hx hb d_Mo_parse_159 rfl (lv_at hl 3 rfl) ?_
                  refine lv_i2l hx hb d_Mo_parse_160 rfl ?_
                  refine lv_lmul hx hb d_Mo_parse_161 ?_
                  refine W.ldc2 (v := (-9223372036854775808)) hx hb hown (hg _ kw_881) rfl d_Mo_parse_162 ?_
                  refine W.eq (g2 := F0 m 165 ls [.long (-9223372036854775808), .long (x * ((nI b).toInt64))]) rfl ?_
                  refine lv_iload hx hb d_Mo_parse_165 (lv_at hl 1 rfl) ?_
                  refine lv_i2l hx hb d_Mo_parse_167 rfl ?_
                  refine lv_ladd hx hb d_Mo_parse_168 ?_
                  refine W.lcmp hx hb d_Mo_parse_169 ?_
                  refine lv_if_ge (tgt := 177) hx hb d_Mo_parse_170 (by decide) (fun c_170 => ?_) (fun c_170 => ?_)
                  · skip
                    have f_170 : psM ≤ x.toInt * b - dgN (F.getD i 0) := by rw [lg_cmp_ge, Int64.le_iff_toInt_le, lz_add (x := -9223372036854775808) (v := -9223372036854775808) (by decide) (lz_b (b := dgN (F.getD i 0)) (by omega)) (by omega) (by omega), hxb] at c_170; omega
                    have hw0 : w0.toInt = x.toInt * b - dgN (F.getD i 0) := by rw [ew0]; exact lz_sub hxb (lz_b (by omega)) (by omega) (by omega)
                    refine lv_iconst (v := 0) hx hb d_Mo_parse_177 (by decide) ?_
                    refine lv_istore (lv' := [(7, .int 0), (10, .long w0), (9, .int (nI (dgN (F.getD i 0)))), (0, .ref mo), (1, .int (nI b)), (2, .int (nI F.length)), (3, .int 0), (5, .long x), (8, .int (nI i))]) hx hb d_Mo_parse_178 hl (by decide) rfl (fun ls hl => ?_)
                    refine lv_lload hx hb d_Mo_parse_180 (lv_at hl 1 rfl) ?_
                    refine lv_lstore (lv' := [(5, .long w0), (7, .int 0), (10, .long w0), (9, .int (nI (dgN (F.getD i 0)))), (0, .ref mo), (1, .int (nI b)), (2, .int (nI F.length)), (3, .int 0), (8, .int (nI i))]) hx hb d_Mo_parse_182 hl (by decide) rfl (fun ls hl => ?_)
                    refine lv_iinc (v := (nI i) + 1) (lv' := [(8, .int ((nI i) + 1)), (5, .long w0), (7, .int 0), (10, .long w0), (9, .int (nI (dgN (F.getD i 0)))), (0, .ref mo), (1, .int (nI b)), (2, .int (nI F.length)), (3, .int 0)]) hx hb d_Mo_parse_184 hl (k := 8) rfl rfl (by decide) rfl (fun ls hl => ?_)
                    refine lv_goto (tgt := 103) hx hb d_Mo_parse_187 (by decide) ?_
                    rw [nI_1] at hl
                    exact ih_103 (false, w0, i + 1) H locs ls ⟨hP.sub [0, 1] rfl, hD.sub [0, 1] (by decide) rfl, hS, lv_sub hl [5, 6, 7, 8, 1, 2, 0] rfl, (ps_J4 f_106 hJ1 f_124 f_170 hw0 (by omega)), f_106⟩ (by dsimp only; omega)
                  · skip
                    have f_170 : ¬ psM ≤ x.toInt * b - dgN (F.getD i 0) := by rw [lg_cmp_ge, Int64.le_iff_toInt_le, lz_add (x := -9223372036854775808) (v := -9223372036854775808) (by decide) (lz_b (b := dgN (F.getD i 0)) (by omega)) (by omega) (by omega), hxb] at c_170; omega
                    refine lv_iconst (v := 1) hx hb d_Mo_parse_173 (by decide) ?_
                    refine lv_goto (tgt := 178) hx hb d_Mo_parse_174 (by decide) ?_
                    refine lv_istore (lv' := [(7, .int 1), (10, .long w0), (9, .int (nI (dgN (F.getD i 0)))), (0, .ref mo), (1, .int (nI b)), (2, .int (nI F.length)), (3, .int 0), (5, .long x), (8, .int (nI i))]) hx hb d_Mo_parse_178 hl (by decide) rfl (fun ls hl => ?_)
                    refine lv_lload hx hb d_Mo_parse_180 (lv_at hl 1 rfl) ?_
                    refine lv_lstore (lv' := [(5, .long w0), (7, .int 1), (10, .long w0), (9, .int (nI (dgN (F.getD i 0)))), (0, .ref mo), (1, .int (nI b)), (2, .int (nI F.length)), (3, .int 0), (8, .int (nI i))]) hx hb d_Mo_parse_182 hl (by decide) rfl (fun ls hl => ?_)
                    refine lv_iinc (v := (nI i) + 1) (lv' := [(8, .int ((nI i) + 1)), (5, .long w0), (7, .int 1), (10, .long w0), (9, .int (nI (dgN (F.getD i 0)))), (0, .ref mo), (1, .int (nI b)), (2, .int (nI F.length)), (3, .int 0)]) hx hb d_Mo_parse_184 hl (k := 8) rfl rfl (by decide) rfl (fun ls hl => ?_)
                    refine lv_goto (tgt := 103) hx hb d_Mo_parse_187 (by decide) ?_
                    rw [nI_1] at hl
                    exact ih_103 (true, w0, i + 1) H locs ls ⟨hP.sub [0, 1] rfl, hD.sub [0, 1] (by decide) rfl, hS, lv_sub hl [5, 6, 7, 8, 1, 2, 0] rfl, (ps_J3 f_106 hJ1 (fun z => f_170 z.2)), f_106⟩ (by dsimp only; omega)
            · skip
              have f_124 : b ≤ dgN (F.getD i 0) := Nat.le_of_not_lt (fun z => c_124 (nI_lt z (by omega)))
              have hno : ps_v F b = none := ps_J1 hb2 f_88 hI f_106 (by omega)
              refine lv_iconst (v := 0) hx hb d_Mo_parse_127 (by decide) ?_
              have hP9 := hP.sub (ws' := [(mo, .inr (8, [.int 0, .int 0, .ref rt, .int mn, .ref rk, .ref rv, .ref rw, .ref ro, .int md, .ref rr, .int pt, .ref ra, .long 0, .int kc, .ref rc, .ref rl, .ref rb, .int la, .int ca])), (rt, .inl (cB, 4096, .inl ft))]) [0, 1] rfl
              have hD9 := hD.sub (ws' := [(mo, .inr (8, [.int 0, .int 0, .ref rt, .int mn, .ref rk, .ref rv, .ref rw, .ref ro, .int md, .ref rr, .int pt, .ref ra, .long 0, .int kc, .ref rc, .ref rl, .ref rb, .int la, .int ca])), (rt, .inl (cB, 4096, .inl ft))]) [0, 1] (by decide) rfl
              have hK9 := hK.sub (tys' := [(cB, .byte)]) [0] rfl
              rw [show Value.long 0 = Value.long (ps_l 0 (ps_v F b)) by rw [hno]; rfl] at hP9 hD9
              exact zz_zret hx hb hr hlocks d_Mo_parse_128 (by decide) hS (by first | exact Nat.le_refl _ | decide | omega | (dsimp only; omega)) (by first | exact Nat.le_refl _ | decide | omega | (dsimp only; omega)) () (by rw [hno]; rfl) hP9 hK9 hD9
        · skip
          have f_88 : F.length ≤ ps_k F := by rw [hk]; have : 0 = F.length := nI_e1 (a := 0) c_88 (by decide) (by omega); omega
          have hno : ps_v F b = none := ps_0 f_88
          refine lv_iconst (v := 0) hx hb d_Mo_parse_91 (by decide) ?_
          have hP9 := hP.sub (ws' := [(mo, .inr (8, [.int 0, .int 0, .ref rt, .int mn, .ref rk, .ref rv, .ref rw, .ref ro, .int md, .ref rr, .int pt, .ref ra, .long 0, .int kc, .ref rc, .ref rl, .ref rb, .int la, .int ca])), (rt, .inl (cB, 4096, .inl ft))]) [0, 1] rfl
          have hD9 := hD.sub (ws' := [(mo, .inr (8, [.int 0, .int 0, .ref rt, .int mn, .ref rk, .ref rv, .ref rw, .ref ro, .int md, .ref rr, .int pt, .ref ra, .long 0, .int kc, .ref rc, .ref rl, .ref rb, .int la, .int ca])), (rt, .inl (cB, 4096, .inl ft))]) [0, 1] (by decide) rfl
          have hK9 := hK.sub (tys' := [(cB, .byte)]) [0] rfl
          rw [show Value.long 0 = Value.long (ps_l 0 (ps_v F b)) by rw [hno]; rfl] at hP9 hD9
          exact zz_zret hx hb hr hlocks d_Mo_parse_92 (by decide) hS (by first | exact Nat.le_refl _ | decide | omega | (dsimp only; omega)) (by first | exact Nat.le_refl _ | decide | omega | (dsimp only; omega)) () (by rw [hno]; rfl) hP9 hK9 hD9
      · skip
        have hg3 : F.getD 0 0 = 43 := (sb_e ht0.1 (k := 43) (by decide)).mp c_75
        have hk : ps_k F = 1 := if_pos (Or.inl hg3)
        refine lv_iconst (v := 1) hx hb d_Mo_parse_78 (by decide) ?_
        refine lv_goto (tgt := 83) hx hb d_Mo_parse_79 (by decide) ?_
        refine lv_istore (lv' := [(4, .int 1), (3, .int 0), (2, .int (nI F.length)), (0, .ref mo), (1, .int (nI b))]) hx hb d_Mo_parse_83 hl (by decide) rfl (fun ls hl => ?_)
        refine lv_iload hx hb d_Mo_parse_85 (lv_at hl 0 rfl) ?_
        refine lv_iload_n hx hb d_Mo_parse_87 rfl (lv_at hl 2 rfl) ?_
        refine lv_icmp_ne (tgt := 93) hx hb d_Mo_parse_88 (by decide) (fun c_88 => ?_) (fun c_88 => ?_)
        · skip
          have f_88 : ps_k F < F.length := by rw [hk]; have : 1 ≠ F.length := nI_ne (a := 1) c_88; omega
          refine lv_lconst (v := 0) hx hb d_Mo_parse_93 (by decide) ?_
          refine lv_lstore (lv' := [(5, .long 0), (4, .int 1), (3, .int 0), (2, .int (nI F.length)), (0, .ref mo), (1, .int (nI b))]) hx hb d_Mo_parse_94 hl (by decide) rfl (fun ls hl => ?_)
          refine lv_iconst (v := 0) hx hb d_Mo_parse_96 (by decide) ?_
          refine lv_istore (lv' := [(7, .int 0), (5, .long 0), (4, .int 1), (3, .int 0), (2, .int (nI F.length)), (0, .ref mo), (1, .int (nI b))]) hx hb d_Mo_parse_97 hl (by decide) rfl (fun ls hl => ?_)
          refine lv_iload hx hb d_Mo_parse_99 (lv_at hl 2 rfl) ?_
          refine lv_istore (lv' := [(8, .int 1), (7, .int 0), (5, .long 0), (4, .int 1), (3, .int 0), (2, .int (nI F.length)), (0, .ref mo), (1, .int (nI b))]) hx hb d_Mo_parse_101 hl (by decide) rfl (fun ls hl => ?_)
          refine zz_loop (fun (x : Bool × Int64 × Nat) H locs ls => match x with | (ov, x, i) => va_P (dC, dI) vwCl [(mo, .inr (8, [.int 0, .int 0, .ref rt, .int mn, .ref rk, .ref rv, .ref rw, .ref ro, .int md, .ref rr, .int pt, .ref ra, .long 0, .int kc, .ref rc, .ref rl, .ref rb, .int la, .int ca])), (rt, .inl (cB, 4096, .inl ft))] H ∧ va_D A [(mo, .inr (8, [.int 0, .int 0, .ref rt, .int mn, .ref rk, .ref rv, .ref rw, .ref ro, .int md, .ref rr, .int pt, .ref ra, .long 0, .int kc, .ref rc, .ref rl, .ref rb, .int la, .int ca])), (rt, .inl (cB, 4096, .inl ft))] ∧ va_S A s.heap H locs ∧ lv_has ls 12 [(0, .ref mo), (1, .int (nI b)), (2, .int (nI F.length)), (3, .int 0), (5, .long x), (7, .int (by_z ov)), (8, .int (nI i))] ∧ ps_J F b ov i x ∧ i ≤ F.length) (fun x => match x with | (ov, x, i) => F.length - i) ?_ (false, (0 : Int64), 1) ⟨hP.sub [0, 1] rfl, hD.sub [0, 1] (by decide) rfl, hS, lv_sub hl [6, 7, 5, 4, 2, 1, 0] rfl, (by rw [← hk]; exact ps_J0), (by rw [hk] at f_88; omega)⟩
          intro x H locs ls hI ih_103
          obtain ⟨ov, x, i⟩ := x
          try dsimp only at hI
          obtain ⟨hP, hD, hS, hl, hI, hil⟩ := hI
          refine lv_iload hx hb d_Mo_parse_103 (lv_at hl 6 rfl) ?_
          refine lv_iload_n hx hb d_Mo_parse_105 rfl (lv_at hl 2 rfl) ?_
          refine lv_icmp_ge (tgt := 190) hx hb d_Mo_parse_106 (by decide) (fun c_106 => ?_) (fun c_106 => ?_)
          · skip
            have f_106 : F.length ≤ i := (nI_leI (by omega) (by omega)).mp c_106
            refine lv_iload hx hb d_Mo_parse_190 (lv_at hl 5 rfl) ?_
            refine lv_if_ne (tgt := 208) hx hb d_Mo_parse_192 (by decide) (fun c_192 => ?_) (fun c_192 => ?_)
            · skip
              have hov : ov = true := by_z_t rfl c_192
              have hno : ps_v F b = none := ps_nn hb2 f_88 (by rw [hov] at hI; exact hI)
              refine lv_iconst (v := 0) hx hb d_Mo_parse_208 (by decide) ?_
              have hP9 := hP.sub (ws' := [(mo, .inr (8, [.int 0, .int 0, .ref rt, .int mn, .ref rk, .ref rv, .ref rw, .ref ro, .int md, .ref rr, .int pt, .ref ra, .long 0, .int kc, .ref rc, .ref rl, .ref rb, .int la, .int ca])), (rt, .inl (cB, 4096, .inl ft))]) [0, 1] rfl
              have hD9 := hD.sub (ws' := [(mo, .inr (8, [.int 0, .int 0, .ref rt, .int mn, .ref rk, .ref rv, .ref rw, .ref ro, .int md, .ref rr, .int pt, .ref ra, .long 0, .int kc, .ref rc, .ref rl, .ref rb, .int la, .int ca])), (rt, .inl (cB, 4096, .inl ft))]) [0, 1] (by decide) rfl
              have hK9 := hK.sub (tys' := [(cB, .byte)]) [0] rfl
              rw [show Value.long 0 = Value.long (ps_l 0 (ps_v F b)) by rw [hno]; rfl] at hP9 hD9
              exact zz_zret hx hb hr hlocks d_Mo_parse_209 (by decide) hS (by first | exact Nat.le_refl _ | decide | omega | (dsimp only; omega)) (by first | exact Nat.le_refl _ | decide | omega | (dsimp only; omega)) () (by rw [hno]; rfl) hP9 hK9 hD9
            · skip
              have hov : ov = false := by cases ov; rfl; exact absurd c_192 (by decide)
              rw [hov] at hI
              obtain ⟨hJ1, hJ2, hJ3⟩ := hI
              rw [ps_end f_106] at hJ1
              refine lv_iload_n hx hb d_Mo_parse_195 rfl (lv_at hl 3 rfl) ?_
              refine lv_if_ne (tgt := 210) hx hb d_Mo_parse_196 (by decide) (fun c9 => by first | exact absurd c9 rfl | exact absurd rfl c9) (fun _ => ?_)
              refine lv_lload hx hb d_Mo_parse_199 (lv_at hl 4 rfl) ?_
              refine W.ldc2 (v := (-9223372036854775808)) hx hb hown (hg _ kw_881) rfl d_Mo_parse_201 ?_
              refine W.eq (g2 := F0 m 204 ls [.long (-9223372036854775808), .long x]) rfl ?_
              refine W.lcmp hx hb d_Mo_parse_204 ?_
              refine lv_if_ne (tgt := 210) hx hb d_Mo_parse_205 (by decide) (fun c_205 => ?_) (fun c_205 => ?_)
              · skip
                have f_205 : ¬ x.toInt = psM := fun z => c_205 ((lg_cmp_eq _ _).mpr (Int64.toInt_inj.mp (z.trans (by decide))))
                refine lv_aload_n hx hb d_Mo_parse_210 rfl (lv_at hl 0 rfl) ?_
                refine lv_iload_n hx hb d_Mo_parse_211 rfl (lv_at hl 3 rfl) ?_
                refine lv_if_eq (tgt := 220) hx hb d_Mo_parse_212 (by decide) (fun _ => ?_) (fun c9 => by first | exact absurd c9 rfl | exact absurd rfl c9)
                refine lv_lload hx hb d_Mo_parse_220 (lv_at hl 4 rfl) ?_
                refine lv_lneg hx hb d_Mo_parse_222 ?_
                refine lv_topl (fun y0 ey0 => ?_)
                have hso : ps_v F b = some y0.toInt := by rw [ps_pos hb2 f_88 hn, hJ1, ey0, lz_neg rfl (by unfold psM at hJ2 f_205; omega) (by omega)]; exact if_neg f_205
                refine va_put (D := (dC, dI)) (ci := 8) (v := .long y0) (ty := .long) (C := "TextForgeModel") (T := TX8) (N := 19) hx hb hg iwX8 tyX8 tyX8_ok nmX8 hown hK hP hD hS 0 rfl rfl 12 (by decide) (hg _ kw_738) (fun _ h9 => h9) rfl (by decide +kernel) rfl rfl (Nat.le_of_ble_eq_true rfl) d_Mo_parse_223 (fun H locs hP hD hS => ?_)
                have hP : va_P (dC, dI) vwCl [(mo, .inr (8, [.int 0, .int 0, .ref rt, .int mn, .ref rk, .ref rv, .ref rw, .ref ro, .int md, .ref rr, .int pt, .ref ra, .long y0, .int kc, .ref rc, .ref rl, .ref rb, .int la, .int ca])), (rt, .inl (cB, 4096, .inl ft))] H := hP
                have hD : va_D A [(mo, .inr (8, [.int 0, .int 0, .ref rt, .int mn, .ref rk, .ref rv, .ref rw, .ref ro, .int md, .ref rr, .int pt, .ref ra, .long y0, .int kc, .ref rc, .ref rl, .ref rb, .int la, .int ca])), (rt, .inl (cB, 4096, .inl ft))] := hD
                refine lv_iconst (v := 1) hx hb d_Mo_parse_226 (by decide) ?_
                have hP9 := hP.sub (ws' := [(mo, .inr (8, [.int 0, .int 0, .ref rt, .int mn, .ref rk, .ref rv, .ref rw, .ref ro, .int md, .ref rr, .int pt, .ref ra, .long y0, .int kc, .ref rc, .ref rl, .ref rb, .int la, .int ca])), (rt, .inl (cB, 4096, .inl ft))]) [0, 1] rfl
                have hD9 := hD.sub (ws' := [(mo, .inr (8, [.int 0, .int 0, .ref rt, .int mn, .ref rk, .ref rv, .ref rw, .ref ro, .int md, .ref rr, .int pt, .ref ra, .long y0, .int kc, .ref rc, .ref rl, .ref rb, .int la, .int ca])), (rt, .inl (cB, 4096, .inl ft))]) [0, 1] (by decide) rfl
                have hK9 := hK.sub (tys' := [(cB, .byte)]) [0] rfl
                rw [show Value.long y0 = Value.long (ps_l 0 (ps_v F b)) by rw [hso, ps_l, ← lz_of rfl]] at hP9 hD9
                exact zz_zret hx hb hr hlocks d_Mo_parse_227 (by decide) hS (by first | exact Nat.le_refl _ | decide | omega | (dsimp only; omega)) (by first | exact Nat.le_refl _ | decide | omega | (dsimp only; omega)) () (by rw [hso]; rfl) hP9 hK9 hD9
              · skip
                have f_205 : x = -9223372036854775808 := (lg_cmp_eq _ _).mp c_205
                have hno : ps_v F b = none := by rw [ps_pos hb2 f_88 hn, hJ1, f_205]; rfl
                refine lv_iconst (v := 0) hx hb d_Mo_parse_208 (by decide) ?_
                have hP9 := hP.sub (ws' := [(mo, .inr (8, [.int 0, .int 0, .ref rt, .int mn, .ref rk, .ref rv, .ref rw, .ref ro, .int md, .ref rr, .int pt, .ref ra, .long 0, .int kc, .ref rc, .ref rl, .ref rb, .int la, .int ca])), (rt, .inl (cB, 4096, .inl ft))]) [0, 1] rfl
                have hD9 := hD.sub (ws' := [(mo, .inr (8, [.int 0, .int 0, .ref rt, .int mn, .ref rk, .ref rv, .ref rw, .ref ro, .int md, .ref rr, .int pt, .ref ra, .long 0, .int kc, .ref rc, .ref rl, .ref rb, .int la, .int ca])), (rt, .inl (cB, 4096, .inl ft))]) [0, 1] (by decide) rfl
                have hK9 := hK.sub (tys' := [(cB, .byte)]) [0] rfl
                rw [show Value.long 0 = Value.long (ps_l 0 (ps_v F b)) by rw [hno]; rfl] at hP9 hD9
                exact zz_zret hx hb hr hlocks d_Mo_parse_209 (by decide) hS (by first | exact Nat.le_refl _ | decide | omega | (dsimp only; omega)) (by first | exact Nat.le_refl _ | decide | omega | (dsimp only; omega)) () (by rw [hno]; rfl) hP9 hK9 hD9
          · skip
            have f_106 : i < F.length := Nat.lt_of_not_le (fun z => c_106 (nI_le z (by omega)))
            have hj1 : vp_in (nI i) 4096 := vp_in_nI (by omega) (by decide)
            have htb := hLt i f_106
            have hdr := dgN_r (F.getD i 0)
            refine lv_aload_n hx hb d_Mo_parse_109 rfl (lv_at hl 0 rfl) ?_
            refine va_get (D := (dC, dI)) (ci := 8) (v := .ref rt) (C := "TextForgeModel") (T := TX8) (N := 19) hx hb hg iwX8 hown hK hP 0 rfl rfl 2 (by decide) (hg _ kw_728) (fun _ h9 => h9) rfl d_Mo_parse_110 ?_
            refine lv_iload hx hb d_Mo_parse_113 (lv_at hl 6 rfl) ?_
            refine va_bald hx hb hK hP 1 0 rfl rfl hj1 d_Mo_parse_115 ?_
            rw [show ft (nI i).toNatClampNeg = sb_b (F.getD i 0) by rw [nI_clamp (by omega)]; exact htb.2]
            have hPc := hP.sub (ws' := []) [] rfl
            have hKc := hK.sub (tys' := []) [] rfl
            refine vp_callSi (W.runS (As := [.int (sb_b (F.getD i 0))]) (rest := []) ⟨hx, hb, hml, hown, hg⟩ (c_Mo_worth l dC dI (sb_b (F.getD i 0)) ) (va_cwS 1 hg (gi_S kw_956 kw_957 kw_9 kw_958) rfl rfl rfl (by decide +kernel) ⟨Nat.le_of_ble_eq_true rfl, Nat.le_of_ble_eq_true rfl⟩) (zz_prJS hPc hKc _) rfl rfl hl.1 rfl (lv_room (Nat.le_of_ble_eq_true rfl)) d_Mo_parse_116 ⟨Nat.le_of_ble_eq_true rfl, Nat.le_of_ble_eq_true rfl⟩) (fun r_2 hr_2 => ?_)
            rw [wo_n _ htb.1] at hr_2
            subst hr_2
            refine lv_istore (lv' := [(9, .int (nI (dgN (F.getD i 0)))), (0, .ref mo), (1, .int (nI b)), (2, .int (nI F.length)), (3, .int 0), (5, .long x), (7, .int (by_z ov)), (8, .int (nI i))]) hx hb d_Mo_parse_119 hl (by decide) rfl (fun ls hl => ?_)
            refine lv_iload hx hb d_Mo_parse_121 (lv_at hl 0 rfl) ?_
            refine lv_iload_n hx hb d_Mo_parse_123 rfl (lv_at hl 2 rfl) ?_
            refine lv_icmp_lt (tgt := 129) hx hb d_Mo_parse_124 (by decide) (fun c_124 => ?_) (fun c_124 => ?_)
            · skip
              have f_124 : dgN (F.getD i 0) < b := (nI_ltI (by omega) (by omega)).mp c_124
              refine lv_lload hx hb d_Mo_parse_129 (lv_at hl 5 rfl) ?_
              refine lv_iload_n hx hb d_Mo_parse_131 rfl (lv_at hl 2 rfl) ?_
              refine lv_i2l hx hb d_Mo_parse_132 rfl ?_
              refine lv_lmul hx hb d_Mo_parse_133 ?_
              refine lv_iload hx hb d_Mo_parse_134 (lv_at hl 0 rfl) ?_
              refine lv_i2l hx hb d_Mo_parse_136 rfl ?_
              refine lv_lsub hx hb d_Mo_parse_137 ?_
              refine lv_topl (fun w0 ew0 => ?_)
              refine lv_lstore (lv' := [(10, .long w0), (9, .int (nI (dgN (F.getD i 0)))), (0, .ref mo), (1, .int (nI b)), (2, .int (nI F.length)), (3, .int 0), (5, .long x), (7, .int (by_z ov)), (8, .int (nI i))]) hx hb d_Mo_parse_138 hl (by decide) rfl (fun ls hl => ?_)
              refine lv_iload hx hb d_Mo_parse_140 (lv_at hl 7 rfl) ?_
              refine lv_if_ne (tgt := 173) hx hb d_Mo_parse_142 (by decide) (fun c_142 => ?_) (fun c_142 => ?_)
              · skip
                have hov : ov = true := by_z_t rfl c_142
                refine lv_iconst (v := 1) hx hb d_Mo_parse_173 (by decide) ?_
                refine lv_goto (tgt := 178) hx hb d_Mo_parse_174 (by decide) ?_
                refine lv_istore (lv' := [(7, .int 1), (10, .long w0), (9, .int (nI (dgN (F.getD i 0)))), (0, .ref mo), (1, .int (nI b)), (2, .int (nI F.length)), (3, .int 0), (5, .long x), (8, .int (nI i))]) hx hb d_Mo_parse_178 hl (by decide) rfl (fun ls hl => ?_)
                refine lv_lload hx hb d_Mo_parse_180 (lv_at hl 1 rfl) ?_
                refine lv_lstore (lv' := [(5, .long w0), (7, .int 1), (10, .long w0), (9, .int (nI (dgN (F.getD i 0)))), (0, .ref mo), (1, .int (nI b)), (2, .int (nI F.length)), (3, .int 0), (8, .int (nI i))]) hx hb d_Mo_parse_182 hl (by decide) rfl (fun ls hl => ?_)
                refine lv_iinc (v := (nI i) + 1) (lv' := [(8, .int ((nI i) + 1)), (5, .long w0), (7, .int 1), (10, .long w0), (9, .int (nI (dgN (F.getD i 0)))), (0, .ref mo), (1, .int (nI b)), (2, .int (nI F.length)), (3, .int 0)]) hx hb d_Mo_parse_184 hl (k := 8) rfl rfl (by decide) rfl (fun ls hl => ?_)
                refine lv_goto (tgt := 103) hx hb d_Mo_parse_187 (by decide) ?_
                rw [nI_1] at hl
                exact ih_103 (true, w0, i + 1) H locs ls ⟨hP.sub [0, 1] rfl, hD.sub [0, 1] (by decide) rfl, hS, lv_sub hl [5, 6, 7, 8, 1, 2, 0] rfl, (ps_J2 (by rw [hov] at hI; exact hI)), f_106⟩ (by dsimp only; omega)
              · skip
                have hov : ov = false := by cases ov; rfl; exact absurd c_142 (by decide)
                rw [hov] at hI
                obtain ⟨hJ1, hJ2, hJ3⟩ := hI
                refine lv_lload hx hb d_Mo_parse_145 (lv_at hl 6 rfl) ?_
                refine W.ldc2 (v := (-9223372036854775808)) hx hb hown (hg _ kw_881) rfl d_Mo_parse_147 ?_
                refine W.eq (g2 := F0 m 150 ls [.long (-9223372036854775808), .long x]) rfl ?_
                refine lv_iload_n hx hb d_Mo_parse_150 rfl (lv_at hl 3 rfl) ?_
                refine lv_i2l hx hb d_Mo_parse_151 rfl ?_
                refine lv_ldiv hx hb d_Mo_parse_152 (lz_ne hb2 hb36) ?_
                have hdv : (-9223372036854775808 / (nI b).toInt64 : Int64).toInt = psM.tdiv b := lz_div (by decide) (lz_b (by omega)) (by omega) (by decide) (by decide)
                refine W.lcmp hx hb d_Mo_parse_153 ?_
                refine lv_if_lt (tgt := 173) hx hb d_Mo_parse_154 (by decide) (fun c_154 => ?_) (fun c_154 => ?_)
                · skip
                  have f_154 : x.toInt < psM.tdiv b := li_lt hdv c_154
                  have hlo := ps_lo hb2 (by decide) f_154
                  refine lv_iconst (v := 1) hx hb d_Mo_parse_173 (by decide) ?_
                  refine lv_goto (tgt := 178) hx hb d_Mo_parse_174 (by decide) ?_
                  refine lv_istore (lv' := [(7, .int 1), (10, .long w0), (9, .int (nI (dgN (F.getD i 0)))), (0, .ref mo), (1, .int (nI b)), (2, .int (nI F.length)), (3, .int 0), (5, .long x), (8, .int (nI i))]) hx hb d_Mo_parse_178 hl (by decide) rfl (fun ls hl => ?_)
                  refine lv_lload hx hb d_Mo_parse_180 (lv_at hl 1 rfl) ?_
                  refine lv_lstore (lv' := [(5, .long w0), (7, .int 1), (10, .long w0), (9, .int (nI (dgN (F.getD i 0)))), (0, .ref mo), (1, .int (nI b)), (2, .int (nI F.length)), (3, .int 0), (8, .int (nI i))]) hx hb d_Mo_parse_182 hl (by decide) rfl (fun ls hl => ?_)
                  refine lv_iinc (v := (nI i) + 1) (lv' := [(8, .int ((nI i) + 1)), (5, .long w0), (7, .int 1), (10, .long w0), (9, .int (nI (dgN (F.getD i 0)))), (0, .ref mo), (1, .int (nI b)), (2, .int (nI F.length)), (3, .int 0)]) hx hb d_Mo_parse_184 hl (k := 8) rfl rfl (by decide) rfl (fun ls hl => ?_)
                  refine lv_goto (tgt := 103) hx hb d_Mo_parse_187 (by decide) ?_
                  rw [nI_1] at hl
                  exact ih_103 (true, w0, i + 1) H locs ls ⟨hP.sub [0, 1] rfl, hD.sub [0, 1] (by decide) rfl, hS, lv_sub hl [5, 6, 7, 8, 1, 2, 0] rfl, (ps_J3 f_106 hJ1 (fun z => by have := z.2; omega)), f_106⟩ (by dsimp only; omega)
                · skip
                  have f_154 : psM.tdiv b ≤ x.toInt := li_nlt hdv c_154
                  have hmb := ps_hi hb2 (by decide) f_154
                  have hmc : x.toInt * b ≤ 0 := Int.mul_nonpos_of_nonpos_of_nonneg hJ3 (by omega)
                  have hxb : (x * (nI b).toInt64).toInt = x.toInt * b := lz_mul rfl (lz_b (by omega)) hmb (by omega)
                  have hpm : psM = -9223372036854775808 := rfl
                  refine lv_lload hx hb d_Mo_parse_157 (lv_at hl 6 rfl) ?_
                  refine lv_iload_n hx hb d_Mo_parse_159 rfl (lv_at hl 3 rfl) ?_
                  refine lv_i2l hx hb d_Mo_parse_160 rfl ?_
                  refine lv_lmul hx hb d_Mo_parse_161 ?_
                  refine W.ldc2 (v := (-9223372036854775808)) hx hb hown (hg _ kw_881) rfl d_Mo_parse_162 ?_
                  refine W.eq (g2 := F0 m 165 ls [.long (-9223372036854775808), .long (x * ((nI b).toInt64))]) rfl ?_
                  refine lv_iload hx hb d_Mo_parse_165 (lv_at hl 1 rfl) ?_
                  refine lv_i2l hx hb d_Mo_parse_167 rfl ?_
                  refine lv_ladd hx hb d_Mo_parse_168 ?_
                  refine W.lcmp hx hb d_Mo_parse_169 ?_
                  refine lv_if_ge (tgt := 177) hx hb d_Mo_parse_170 (by decide) (fun c_170 => ?_) (fun c_170 => ?_)
                  · skip
                    have f_170 : psM ≤ x.toInt * b - dgN (F.getD i 0) := by rw [lg_cmp_ge, Int64.le_iff_toInt_le, lz_add (x := -9223372036854775808) (v := -9223372036854775808) (by decide) (lz_b (b := dgN (F.getD i 0)) (by omega)) (by omega) (by omega), hxb] at c_170; omega
                    have hw0 : w0.toInt = x.toInt * b - dgN (F.getD i 0) := by rw [ew0]; exact lz_sub hxb (lz_b (by omega)) (by omega) (by omega)
                    refine lv_iconst (v := 0) hx hb d_Mo_parse_177 (by decide) ?_
                    refine lv_istore (lv' := [(7, .int 0), (10, .long w0), (9, .int (nI (dgN (F.getD i 0)))), (0, .ref mo), (1, .int (nI b)), (2, .int (nI F.length)), (3, .int 0), (5, .long x), (8, .int (nI i))]) hx hb d_Mo_parse_178 hl (by decide) rfl (fun ls hl => ?_)
                    refine lv_lload hx hb d_Mo_parse_180 (lv_at hl 1 rfl) ?_
                    refine lv_lstore (lv' := [(5, .long w0), (7, .int 0), (10, .long w0), (9, .int (nI (dgN (F.getD i 0)))), (0, .ref mo), (1, .int (nI b)), (2, .int (nI F.length)), (3, .int 0), (8, .int (nI i))]) hx hb d_Mo_parse_182 hl (by decide) rfl (fun ls hl => ?_)
                    refine lv_iinc (v := (nI i) + 1) (lv' := [(8, .int ((nI i) + 1)), (5, .long w0), (7, .int 0), (10, .long w0), (9, .int (nI (dgN (F.getD i 0)))), (0, .ref mo), (1, .int (nI b)), (2, .int (nI F.length)), (3, .int 0)]) hx hb d_Mo_parse_184 hl (k := 8) rfl rfl (by decide) rfl (fun ls hl => ?_)
                    refine lv_goto (tgt := 103) hx hb d_Mo_parse_187 (by decide) ?_
                    rw [nI_1] at hl
                    exact ih_103 (false, w0, i + 1) H locs ls ⟨hP.sub [0, 1] rfl, hD.sub [0, 1] (by decide) rfl, hS, lv_sub hl [5, 6, 7, 8, 1, 2, 0] rfl, (ps_J4 f_106 hJ1 f_124 f_170 hw0 (by omega)), f_106⟩ (by dsimp only; omega)
                  · skip
                    have f_170 : ¬ psM ≤ x.toInt * b - dgN (F.getD i 0) := by rw [lg_cmp_ge, Int64.le_iff_toInt_le, lz_add (x := -9223372036854775808) (v := -9223372036854775808) (by decide) (lz_b (b := dgN (F.getD i 0)) (by omega)) (by omega) (by omega), hxb] at c_170; omega
                    refine lv_iconst (v := 1) hx hb d_Mo_parse_173 (by decide) ?_
                    refine lv_goto (tgt := 178) hx hb d_Mo_parse_174 (by decide) ?_
                    refine lv_istore (lv' := [(7, .int 1), (10, .long w0), (9, .int (nI (dgN (F.getD i 0)))), (0, .ref mo), (1, .int (nI b)), (2, .int (nI F.length)), (3, .int 0), (5, .long x), (8, .int (nI i))]) hx hb d_Mo_parse_178 hl (by decide) rfl (fun ls hl => ?_)
                    refine lv_lload hx hb d_Mo_parse_180 (lv_at hl 1 rfl) ?_
                    refine lv_lstore (lv' := [(5, .long w0), (7, .int 1), (10, .long w0), (9, .int (nI (dgN (F.getD i 0)))), (0, .ref mo), (1, .int (nI b)), (2, .int (nI F.length)), (3, .int 0), (8, .int (nI i))]) hx hb d_Mo_parse_182 hl (by decide) rfl (fun ls hl => ?_)
                    refine lv_iinc (v := (nI i) + 1) (lv' := [(8, .int ((nI i) + 1)), (5, .long w0), (7, .int 1), (10, .long w0), (9, .int (nI (dgN (F.getD i 0)))), (0, .ref mo), (1, .int (nI b)), (2, .int (nI F.length)), (3, .int 0)]) hx hb d_Mo_parse_184 hl (k := 8) rfl rfl (by decide) rfl (fun ls hl => ?_)
                    refine lv_goto (tgt := 103) hx hb d_Mo_parse_187 (by decide) ?_
                    rw [nI_1] at hl
                    exact ih_103 (true, w0, i + 1) H locs ls ⟨hP.sub [0, 1] rfl, hD.sub [0, 1] (by decide) rfl, hS, lv_sub hl [5, 6, 7, 8, 1, 2, 0] rfl, (ps_J3 f_106 hJ1 (fun z => f_170 z.2)), f_106⟩ (by dsimp only; omega)
            · skip
              have f_124 : b ≤ dgN (F.getD i 0) := Nat.le_of_not_lt (fun z => c_124 (nI_lt z (by omega)))
              have hno : ps_v F b = none := ps_J1 hb2 f_88 hI f_106 (by omega)
              refine lv_iconst (v := 0) hx hb d_Mo_parse_127 (by decide) ?_
              have hP9 := hP.sub (ws' := [(mo, .inr (8, [.int 0, .int 0, .ref rt, .int mn, .ref rk, .ref rv, .ref rw, .ref ro, .int md, .ref rr, .int pt, .ref ra, .long 0, .int kc, .ref rc, .ref rl, .ref rb, .int la, .int ca])), (rt, .inl (cB, 4096, .inl ft))]) [0, 1] rfl
              have hD9 := hD.sub (ws' := [(mo, .inr (8, [.int 0, .int 0, .ref rt, .int mn, .ref rk, .ref rv, .ref rw, .ref ro, .int md, .ref rr, .int pt, .ref ra, .long 0, .int kc, .ref rc, .ref rl, .ref rb, .int la, .int ca])), (rt, .inl (cB, 4096, .inl ft))]) [0, 1] (by decide) rfl
              have hK9 := hK.sub (tys' := [(cB, .byte)]) [0] rfl
              rw [show Value.long 0 = Value.long (ps_l 0 (ps_v F b)) by rw [hno]; rfl] at hP9 hD9
              exact zz_zret hx hb hr hlocks d_Mo_parse_128 (by decide) hS (by first | exact Nat.le_refl _ | decide | omega | (dsimp only; omega)) (by first | exact Nat.le_refl _ | decide | omega | (dsimp only; omega)) () (by rw [hno]; rfl) hP9 hK9 hD9
        · skip
          have f_88 : F.length ≤ ps_k F := by rw [hk]; have : 1 = F.length := nI_e1 (a := 1) c_88 (by decide) (by omega); omega
          have hno : ps_v F b = none := ps_0 f_88
          refine lv_iconst (v := 0) hx hb d_Mo_parse_91 (by decide) ?_
          have hP9 := hP.sub (ws' := [(mo, .inr (8, [.int 0, .int 0, .ref rt, .int mn, .ref rk, .ref rv, .ref rw, .ref ro, .int md, .ref rr, .int pt, .ref ra, .long 0, .int kc, .ref rc, .ref rl, .ref rb, .int la, .int ca])), (rt, .inl (cB, 4096, .inl ft))]) [0, 1] rfl
          have hD9 := hD.sub (ws' := [(mo, .inr (8, [.int 0, .int 0, .ref rt, .int mn, .ref rk, .ref rv, .ref rw, .ref ro, .int md, .ref rr, .int pt, .ref ra, .long 0, .int kc, .ref rc, .ref rl, .ref rb, .int la, .int ca])), (rt, .inl (cB, 4096, .inl ft))]) [0, 1] (by decide) rfl
          have hK9 := hK.sub (tys' := [(cB, .byte)]) [0] rfl
          rw [show Value.long 0 = Value.long (ps_l 0 (ps_v F b)) by rw [hno]; rfl] at hP9 hD9
          exact zz_zret hx hb hr hlocks d_Mo_parse_92 (by decide) hS (by first | exact Nat.le_refl _ | decide | omega | (dsimp only; omega)) (by first | exact Nat.le_refl _ | decide | omega | (dsimp only; omega)) () (by rw [hno]; rfl) hP9 hK9 hD9
    · skip
      have hg0 : F.getD 0 0 = 45 := (sb_e ht0.1 (k := 45) (by decide)).mp c_50
      have hn : ps_n F = true := decide_eq_true hg0
      have hk : ps_k F = 1 := if_pos (Or.inr hg0)
      refine lv_iconst (v := 1) hx hb d_Mo_parse_53 (by decide) ?_
      refine lv_goto (tgt := 58) hx hb d_Mo_parse_54 (by decide) ?_
      refine lv_istore_n (lv' := [(3, .int 1), (2, .int (nI F.length)), (0, .ref mo), (1, .int (nI b))]) hx hb d_Mo_parse_58 rfl hl (by decide) rfl (fun ls hl => ?_)
      refine lv_iload_n hx hb d_Mo_parse_59 rfl (lv_at hl 0 rfl) ?_
      refine lv_if_ne (tgt := 78) hx hb d_Mo_parse_60 (by decide) (fun _ => ?_) (fun c9 => by first | exact absurd c9 (by decide) | exact absurd (by decide) c9)
      refine lv_iconst (v := 1) hx hb d_Mo_parse_78 (by decide) ?_
      refine lv_goto (tgt := 83) hx hb d_Mo_parse_79 (by decide) ?_
      refine lv_istore (lv' := [(4, .int 1), (3, .int 1), (2, .int (nI F.length)), (0, .ref mo), (1, .int (nI b))]) hx hb d_Mo_parse_83 hl (by decide) rfl (fun ls hl => ?_)
      refine lv_iload hx hb d_Mo_parse_85 (lv_at hl 0 rfl) ?_
      refine lv_iload_n hx hb d_Mo_parse_87 rfl (lv_at hl 2 rfl) ?_
      refine lv_icmp_ne (tgt := 93) hx hb d_Mo_parse_88 (by decide) (fun c_88 => ?_) (fun c_88 => ?_)
      · skip
        have f_88 : ps_k F < F.length := by rw [hk]; have : 1 ≠ F.length := nI_ne (a := 1) c_88; omega
        refine lv_lconst (v := 0) hx hb d_Mo_parse_93 (by decide) ?_
        refine lv_lstore (lv' := [(5, .long 0), (4, .int 1), (3, .int 1), (2, .int (nI F.length)), (0, .ref mo), (1, .int (nI b))]) hx hb d_Mo_parse_94 hl (by decide) rfl (fun ls hl => ?_)
        refine lv_iconst (v := 0) hx hb d_Mo_parse_96 (by decide) ?_
        refine lv_istore (lv' := [(7, .int 0), (5, .long 0), (4, .int 1), (3, .int 1), (2, .int (nI F.length)), (0, .ref mo), (1, .int (nI b))]) hx hb d_Mo_parse_97 hl (by decide) rfl (fun ls hl => ?_)
        refine lv_iload hx hb d_Mo_parse_99 (lv_at hl 2 rfl) ?_
        refine lv_istore (lv' := [(8, .int 1), (7, .int 0), (5, .long 0), (4, .int 1), (3, .int 1), (2, .int (nI F.length)), (0, .ref mo), (1, .int (nI b))]) hx hb d_Mo_parse_101 hl (by decide) rfl (fun ls hl => ?_)
        refine zz_loop (fun (x : Bool × Int64 × Nat) H locs ls => match x with | (ov, x, i) => va_P (dC, dI) vwCl [(mo, .inr (8, [.int 0, .int 0, .ref rt, .int mn, .ref rk, .ref rv, .ref rw, .ref ro, .int md, .ref rr, .int pt, .ref ra, .long 0, .int kc, .ref rc, .ref rl, .ref rb, .int la, .int ca])), (rt, .inl (cB, 4096, .inl ft))] H ∧ va_D A [(mo, .inr (8, [.int 0, .int 0, .ref rt, .int mn, .ref rk, .ref rv, .ref rw, .ref ro, .int md, .ref rr, .int pt, .ref ra, .long 0, .int kc, .ref rc, .ref rl, .ref rb, .int la, .int ca])), (rt, .inl (cB, 4096, .inl ft))] ∧ va_S A s.heap H locs ∧ lv_has ls 12 [(0, .ref mo), (1, .int (nI b)), (2, .int (nI F.length)), (3, .int 1), (5, .long x), (7, .int (by_z ov)), (8, .int (nI i))] ∧ ps_J F b ov i x ∧ i ≤ F.length) (fun x => match x with | (ov, x, i) => F.length - i) ?_ (false, (0 : Int64), 1) ⟨hP.sub [0, 1] rfl, hD.sub [0, 1] (by decide) rfl, hS, lv_sub hl [6, 7, 5, 4, 2, 1, 0] rfl, (by rw [← hk]; exact ps_J0), (by rw [hk] at f_88; omega)⟩
        intro x H locs ls hI ih_103
        obtain ⟨ov, x, i⟩ := x
        try dsimp only at hI
        obtain ⟨hP, hD, hS, hl, hI, hil⟩ := hI
        refine lv_iload hx hb d_Mo_parse_103 (lv_at hl 6 rfl) ?_
        refine lv_iload_n hx hb d_Mo_parse_105 rfl (lv_at hl 2 rfl) ?_
        refine lv_icmp_ge (tgt := 190) hx hb d_Mo_parse_106 (by decide) (fun c_106 => ?_) (fun c_106 => ?_)
        · skip
          have f_106 : F.length ≤ i := (nI_leI (by omega) (by omega)).mp c_106
          refine lv_iload hx hb d_Mo_parse_190 (lv_at hl 5 rfl) ?_
          refine lv_if_ne (tgt := 208) hx hb d_Mo_parse_192 (by decide) (fun c_192 => ?_) (fun c_192 => ?_)
          · skip
            have hov : ov = true := by_z_t rfl c_192
            have hno : ps_v F b = none := ps_nn hb2 f_88 (by rw [hov] at hI; exact hI)
            refine lv_iconst (v := 0) hx hb d_Mo_parse_208 (by decide) ?_
            have hP9 := hP.sub (ws' := [(mo, .inr (8, [.int 0, .int 0, .ref rt, .int mn, .ref rk, .ref rv, .ref rw, .ref ro, .int md, .ref rr, .int pt, .ref ra, .long 0, .int kc, .ref rc, .ref rl, .ref rb, .int la, .int ca])), (rt, .inl (cB, 4096, .inl ft))]) [0, 1] rfl
            have hD9 := hD.sub (ws' := [(mo, .inr (8, [.int 0, .int 0, .ref rt, .int mn, .ref rk, .ref rv, .ref rw, .ref ro, .int md, .ref rr, .int pt, .ref ra, .long 0, .int kc, .ref rc, .ref rl, .ref rb, .int la, .int ca])), (rt, .inl (cB, 4096, .inl ft))]) [0, 1] (by decide) rfl
            have hK9 := hK.sub (tys' := [(cB, .byte)]) [0] rfl
            rw [show Value.long 0 = Value.long (ps_l 0 (ps_v F b)) by rw [hno]; rfl] at hP9 hD9
            exact zz_zret hx hb hr hlocks d_Mo_parse_209 (by decide) hS (by first | exact Nat.le_refl _ | decide | omega | (dsimp only; omega)) (by first | exact Nat.le_refl _ | decide | omega | (dsimp only; omega)) () (by rw [hno]; rfl) hP9 hK9 hD9
          · skip
            have hov : ov = false := by cases ov; rfl; exact absurd c_192 (by decide)
            rw [hov] at hI
            obtain ⟨hJ1, hJ2, hJ3⟩ := hI
            rw [ps_end f_106] at hJ1
            refine lv_iload_n hx hb d_Mo_parse_195 rfl (lv_at hl 3 rfl) ?_
            refine lv_if_ne (tgt := 210) hx hb d_Mo_parse_196 (by decide) (fun _ => ?_) (fun c9 => by first | exact absurd c9 (by decide) | exact absurd (by decide) c9)
            refine lv_aload_n hx hb d_Mo_parse_210 rfl (lv_at hl 0 rfl) ?_
            refine lv_iload_n hx hb d_Mo_parse_211 rfl (lv_at hl 3 rfl) ?_
            refine lv_if_eq (tgt := 220) hx hb d_Mo_parse_212 (by decide) (fun c9 => by first | exact absurd c9 (by decide) | exact absurd (by decide) c9) (fun _ => ?_)
            refine lv_lload hx hb d_Mo_parse_215 (lv_at hl 4 rfl) ?_
            refine lv_goto (tgt := 223) hx hb d_Mo_parse_217 (by decide) ?_
            refine lv_topl (fun y0 ey0 => ?_)
            have hso : ps_v F b = some y0.toInt := by rw [ps_neg f_88 hn, hJ1, ey0]
            refine va_put (D := (dC, dI)) (ci := 8) (v := .long y0) (ty := .long) (C := "TextForgeModel") (T := TX8) (N := 19) hx hb hg iwX8 tyX8 tyX8_ok nmX8 hown hK hP hD hS 0 rfl rfl 12 (by decide) (hg _ kw_738) (fun _ h9 => h9) rfl (by decide +kernel) rfl rfl (Nat.le_of_ble_eq_true rfl) d_Mo_parse_223 (fun H locs hP hD hS => ?_)
            have hP : va_P (dC, dI) vwCl [(mo, .inr (8, [.int 0, .int 0, .ref rt, .int mn, .ref rk, .ref rv, .ref rw, .ref ro, .int md, .ref rr, .int pt, .ref ra, .long y0, .int kc, .ref rc, .ref rl, .ref rb, .int la, .int ca])), (rt, .inl (cB, 4096, .inl ft))] H := hP
            have hD : va_D A [(mo, .inr (8, [.int 0, .int 0, .ref rt, .int mn, .ref rk, .ref rv, .ref rw, .ref ro, .int md, .ref rr, .int pt, .ref ra, .long y0, .int kc, .ref rc, .ref rl, .ref rb, .int la, .int ca])), (rt, .inl (cB, 4096, .inl ft))] := hD
            refine lv_iconst (v := 1) hx hb d_Mo_parse_226 (by decide) ?_
            have hP9 := hP.sub (ws' := [(mo, .inr (8, [.int 0, .int 0, .ref rt, .int mn, .ref rk, .ref rv, .ref rw, .ref ro, .int md, .ref rr, .int pt, .ref ra, .long y0, .int kc, .ref rc, .ref rl, .ref rb, .int la, .int ca])), (rt, .inl (cB, 4096, .inl ft))]) [0, 1] rfl
            have hD9 := hD.sub (ws' := [(mo, .inr (8, [.int 0, .int 0, .ref rt, .int mn, .ref rk, .ref rv, .ref rw, .ref ro, .int md, .ref rr, .int pt, .ref ra, .long y0, .int kc, .ref rc, .ref rl, .ref rb, .int la, .int ca])), (rt, .inl (cB, 4096, .inl ft))]) [0, 1] (by decide) rfl
            have hK9 := hK.sub (tys' := [(cB, .byte)]) [0] rfl
            rw [show Value.long y0 = Value.long (ps_l 0 (ps_v F b)) by rw [hso, ps_l, ← lz_of rfl]] at hP9 hD9
            exact zz_zret hx hb hr hlocks d_Mo_parse_227 (by decide) hS (by first | exact Nat.le_refl _ | decide | omega | (dsimp only; omega)) (by first | exact Nat.le_refl _ | decide | omega | (dsimp only; omega)) () (by rw [hso]; rfl) hP9 hK9 hD9
        · skip
          have f_106 : i < F.length := Nat.lt_of_not_le (fun z => c_106 (nI_le z (by omega)))
          have hj1 : vp_in (nI i) 4096 := vp_in_nI (by omega) (by decide)
          have htb := hLt i f_106
          have hdr := dgN_r (F.getD i 0)
          refine lv_aload_n hx hb d_Mo_parse_109 rfl (lv_at hl 0 rfl) ?_
          refine va_get (D := (dC, dI)) (ci := 8) (v := .ref rt) (C := "TextForgeModel") (T := TX8) (N := 19) hx hb hg iwX8 hown hK hP 0 rfl rfl 2 (by decide) (hg _ kw_728) (fun _ h9 => h9) rfl d_Mo_parse_110 ?_
          refine lv_iload hx hb d_Mo_parse_113 (lv_at hl 6 rfl) ?_
          refine va_bald hx hb hK hP 1 0 rfl rfl hj1 d_Mo_parse_115 ?_
          rw [show ft (nI i).toNatClampNeg = sb_b (F.getD i 0) by rw [nI_clamp (by omega)]; exact htb.2]
          have hPc := hP.sub (ws' := []) [] rfl
          have hKc := hK.sub (tys' := []) [] rfl
          refine vp_callSi (W.runS (As := [.int (sb_b (F.getD i 0))]) (rest := []) ⟨hx, hb, hml, hown, hg⟩ (c_Mo_worth l dC dI (sb_b (F.getD i 0)) ) (va_cwS 1 hg (gi_S kw_956 kw_957 kw_9 kw_958) rfl rfl rfl (by decide +kernel) ⟨Nat.le_of_ble_eq_true rfl, Nat.le_of_ble_eq_true rfl⟩) (zz_prJS hPc hKc _) rfl rfl hl.1 rfl (lv_room (Nat.le_of_ble_eq_true rfl)) d_Mo_parse_116 ⟨Nat.le_of_ble_eq_true rfl, Nat.le_of_ble_eq_true rfl⟩) (fun r_3 hr_3 => ?_)
          rw [wo_n _ htb.1] at hr_3
          subst hr_3
          refine lv_istore (lv' := [(9, .int (nI (dgN (F.getD i 0)))), (0, .ref mo), (1, .int (nI b)), (2, .int (nI F.length)), (3, .int 1), (5, .long x), (7, .int (by_z ov)), (8, .int (nI i))]) hx hb d_Mo_parse_119 hl (by decide) rfl (fun ls hl => ?_)
          refine lv_iload hx hb d_Mo_parse_121 (lv_at hl 0 rfl) ?_
          refine lv_iload_n hx hb d_Mo_parse_123 rfl (lv_at hl 2 rfl) ?_
          refine lv_icmp_lt (tgt := 129) hx hb d_Mo_parse_124 (by decide) (fun c_124 => ?_) (fun c_124 => ?_)
          · skip
            have f_124 : dgN (F.getD i 0) < b := (nI_ltI (by omega) (by omega)).mp c_124
            refine lv_lload hx hb d_Mo_parse_129 (lv_at hl 5 rfl) ?_
            refine lv_iload_n hx hb d_Mo_parse_131 rfl (lv_at hl 2 rfl) ?_
            refine lv_i2l hx hb d_Mo_parse_132 rfl ?_
            refine lv_lmul hx hb d_Mo_parse_133 ?_
            refine lv_iload hx hb d_Mo_parse_134 (lv_at hl 0 rfl) ?_
            refine lv_i2l hx hb d_Mo_parse_136 rfl ?_
            refine lv_lsub hx hb d_Mo_parse_137 ?_
            refine lv_topl (fun w0 ew0 => ?_)
            refine lv_lstore (lv' := [(10, .long w0), (9, .int (nI (dgN (F.getD i 0)))), (0, .ref mo), (1, .int (nI b)), (2, .int (nI F.length)), (3, .int 1), (5, .long x), (7, .int (by_z ov)), (8, .int (nI i))]) hx hb d_Mo_parse_138 hl (by decide) rfl (fun ls hl => ?_)
            refine lv_iload hx hb d_Mo_parse_140 (lv_at hl 7 rfl) ?_
            refine lv_if_ne (tgt := 173) hx hb d_Mo_parse_142 (by decide) (fun c_142 => ?_) (fun c_142 => ?_)
            · skip
              have hov : ov = true := by_z_t rfl c_142
              refine lv_iconst (v := 1) hx hb d_Mo_parse_173 (by decide) ?_
              refine lv_goto (tgt := 178) hx hb d_Mo_parse_174 (by decide) ?_
              refine lv_istore (lv' := [(7, .int 1), (10, .long w0), (9, .int (nI (dgN (F.getD i 0)))), (0, .ref mo), (1, .int (nI b)), (2, .int (nI F.length)), (3, .int 1), (5, .long x), (8, .int (nI i))]) hx hb d_Mo_parse_178 hl (by decide) rfl (fun ls hl => ?_)
              refine lv_lload hx hb d_Mo_parse_180 (lv_at hl 1 rfl) ?_
              refine lv_lstore (lv' := [(5, .long w0), (7, .int 1), (10, .long w0), (9, .int (nI (dgN (F.getD i 0)))), (0, .ref mo), (1, .int (nI b)), (2, .int (nI F.length)), (3, .int 1), (8, .int (nI i))]) hx hb d_Mo_parse_182 hl (by decide) rfl (fun ls hl => ?_)
              refine lv_iinc (v := (nI i) + 1) (lv' := [(8, .int ((nI i) + 1)), (5, .long w0), (7, .int 1), (10, .long w0), (9, .int (nI (dgN (F.getD i 0)))), (0, .ref mo), (1, .int (nI b)), (2, .int (nI F.length)), (3, .int 1)]) hx hb d_Mo_parse_184 hl (k := 8) rfl rfl (by decide) rfl (fun ls hl => ?_)
              refine lv_goto (tgt := 103) hx hb d_Mo_parse_187 (by decide) ?_
              rw [nI_1] at hl
              exact ih_103 (true, w0, i + 1) H locs ls ⟨hP.sub [0, 1] rfl, hD.sub [0, 1] (by decide) rfl, hS, lv_sub hl [5, 6, 7, 8, 1, 2, 0] rfl, (ps_J2 (by rw [hov] at hI; exact hI)), f_106⟩ (by dsimp only; omega)
            · skip
              have hov : ov = false := by cases ov; rfl; exact absurd c_142 (by decide)
              rw [hov] at hI
              obtain ⟨hJ1, hJ2, hJ3⟩ := hI
              refine lv_lload hx hb d_Mo_parse_145 (lv_at hl 6 rfl) ?_
              refine W.ldc2 (v := (-9223372036854775808)) hx hb hown (hg _ kw_881) rfl d_Mo_parse_147 ?_
              refine W.eq (g2 := F0 m 150 ls [.long (-9223372036854775808), .long x]) rfl ?_
              refine lv_iload_n hx hb d_Mo_parse_150 rfl (lv_at hl 3 rfl) ?_
              refine lv_i2l hx hb d_Mo_parse_151 rfl ?_
              refine lv_ldiv hx hb d_Mo_parse_152 (lz_ne hb2 hb36) ?_
              have hdv : (-9223372036854775808 / (nI b).toInt64 : Int64).toInt = psM.tdiv b := lz_div (by decide) (lz_b (by omega)) (by omega) (by decide) (by decide)
              refine W.lcmp hx hb d_Mo_parse_153 ?_
              refine lv_if_lt (tgt := 173) hx hb d_Mo_parse_154 (by decide) (fun c_154 => ?_) (fun c_154 => ?_)
              · skip
                have f_154 : x.toInt < psM.tdiv b := li_lt hdv c_154
                have hlo := ps_lo hb2 (by decide) f_154
                refine lv_iconst (v := 1) hx hb d_Mo_parse_173 (by decide) ?_
                refine lv_goto (tgt := 178) hx hb d_Mo_parse_174 (by decide) ?_
                refine lv_istore (lv' := [(7, .int 1), (10, .long w0), (9, .int (nI (dgN (F.getD i 0)))), (0, .ref mo), (1, .int (nI b)), (2, .int (nI F.length)), (3, .int 1), (5, .long x), (8, .int (nI i))]) hx hb d_Mo_parse_178 hl (by decide) rfl (fun ls hl => ?_)
                refine lv_lload hx hb d_Mo_parse_180 (lv_at hl 1 rfl) ?_
                refine lv_lstore (lv' := [(5, .long w0), (7, .int 1), (10, .long w0), (9, .int (nI (dgN (F.getD i 0)))), (0, .ref mo), (1, .int (nI b)), (2, .int (nI F.length)), (3, .int 1), (8, .int (nI i))]) hx hb d_Mo_parse_182 hl (by decide) rfl (fun ls hl => ?_)
                refine lv_iinc (v := (nI i) + 1) (lv' := [(8, .int ((nI i) + 1)), (5, .long w0), (7, .int 1), (10, .long w0), (9, .int (nI (dgN (F.getD i 0)))), (0, .ref mo), (1, .int (nI b)), (2, .int (nI F.length)), (3, .int 1)]) hx hb d_Mo_parse_184 hl (k := 8) rfl rfl (by decide) rfl (fun ls hl => ?_)
                refine lv_goto (tgt := 103) hx hb d_Mo_parse_187 (by decide) ?_
                rw [nI_1] at hl
                exact ih_103 (true, w0, i + 1) H locs ls ⟨hP.sub [0, 1] rfl, hD.sub [0, 1] (by decide) rfl, hS, lv_sub hl [5, 6, 7, 8, 1, 2, 0] rfl, (ps_J3 f_106 hJ1 (fun z => by have := z.2; omega)), f_106⟩ (by dsimp only; omega)
              · skip
                have f_154 : psM.tdiv b ≤ x.toInt := li_nlt hdv c_154
                have hmb := ps_hi hb2 (by decide) f_154
                have hmc : x.toInt * b ≤ 0 := Int.mul_nonpos_of_nonpos_of_nonneg hJ3 (by omega)
                have hxb : (x * (nI b).toInt64).toInt = x.toInt * b := lz_mul rfl (lz_b (by omega)) hmb (by omega)
                have hpm : psM = -9223372036854775808 := rfl
                refine lv_lload hx hb d_Mo_parse_157 (lv_at hl 6 rfl) ?_
                refine lv_iload_n hx hb d_Mo_parse_159 rfl (lv_at hl 3 rfl) ?_
                refine lv_i2l hx hb d_Mo_parse_160 rfl ?_
                refine lv_lmul hx hb d_Mo_parse_161 ?_
                refine W.ldc2 (v := (-9223372036854775808)) hx hb hown (hg _ kw_881) rfl d_Mo_parse_162 ?_
                refine W.eq (g2 := F0 m 165 ls [.long (-9223372036854775808), .long (x * ((nI b).toInt64))]) rfl ?_
                refine lv_iload hx hb d_Mo_parse_165 (lv_at hl 1 rfl) ?_
                refine lv_i2l hx hb d_Mo_parse_167 rfl ?_
                refine lv_ladd hx hb d_Mo_parse_168 ?_
                refine W.lcmp hx hb d_Mo_parse_169 ?_
                refine lv_if_ge (tgt := 177) hx hb d_Mo_parse_170 (by decide) (fun c_170 => ?_) (fun c_170 => ?_)
                · skip
                  have f_170 : psM ≤ x.toInt * b - dgN (F.getD i 0) := by rw [lg_cmp_ge, Int64.le_iff_toInt_le, lz_add (x := -9223372036854775808) (v := -9223372036854775808) (by decide) (lz_b (b := dgN (F.getD i 0)) (by omega)) (by omega) (by omega), hxb] at c_170; omega
                  have hw0 : w0.toInt = x.toInt * b - dgN (F.getD i 0) := by rw [ew0]; exact lz_sub hxb (lz_b (by omega)) (by omega) (by omega)
                  refine lv_iconst (v := 0) hx hb d_Mo_parse_177 (by decide) ?_
                  refine lv_istore (lv' := [(7, .int 0), (10, .long w0), (9, .int (nI (dgN (F.getD i 0)))), (0, .ref mo), (1, .int (nI b)), (2, .int (nI F.length)), (3, .int 1), (5, .long x), (8, .int (nI i))]) hx hb d_Mo_parse_178 hl (by decide) rfl (fun ls hl => ?_)
                  refine lv_lload hx hb d_Mo_parse_180 (lv_at hl 1 rfl) ?_
                  refine lv_lstore (lv' := [(5, .long w0), (7, .int 0), (10, .long w0), (9, .int (nI (dgN (F.getD i 0)))), (0, .ref mo), (1, .int (nI b)), (2, .int (nI F.length)), (3, .int 1), (8, .int (nI i))]) hx hb d_Mo_parse_182 hl (by decide) rfl (fun ls hl => ?_)
                  refine lv_iinc (v := (nI i) + 1) (lv' := [(8, .int ((nI i) + 1)), (5, .long w0), (7, .int 0), (10, .long w0), (9, .int (nI (dgN (F.getD i 0)))), (0, .ref mo), (1, .int (nI b)), (2, .int (nI F.length)), (3, .int 1)]) hx hb d_Mo_parse_184 hl (k := 8) rfl rfl (by decide) rfl (fun ls hl => ?_)
                  refine lv_goto (tgt := 103) hx hb d_Mo_parse_187 (by decide) ?_
                  rw [nI_1] at hl
                  exact ih_103 (false, w0, i + 1) H locs ls ⟨hP.sub [0, 1] rfl, hD.sub [0, 1] (by decide) rfl, hS, lv_sub hl [5, 6, 7, 8, 1, 2, 0] rfl, (ps_J4 f_106 hJ1 f_124 f_170 hw0 (by omega)), f_106⟩ (by dsimp only; omega)
                · skip
                  have f_170 : ¬ psM ≤ x.toInt * b - dgN (F.getD i 0) := by rw [lg_cmp_ge, Int64.le_iff_toInt_le, lz_add (x := -9223372036854775808) (v := -9223372036854775808) (by decide) (lz_b (b := dgN (F.getD i 0)) (by omega)) (by omega) (by omega), hxb] at c_170; omega
                  refine lv_iconst (v := 1) hx hb d_Mo_parse_173 (by decide) ?_
                  refine lv_goto (tgt := 178) hx hb d_Mo_parse_174 (by decide) ?_
                  refine lv_istore (lv' := [(7, .int 1), (10, .long w0), (9, .int (nI (dgN (F.getD i 0)))), (0, .ref mo), (1, .int (nI b)), (2, .int (nI F.length)), (3, .int 1), (5, .long x), (8, .int (nI i))]) hx hb d_Mo_parse_178 hl (by decide) rfl (fun ls hl => ?_)
                  refine lv_lload hx hb d_Mo_parse_180 (lv_at hl 1 rfl) ?_
                  refine lv_lstore (lv' := [(5, .long w0), (7, .int 1), (10, .long w0), (9, .int (nI (dgN (F.getD i 0)))), (0, .ref mo), (1, .int (nI b)), (2, .int (nI F.length)), (3, .int 1), (8, .int (nI i))]) hx hb d_Mo_parse_182 hl (by decide) rfl (fun ls hl => ?_)
                  refine lv_iinc (v := (nI i) + 1) (lv' := [(8, .int ((nI i) + 1)), (5, .long w0), (7, .int 1), (10, .long w0), (9, .int (nI (dgN (F.getD i 0)))), (0, .ref mo), (1, .int (nI b)), (2, .int (nI F.length)), (3, .int 1)]) hx hb d_Mo_parse_184 hl (k := 8) rfl rfl (by decide) rfl (fun ls hl => ?_)
                  refine lv_goto (tgt := 103) hx hb d_Mo_parse_187 (by decide) ?_
                  rw [nI_1] at hl
                  exact ih_103 (true, w0, i + 1) H locs ls ⟨hP.sub [0, 1] rfl, hD.sub [0, 1] (by decide) rfl, hS, lv_sub hl [5, 6, 7, 8, 1, 2, 0] rfl, (ps_J3 f_106 hJ1 (fun z => f_170 z.2)), f_106⟩ (by dsimp only; omega)
          · skip
            have f_124 : b ≤ dgN (F.getD i 0) := Nat.le_of_not_lt (fun z => c_124 (nI_lt z (by omega)))
            have hno : ps_v F b = none := ps_J1 hb2 f_88 hI f_106 (by omega)
            refine lv_iconst (v := 0) hx hb d_Mo_parse_127 (by decide) ?_
            have hP9 := hP.sub (ws' := [(mo, .inr (8, [.int 0, .int 0, .ref rt, .int mn, .ref rk, .ref rv, .ref rw, .ref ro, .int md, .ref rr, .int pt, .ref ra, .long 0, .int kc, .ref rc, .ref rl, .ref rb, .int la, .int ca])), (rt, .inl (cB, 4096, .inl ft))]) [0, 1] rfl
            have hD9 := hD.sub (ws' := [(mo, .inr (8, [.int 0, .int 0, .ref rt, .int mn, .ref rk, .ref rv, .ref rw, .ref ro, .int md, .ref rr, .int pt, .ref ra, .long 0, .int kc, .ref rc, .ref rl, .ref rb, .int la, .int ca])), (rt, .inl (cB, 4096, .inl ft))]) [0, 1] (by decide) rfl
            have hK9 := hK.sub (tys' := [(cB, .byte)]) [0] rfl
            rw [show Value.long 0 = Value.long (ps_l 0 (ps_v F b)) by rw [hno]; rfl] at hP9 hD9
            exact zz_zret hx hb hr hlocks d_Mo_parse_128 (by decide) hS (by first | exact Nat.le_refl _ | decide | omega | (dsimp only; omega)) (by first | exact Nat.le_refl _ | decide | omega | (dsimp only; omega)) () (by rw [hno]; rfl) hP9 hK9 hD9
      · skip
        have f_88 : F.length ≤ ps_k F := by rw [hk]; have : 1 = F.length := nI_e1 (a := 1) c_88 (by decide) (by omega); omega
        have hno : ps_v F b = none := ps_0 f_88
        refine lv_iconst (v := 0) hx hb d_Mo_parse_91 (by decide) ?_
        have hP9 := hP.sub (ws' := [(mo, .inr (8, [.int 0, .int 0, .ref rt, .int mn, .ref rk, .ref rv, .ref rw, .ref ro, .int md, .ref rr, .int pt, .ref ra, .long 0, .int kc, .ref rc, .ref rl, .ref rb, .int la, .int ca])), (rt, .inl (cB, 4096, .inl ft))]) [0, 1] rfl
        have hD9 := hD.sub (ws' := [(mo, .inr (8, [.int 0, .int 0, .ref rt, .int mn, .ref rk, .ref rv, .ref rw, .ref ro, .int md, .ref rr, .int pt, .ref ra, .long 0, .int kc, .ref rc, .ref rl, .ref rb, .int la, .int ca])), (rt, .inl (cB, 4096, .inl ft))]) [0, 1] (by decide) rfl
        have hK9 := hK.sub (tys' := [(cB, .byte)]) [0] rfl
        rw [show Value.long 0 = Value.long (ps_l 0 (ps_v F b)) by rw [hno]; rfl] at hP9 hD9
        exact zz_zret hx hb hr hlocks d_Mo_parse_92 (by decide) hS (by first | exact Nat.le_refl _ | decide | omega | (dsimp only; omega)) (by first | exact Nat.le_refl _ | decide | omega | (dsimp only; omega)) () (by rw [hno]; rfl) hP9 hK9 hD9
