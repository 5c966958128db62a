/-! CONSTANTS: Strings and statics that nobody writes (list by program: wip/gen/consts.py) -/
def kxL : List (String × Nat × String × List Nat) := [("TextForge$Argument", 25, "true", [116, 114, 117, 101]), ("TextForge$Argument", 27, "false", [102, 97, 108, 115, 101]), ("TextForge$Argument", 29, "(ptr)", [40, 112, 116, 114, 41]), ("TextForge$Argument", 31, "(func)", [40, 102, 117, 110, 99, 41]), ("TextForge$Argument", 33, "(slice)", [40, 115, 108, 105, 99, 101, 41]), ("TextForge$Argument", 35, "(map)", [40, 109, 97, 112, 41]), ("TextForge$Argument", 37, "(chan)", [40, 99, 104, 97, 110, 41]), ("TextForge$Argument", 39, "(interface)", [40, 105, 110, 116, 101, 114, 102, 97, 99, 101, 41]), ("TextForge$Argument", 41, "(struct)", [40, 115, 116, 114, 117, 99, 116, 41]), ("TextForge$Argument", 43, "(array)", [40, 97, 114, 114, 97, 121, 41]), ("TextForge$Argument", 45, "(gate)", [40, 103, 97, 116, 101, 41]), ("TextForge$Argument", 47, "nil", [110, 105, 108]), ("TextForge$Quoting", 50, "abtnvfr", [97, 98, 116, 110, 118, 102, 114]), ("TextForge$Printer", 88, "%!", [37, 33]), ("TextForge", 112, "%!", [37, 33]), ("TextForge", 177, "there are as many arguments as there may be", [116, 104, 101, 114, 101, 32, 97, 114, 101, 32, 97, 115, 32, 109, 97, 110, 121, 32, 97, 114, 103, 117, 109, 101, 110, 116, 115, 32, 97, 115, 32, 116, 104, 101, 114, 101, 32, 109, 97, 121, 32, 98, 101]), ("TextForge", 81, "no such sort", [110, 111, 32, 115, 117, 99, 104, 32, 115, 111, 114, 116]), ("TextForge", 136, "no such base", [110, 111, 32, 115, 117, 99, 104, 32, 98, 97, 115, 101]), ("TextForge", 158, "no such code, or nothing of it by this number", [110, 111, 32, 115, 117, 99, 104, 32, 99, 111, 100, 101, 44, 32, 111, 114, 32, 110, 111, 116, 104, 105, 110, 103, 32, 111, 102, 32, 105, 116, 32, 98, 121, 32, 116, 104, 105, 115, 32, 110, 117, 109, 98, 101, 114]), ("TextForge", 170, "the result has no such byte", [116, 104, 101, 32, 114, 101, 115, 117, 108, 116, 32, 104, 97, 115, 32, 110, 111, 32, 115, 117, 99, 104, 32, 98, 121, 116, 101]), ("TextForgeModel", 99, "abtnvfr", [97, 98, 116, 110, 118, 102, 114]), ("TextForgeModel", 159, "true", [116, 114, 117, 101]), ("TextForgeModel", 161, "false", [102, 97, 108, 115, 101]), ("TextForgeModel", 169, "nil", [110, 105, 108]), ("TextForgeModel", 133, "(ptr)", [40, 112, 116, 114, 41]), ("TextForgeModel", 135, "(func)", [40, 102, 117, 110, 99, 41]), ("TextForgeModel", 137, "(slice)", [40, 115, 108, 105, 99, 101, 41]), ("TextForgeModel", 139, "(map)", [40, 109, 97, 112, 41]), ("TextForgeModel", 141, "(chan)", [40, 99, 104, 97, 110, 41]), ("TextForgeModel", 143, "(interface)", [40, 105, 110, 116, 101, 114, 102, 97, 99, 101, 41]), ("TextForgeModel", 145, "(struct)", [40, 115, 116, 114, 117, 99, 116, 41]), ("TextForgeModel", 147, "(array)", [40, 97, 114, 114, 97, 121, 41]), ("TextForgeModel", 149, "(gate)", [40, 103, 97, 116, 101, 41])]
def kxB (i : Nat) : List Nat := (kxL.getD i ("", 0, "", [])).2.2.2
def kxN : Nat := 33
/-- a String that holds the bytes B -/
def sk_S (a v : Nat) (B : List Nat) (A : Nat → Prop) (U : State) (H : Heap) : Prop := va_O "java/lang/String" a A U H ∧ va_OF "java/lang/String" "coder" "B" (.int 0) a A U H ∧ va_OF "java/lang/String" "value" "[B" (.ref v) a A U H ∧ va_T .byte v B.length (fun j => .int (sb_b (B.getD j 0))) A U H
theorem sk_S.moved {a v : Nat} {B : List Nat} {A : Nat → Prop} {u U : State} {H : Heap} (hvm : u.vm.Alike U.vm) (h : sk_S a v B A u H) : sk_S a v B A U H := ⟨h.1.moved hvm, h.2.1.moved hvm, h.2.2.1.moved hvm, h.2.2.2.moved hvm⟩
theorem sk_S.kept {a v : Nat} {B : List Nat} {A : Nat → Prop} {U : State} {H H1 : Heap} (h : sk_S a v B A U H) (hq : ∀ a : Nat, a < H.size → ¬ A a → H1[a]? = H[a]?) : sk_S a v B A U H1 := ⟨h.1.kept hq, h.2.1.kept hq, h.2.2.1.kept hq, h.2.2.2.kept hq⟩
theorem sk_S.narrow {a v : Nat} {B : List Nat} {A C : Nat → Prop} {U : State} {H : Heap} (h : sk_S a v B A U H) (hAB : ∀ q, C q → A q) : sk_S a v B C U H := ⟨h.1.narrow hAB, h.2.1.narrow hAB, h.2.2.1.narrow hAB, h.2.2.2.narrow hAB⟩
def knL : List (String × Nat × MethodName) := [("TextForge", 23, ⟨"TextForge$Arguments", "<init>", "()V"⟩), ("TextForge", 30, ⟨"TextForge$Directive", "<init>", "()V"⟩), ("TextForge", 37, ⟨"TextForge$Printer", "<init>", "()V"⟩), ("TextForge$Printer", 9, ⟨"TextForge$Numeral", "<init>", "()V"⟩), ("TextForge", 44, ⟨"TextForge$Codes", "<init>", "()V"⟩)]
/-- what a throw asks of the heap: the words that are not good ones; two statics of Throwable; two classes apart -/
def kthW : List Cond := [.declares ⟨"java/lang/RuntimeException", "<init>", "(Ljava/lang/String;)V"⟩, .declares ⟨"java/lang/Exception", "<init>", "(Ljava/lang/String;)V"⟩, .declares ⟨"java/lang/Throwable", "<init>", "(Ljava/lang/String;)V"⟩, .codeSync ⟨"java/lang/Throwable", "fillInStackTrace", "()Ljava/lang/Throwable;"⟩ prog_21_method_18_code 1 (some (.object "java/lang/Throwable")), .native ⟨"java/lang/Throwable", "fillInStackTrace", "(I)Ljava/lang/Throwable;"⟩, .superclass "java/lang/Throwable" "java/lang/Object", .castable "java/lang/IllegalStateException" "java/lang/IllegalStateException", .castable "java/lang/IllegalArgumentException" "java/lang/IllegalArgumentException", .castable "java/util/NoSuchElementException" "java/util/NoSuchElementException"]
theorem kthW_ok : ∀ w ∈ kthW, w.onTables = true := by
  intro w h
  simp only [kthW, List.mem_cons, List.not_mem_nil, or_false] at h
  rcases h with rfl | rfl | rfl | rfl | rfl | rfl | rfl | rfl | rfl <;> rfl
theorem kthW_warm {s U : State} (hW : s.WarmedH U.vm) : ∀ w ∈ kthW, va_Nw w s → va_Nw w U := by
  intro w h
  simp only [kthW, List.mem_cons, List.not_mem_nil, or_false] at h
  rcases h with rfl | rfl | rfl | rfl | rfl | rfl | rfl | rfl | rfl
  · exact fun h => h.warmD hW
  · exact fun h => h.warmD hW
  · exact fun h => h.warmD hW
  · exact fun h => word_at hW (Or.inl rfl) h
  · exact fun h => word_at hW (Or.inl rfl) h
  · exact fun h => word_at hW (Or.inl rfl) h
  · exact fun h => h.warmC hW
  · exact fun h => h.warmC hW
  · exact fun h => h.warmC hW
/-- a static that holds a reference or null, its cell whole -/
def tz_L (C n d : String) (A : Nat → Prop) (U : State) (H : Heap) : Prop := ∃ (c : ClassId) (k : Class) (i : Nat) (f : Field) (a : Nat) (cell : Cell) (u : RefV), U.vm.findClass C = some c ∧ U.fieldFound? C n d = some (c, k, i, f) ∧ f.isStatic = true ∧ k.statics = some a ∧ H[a]? = some cell ∧ cell.vm.isStatics = true ∧ cell.cls = c ∧ f.slot < cell.slots.size ∧ k.staticTypes[f.slot]? = some f.type ∧ cell.slots[f.slot]? = some u.v ∧ ¬ A a
theorem tz_L.moved {C n d : String} {A : Nat → Prop} {u U : State} {H : Heap} (hvm : u.vm.Alike U.vm) (h : tz_L C n d A u H) : tz_L C n d A U H := by
  obtain ⟨c, k, i, f, a, cell, r, h0, h1, h2, h3, h4, h5, h6, h7, h8, h9⟩ := h
  obtain ⟨k', hi', he⟩ := State.fieldFound?_setVm hvm h1
  exact ⟨c, k', i, f, a, cell, r, by rw [hvm.findClass]; exact h0, hi', h2, by rw [he]; exact h3, h4, h5, h6, h7, by rw [he]; exact h8, h9⟩
theorem tz_L.kept {C n d : String} {A : Nat → Prop} {U : State} {H H1 : Heap} (h : tz_L C n d A U H) (hq : ∀ a : Nat, a < H.size → ¬ A a → H1[a]? = H[a]?) : tz_L C n d A U H1 := by
  obtain ⟨c, k, i, f, a, cell, r, h0, h1, h2, h3, h4, h5, h6, h7, h8, h9, h10⟩ := h
  exact ⟨c, k, i, f, a, cell, r, h0, h1, h2, h3, by rw [hq a (Array.getElem?_eq_some_iff.mp h4).1 h10]; exact h4, h5, h6, h7, h8, h9, h10⟩
theorem tz_L.narrow {C n d : String} {A B : Nat → Prop} {U : State} {H : Heap} (h : tz_L C n d A U H) (hAB : ∀ q, B q → A q) : tz_L C n d B U H := by
  obtain ⟨c, k, i, f, a, cell, r, h0, h1, h2, h3, h4, h5, h6, h7, h8, h9, h10⟩ := h
  exact ⟨c, k, i, f, a, cell, r, h0, h1, h2, h3, h4, h5, h6, h7, h8, h9, fun z => h10 (hAB a z)⟩
theorem tz_L.of {args : Array Value} {s : State} {C n d : String} {A : Nat → Prop} (hl : (Cond.laysStatic C n d).before args s = true) (h : (Cond.isRef (.static C n d)).before args s = true) (hA : ∀ a : Nat, a < s.heap.size → ¬ A a) : tz_L C n d A s s.heap := by
  obtain ⟨c, k, i, f, a, cell, hc, hi, hst, ha, hcell, hs, hcls, hlt, hty⟩ := Cond.laysStatic_spec hl
  obtain ⟨u, hu⟩ := Cond.staticRefV hi hst ha hcell hs h
  exact ⟨c, k, i, f, a, cell, u, hc, hi, hst, ha, hcell, hs, hcls, hlt, hty, hu, hA a (Array.getElem?_eq_some_iff.mp hcell).1⟩
theorem tz_L.use {args : Array Value} {s : State} {C n d : String} {A : Nat → Prop} (h : tz_L C n d A s s.heap) : (Cond.laysStatic C n d).before args s = true ∧ (Cond.isRef (.static C n d)).before args s = true := by
  obtain ⟨c, k, i, f, a, cell, ⟨v, hv⟩, h0, h1, h2, h3, h4, h5, h6, h7, h8, h9, h10⟩ := h
  refine ⟨?_, ?_⟩
  · simp [Cond.before, Cond.holds, Cond.value, h0, h1, h2, h3, h4, h5, h6, h7, h8]
  · have h9' : cell.slots[f.slot]? = some v := h9
    simp [Cond.before, Cond.holds, Cond.value, Term.eval, State.fieldNamed?, h1, h2, h3, h4, h5, h9']
    cases v <;> first | rfl | (simp [Value.isRef] at hv)
def kthr (A : Nat → Prop) (U : State) (H : Heap) : Prop := (∀ w ∈ kthW, va_Nw w U) ∧ tz_L "java/lang/Throwable" "UNASSIGNED_STACK" "[Ljava/lang/StackTraceElement;" A U H ∧ tz_L "java/lang/Throwable" "SUPPRESSED_SENTINEL" "Ljava/util/List;" A U H ∧ va_Nc "java/lang/IllegalStateException" "java/lang/IllegalArgumentException" U
theorem va_Nc_moved {C T : String} {u U : State} (hvm : u.vm.Alike U.vm) (h : va_Nc C T u) : va_Nc C T U := by
  obtain ⟨c, t, h1, h2, h3⟩ := h
  exact ⟨c, t, by rw [hvm.findClass]; exact h1, by rw [hvm.findClass]; exact h2, by rw [hvm.assignable]; exact h3⟩
theorem kthr.warm {A : Nat → Prop} {u U : State} {H : Heap} (hW : u.WarmedH U.vm) (h : kthr A u H) : kthr A U H := ⟨fun w hw => kthW_warm hW w hw (h.1 w hw), h.2.1.moved hW.alike, h.2.2.1.moved hW.alike, va_Nc_moved hW.alike h.2.2.2⟩
theorem kthr.same {A : Nat → Prop} {u U : State} {H : Heap} (hv : U.vm = u.vm) (h : kthr A u H) : kthr A U H := by
  have ha : u.vm.Alike U.vm := by rw [hv]; exact Vm.Alike.refl _
  exact ⟨fun w hw => (h.1 w hw).same (kthW_ok w hw) hv.symm, h.2.1.moved ha, h.2.2.1.moved ha, va_Nc_moved ha h.2.2.2⟩
theorem kthr.kept {A : Nat → Prop} {U : State} {H H1 : Heap} (h : kthr A U H) (hq : ∀ a : Nat, a < H.size → ¬ A a → H1[a]? = H[a]?) : kthr A U H1 := ⟨h.1, h.2.1.kept hq, h.2.2.1.kept hq, h.2.2.2⟩
theorem kthr.narrow {A C : Nat → Prop} {U : State} {H : Heap} (h : kthr A U H) (hAB : ∀ q, C q → A q) : kthr C U H := ⟨h.1, h.2.1.narrow hAB, h.2.2.1.narrow hAB, h.2.2.2⟩
def kth (A : Nat → Prop) (U : State) (H : Heap) : Prop := va_AO "TextForge$Argument" U ∧ (∀ q ∈ knL, va_Nw (.methodLinkNest q.1 q.2.1 q.2.2 "TextForge") U) ∧ kthr A U H
theorem kth.warm {A : Nat → Prop} {u U : State} {H : Heap} (hW : u.WarmedH U.vm) (h : kth A u H) : kth A U H := ⟨h.1.moved hW.alike, fun q hq => (h.2.1 q hq).warmM hW, h.2.2.warm hW⟩
theorem kth.same {A : Nat → Prop} {u U : State} {H : Heap} (hv : U.vm = u.vm) (h : kth A u H) : kth A U H := ⟨h.1.moved (by rw [hv]; exact Vm.Alike.refl _), fun q hq => (h.2.1 q hq).same rfl hv.symm, h.2.2.same hv⟩
theorem kth.kept {A : Nat → Prop} {U : State} {H H1 : Heap} (h : kth A U H) (hq : ∀ a : Nat, a < H.size → ¬ A a → H1[a]? = H[a]?) : kth A U H1 := ⟨h.1, h.2.1, h.2.2.kept hq⟩
theorem kth.narrow {A C : Nat → Prop} {U : State} {H : Heap} (h : kth A U H) (hAB : ∀ q, C q → A q) : kth C U H := ⟨h.1, h.2.1, h.2.2.narrow hAB⟩
def kt (A : Nat → Prop) (U : State) (H : Heap) : Prop := va_Zq "jdk/internal/util/Preconditions" "SIOOBE_FORMATTER" "Ljava/util/function/BiFunction;" A U H ∧ kth A U H
theorem kt.warm {A : Nat → Prop} {u U : State} {H : Heap} (hW : u.WarmedH U.vm) (h : kt A u H) : kt A U H := ⟨h.1.moved hW.alike, h.2.warm hW⟩
theorem kt.same {A : Nat → Prop} {u U : State} {H : Heap} (hv : U.vm = u.vm) (h : kt A u H) : kt A U H := ⟨h.1.moved (by rw [hv]; exact Vm.Alike.refl _), h.2.same hv⟩
theorem kt.kept {A : Nat → Prop} {U : State} {H H1 : Heap} (h : kt A U H) (hq : ∀ a : Nat, a < H.size → ¬ A a → H1[a]? = H[a]?) : kt A U H1 := ⟨h.1.kept hq, h.2.kept hq⟩
theorem kt.narrow {A C : Nat → Prop} {U : State} {H : Heap} (h : kt A U H) (hAB : ∀ q, C q → A q) : kt C U H := ⟨h.1.narrow hAB, h.2.narrow hAB⟩
def kx (ad : Nat → Nat) (A : Nat → Prop) (U : State) (H : Heap) : Prop :=
  va_Z "java/lang/String" "COMPACT_STRINGS" "Z" (.int 1) A U H ∧ (∀ i, i < kxN → vk_R (kxL.getD i ("", 0, "", [])).1 (kxL.getD i ("", 0, "", [])).2.1 (kxL.getD i ("", 0, "", [])).2.2.1 (ad i) U ∧ sk_S (ad i) (ad (kxN + i)) (kxB i) A U H) ∧ kt A U H
theorem kx.warm {ad : Nat → Nat} {A : Nat → Prop} {u U : State} {H : Heap} (hW : u.WarmedH U.vm) (h : kx ad A u H) : kx ad A U H := ⟨h.1.moved hW.alike, fun i hi => ⟨(h.2.1 i hi).1.warm hW, (h.2.1 i hi).2.moved hW.alike⟩, h.2.2.warm hW⟩
theorem kx.same {ad : Nat → Nat} {A : Nat → Prop} {u U : State} {H : Heap} (hv : U.vm = u.vm) (h : kx ad A u H) : kx ad A U H := by
  have ha : u.vm.Alike U.vm := by rw [hv]; exact Vm.Alike.refl _
  exact ⟨h.1.moved ha, fun i hi => ⟨(h.2.1 i hi).1.same hv, (h.2.1 i hi).2.moved ha⟩, h.2.2.same hv⟩
theorem kx.kept {ad : Nat → Nat} {A : Nat → Prop} {U : State} {H H1 : Heap} (h : kx ad A U H) (hq : ∀ a : Nat, a < H.size → ¬ A a → H1[a]? = H[a]?) : kx ad A U H1 := ⟨h.1.kept hq, fun i hi => ⟨(h.2.1 i hi).1, (h.2.1 i hi).2.kept hq⟩, h.2.2.kept hq⟩
theorem kx.narrow {ad : Nat → Nat} {A C : Nat → Prop} {U : State} {H : Heap} (h : kx ad A U H) (hAB : ∀ q, C q → A q) : kx ad C U H := ⟨h.1.narrow hAB, fun i hi => ⟨(h.2.1 i hi).1, (h.2.1 i hi).2.narrow hAB⟩, h.2.2.narrow hAB⟩
/-- at a call, from what held at the start -/
theorem kx.at {ad : Nat → Nat} {A C : Nat → Prop} {s U : State} {H : Heap} {locs : List Loc} (h : kx ad A s s.heap) (hS : va_S A s.heap H locs) (hC : ∀ q, C q → A q) (hU : U.heap = H) (hW : s.WarmedH U.vm) : kx ad C U U.heap := by
  rw [hU]
  exact ((h.kept hS.2.1).narrow hC).warm hW
def zy_I (ad : Nat → Nat) (D : va_G) (cl : List vw_C) (W0 : va_W) (ty0 : List (ClassId × FieldType)) (sz : Nat) : State → Prop := fun U => zz_I D cl W0 ty0 sz U ∧ kx ad (va_A W0 sz) U U.heap
def zy_J (ad : Nat → Nat) (D : va_G) (cl : List vw_C) (W0 : va_W) (ty0 : List (ClassId × FieldType)) : State → Prop := fun U => zz_J D cl W0 ty0 U ∧ kx ad (fun _ => False) U U.heap
theorem zy_blI {ad : Nat → Nat} {av : List Value} {D : va_G} {cl : List vw_C} {W0 : va_W} {ty0 : List (ClassId × FieldType)} {sz : Nat} : FrameBlind (va_Pc av (zy_I ad D cl W0 ty0 sz)) := by
  intro a U g mk q
  obtain ⟨q0, ⟨q1, qP, qK, qD⟩, qX⟩ := q
  exact ⟨q0, ⟨q1, qP, va_K.moved (u := U) (U := U.calling g mk a) (Vm.Alike.refl U.vm) qK, qD⟩, kx.same (u := U) (U := U.calling g mk a) rfl qX⟩
theorem zy_blJ {ad : Nat → Nat} {av : List Value} {D : va_G} {cl : List vw_C} {W0 : va_W} {ty0 : List (ClassId × FieldType)} : FrameBlind (va_Pc av (zy_J ad D cl W0 ty0)) := by
  intro a U g mk q
  obtain ⟨q0, ⟨qP, qK⟩, qX⟩ := q
  exact ⟨q0, ⟨qP, va_K.moved (u := U) (U := U.calling g mk a) (Vm.Alike.refl U.vm) qK⟩, kx.same (u := U) (U := U.calling g mk a) rfl qX⟩
section ZYP
variable {ad : Nat → Nat} {s : State} {H : Heap} {D : va_G} {cl : List vw_C} {wc : va_W} {tyc : List (ClassId × FieldType)} {A : Nat → Prop} {locs : List Loc}
theorem zy_preS (hX : kx ad A s s.heap) (hS : va_S A s.heap H locs) (hF : ∀ q, va_A wc H.size q → A q) (hPc : va_P D cl wc H) (hKc : va_K D cl tyc s) (hDc : va_D A wc) (As : List Value) : PreS s H (va_Pc As (zy_I ad D cl wc tyc H.size)) As :=
  ⟨zy_blI, fun U hU hW => ⟨rfl, ⟨by rw [hU], by rw [hU]; exact hPc, va_K.moved hW.alike hKc, hDc.weaken (fun _ _ _ _ => trivial)⟩, hX.at hS hF hU hW⟩⟩
theorem zy_preV (hX : kx ad A s s.heap) (hS : va_S A s.heap H locs) (hF : ∀ q, va_A wc H.size q → A q) (hPc : va_P D cl wc H) (hKc : va_K D cl tyc s) (hDc : va_D A wc) (As : List Value) {b q0 ci : Nat} {q : vw_C} {fs : List Value} (hc : cl[ci]? = some q) (he : wc[q0]? = some (b, .inr (ci, fs))) : PreV s H q.1 b (va_Pc (.ref b :: As) (zy_I ad D cl wc tyc H.size)) As :=
  ⟨zy_blI, va_recv hKc hPc hc he, fun U hU hW => ⟨rfl, ⟨by rw [hU], by rw [hU]; exact hPc, va_K.moved hW.alike hKc, hDc.weaken (fun _ _ _ _ => trivial)⟩, hX.at hS hF hU hW⟩⟩
theorem zy_prJS (hX : kx ad A s s.heap) (hS : va_S A s.heap H locs) (hPc : va_P D cl wc H) (hKc : va_K D cl tyc s) (As : List Value) : PreS s H (va_Pc As (zy_J ad D cl wc tyc)) As :=
  ⟨zy_blJ, fun U hU hW => ⟨rfl, ⟨by rw [hU]; exact hPc, va_K.moved hW.alike hKc⟩, hX.at hS (fun _ h => h.elim) hU hW⟩⟩
theorem zy_prJV (hX : kx ad A s s.heap) (hS : va_S A s.heap H locs) (hPc : va_P D cl wc H) (hKc : va_K D cl tyc s) (As : List Value) {b q0 ci : Nat} {q : vw_C} {fs : List Value} (hc : cl[ci]? = some q) (he : wc[q0]? = some (b, .inr (ci, fs))) : PreV s H q.1 b (va_Pc (.ref b :: As) (zy_J ad D cl wc tyc)) As :=
  ⟨zy_blJ, va_recv hKc hPc hc he, fun U hU hW => ⟨rfl, ⟨by rw [hU]; exact hPc, va_K.moved hW.alike hKc⟩, hX.at hS (fun _ h => h.elim) hU hW⟩⟩
/-- a call on a String constant -/
theorem zy_prSt {i : Nat} (hi : i < kxN) (hX : kx ad A s s.heap) (hS : va_S A s.heap H locs) (hP0 : va_P D cl [] H) (hK0 : va_K D cl [] s) (As : List Value) : PreV s H "java/lang/String" (ad i) (va_Pc (.ref (ad i) :: As) (zy_J ad D cl [] [])) As :=
  ⟨zy_blJ, by obtain ⟨cell, h1, h2, h3, h4⟩ := ((hX.2.1 i hi).2.kept hS.2.1).1; exact ⟨cell, h1, h2, h3⟩, fun U hU hW => ⟨rfl, ⟨by rw [hU]; exact hP0, va_K.moved hW.alike hK0⟩, hX.at hS (fun _ h => h.elim) hU hW⟩⟩
end ZYP
def yM_v {S : Type} (ad : Nat → Nat) (l : Launch) (y : MethodName) (ws : List Cond) (rm : Room) (D : va_G) (cl : List vw_C) (av : List Value) (W0 : va_W) (ty0 : List (ClassId × FieldType)) (post : S → Prop) (w1 : S → va_W) (ty1 : S → List (ClassId × FieldType)) (mc ms : Nat) : Prop :=
  ∀ sz : Nat, Met l y ws rm (va_Pc av (zy_I ad D cl W0 ty0 sz)) (va_Qv post (zz_B D cl (va_A W0 sz) w1 ty1) (va_A W0 sz)) mc ms (va_A W0 sz)
def yM_i {S : Type} (ad : Nat → Nat) (l : Launch) (y : MethodName) (ws : List Cond) (rm : Room) (D : va_G) (cl : List vw_C) (av : List Value) (W0 : va_W) (ty0 : List (ClassId × FieldType)) (post : Int32 → S → Prop) (w1 : S → va_W) (ty1 : S → List (ClassId × FieldType)) (mc ms : Nat) : Prop :=
  ∀ sz : Nat, Met l y ws rm (va_Pc av (zy_I ad D cl W0 ty0 sz)) (va_Qi post (zz_B D cl (va_A W0 sz) w1 ty1) (va_A W0 sz)) mc ms (va_A W0 sz)
def yR_i (ad : Nat → Nat) (l : Launch) (y : MethodName) (ws : List Cond) (rm : Room) (D : va_G) (cl : List vw_C) (av : List Value) (W0 : va_W) (ty0 : List (ClassId × FieldType)) (post : Int32 → Prop) : Prop :=
  Met l y ws rm (va_Pc av (zy_J ad D cl W0 ty0)) (vp_Si post) 0 0 (fun _ => False)
def yR_q (ad : Nat → Nat) (l : Launch) (y : MethodName) (ws : List Cond) (rm : Room) (D : va_G) (cl : List vw_C) (av : List Value) (W0 : va_W) (ty0 : List (ClassId × FieldType)) (post : Option Nat → Prop) : Prop :=
  Met l y ws rm (va_Pc av (zy_J ad D cl W0 ty0)) (va_Sq post) 0 0 (fun _ => False)
def yR_v (ad : Nat → Nat) (l : Launch) (y : MethodName) (ws : List Cond) (rm : Room) (D : va_G) (cl : List vw_C) (av : List Value) (W0 : va_W) (ty0 : List (ClassId × FieldType)) (post : Unit → Prop) : Prop :=
  Met l y ws rm (va_Pc av (zy_J ad D cl W0 ty0)) (va_Sv post) 0 0 (fun _ => False)
section ZYE
variable {ad : Nat → Nat} {l : Launch} {y : MethodName} {ws ws' : List Cond} {rm : Room} {D : va_G} {cl : List vw_C} {av : List Value} {W0 : va_W} {ty0 : List (ClassId × FieldType)} {cc : ByteArray} {nL : Nat} {ret : Option FieldType}
theorem zy_enterv {S : Type} {post : S → Prop} {w1 : S → va_W} {ty1 : S → List (ClassId × FieldType)} {mc ms : Nat} (hy : plainName y.cls = true) (hw : ws = Cond.code y cc nL ret :: ws') (hn : (lg_sl av).length ≤ nL)
    (body : ∀ (p : Program) (e : Env) (s : State) (m : MethodId) (below : List Frame) (meth : Method) (c : Code) (A : Nat → Prop) (ls : Array Slot), zz_C p s m av.toArray meth c cc nL y.cls ws' y.name ret → (∀ q : Nat, s.heap.size ≤ q → A q) → va_S A s.heap s.heap [] → va_P D cl W0 s.heap → va_K D cl ty0 s → va_D A W0 → lv_has ls nL (lv_args 0 av) → kx ad A s s.heap →
      W p l e rm s m av.toArray below meth c s.heap [] 0 0 (MQ below (va_Qv post (zz_B D cl A w1 ty1) A) av.toArray s mc ms A) (F0 m 0 ls [])) :
    yM_v ad l y ws rm D cl av W0 ty0 post w1 ty1 mc ms := by
  intro sz
  refine Met.ofW (cc := cc) (maxL := nL) (ret := ret) hy hw ?_
  intro p e s m args below meth c s₁ B hml hv
  obtain ⟨rfl, ⟨hsz, hP, hK, hD0⟩, hX⟩ := hv
  subst hsz
  have hD := hD0.self (sz := s.heap.size)
  have hl := lv_entry av (n := nL) hn
  rw [lg_entry_eq]
  exact body p e s m below meth c _ _ ⟨B.exec, B.bytes, hml, findClass_of_methodNamed B.named, fun w h => atoms_spec (ws := ws) B.pre w (by rw [hw]; exact List.mem_cons_of_mem _ h), B.returns, B.notSynchronized, (name_of_methodNamed B.named B.method).1⟩ (fun q h => Or.inr h) va_S.rf hP hK hD hl hX
theorem zy_enteri {S : Type} {post : Int32 → S → Prop} {w1 : S → va_W} {ty1 : S → List (ClassId × FieldType)} {mc ms : Nat} (hy : plainName y.cls = true) (hw : ws = Cond.code y cc nL ret :: ws') (hn : (lg_sl av).length ≤ nL)
    (body : ∀ (p : Program) (e : Env) (s : State) (m : MethodId) (below : List Frame) (meth : Method) (c : Code) (A : Nat → Prop) (ls : Array Slot), zz_C p s m av.toArray meth c cc nL y.cls ws' y.name ret → (∀ q : Nat, s.heap.size ≤ q → A q) → va_S A s.heap s.heap [] → va_P D cl W0 s.heap → va_K D cl ty0 s → va_D A W0 → lv_has ls nL (lv_args 0 av) → kx ad A s s.heap →
      W p l e rm s m av.toArray below meth c s.heap [] 0 0 (MQ below (va_Qi post (zz_B D cl A w1 ty1) A) av.toArray s mc ms A) (F0 m 0 ls [])) :
    yM_i ad l y ws rm D cl av W0 ty0 post w1 ty1 mc ms := by
  intro sz
  refine Met.ofW (cc := cc) (maxL := nL) (ret := ret) hy hw ?_
  intro p e s m args below meth c s₁ B hml hv
  obtain ⟨rfl, ⟨hsz, hP, hK, hD0⟩, hX⟩ := hv
  subst hsz
  have hD := hD0.self (sz := s.heap.size)
  have hl := lv_entry av (n := nL) hn
  rw [lg_entry_eq]
  exact body p e s m below meth c _ _ ⟨B.exec, B.bytes, hml, findClass_of_methodNamed B.named, fun w h => atoms_spec (ws := ws) B.pre w (by rw [hw]; exact List.mem_cons_of_mem _ h), B.returns, B.notSynchronized, (name_of_methodNamed B.named B.method).1⟩ (fun q h => Or.inr h) va_S.rf hP hK hD hl hX
theorem zy_enterR {Qc : Array Value → State → Outcome → State → Prop} (hy : plainName y.cls = true) (hw : ws = Cond.code y cc nL ret :: ws') (hn : (lg_sl av).length ≤ nL)
    (body : ∀ (p : Program) (e : Env) (s : State) (m : MethodId) (below : List Frame) (meth : Method) (c : Code) (ls : Array Slot), zz_C p s m av.toArray meth c cc nL y.cls ws' y.name ret → va_P D cl W0 s.heap → va_K D cl ty0 s → lv_has ls nL (lv_args 0 av) → kx ad (fun _ => False) s s.heap →
      W p l e rm s m av.toArray below meth c s.heap [] 0 0 (MQ below Qc av.toArray s 0 0 (fun _ => False)) (F0 m 0 ls [])) :
    Met l y ws rm (va_Pc av (zy_J ad D cl W0 ty0)) Qc 0 0 (fun _ => False) := by
  refine Met.ofW (cc := cc) (maxL := nL) (ret := ret) hy hw ?_
  intro p e s m args below meth c s₁ B hml hv
  obtain ⟨rfl, ⟨hP, hK⟩, hX⟩ := hv
  have hl := lv_entry av (n := nL) hn
  rw [lg_entry_eq]
  exact body p e s m below meth c _ ⟨B.exec, B.bytes, hml, findClass_of_methodNamed B.named, fun w h => atoms_spec (ws := ws) B.pre w (by rw [hw]; exact List.mem_cons_of_mem _ h), B.returns, B.notSynchronized, (name_of_methodNamed B.named B.method).1⟩ hP hK hl hX
end ZYE
