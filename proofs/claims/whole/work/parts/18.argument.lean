/-! ARGUMENT -/
def ar_b (k : Int32) (x : Int64) : Bool := decide (k = 0 ∧ x < 0)
/-- the number without its sign -/
def ar_m (k : Int32) (x : Int64) : Nat := (if ar_b k x then -x else x).toBitVec.toNat
theorem ar_lN (x : Int64) : x = lN x.toBitVec.toNat := wb_inj (by rw [wb_tb]; simp)
theorem ar_m_lt (k : Int32) (x : Int64) : ar_m k x < 2 ^ 64 := (if ar_b k x then -x else x).toBitVec.isLt
theorem ar_m0 {k : Int32} {x : Int64} (h : ar_b k x = false) : x = lN (ar_m k x) := by unfold ar_m; rw [h]; exact ar_lN x
theorem ar_m1 {k : Int32} {x : Int64} (h : ar_b k x = true) : -x = lN (ar_m k x) := by unfold ar_m; rw [h]; exact ar_lN (-x)
theorem ar_n1 {x : Int64} (c : 0 ≤ lg_cmp x 0) : ¬ x < 0 := by
  rw [lg_cmp_ge, Int64.le_iff_toInt_le] at c
  intro z; rw [Int64.lt_iff_toInt_lt] at z; omega
theorem ar_n2 {x : Int64} (c : ¬ 0 ≤ lg_cmp x 0) : x < 0 := by
  rw [lg_cmp_ge, Int64.le_iff_toInt_le] at c
  rw [Int64.lt_iff_toInt_lt]; omega
/-- which String is the word of it -/
def ar_w (k : Nat) (x : Int64) : Nat := if k = 2 then (if x = 0 then 1 else 0) else if x = (nI 0 - 1).toInt64 then 11 else 2 + x.toBitVec.toNat
theorem ar_j {j : Nat} (h : j < 10) : j = 0 ∨ j = 1 ∨ j = 2 ∨ j = 3 ∨ j = 4 ∨ j = 5 ∨ j = 6 ∨ j = 7 ∨ j = 8 ∨ j = 9 := by omega
abbrev y_Ar_isNumber : MethodName := ⟨"TextForge$Argument", "isNumber", "()Z"⟩
abbrev w_Ar_isNumber : List Cond := Cond.code y_Ar_isNumber prog_2_method_2_code 1 (some .boolean) :: gw
theorem d_Ar_isNumber_0 : decode prog_2_method_2_code 0 = .ok (.aload_n 0, 1) := by decide +kernel
theorem d_Ar_isNumber_1 : decode prog_2_method_2_code 1 = .ok (.getfield 7, 3) := by decide +kernel
theorem d_Ar_isNumber_4 : decode prog_2_method_2_code 4 = .ok (.ifCond .eq 11, 3) := by decide +kernel
theorem d_Ar_isNumber_7 : decode prog_2_method_2_code 7 = .ok (.aload_n 0, 1) := by decide +kernel
theorem d_Ar_isNumber_8 : decode prog_2_method_2_code 8 = .ok (.getfield 7, 3) := by decide +kernel
theorem d_Ar_isNumber_11 : decode prog_2_method_2_code 11 = .ok (.iconst 1, 1) := by decide +kernel
theorem d_Ar_isNumber_12 : decode prog_2_method_2_code 12 = .ok (.if_icmp .ne 7, 3) := by decide +kernel
theorem d_Ar_isNumber_15 : decode prog_2_method_2_code 15 = .ok (.iconst 1, 1) := by decide +kernel
theorem d_Ar_isNumber_16 : decode prog_2_method_2_code 16 = .ok (.goto 4, 3) := by decide +kernel
theorem d_Ar_isNumber_19 : decode prog_2_method_2_code 19 = .ok (.iconst 0, 1) := by decide +kernel
theorem d_Ar_isNumber_20 : decode prog_2_method_2_code 20 = .ok (.ireturn, 1) := by decide +kernel
set_option maxHeartbeats 4000000 in
set_option maxRecDepth 100000 in
theorem c_Ar_isNumber (l : Launch) (dC : Nat → ClassId) (dI : Nat → Nat → Nat) (h : Nat) (k : Int32) (x : Int64) (z : Value)  : zR_i l y_Ar_isNumber w_Ar_isNumber { frames := 0, cells := 0, slots := 0, locals := 0 } (dC, dI) vwCl [.ref h] [(h, .inr (0, [.int k, .long x, z]))] [] (fun r : Int32 => r = by_z (decide (k = 0 ∨ k = 1))) := by
  refine zz_enterR (cc := prog_2_method_2_code) (nL := 1) (ret := (some .boolean)) (by decide) rfl (Nat.le_of_ble_eq_true rfl) ?_
  intro p e s m below meth c ls C0 hP hK hl
  obtain ⟨hx, hb, hml, hown, hg, hr, hlocks, hin⟩ := C0
  have hS : va_S (fun _ => False) s.heap s.heap [] := va_S.rf
  have hown : s.vm.findClass "TextForge$Argument" = some m.cls := hown
  have hP : va_P (dC, dI) vwCl [(h, .inr (0, [.int k, .long x, z]))] s.heap := hP
  have hK : va_K (dC, dI) vwCl [] s := hK
  have hl : lv_has ls 1 [(0, .ref h)] := hl
  refine lv_aload_n hx hb d_Ar_isNumber_0 rfl (lv_at hl 0 rfl) ?_
  refine va_get (D := (dC, dI)) (ci := 0) (v := .int k) (C := "TextForge$Argument") (T := TX0) (N := 3) hx hb hg iwX0 hown hK hP 0 rfl rfl 0 (by decide) (hg _ kw_601) (fun _ h9 => h9) rfl d_Ar_isNumber_1 ?_
  refine lv_if_eq (tgt := 15) hx hb d_Ar_isNumber_4 (by decide) (fun c_4 => ?_) (fun c_4 => ?_)
  · skip
    refine lv_iconst (v := 1) hx hb d_Ar_isNumber_15 (by decide) ?_
    refine lv_goto (tgt := 20) hx hb d_Ar_isNumber_16 (by decide) ?_
    exact zz_zretR hx hb hr hlocks d_Ar_isNumber_20 rfl (by rw [decide_eq_true (Or.inl c_4)]; rfl)
  · skip
    refine lv_aload_n hx hb d_Ar_isNumber_7 rfl (lv_at hl 0 rfl) ?_
    refine va_get (D := (dC, dI)) (ci := 0) (v := .int k) (C := "TextForge$Argument") (T := TX0) (N := 3) hx hb hg iwX0 hown hK hP 0 rfl rfl 0 (by decide) (hg _ kw_601) (fun _ h9 => h9) rfl d_Ar_isNumber_8 ?_
    refine lv_iconst (v := 1) hx hb d_Ar_isNumber_11 (by decide) ?_
    refine lv_icmp_ne (tgt := 19) hx hb d_Ar_isNumber_12 (by decide) (fun c_12 => ?_) (fun c_12 => ?_)
    · skip
      refine lv_iconst (v := 0) hx hb d_Ar_isNumber_19 (by decide) ?_
      exact zz_zretR hx hb hr hlocks d_Ar_isNumber_20 rfl (by rw [decide_eq_false (fun z => z.elim c_4 c_12)]; rfl)
    · skip
      refine lv_iconst (v := 1) hx hb d_Ar_isNumber_15 (by decide) ?_
      refine lv_goto (tgt := 20) hx hb d_Ar_isNumber_16 (by decide) ?_
      exact zz_zretR hx hb hr hlocks d_Ar_isNumber_20 rfl (by rw [decide_eq_true (Or.inr c_12)]; rfl)
abbrev y_Ar_isTruth : MethodName := ⟨"TextForge$Argument", "isTruth", "()Z"⟩
abbrev w_Ar_isTruth : List Cond := Cond.code y_Ar_isTruth prog_2_method_3_code 1 (some .boolean) :: gw
theorem d_Ar_isTruth_0 : decode prog_2_method_3_code 0 = .ok (.aload_n 0, 1) := by decide +kernel
theorem d_Ar_isTruth_1 : decode prog_2_method_3_code 1 = .ok (.getfield 7, 3) := by decide +kernel
theorem d_Ar_isTruth_4 : decode prog_2_method_3_code 4 = .ok (.iconst 2, 1) := by decide +kernel
theorem d_Ar_isTruth_5 : decode prog_2_method_3_code 5 = .ok (.if_icmp .ne 7, 3) := by decide +kernel
theorem d_Ar_isTruth_8 : decode prog_2_method_3_code 8 = .ok (.iconst 1, 1) := by decide +kernel
theorem d_Ar_isTruth_9 : decode prog_2_method_3_code 9 = .ok (.goto 4, 3) := by decide +kernel
theorem d_Ar_isTruth_12 : decode prog_2_method_3_code 12 = .ok (.iconst 0, 1) := by decide +kernel
theorem d_Ar_isTruth_13 : decode prog_2_method_3_code 13 = .ok (.ireturn, 1) := by decide +kernel
set_option maxHeartbeats 4000000 in
set_option maxRecDepth 100000 in
theorem c_Ar_isTruth (l : Launch) (dC : Nat → ClassId) (dI : Nat → Nat → Nat) (h : Nat) (k : Int32) (x : Int64) (z : Value)  : zR_i l y_Ar_isTruth w_Ar_isTruth { frames := 0, cells := 0, slots := 0, locals := 0 } (dC, dI) vwCl [.ref h] [(h, .inr (0, [.int k, .long x, z]))] [] (fun r : Int32 => r = by_z (decide (k = 2))) := by
  refine zz_enterR (cc := prog_2_method_3_code) (nL := 1) (ret := (some .boolean)) (by decide) rfl (Nat.le_of_ble_eq_true rfl) ?_
  intro p e s m below meth c ls C0 hP hK hl
  obtain ⟨hx, hb, hml, hown, hg, hr, hlocks, hin⟩ := C0
  have hS : va_S (fun _ => False) s.heap s.heap [] := va_S.rf
  have hown : s.vm.findClass "TextForge$Argument" = some m.cls := hown
  have hP : va_P (dC, dI) vwCl [(h, .inr (0, [.int k, .long x, z]))] s.heap := hP
  have hK : va_K (dC, dI) vwCl [] s := hK
  have hl : lv_has ls 1 [(0, .ref h)] := hl
  refine lv_aload_n hx hb d_Ar_isTruth_0 rfl (lv_at hl 0 rfl) ?_
  refine va_get (D := (dC, dI)) (ci := 0) (v := .int k) (C := "TextForge$Argument") (T := TX0) (N := 3) hx hb hg iwX0 hown hK hP 0 rfl rfl 0 (by decide) (hg _ kw_601) (fun _ h9 => h9) rfl d_Ar_isTruth_1 ?_
  refine lv_iconst (v := 2) hx hb d_Ar_isTruth_4 (by decide) ?_
  refine lv_icmp_ne (tgt := 12) hx hb d_Ar_isTruth_5 (by decide) (fun c_5 => ?_) (fun c_5 => ?_)
  · skip
    refine lv_iconst (v := 0) hx hb d_Ar_isTruth_12 (by decide) ?_
    exact zz_zretR hx hb hr hlocks d_Ar_isTruth_13 rfl (by rw [decide_eq_false c_5]; rfl)
  · skip
    refine lv_iconst (v := 1) hx hb d_Ar_isTruth_8 (by decide) ?_
    refine lv_goto (tgt := 13) hx hb d_Ar_isTruth_9 (by decide) ?_
    exact zz_zretR hx hb hr hlocks d_Ar_isTruth_13 rfl (by rw [decide_eq_true c_5]; rfl)
abbrev y_Ar_isBelowZero : MethodName := ⟨"TextForge$Argument", "isBelowZero", "()Z"⟩
abbrev w_Ar_isBelowZero : List Cond := Cond.code y_Ar_isBelowZero prog_2_method_4_code 1 (some .boolean) :: gw
theorem d_Ar_isBelowZero_0 : decode prog_2_method_4_code 0 = .ok (.aload_n 0, 1) := by decide +kernel
theorem d_Ar_isBelowZero_1 : decode prog_2_method_4_code 1 = .ok (.getfield 7, 3) := by decide +kernel
theorem d_Ar_isBelowZero_4 : decode prog_2_method_4_code 4 = .ok (.ifCond .ne 16, 3) := by decide +kernel
theorem d_Ar_isBelowZero_7 : decode prog_2_method_4_code 7 = .ok (.aload_n 0, 1) := by decide +kernel
theorem d_Ar_isBelowZero_8 : decode prog_2_method_4_code 8 = .ok (.getfield 13, 3) := by decide +kernel
theorem d_Ar_isBelowZero_11 : decode prog_2_method_4_code 11 = .ok (.lconst 0, 1) := by decide +kernel
theorem d_Ar_isBelowZero_12 : decode prog_2_method_4_code 12 = .ok (.lcmp, 1) := by decide +kernel
theorem d_Ar_isBelowZero_13 : decode prog_2_method_4_code 13 = .ok (.ifCond .ge 7, 3) := by decide +kernel
theorem d_Ar_isBelowZero_16 : decode prog_2_method_4_code 16 = .ok (.iconst 1, 1) := by decide +kernel
theorem d_Ar_isBelowZero_17 : decode prog_2_method_4_code 17 = .ok (.goto 4, 3) := by decide +kernel
theorem d_Ar_isBelowZero_20 : decode prog_2_method_4_code 20 = .ok (.iconst 0, 1) := by decide +kernel
theorem d_Ar_isBelowZero_21 : decode prog_2_method_4_code 21 = .ok (.ireturn, 1) := by decide +kernel
set_option maxHeartbeats 4000000 in
set_option maxRecDepth 100000 in
theorem c_Ar_isBelowZero (l : Launch) (dC : Nat → ClassId) (dI : Nat → Nat → Nat) (h : Nat) (k : Int32) (x : Int64) (z : Value)  : zR_i l y_Ar_isBelowZero w_Ar_isBelowZero { frames := 0, cells := 0, slots := 0, locals := 0 } (dC, dI) vwCl [.ref h] [(h, .inr (0, [.int k, .long x, z]))] [] (fun r : Int32 => r = by_z (ar_b k x)) := by
  refine zz_enterR (cc := prog_2_method_4_code) (nL := 1) (ret := (some .boolean)) (by decide) rfl (Nat.le_of_ble_eq_true rfl) ?_
  intro p e s m below meth c ls C0 hP hK hl
  obtain ⟨hx, hb, hml, hown, hg, hr, hlocks, hin⟩ := C0
  have hS : va_S (fun _ => False) s.heap s.heap [] := va_S.rf
  have hown : s.vm.findClass "TextForge$Argument" = some m.cls := hown
  have hP : va_P (dC, dI) vwCl [(h, .inr (0, [.int k, .long x, z]))] s.heap := hP
  have hK : va_K (dC, dI) vwCl [] s := hK
  have hl : lv_has ls 1 [(0, .ref h)] := hl
  refine lv_aload_n hx hb d_Ar_isBelowZero_0 rfl (lv_at hl 0 rfl) ?_
  refine va_get (D := (dC, dI)) (ci := 0) (v := .int k) (C := "TextForge$Argument") (T := TX0) (N := 3) hx hb hg iwX0 hown hK hP 0 rfl rfl 0 (by decide) (hg _ kw_601) (fun _ h9 => h9) rfl d_Ar_isBelowZero_1 ?_
  refine lv_if_ne (tgt := 20) hx hb d_Ar_isBelowZero_4 (by decide) (fun c_4 => ?_) (fun c_4 => ?_)
  · skip
    refine lv_iconst (v := 0) hx hb d_Ar_isBelowZero_20 (by decide) ?_
    exact zz_zretR hx hb hr hlocks d_Ar_isBelowZero_21 rfl (by unfold ar_b; rw [decide_eq_false (fun z => c_4 z.1)]; rfl)
  · skip
    refine lv_aload_n hx hb d_Ar_isBelowZero_7 rfl (lv_at hl 0 rfl) ?_
    refine va_get (D := (dC, dI)) (ci := 0) (v := .long x) (C := "TextForge$Argument") (T := TX0) (N := 3) hx hb hg iwX0 hown hK hP 0 rfl rfl 1 (by decide) (hg _ kw_602) (fun _ h9 => h9) rfl d_Ar_isBelowZero_8 ?_
    refine lv_lconst (v := 0) hx hb d_Ar_isBelowZero_11 (by decide) ?_
    refine W.lcmp hx hb d_Ar_isBelowZero_12 ?_
    refine lv_if_ge (tgt := 20) hx hb d_Ar_isBelowZero_13 (by decide) (fun c_13 => ?_) (fun c_13 => ?_)
    · skip
      refine lv_iconst (v := 0) hx hb d_Ar_isBelowZero_20 (by decide) ?_
      exact zz_zretR hx hb hr hlocks d_Ar_isBelowZero_21 rfl (by unfold ar_b; rw [decide_eq_false (fun z => ar_n1 c_13 z.2)]; rfl)
    · skip
      refine lv_iconst (v := 1) hx hb d_Ar_isBelowZero_16 (by decide) ?_
      refine lv_goto (tgt := 21) hx hb d_Ar_isBelowZero_17 (by decide) ?_
      exact zz_zretR hx hb hr hlocks d_Ar_isBelowZero_21 rfl (by unfold ar_b; rw [decide_eq_true ⟨c_4, ar_n2 c_13⟩]; rfl)
abbrev y_Ar_value : MethodName := ⟨"TextForge$Argument", "value", "()J"⟩
abbrev w_Ar_value : List Cond := Cond.code y_Ar_value prog_2_method_5_code 1 (some .long) :: gw
theorem d_Ar_value_0 : decode prog_2_method_5_code 0 = .ok (.aload_n 0, 1) := by decide +kernel
theorem d_Ar_value_1 : decode prog_2_method_5_code 1 = .ok (.getfield 13, 3) := by decide +kernel
theorem d_Ar_value_4 : decode prog_2_method_5_code 4 = .ok (.lreturn, 1) := by decide +kernel
set_option maxHeartbeats 4000000 in
set_option maxRecDepth 100000 in
theorem c_Ar_value (l : Launch) (dC : Nat → ClassId) (dI : Nat → Nat → Nat) (h : Nat) (k : Int32) (x : Int64) (z : Value)  : zR_l l y_Ar_value w_Ar_value { frames := 0, cells := 0, slots := 0, locals := 0 } (dC, dI) vwCl [.ref h] [(h, .inr (0, [.int k, .long x, z]))] [] (fun r : Int64 => r = x) := by
  refine zz_enterR (cc := prog_2_method_5_code) (nL := 1) (ret := (some .long)) (by decide) rfl (Nat.le_of_ble_eq_true rfl) ?_
  intro p e s m below meth c ls C0 hP hK hl
  obtain ⟨hx, hb, hml, hown, hg, hr, hlocks, hin⟩ := C0
  have hS : va_S (fun _ => False) s.heap s.heap [] := va_S.rf
  have hown : s.vm.findClass "TextForge$Argument" = some m.cls := hown
  have hP : va_P (dC, dI) vwCl [(h, .inr (0, [.int k, .long x, z]))] s.heap := hP
  have hK : va_K (dC, dI) vwCl [] s := hK
  have hl : lv_has ls 1 [(0, .ref h)] := hl
  refine lv_aload_n hx hb d_Ar_value_0 rfl (lv_at hl 0 rfl) ?_
  refine va_get (D := (dC, dI)) (ci := 0) (v := .long x) (C := "TextForge$Argument") (T := TX0) (N := 3) hx hb hg iwX0 hown hK hP 0 rfl rfl 1 (by decide) (hg _ kw_602) (fun _ h9 => h9) rfl d_Ar_value_1 ?_
  exact zz_lretR hx hb hr hlocks d_Ar_value_4 rfl
abbrev y_Ar_magnitude : MethodName := ⟨"TextForge$Argument", "magnitude", "()J"⟩
abbrev w_Ar_magnitude : List Cond := Cond.code y_Ar_magnitude prog_2_method_6_code 1 (some .long) :: gw
theorem d_Ar_magnitude_0 : decode prog_2_method_6_code 0 = .ok (.aload_n 0, 1) := by decide +kernel
theorem d_Ar_magnitude_1 : decode prog_2_method_6_code 1 = .ok (.invokevirtual 21, 3) := by decide +kernel
theorem d_Ar_magnitude_4 : decode prog_2_method_6_code 4 = .ok (.ifCond .eq 11, 3) := by decide +kernel
theorem d_Ar_magnitude_7 : decode prog_2_method_6_code 7 = .ok (.aload_n 0, 1) := by decide +kernel
theorem d_Ar_magnitude_8 : decode prog_2_method_6_code 8 = .ok (.getfield 13, 3) := by decide +kernel
theorem d_Ar_magnitude_11 : decode prog_2_method_6_code 11 = .ok (.lneg, 1) := by decide +kernel
theorem d_Ar_magnitude_12 : decode prog_2_method_6_code 12 = .ok (.goto 7, 3) := by decide +kernel
theorem d_Ar_magnitude_15 : decode prog_2_method_6_code 15 = .ok (.aload_n 0, 1) := by decide +kernel
theorem d_Ar_magnitude_16 : decode prog_2_method_6_code 16 = .ok (.getfield 13, 3) := by decide +kernel
theorem d_Ar_magnitude_19 : decode prog_2_method_6_code 19 = .ok (.lreturn, 1) := by decide +kernel
set_option maxHeartbeats 4000000 in
set_option maxRecDepth 100000 in
theorem c_Ar_magnitude (l : Launch) (dC : Nat → ClassId) (dI : Nat → Nat → Nat) (h : Nat) (k : Int32) (x : Int64) (z : Value)  : zR_l l y_Ar_magnitude w_Ar_magnitude { frames := 1, cells := 0, slots := 0, locals := 20 } (dC, dI) vwCl [.ref h] [(h, .inr (0, [.int k, .long x, z]))] [] (fun r : Int64 => r = lN (ar_m k x)) := by
  refine zz_enterR (cc := prog_2_method_6_code) (nL := 1) (ret := (some .long)) (by decide) rfl (Nat.le_of_ble_eq_true rfl) ?_
  intro p e s m below meth c ls C0 hP hK hl
  obtain ⟨hx, hb, hml, hown, hg, hr, hlocks, hin⟩ := C0
  have hS : va_S (fun _ => False) s.heap s.heap [] := va_S.rf
  have hown : s.vm.findClass "TextForge$Argument" = some m.cls := hown
  have hP : va_P (dC, dI) vwCl [(h, .inr (0, [.int k, .long x, z]))] s.heap := hP
  have hK : va_K (dC, dI) vwCl [] s := hK
  have hl : lv_has ls 1 [(0, .ref h)] := hl
  refine lv_aload_n hx hb d_Ar_magnitude_0 rfl (lv_at hl 0 rfl) ?_
  have hPc := hP.sub (ws' := [(h, .inr (0, [.int k, .long x, z]))]) [0] rfl
  have hKc := hK.sub (tys' := []) [] rfl
  refine vp_callSi (W.runV (As := []) (rest := []) ⟨hx, hb, hml, hown, hg⟩ (c_Ar_isBelowZero l dC dI h k x z ) (cwV 0 hg (gi_V kw_252 kw_253 kw_254 kw_14 kw_255) rfl rfl rfl (by decide +kernel) ⟨Nat.le_of_ble_eq_true rfl, Nat.le_of_ble_eq_true rfl⟩) (zz_prJV hPc hKc _ (q0 := 0) (ci := 0) rfl rfl) rfl rfl hl.1 rfl (lv_room (Nat.le_of_ble_eq_true rfl)) d_Ar_magnitude_1 ⟨Nat.le_of_ble_eq_true rfl, Nat.le_of_ble_eq_true rfl⟩) (fun r1 hr1 => ?_)
  refine lv_if_eq (tgt := 15) hx hb d_Ar_magnitude_4 (by decide) (fun c_4 => ?_) (fun c_4 => ?_)
  · skip
    refine lv_aload_n hx hb d_Ar_magnitude_15 rfl (lv_at hl 0 rfl) ?_
    refine va_get (D := (dC, dI)) (ci := 0) (v := .long x) (C := "TextForge$Argument") (T := TX0) (N := 3) hx hb hg iwX0 hown hK hP 0 rfl rfl 1 (by decide) (hg _ kw_602) (fun _ h9 => h9) rfl d_Ar_magnitude_16 ?_
    exact zz_lretR hx hb hr hlocks d_Ar_magnitude_19 (ar_m0 (by_z_f hr1 c_4))
  · skip
    refine lv_aload_n hx hb d_Ar_magnitude_7 rfl (lv_at hl 0 rfl) ?_
    refine va_get (D := (dC, dI)) (ci := 0) (v := .long x) (C := "TextForge$Argument") (T := TX0) (N := 3) hx hb hg iwX0 hown hK hP 0 rfl rfl 1 (by decide) (hg _ kw_602) (fun _ h9 => h9) rfl d_Ar_magnitude_8 ?_
    refine lv_lneg hx hb d_Ar_magnitude_11 ?_
    refine lv_goto (tgt := 19) hx hb d_Ar_magnitude_12 (by decide) ?_
    exact zz_lretR hx hb hr hlocks d_Ar_magnitude_19 (ar_m1 (by_z_t hr1 c_4))
abbrev y_Ar_content : MethodName := ⟨"TextForge$Argument", "content", "()LTextForge$Bytes;"⟩
abbrev w_Ar_content : List Cond := Cond.code y_Ar_content prog_2_method_7_code 1 (some (.object "TextForge$Bytes")) :: gw
theorem d_Ar_content_0 : decode prog_2_method_7_code 0 = .ok (.aload_n 0, 1) := by decide +kernel
theorem d_Ar_content_1 : decode prog_2_method_7_code 1 = .ok (.getfield 17, 3) := by decide +kernel
theorem d_Ar_content_4 : decode prog_2_method_7_code 4 = .ok (.areturn, 1) := by decide +kernel
set_option maxHeartbeats 4000000 in
set_option maxRecDepth 100000 in
theorem c_Ar_content0 (l : Launch) (dC : Nat → ClassId) (dI : Nat → Nat → Nat) (h : Nat) (k : Int32) (x : Int64)  : zR_q l y_Ar_content w_Ar_content { frames := 0, cells := 0, slots := 0, locals := 0 } (dC, dI) vwCl [.ref h] [(h, .inr (0, [.int k, .long x, .null]))] [] (fun r : Option Nat => r = none) := by
  refine zz_enterR (cc := prog_2_method_7_code) (nL := 1) (ret := (some (.object "TextForge$Bytes"))) (by decide) rfl (Nat.le_of_ble_eq_true rfl) ?_
  intro p e s m below meth c ls C0 hP hK hl
  obtain ⟨hx, hb, hml, hown, hg, hr, hlocks, hin⟩ := C0
  have hS : va_S (fun _ => False) s.heap s.heap [] := va_S.rf
  have hown : s.vm.findClass "TextForge$Argument" = some m.cls := hown
  have hP : va_P (dC, dI) vwCl [(h, .inr (0, [.int k, .long x, .null]))] s.heap := hP
  have hK : va_K (dC, dI) vwCl [] s := hK
  have hl : lv_has ls 1 [(0, .ref h)] := hl
  refine lv_aload_n hx hb d_Ar_content_0 rfl (lv_at hl 0 rfl) ?_
  refine va_get (D := (dC, dI)) (ci := 0) (v := .null) (C := "TextForge$Argument") (T := TX0) (N := 3) hx hb hg iwX0 hown hK hP 0 rfl rfl 2 (by decide) (hg _ kw_603) (fun _ h9 => h9) rfl d_Ar_content_1 ?_
  exact zz_qretR (r := none) hx hb hr hlocks d_Ar_content_4 rfl
set_option maxHeartbeats 4000000 in
set_option maxRecDepth 100000 in
theorem c_Ar_contentR (l : Launch) (dC : Nat → ClassId) (dI : Nat → Nat → Nat) (h : Nat) (k : Int32) (x : Int64) (b : Nat)  : zR_q l y_Ar_content w_Ar_content { frames := 0, cells := 0, slots := 0, locals := 0 } (dC, dI) vwCl [.ref h] [(h, .inr (0, [.int k, .long x, .ref b]))] [] (fun r : Option Nat => r = some b) := by
  refine zz_enterR (cc := prog_2_method_7_code) (nL := 1) (ret := (some (.object "TextForge$Bytes"))) (by decide) rfl (Nat.le_of_ble_eq_true rfl) ?_
  intro p e s m below meth c ls C0 hP hK hl
  obtain ⟨hx, hb, hml, hown, hg, hr, hlocks, hin⟩ := C0
  have hS : va_S (fun _ => False) s.heap s.heap [] := va_S.rf
  have hown : s.vm.findClass "TextForge$Argument" = some m.cls := hown
  have hP : va_P (dC, dI) vwCl [(h, .inr (0, [.int k, .long x, .ref b]))] s.heap := hP
  have hK : va_K (dC, dI) vwCl [] s := hK
  have hl : lv_has ls 1 [(0, .ref h)] := hl
  refine lv_aload_n hx hb d_Ar_content_0 rfl (lv_at hl 0 rfl) ?_
  refine va_get (D := (dC, dI)) (ci := 0) (v := .ref b) (C := "TextForge$Argument") (T := TX0) (N := 3) hx hb hg iwX0 hown hK hP 0 rfl rfl 2 (by decide) (hg _ kw_603) (fun _ h9 => h9) rfl d_Ar_content_1 ?_
  exact zz_qretR (r := some b) hx hb hr hlocks d_Ar_content_4 rfl
abbrev y_Ar_init : MethodName := ⟨"TextForge$Argument", "<init>", "(IJLTextForge$Bytes;)V"⟩
abbrev w_Ar_init : List Cond := Cond.code y_Ar_init prog_2_method_1_code 5 none :: gw
theorem d_Ar_init_0 : decode prog_2_method_1_code 0 = .ok (.aload_n 0, 1) := by decide +kernel
theorem d_Ar_init_1 : decode prog_2_method_1_code 1 = .ok (.invokespecial 1, 3) := by decide +kernel
theorem d_Ar_init_4 : decode prog_2_method_1_code 4 = .ok (.aload_n 0, 1) := by decide +kernel
theorem d_Ar_init_5 : decode prog_2_method_1_code 5 = .ok (.iload_n 1, 1) := by decide +kernel
theorem d_Ar_init_6 : decode prog_2_method_1_code 6 = .ok (.putfield 7, 3) := by decide +kernel
theorem d_Ar_init_9 : decode prog_2_method_1_code 9 = .ok (.aload_n 0, 1) := by decide +kernel
theorem d_Ar_init_10 : decode prog_2_method_1_code 10 = .ok (.lload_n 2, 1) := by decide +kernel
theorem d_Ar_init_11 : decode prog_2_method_1_code 11 = .ok (.putfield 13, 3) := by decide +kernel
theorem d_Ar_init_14 : decode prog_2_method_1_code 14 = .ok (.aload_n 0, 1) := by decide +kernel
theorem d_Ar_init_15 : decode prog_2_method_1_code 15 = .ok (.aload 4, 2) := by decide +kernel
theorem d_Ar_init_17 : decode prog_2_method_1_code 17 = .ok (.putfield 17, 3) := by decide +kernel
theorem d_Ar_init_20 : decode prog_2_method_1_code 20 = .ok (.return_, 1) := by decide +kernel
set_option maxHeartbeats 4000000 in
set_option maxRecDepth 100000 in
theorem c_Ar_init0 (l : Launch) (dC : Nat → ClassId) (dI : Nat → Nat → Nat) (h : Nat) (y0 y1 y2 : Value) (k : Int32) (x : Int64)  : zM_v (S := Unit) l y_Ar_init w_Ar_init { frames := 1, cells := 0, slots := 0, locals := 12 } (dC, dI) vwCl [.ref h, .int k, .long x, .null] [(h, .inr (0, [y0, y1, y2]))] [] (fun (u : Unit) => True) (fun u => [(h, .inr (0, [.int k, .long x, .null]))]) (fun u => []) 0 0 := by
  refine zz_enterv (cc := prog_2_method_1_code) (nL := 5) (ret := none) (by decide) rfl (Nat.le_of_ble_eq_true rfl) ?_
  intro p e s m below meth c A ls C0 hA hS hP hK hD hl
  obtain ⟨hx, hb, hml, hown, hg, hr, hlocks, hin⟩ := C0
  have hown : s.vm.findClass "TextForge$Argument" = some m.cls := hown
  have hP : va_P (dC, dI) vwCl [(h, .inr (0, [y0, y1, y2]))] s.heap := hP
  have hK : va_K (dC, dI) vwCl [] s := hK
  have hD : va_D A [(h, .inr (0, [y0, y1, y2]))] := hD
  have hl : lv_has ls 5 [(0, .ref h), (1, .int k), (2, .long x), (4, .null)] := hl
  refine lv_aload_n hx hb d_Ar_init_0 rfl (lv_at hl 0 rfl) ?_
  refine W.objInit hx hb hown (hg _ kw_600) (hg _ kw_29) (hg _ kw_30) rfl (by rw [hml]; exact hl.1) rfl d_Ar_init_1 (Nat.le_of_ble_eq_true rfl) (Nat.le_of_ble_eq_true rfl) ?_
  refine W.eq (g2 := F0 m 4 ls []) rfl ?_
  refine lv_aload_n hx hb d_Ar_init_4 rfl (lv_at hl 0 rfl) ?_
  refine lv_iload_n hx hb d_Ar_init_5 rfl (lv_at hl 1 rfl) ?_
  refine va_putF (D := (dC, dI)) (ci := 0) (v := .int k) (ty := .int) (C := "TextForge$Argument") (T := TX0) (N := 3) hx hb hg iwX0 tyX0 tyX0_ok nmX0 hown hK hP hD hS 0 rfl rfl 0 (by decide) (hg _ kw_601) (fun _ h9 => h9) rfl hin rfl (by decide +kernel) rfl rfl (Nat.le_of_ble_eq_true rfl) d_Ar_init_6 (fun H locs hP hD hS => ?_)
  have hP : va_P (dC, dI) vwCl [(h, .inr (0, [.int k, y1, y2]))] H := hP
  have hD : va_D A [(h, .inr (0, [.int k, y1, y2]))] := hD
  refine lv_aload_n hx hb d_Ar_init_9 rfl (lv_at hl 0 rfl) ?_
  refine lv_lload_n hx hb d_Ar_init_10 rfl (lv_at hl 2 rfl) ?_
  refine va_putF (D := (dC, dI)) (ci := 0) (v := .long x) (ty := .long) (C := "TextForge$Argument") (T := TX0) (N := 3) hx hb hg iwX0 tyX0 tyX0_ok nmX0 hown hK hP hD hS 0 rfl rfl 1 (by decide) (hg _ kw_602) (fun _ h9 => h9) rfl hin rfl (by decide +kernel) rfl rfl (Nat.le_of_ble_eq_true rfl) d_Ar_init_11 (fun H locs hP hD hS => ?_)
  have hP : va_P (dC, dI) vwCl [(h, .inr (0, [.int k, .long x, y2]))] H := hP
  have hD : va_D A [(h, .inr (0, [.int k, .long x, y2]))] := hD
  refine lv_aload_n hx hb d_Ar_init_14 rfl (lv_at hl 0 rfl) ?_
  refine lv_aloadN hx hb d_Ar_init_15 (lv_at hl 3 rfl) ?_
  refine va_putF (D := (dC, dI)) (ci := 0) (v := .null) (ty := .object "TextForge$Bytes") (C := "TextForge$Argument") (T := TX0) (N := 3) hx hb hg iwX0 tyX0 tyX0_ok nmX0 hown hK hP hD hS 0 rfl rfl 2 (by decide) (hg _ kw_603) (fun _ h9 => h9) rfl hin rfl (by decide +kernel) rfl rfl (Nat.le_of_ble_eq_true rfl) d_Ar_init_17 (fun H locs hP hD hS => ?_)
  have hP : va_P (dC, dI) vwCl [(h, .inr (0, [.int k, .long x, .null]))] H := hP
  have hD : va_D A [(h, .inr (0, [.int k, .long x, .null]))] := hD
  have hP9 := hP.sub (ws' := [(h, .inr (0, [.int k, .long x, .null]))]) [0] rfl
  have hD9 := hD.sub (ws' := [(h, .inr (0, [.int k, .long x, .null]))]) [0] (by decide) rfl
  have hK9 := hK.sub (tys' := []) [] rfl
  exact zz_vret hx hb hr hlocks d_Ar_init_20 hS (by first | exact Nat.le_refl _ | decide | omega | (dsimp only; omega)) (by first | exact Nat.le_refl _ | decide | omega | (dsimp only; omega)) () trivial hP9 hK9 hD9
set_option maxHeartbeats 4000000 in
set_option maxRecDepth 100000 in
theorem c_Ar_initR (l : Launch) (dC : Nat → ClassId) (dI : Nat → Nat → Nat) (h : Nat) (y0 y1 y2 : Value) (k : Int32) (x : Int64) (b : Nat)  : zM_v (S := Unit) l y_Ar_init w_Ar_init { frames := 1, cells := 0, slots := 0, locals := 12 } (dC, dI) vwCl [.ref h, .int k, .long x, .ref b] [(h, .inr (0, [y0, y1, y2]))] [] (fun (u : Unit) => True) (fun u => [(h, .inr (0, [.int k, .long x, .ref b]))]) (fun u => []) 0 0 := by
  refine zz_enterv (cc := prog_2_method_1_code) (nL := 5) (ret := none) (by decide) rfl (Nat.le_of_ble_eq_true rfl) ?_
  intro p e s m below meth c A ls C0 hA hS hP hK hD hl
  obtain ⟨hx, hb, hml, hown, hg, hr, hlocks, hin⟩ := C0
  have hown : s.vm.findClass "TextForge$Argument" = some m.cls := hown
  have hP : va_P (dC, dI) vwCl [(h, .inr (0, [y0, y1, y2]))] s.heap := hP
  have hK : va_K (dC, dI) vwCl [] s := hK
  have hD : va_D A [(h, .inr (0, [y0, y1, y2]))] := hD
  have hl : lv_has ls 5 [(0, .ref h), (1, .int k), (2, .long x), (4, .ref b)] := hl
  refine lv_aload_n hx hb d_Ar_init_0 rfl (lv_at hl 0 rfl) ?_
  refine W.objInit hx hb hown (hg _ kw_600) (hg _ kw_29) (hg _ kw_30) rfl (by rw [hml]; exact hl.1) rfl d_Ar_init_1 (Nat.le_of_ble_eq_true rfl) (Nat.le_of_ble_eq_true rfl) ?_
  refine W.eq (g2 := F0 m 4 ls []) rfl ?_
  refine lv_aload_n hx hb d_Ar_init_4 rfl (lv_at hl 0 rfl) ?_
  refine lv_iload_n hx hb d_Ar_init_5 rfl (lv_at hl 1 rfl) ?_
  refine va_putF (D := (dC, dI)) (ci := 0) (v := .int k) (ty := .int) (C := "TextForge$Argument") (T := TX0) (N := 3) hx hb hg iwX0 tyX0 tyX0_ok nmX0 hown hK hP hD hS 0 rfl rfl 0 (by decide) (hg _ kw_601) (fun _ h9 => h9) rfl hin rfl (by decide +kernel) rfl rfl (Nat.le_of_ble_eq_true rfl) d_Ar_init_6 (fun H locs hP hD hS => ?_)
  have hP : va_P (dC, dI) vwCl [(h, .inr (0, [.int k, y1, y2]))] H := hP
  have hD : va_D A [(h, .inr (0, [.int k, y1, y2]))] := hD
  refine lv_aload_n hx hb d_Ar_init_9 rfl (lv_at hl 0 rfl) ?_
  refine lv_lload_n hx hb d_Ar_init_10 rfl (lv_at hl 2 rfl) ?_
  refine va_putF (D := (dC, dI)) (ci := 0) (v := .long x) (ty := .long) (C := "TextForge$Argument") (T := TX0) (N := 3) hx hb hg iwX0 tyX0 tyX0_ok nmX0 hown hK hP hD hS 0 rfl rfl 1 (by decide) (hg _ kw_602) (fun _ h9 => h9) rfl hin rfl (by decide +kernel) rfl rfl (Nat.le_of_ble_eq_true rfl) d_Ar_init_11 (fun H locs hP hD hS => ?_)
  have hP : va_P (dC, dI) vwCl [(h, .inr (0, [.int k, .long x, y2]))] H := hP
  have hD : va_D A [(h, .inr (0, [.int k, .long x, y2]))] := hD
  refine lv_aload_n hx hb d_Ar_init_14 rfl (lv_at hl 0 rfl) ?_
  refine lv_aload hx hb d_Ar_init_15 (lv_at hl 3 rfl) ?_
  refine va_putF (D := (dC, dI)) (ci := 0) (v := .ref b) (ty := .object "TextForge$Bytes") (C := "TextForge$Argument") (T := TX0) (N := 3) hx hb hg iwX0 tyX0 tyX0_ok nmX0 hown hK hP hD hS 0 rfl rfl 2 (by decide) (hg _ kw_603) (fun _ h9 => h9) rfl hin rfl (by decide +kernel) rfl rfl (Nat.le_of_ble_eq_true rfl) d_Ar_init_17 (fun H locs hP hD hS => ?_)
  have hP : va_P (dC, dI) vwCl [(h, .inr (0, [.int k, .long x, .ref b]))] H := hP
  have hD : va_D A [(h, .inr (0, [.int k, .long x, .ref b]))] := hD
  have hP9 := hP.sub (ws' := [(h, .inr (0, [.int k, .long x, .ref b]))]) [0] rfl
  have hD9 := hD.sub (ws' := [(h, .inr (0, [.int k, .long x, .ref b]))]) [0] (by decide) rfl
  have hK9 := hK.sub (tys' := []) [] rfl
  exact zz_vret hx hb hr hlocks d_Ar_init_20 hS (by first | exact Nat.le_refl _ | decide | omega | (dsimp only; omega)) (by first | exact Nat.le_refl _ | decide | omega | (dsimp only; omega)) () trivial hP9 hK9 hD9
abbrev y_Ar_word : MethodName := ⟨"TextForge$Argument", "word", "()Ljava/lang/String;"⟩
abbrev w_Ar_word : List Cond := Cond.code y_Ar_word prog_2_method_8_code 1 (some (.object "java/lang/String")) :: gw
theorem d_Ar_word_0 : decode prog_2_method_8_code 0 = .ok (.aload_n 0, 1) := by decide +kernel
theorem d_Ar_word_1 : decode prog_2_method_8_code 1 = .ok (.getfield 7, 3) := by decide +kernel
theorem d_Ar_word_4 : decode prog_2_method_8_code 4 = .ok (.iconst 2, 1) := by decide +kernel
theorem d_Ar_word_5 : decode prog_2_method_8_code 5 = .ok (.if_icmp .ne 20, 3) := by decide +kernel
theorem d_Ar_word_8 : decode prog_2_method_8_code 8 = .ok (.aload_n 0, 1) := by decide +kernel
theorem d_Ar_word_9 : decode prog_2_method_8_code 9 = .ok (.getfield 13, 3) := by decide +kernel
theorem d_Ar_word_12 : decode prog_2_method_8_code 12 = .ok (.lconst 0, 1) := by decide +kernel
theorem d_Ar_word_13 : decode prog_2_method_8_code 13 = .ok (.lcmp, 1) := by decide +kernel
theorem d_Ar_word_14 : decode prog_2_method_8_code 14 = .ok (.ifCond .eq 8, 3) := by decide +kernel
theorem d_Ar_word_17 : decode prog_2_method_8_code 17 = .ok (.ldc 25, 2) := by decide +kernel
theorem d_Ar_word_19 : decode prog_2_method_8_code 19 = .ok (.goto 5, 3) := by decide +kernel
theorem d_Ar_word_22 : decode prog_2_method_8_code 22 = .ok (.ldc 27, 2) := by decide +kernel
theorem d_Ar_word_24 : decode prog_2_method_8_code 24 = .ok (.areturn, 1) := by decide +kernel
theorem d_Ar_word_25 : decode prog_2_method_8_code 25 = .ok (.aload_n 0, 1) := by decide +kernel
theorem d_Ar_word_26 : decode prog_2_method_8_code 26 = .ok (.getfield 13, 3) := by decide +kernel
theorem d_Ar_word_29 : decode prog_2_method_8_code 29 = .ok (.l2i, 1) := by decide +kernel
theorem d_Ar_word_30 : decode prog_2_method_8_code 30 = .ok (.tableswitch 95 0 8 #[50, 55, 60, 65, 70, 75, 80, 85, 90], 50) := by decide +kernel
theorem d_Ar_word_80 : decode prog_2_method_8_code 80 = .ok (.ldc 29, 2) := by decide +kernel
theorem d_Ar_word_82 : decode prog_2_method_8_code 82 = .ok (.goto 45, 3) := by decide +kernel
theorem d_Ar_word_85 : decode prog_2_method_8_code 85 = .ok (.ldc 31, 2) := by decide +kernel
theorem d_Ar_word_87 : decode prog_2_method_8_code 87 = .ok (.goto 40, 3) := by decide +kernel
theorem d_Ar_word_90 : decode prog_2_method_8_code 90 = .ok (.ldc 33, 2) := by decide +kernel
theorem d_Ar_word_92 : decode prog_2_method_8_code 92 = .ok (.goto 35, 3) := by decide +kernel
theorem d_Ar_word_95 : decode prog_2_method_8_code 95 = .ok (.ldc 35, 2) := by decide +kernel
theorem d_Ar_word_97 : decode prog_2_method_8_code 97 = .ok (.goto 30, 3) := by decide +kernel
theorem d_Ar_word_100 : decode prog_2_method_8_code 100 = .ok (.ldc 37, 2) := by decide +kernel
theorem d_Ar_word_102 : decode prog_2_method_8_code 102 = .ok (.goto 25, 3) := by decide +kernel
theorem d_Ar_word_105 : decode prog_2_method_8_code 105 = .ok (.ldc 39, 2) := by decide +kernel
theorem d_Ar_word_107 : decode prog_2_method_8_code 107 = .ok (.goto 20, 3) := by decide +kernel
theorem d_Ar_word_110 : decode prog_2_method_8_code 110 = .ok (.ldc 41, 2) := by decide +kernel
theorem d_Ar_word_112 : decode prog_2_method_8_code 112 = .ok (.goto 15, 3) := by decide +kernel
theorem d_Ar_word_115 : decode prog_2_method_8_code 115 = .ok (.ldc 43, 2) := by decide +kernel
theorem d_Ar_word_117 : decode prog_2_method_8_code 117 = .ok (.goto 10, 3) := by decide +kernel
theorem d_Ar_word_120 : decode prog_2_method_8_code 120 = .ok (.ldc 45, 2) := by decide +kernel
theorem d_Ar_word_122 : decode prog_2_method_8_code 122 = .ok (.goto 5, 3) := by decide +kernel
theorem d_Ar_word_125 : decode prog_2_method_8_code 125 = .ok (.ldc 47, 2) := by decide +kernel
theorem d_Ar_word_127 : decode prog_2_method_8_code 127 = .ok (.areturn, 1) := by decide +kernel
set_option maxHeartbeats 4000000 in
set_option maxRecDepth 100000 in
theorem c_Ar_word (l : Launch) (dC : Nat → ClassId) (dI : Nat → Nat → Nat) (ad : Nat → Nat) (h : Nat) (k : Nat) (x : Int64) (hw : (k = 2 ∧ (x = 0 ∨ x = 1)) ∨ (k = 4 ∧ ∃ j, j < 10 ∧ x = (nI j - 1).toInt64)) : yR_q ad l y_Ar_word w_Ar_word { frames := 0, cells := 0, slots := 0, locals := 0 } (dC, dI) vwCl [.ref h] [(h, .inr (0, [.int (nI k), .long x, .null]))] [] (fun r : Option Nat => r = some (ad (ar_w k x))) := by
  refine zy_enterR (cc := prog_2_method_8_code) (nL := 1) (ret := (some (.object "java/lang/String"))) (by decide) rfl (Nat.le_of_ble_eq_true rfl) ?_
  intro p e s m below meth c ls C0 hP hK hl hX
  obtain ⟨hx, hb, hml, hown, hg, hr, hlocks, hin⟩ := C0
  have hS : va_S (fun _ => False) s.heap s.heap [] := va_S.rf
  have hown : s.vm.findClass "TextForge$Argument" = some m.cls := hown
  have hP : va_P (dC, dI) vwCl [(h, .inr (0, [.int (nI k), .long x, .null]))] s.heap := hP
  have hK : va_K (dC, dI) vwCl [] s := hK
  have hl : lv_has ls 1 [(0, .ref h)] := hl
  rcases hw with ⟨rfl, rfl | rfl⟩ | ⟨rfl, j, hj, rfl⟩
  · skip
    have hP : va_P (dC, dI) vwCl [(h, .inr (0, [.int (nI 2), .long 0, .null]))] s.heap := hP
    refine lv_aload_n hx hb d_Ar_word_0 rfl (lv_at hl 0 rfl) ?_
    refine va_get (D := (dC, dI)) (ci := 0) (v := .int (nI 2)) (C := "TextForge$Argument") (T := TX0) (N := 3) hx hb hg iwX0 hown hK hP 0 rfl rfl 0 (by decide) (hg _ kw_601) (fun _ h9 => h9) rfl d_Ar_word_1 ?_
    refine lv_iconst (v := 2) hx hb d_Ar_word_4 (by decide) ?_
    refine lv_icmp_ne (tgt := 25) hx hb d_Ar_word_5 (by decide) (fun c9 => by first | exact absurd c9 (fun z => z rfl) | exact absurd (fun z => z rfl) c9) (fun _ => ?_)
    refine lv_aload_n hx hb d_Ar_word_8 rfl (lv_at hl 0 rfl) ?_
    refine va_get (D := (dC, dI)) (ci := 0) (v := .long 0) (C := "TextForge$Argument") (T := TX0) (N := 3) hx hb hg iwX0 hown hK hP 0 rfl rfl 1 (by decide) (hg _ kw_602) (fun _ h9 => h9) rfl d_Ar_word_9 ?_
    refine lv_lconst (v := 0) hx hb d_Ar_word_12 (by decide) ?_
    refine W.lcmp hx hb d_Ar_word_13 ?_
    refine lv_if_eq (tgt := 22) hx hb d_Ar_word_14 (by decide) (fun _ => ?_) (fun c9 => by first | exact absurd c9 (by decide) | exact absurd (by decide) c9)
    refine va_ldcS (q := ad 1) hx hb hown (show vk_R "TextForge$Argument" 27 "false" (ad 1) s from (hX.2.1 1 (by decide)).1) d_Ar_word_22 ?_
    exact zz_qretR (r := some (ad 1)) hx hb hr hlocks d_Ar_word_24 rfl
  · skip
    have hP : va_P (dC, dI) vwCl [(h, .inr (0, [.int (nI 2), .long 1, .null]))] s.heap := hP
    refine lv_aload_n hx hb d_Ar_word_0 rfl (lv_at hl 0 rfl) ?_
    refine va_get (D := (dC, dI)) (ci := 0) (v := .int (nI 2)) (C := "TextForge$Argument") (T := TX0) (N := 3) hx hb hg iwX0 hown hK hP 0 rfl rfl 0 (by decide) (hg _ kw_601) (fun _ h9 => h9) rfl d_Ar_word_1 ?_
    refine lv_iconst (v := 2) hx hb d_Ar_word_4 (by decide) ?_
    refine lv_icmp_ne (tgt := 25) hx hb d_Ar_word_5 (by decide) (fun c9 => by first | exact absurd c9 (fun z => z rfl) | exact absurd (fun z => z rfl) c9) (fun _ => ?_)
    refine lv_aload_n hx hb d_Ar_word_8 rfl (lv_at hl 0 rfl) ?_
    refine va_get (D := (dC, dI)) (ci := 0) (v := .long 1) (C := "TextForge$Argument") (T := TX0) (N := 3) hx hb hg iwX0 hown hK hP 0 rfl rfl 1 (by decide) (hg _ kw_602) (fun _ h9 => h9) rfl d_Ar_word_9 ?_
    refine lv_lconst (v := 0) hx hb d_Ar_word_12 (by decide) ?_
    refine W.lcmp hx hb d_Ar_word_13 ?_
    refine lv_if_eq (tgt := 22) hx hb d_Ar_word_14 (by decide) (fun c9 => by first | exact absurd c9 (by decide) | exact absurd (by decide) c9) (fun _ => ?_)
    refine va_ldcS (q := ad 0) hx hb hown (show vk_R "TextForge$Argument" 25 "true" (ad 0) s from (hX.2.1 0 (by decide)).1) d_Ar_word_17 ?_
    refine lv_goto (tgt := 24) hx hb d_Ar_word_19 (by decide) ?_
    exact zz_qretR (r := some (ad 0)) hx hb hr hlocks d_Ar_word_24 rfl
  · skip
    have hP : va_P (dC, dI) vwCl [(h, .inr (0, [.int (nI 4), .long ((nI j - 1).toInt64), .null]))] s.heap := hP
    refine lv_aload_n hx hb d_Ar_word_0 rfl (lv_at hl 0 rfl) ?_
    refine va_get (D := (dC, dI)) (ci := 0) (v := .int (nI 4)) (C := "TextForge$Argument") (T := TX0) (N := 3) hx hb hg iwX0 hown hK hP 0 rfl rfl 0 (by decide) (hg _ kw_601) (fun _ h9 => h9) rfl d_Ar_word_1 ?_
    refine lv_iconst (v := 2) hx hb d_Ar_word_4 (by decide) ?_
    refine lv_icmp_ne (tgt := 25) hx hb d_Ar_word_5 (by decide) (fun _ => ?_) (fun c9 => by first | exact absurd c9 (by decide) | exact absurd (by decide) c9)
    refine lv_aload_n hx hb d_Ar_word_25 rfl (lv_at hl 0 rfl) ?_
    refine va_get (D := (dC, dI)) (ci := 0) (v := .long ((nI j - 1).toInt64)) (C := "TextForge$Argument") (T := TX0) (N := 3) hx hb hg iwX0 hown hK hP 0 rfl rfl 1 (by decide) (hg _ kw_602) (fun _ h9 => h9) rfl d_Ar_word_26 ?_
    refine lv_l2i hx hb d_Ar_word_29 rfl ?_
    rcases ar_j hj with rfl | rfl | rfl | rfl | rfl | rfl | rfl | rfl | rfl | rfl
    · skip
      refine lv_tableOut (tgt := 125) hx hb d_Ar_word_30 (by decide) (by decide) ?_
      have hl : lv_has ls 1 [(0, .ref h)] := hl
      refine va_ldcS (q := ad 11) hx hb hown (show vk_R "TextForge$Argument" 47 "nil" (ad 11) s from (hX.2.1 11 (by decide)).1) d_Ar_word_125 ?_
      exact zz_qretR (r := some (ad 11)) hx hb hr hlocks d_Ar_word_127 rfl
    · skip
      refine lv_tableIn (tgt := 80) hx hb d_Ar_word_30 (by decide) (by decide) (off := 50) (by decide) (by decide) ?_
      have hl : lv_has ls 1 [(0, .ref h)] := hl
      refine va_ldcS (q := ad 2) hx hb hown (show vk_R "TextForge$Argument" 29 "(ptr)" (ad 2) s from (hX.2.1 2 (by decide)).1) d_Ar_word_80 ?_
      refine lv_goto (tgt := 127) hx hb d_Ar_word_82 (by decide) ?_
      exact zz_qretR (r := some (ad 2)) hx hb hr hlocks d_Ar_word_127 rfl
    · skip
      refine lv_tableIn (tgt := 85) hx hb d_Ar_word_30 (by decide) (by decide) (off := 55) (by decide) (by decide) ?_
      have hl : lv_has ls 1 [(0, .ref h)] := hl
      refine va_ldcS (q := ad 3) hx hb hown (show vk_R "TextForge$Argument" 31 "(func)" (ad 3) s from (hX.2.1 3 (by decide)).1) d_Ar_word_85 ?_
      refine lv_goto (tgt := 127) hx hb d_Ar_word_87 (by decide) ?_
      exact zz_qretR (r := some (ad 3)) hx hb hr hlocks d_Ar_word_127 rfl
    · skip
      refine lv_tableIn (tgt := 90) hx hb d_Ar_word_30 (by decide) (by decide) (off := 60) (by decide) (by decide) ?_
      have hl : lv_has ls 1 [(0, .ref h)] := hl
      refine va_ldcS (q := ad 4) hx hb hown (show vk_R "TextForge$Argument" 33 "(slice)" (ad 4) s from (hX.2.1 4 (by decide)).1) d_Ar_word_90 ?_
      refine lv_goto (tgt := 127) hx hb d_Ar_word_92 (by decide) ?_
      exact zz_qretR (r := some (ad 4)) hx hb hr hlocks d_Ar_word_127 rfl
    · skip
      refine lv_tableIn (tgt := 95) hx hb d_Ar_word_30 (by decide) (by decide) (off := 65) (by decide) (by decide) ?_
      have hl : lv_has ls 1 [(0, .ref h)] := hl
      refine va_ldcS (q := ad 5) hx hb hown (show vk_R "TextForge$Argument" 35 "(map)" (ad 5) s from (hX.2.1 5 (by decide)).1) d_Ar_word_95 ?_
      refine lv_goto (tgt := 127) hx hb d_Ar_word_97 (by decide) ?_
      exact zz_qretR (r := some (ad 5)) hx hb hr hlocks d_Ar_word_127 rfl
    · skip
      refine lv_tableIn (tgt := 100) hx hb d_Ar_word_30 (by decide) (by decide) (off := 70) (by decide) (by decide) ?_
      have hl : lv_has ls 1 [(0, .ref h)] := hl
      refine va_ldcS (q := ad 6) hx hb hown (show vk_R "TextForge$Argument" 37 "(chan)" (ad 6) s from (hX.2.1 6 (by decide)).1) d_Ar_word_100 ?_
      refine lv_goto (tgt := 127) hx hb d_Ar_word_102 (by decide) ?_
      exact zz_qretR (r := some (ad 6)) hx hb hr hlocks d_Ar_word_127 rfl
    · skip
      refine lv_tableIn (tgt := 105) hx hb d_Ar_word_30 (by decide) (by decide) (off := 75) (by decide) (by decide) ?_
      have hl : lv_has ls 1 [(0, .ref h)] := hl
      refine va_ldcS (q := ad 7) hx hb hown (show vk_R "TextForge$Argument" 39 "(interface)" (ad 7) s from (hX.2.1 7 (by decide)).1) d_Ar_word_105 ?_
      refine lv_goto (tgt := 127) hx hb d_Ar_word_107 (by decide) ?_
      exact zz_qretR (r := some (ad 7)) hx hb hr hlocks d_Ar_word_127 rfl
    · skip
      refine lv_tableIn (tgt := 110) hx hb d_Ar_word_30 (by decide) (by decide) (off := 80) (by decide) (by decide) ?_
      have hl : lv_has ls 1 [(0, .ref h)] := hl
      refine va_ldcS (q := ad 8) hx hb hown (show vk_R "TextForge$Argument" 41 "(struct)" (ad 8) s from (hX.2.1 8 (by decide)).1) d_Ar_word_110 ?_
      refine lv_goto (tgt := 127) hx hb d_Ar_word_112 (by decide) ?_
      exact zz_qretR (r := some (ad 8)) hx hb hr hlocks d_Ar_word_127 rfl
    · skip
      refine lv_tableIn (tgt := 115) hx hb d_Ar_word_30 (by decide) (by decide) (off := 85) (by decide) (by decide) ?_
      have hl : lv_has ls 1 [(0, .ref h)] := hl
      refine va_ldcS (q := ad 9) hx hb hown (show vk_R "TextForge$Argument" 43 "(array)" (ad 9) s from (hX.2.1 9 (by decide)).1) d_Ar_word_115 ?_
      refine lv_goto (tgt := 127) hx hb d_Ar_word_117 (by decide) ?_
      exact zz_qretR (r := some (ad 9)) hx hb hr hlocks d_Ar_word_127 rfl
    · skip
      refine lv_tableIn (tgt := 120) hx hb d_Ar_word_30 (by decide) (by decide) (off := 90) (by decide) (by decide) ?_
      have hl : lv_has ls 1 [(0, .ref h)] := hl
      refine va_ldcS (q := ad 10) hx hb hown (show vk_R "TextForge$Argument" 45 "(gate)" (ad 10) s from (hX.2.1 10 (by decide)).1) d_Ar_word_120 ?_
      refine lv_goto (tgt := 127) hx hb d_Ar_word_122 (by decide) ?_
      exact zz_qretR (r := some (ad 10)) hx hb hr hlocks d_Ar_word_127 rfl
