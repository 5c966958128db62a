/-! DIRECTIVE -/
abbrev Dv : Type := Nat × Bool × Bool × Bool × Nat × Nat
/-- a directive takes a byte -/
def di_t (s : Dv) (v : Nat) : Dv := match s with
  | (q, mi, pl, ze, wd, le) =>
    if q = 1 ∧ (v = 45 ∨ v = 43 ∨ v = 48) then (q, mi || v == 45, pl || v == 43, ze || v == 48, wd, le)
    else if q ≠ 3 ∧ 48 ≤ v ∧ v ≤ 57 then (if q = 1 then 2 else 3, mi, pl, ze, wd * 10 + v - 48, le)
    else (0, mi, pl, ze, wd, v)
theorem by_or1 {b : Bool} : by_z b ||| 1 = by_z (b || true) := by cases b <;> decide
theorem by_or0 {b : Bool} : by_z b ||| 0 = by_z (b || false) := by cases b <;> decide
theorem by_zn {b : Bool} : narrow .boolean (.int (by_z b)) = .int (by_z b) := by cases b <;> rfl
theorem by_zf {b : Bool} : fits .boolean (.int (by_z b)) = true := by cases b <;> rfl
theorem di_w {wd v : Nat} (h : 48 ≤ v) : nI wd * 10 + nI v - 48 = nI (wd * 10 + v - 48) := by
  rw [show (10 : Int32) = nI 10 from rfl, pk_mul, nI_add, show (48 : Int32) = nI 48 from rfl, pk_sub (by omega)]
theorem nI_ne {a b : Nat} (h : ¬ nI a = nI b) : a ≠ b := fun e => h (by rw [e])
theorem nI_e1 {a b : Nat} (h : nI a = nI b) (ha : a < 2 ^ 31) (hb : b < 2 ^ 31) : a = b := (nI_eq ha hb).mp h
abbrev y_Di_init : MethodName := ⟨"TextForge$Directive", "<init>", "()V"⟩
abbrev w_Di_init : List Cond := Cond.code y_Di_init prog_6_method_1_code 1 none :: gw
theorem d_Di_init_0 : decode prog_6_method_1_code 0 = .ok (.aload_n 0, 1) := by decide +kernel
theorem d_Di_init_1 : decode prog_6_method_1_code 1 = .ok (.invokespecial 1, 3) := by decide +kernel
theorem d_Di_init_4 : decode prog_6_method_1_code 4 = .ok (.aload_n 0, 1) := by decide +kernel
theorem d_Di_init_5 : decode prog_6_method_1_code 5 = .ok (.iconst 0, 1) := by decide +kernel
theorem d_Di_init_6 : decode prog_6_method_1_code 6 = .ok (.putfield 9, 3) := by decide +kernel
theorem d_Di_init_9 : decode prog_6_method_1_code 9 = .ok (.aload_n 0, 1) := by decide +kernel
theorem d_Di_init_10 : decode prog_6_method_1_code 10 = .ok (.iconst 0, 1) := by decide +kernel
theorem d_Di_init_11 : decode prog_6_method_1_code 11 = .ok (.putfield 13, 3) := by decide +kernel
theorem d_Di_init_14 : decode prog_6_method_1_code 14 = .ok (.aload_n 0, 1) := by decide +kernel
theorem d_Di_init_15 : decode prog_6_method_1_code 15 = .ok (.iconst 0, 1) := by decide +kernel
theorem d_Di_init_16 : decode prog_6_method_1_code 16 = .ok (.putfield 17, 3) := by decide +kernel
theorem d_Di_init_19 : decode prog_6_method_1_code 19 = .ok (.aload_n 0, 1) := by decide +kernel
theorem d_Di_init_20 : decode prog_6_method_1_code 20 = .ok (.iconst 0, 1) := by decide +kernel
theorem d_Di_init_21 : decode prog_6_method_1_code 21 = .ok (.putfield 20, 3) := by decide +kernel
theorem d_Di_init_24 : decode prog_6_method_1_code 24 = .ok (.aload_n 0, 1) := by decide +kernel
theorem d_Di_init_25 : decode prog_6_method_1_code 25 = .ok (.iconst 0, 1) := by decide +kernel
theorem d_Di_init_26 : decode prog_6_method_1_code 26 = .ok (.putfield 23, 3) := by decide +kernel
theorem d_Di_init_29 : decode prog_6_method_1_code 29 = .ok (.aload_n 0, 1) := by decide +kernel
theorem d_Di_init_30 : decode prog_6_method_1_code 30 = .ok (.iconst 0, 1) := by decide +kernel
theorem d_Di_init_31 : decode prog_6_method_1_code 31 = .ok (.putfield 26, 3) := by decide +kernel
theorem d_Di_init_34 : decode prog_6_method_1_code 34 = .ok (.return_, 1) := by decide +kernel
abbrev y_Di_isOpen : MethodName := ⟨"TextForge$Directive", "isOpen", "()Z"⟩
abbrev w_Di_isOpen : List Cond := Cond.code y_Di_isOpen prog_6_method_2_code 1 (some .boolean) :: gw
theorem d_Di_isOpen_0 : decode prog_6_method_2_code 0 = .ok (.aload_n 0, 1) := by decide +kernel
theorem d_Di_isOpen_1 : decode prog_6_method_2_code 1 = .ok (.getfield 9, 3) := by decide +kernel
theorem d_Di_isOpen_4 : decode prog_6_method_2_code 4 = .ok (.ifCond .eq 7, 3) := by decide +kernel
theorem d_Di_isOpen_7 : decode prog_6_method_2_code 7 = .ok (.iconst 1, 1) := by decide +kernel
theorem d_Di_isOpen_8 : decode prog_6_method_2_code 8 = .ok (.goto 4, 3) := by decide +kernel
theorem d_Di_isOpen_11 : decode prog_6_method_2_code 11 = .ok (.iconst 0, 1) := by decide +kernel
theorem d_Di_isOpen_12 : decode prog_6_method_2_code 12 = .ok (.ireturn, 1) := by decide +kernel
abbrev y_Di_open : MethodName := ⟨"TextForge$Directive", "open", "()V"⟩
abbrev w_Di_open : List Cond := Cond.code y_Di_open prog_6_method_3_code 1 none :: gw
theorem d_Di_open_0 : decode prog_6_method_3_code 0 = .ok (.aload_n 0, 1) := by decide +kernel
theorem d_Di_open_1 : decode prog_6_method_3_code 1 = .ok (.iconst 1, 1) := by decide +kernel
theorem d_Di_open_2 : decode prog_6_method_3_code 2 = .ok (.putfield 9, 3) := by decide +kernel
theorem d_Di_open_5 : decode prog_6_method_3_code 5 = .ok (.aload_n 0, 1) := by decide +kernel
theorem d_Di_open_6 : decode prog_6_method_3_code 6 = .ok (.iconst 0, 1) := by decide +kernel
theorem d_Di_open_7 : decode prog_6_method_3_code 7 = .ok (.putfield 13, 3) := by decide +kernel
theorem d_Di_open_10 : decode prog_6_method_3_code 10 = .ok (.aload_n 0, 1) := by decide +kernel
theorem d_Di_open_11 : decode prog_6_method_3_code 11 = .ok (.iconst 0, 1) := by decide +kernel
theorem d_Di_open_12 : decode prog_6_method_3_code 12 = .ok (.putfield 17, 3) := by decide +kernel
theorem d_Di_open_15 : decode prog_6_method_3_code 15 = .ok (.aload_n 0, 1) := by decide +kernel
theorem d_Di_open_16 : decode prog_6_method_3_code 16 = .ok (.iconst 0, 1) := by decide +kernel
theorem d_Di_open_17 : decode prog_6_method_3_code 17 = .ok (.putfield 20, 3) := by decide +kernel
theorem d_Di_open_20 : decode prog_6_method_3_code 20 = .ok (.aload_n 0, 1) := by decide +kernel
theorem d_Di_open_21 : decode prog_6_method_3_code 21 = .ok (.iconst 0, 1) := by decide +kernel
theorem d_Di_open_22 : decode prog_6_method_3_code 22 = .ok (.putfield 23, 3) := by decide +kernel
theorem d_Di_open_25 : decode prog_6_method_3_code 25 = .ok (.return_, 1) := by decide +kernel
abbrev y_Di_close : MethodName := ⟨"TextForge$Directive", "close", "()V"⟩
abbrev w_Di_close : List Cond := Cond.code y_Di_close prog_6_method_4_code 1 none :: gw
theorem d_Di_close_0 : decode prog_6_method_4_code 0 = .ok (.aload_n 0, 1) := by decide +kernel
theorem d_Di_close_1 : decode prog_6_method_4_code 1 = .ok (.iconst 0, 1) := by decide +kernel
theorem d_Di_close_2 : decode prog_6_method_4_code 2 = .ok (.putfield 9, 3) := by decide +kernel
theorem d_Di_close_5 : decode prog_6_method_4_code 5 = .ok (.return_, 1) := by decide +kernel
abbrev y_Di_letter : MethodName := ⟨"TextForge$Directive", "letter", "()I"⟩
abbrev w_Di_letter : List Cond := Cond.code y_Di_letter prog_6_method_6_code 1 (some .int) :: gw
theorem d_Di_letter_0 : decode prog_6_method_6_code 0 = .ok (.aload_n 0, 1) := by decide +kernel
theorem d_Di_letter_1 : decode prog_6_method_6_code 1 = .ok (.getfield 26, 3) := by decide +kernel
theorem d_Di_letter_4 : decode prog_6_method_6_code 4 = .ok (.ireturn, 1) := by decide +kernel
abbrev y_Di_width : MethodName := ⟨"TextForge$Directive", "width", "()I"⟩
abbrev w_Di_width : List Cond := Cond.code y_Di_width prog_6_method_7_code 1 (some .int) :: gw
theorem d_Di_width_0 : decode prog_6_method_7_code 0 = .ok (.aload_n 0, 1) := by decide +kernel
theorem d_Di_width_1 : decode prog_6_method_7_code 1 = .ok (.getfield 23, 3) := by decide +kernel
theorem d_Di_width_4 : decode prog_6_method_7_code 4 = .ok (.ireturn, 1) := by decide +kernel
abbrev y_Di_hasMinus : MethodName := ⟨"TextForge$Directive", "hasMinus", "()Z"⟩
abbrev w_Di_hasMinus : List Cond := Cond.code y_Di_hasMinus prog_6_method_8_code 1 (some .boolean) :: gw
theorem d_Di_hasMinus_0 : decode prog_6_method_8_code 0 = .ok (.aload_n 0, 1) := by decide +kernel
theorem d_Di_hasMinus_1 : decode prog_6_method_8_code 1 = .ok (.getfield 13, 3) := by decide +kernel
theorem d_Di_hasMinus_4 : decode prog_6_method_8_code 4 = .ok (.ireturn, 1) := by decide +kernel
abbrev y_Di_hasPlus : MethodName := ⟨"TextForge$Directive", "hasPlus", "()Z"⟩
abbrev w_Di_hasPlus : List Cond := Cond.code y_Di_hasPlus prog_6_method_9_code 1 (some .boolean) :: gw
theorem d_Di_hasPlus_0 : decode prog_6_method_9_code 0 = .ok (.aload_n 0, 1) := by decide +kernel
theorem d_Di_hasPlus_1 : decode prog_6_method_9_code 1 = .ok (.getfield 17, 3) := by decide +kernel
theorem d_Di_hasPlus_4 : decode prog_6_method_9_code 4 = .ok (.ireturn, 1) := by decide +kernel
abbrev y_Di_widthByZeros : MethodName := ⟨"TextForge$Directive", "widthByZeros", "()I"⟩
abbrev w_Di_widthByZeros : List Cond := Cond.code y_Di_widthByZeros prog_6_method_10_code 1 (some .int) :: gw
theorem d_Di_widthByZeros_0 : decode prog_6_method_10_code 0 = .ok (.aload_n 0, 1) := by decide +kernel
theorem d_Di_widthByZeros_1 : decode prog_6_method_10_code 1 = .ok (.getfield 20, 3) := by decide +kernel
theorem d_Di_widthByZeros_4 : decode prog_6_method_10_code 4 = .ok (.ifCond .eq 17, 3) := by decide +kernel
theorem d_Di_widthByZeros_7 : decode prog_6_method_10_code 7 = .ok (.aload_n 0, 1) := by decide +kernel
theorem d_Di_widthByZeros_8 : decode prog_6_method_10_code 8 = .ok (.getfield 13, 3) := by decide +kernel
theorem d_Di_widthByZeros_11 : decode prog_6_method_10_code 11 = .ok (.ifCond .ne 10, 3) := by decide +kernel
theorem d_Di_widthByZeros_14 : decode prog_6_method_10_code 14 = .ok (.aload_n 0, 1) := by decide +kernel
theorem d_Di_widthByZeros_15 : decode prog_6_method_10_code 15 = .ok (.getfield 23, 3) := by decide +kernel
theorem d_Di_widthByZeros_18 : decode prog_6_method_10_code 18 = .ok (.goto 4, 3) := by decide +kernel
theorem d_Di_widthByZeros_21 : decode prog_6_method_10_code 21 = .ok (.iconst 0, 1) := by decide +kernel
theorem d_Di_widthByZeros_22 : decode prog_6_method_10_code 22 = .ok (.ireturn, 1) := by decide +kernel
set_option maxHeartbeats 4000000 in
set_option maxRecDepth 100000 in
theorem c_Di_init (l : Launch) (dC : Nat → ClassId) (dI : Nat → Nat → Nat) (h : Nat) (x0 x1 x2 x3 x4 x5 : Value)  : zM_v (S := Unit) l y_Di_init w_Di_init { frames := 1, cells := 0, slots := 0, locals := 12 } (dC, dI) vwCl [.ref h] [(h, .inr (4, [x0, x1, x2, x3, x4, x5]))] [] (fun (u : Unit) => True) (fun u => [(h, .inr (4, [.int 0, .int 0, .int 0, .int 0, .int 0, .int 0]))]) (fun u => []) 0 0 := by
  refine zz_enterv (cc := prog_6_method_1_code) (nL := 1) (ret := none) (by decide) rfl (Nat.le_of_ble_eq_true rfl) ?_
  intro p e s m below meth c A ls C0 hA hS hP hK hD hl
  obtain ⟨hx, hb, hml, hown, hg, hr, hlocks, hin⟩ := C0
  have hown : s.vm.findClass "TextForge$Directive" = some m.cls := hown
  have hP : va_P (dC, dI) vwCl [(h, .inr (4, [x0, x1, x2, x3, x4, x5]))] s.heap := hP
  have hK : va_K (dC, dI) vwCl [] s := hK
  have hD : va_D A [(h, .inr (4, [x0, x1, x2, x3, x4, x5]))] := hD
  have hl : lv_has ls 1 [(0, .ref h)] := hl
  refine lv_aload_n hx hb d_Di_init_0 rfl (lv_at hl 0 rfl) ?_
  refine W.objInit hx hb hown (hg _ kw_71) (hg _ kw_29) (hg _ kw_30) rfl (by rw [hml]; exact hl.1) rfl d_Di_init_1 (Nat.le_of_ble_eq_true rfl) (Nat.le_of_ble_eq_true rfl) ?_
  refine W.eq (g2 := F0 m 4 ls []) rfl ?_
  refine lv_aload_n hx hb d_Di_init_4 rfl (lv_at hl 0 rfl) ?_
  refine lv_iconst (v := 0) hx hb d_Di_init_5 (by decide) ?_
  refine va_put (D := (dC, dI)) (ci := 4) (v := .int 0) (ty := .int) (C := "TextForge$Directive") (T := TX4) (N := 6) hx hb hg iwX4 tyX4 tyX4_ok nmX4 hown hK hP hD hS 0 rfl rfl 0 (by decide) (hg _ kw_72) (fun _ h9 => h9) rfl (by decide +kernel) rfl rfl (Nat.le_of_ble_eq_true rfl) d_Di_init_6 (fun H locs hP hD hS => ?_)
  have hP : va_P (dC, dI) vwCl [(h, .inr (4, [.int 0, x1, x2, x3, x4, x5]))] H := hP
  have hD : va_D A [(h, .inr (4, [.int 0, x1, x2, x3, x4, x5]))] := hD
  refine lv_aload_n hx hb d_Di_init_9 rfl (lv_at hl 0 rfl) ?_
  refine lv_iconst (v := 0) hx hb d_Di_init_10 (by decide) ?_
  refine va_put (D := (dC, dI)) (ci := 4) (v := .int 0) (ty := .boolean) (C := "TextForge$Directive") (T := TX4) (N := 6) hx hb hg iwX4 tyX4 tyX4_ok nmX4 hown hK hP hD hS 0 rfl rfl 1 (by decide) (hg _ kw_73) (fun _ h9 => h9) rfl (by decide +kernel) rfl rfl (Nat.le_of_ble_eq_true rfl) d_Di_init_11 (fun H locs hP hD hS => ?_)
  have hP : va_P (dC, dI) vwCl [(h, .inr (4, [.int 0, .int 0, x2, x3, x4, x5]))] H := hP
  have hD : va_D A [(h, .inr (4, [.int 0, .int 0, x2, x3, x4, x5]))] := hD
  refine lv_aload_n hx hb d_Di_init_14 rfl (lv_at hl 0 rfl) ?_
  refine lv_iconst (v := 0) hx hb d_Di_init_15 (by decide) ?_
  refine va_put (D := (dC, dI)) (ci := 4) (v := .int 0) (ty := .boolean) (C := "TextForge$Directive") (T := TX4) (N := 6) hx hb hg iwX4 tyX4 tyX4_ok nmX4 hown hK hP hD hS 0 rfl rfl 2 (by decide) (hg _ kw_74) (fun _ h9 => h9) rfl (by decide +kernel) rfl rfl (Nat.le_of_ble_eq_true rfl) d_Di_init_16 (fun H locs hP hD hS => ?_)
  have hP : va_P (dC, dI) vwCl [(h, .inr (4, [.int 0, .int 0, .int 0, x3, x4, x5]))] H := hP
  have hD : va_D A [(h, .inr (4, [.int 0, .int 0, .int 0, x3, x4, x5]))] := hD
  refine lv_aload_n hx hb d_Di_init_19 rfl (lv_at hl 0 rfl) ?_
  refine lv_iconst (v := 0) hx hb d_Di_init_20 (by decide) ?_
  refine va_put (D := (dC, dI)) (ci := 4) (v := .int 0) (ty := .boolean) (C := "TextForge$Directive") (T := TX4) (N := 6) hx hb hg iwX4 tyX4 tyX4_ok nmX4 hown hK hP hD hS 0 rfl rfl 3 (by decide) (hg _ kw_75) (fun _ h9 => h9) rfl (by decide +kernel) rfl rfl (Nat.le_of_ble_eq_true rfl) d_Di_init_21 (fun H locs hP hD hS => ?_)
  have hP : va_P (dC, dI) vwCl [(h, .inr (4, [.int 0, .int 0, .int 0, .int 0, x4, x5]))] H := hP
  have hD : va_D A [(h, .inr (4, [.int 0, .int 0, .int 0, .int 0, x4, x5]))] := hD
  refine lv_aload_n hx hb d_Di_init_24 rfl (lv_at hl 0 rfl) ?_
  refine lv_iconst (v := 0) hx hb d_Di_init_25 (by decide) ?_
  refine va_put (D := (dC, dI)) (ci := 4) (v := .int 0) (ty := .int) (C := "TextForge$Directive") (T := TX4) (N := 6) hx hb hg iwX4 tyX4 tyX4_ok nmX4 hown hK hP hD hS 0 rfl rfl 4 (by decide) (hg _ kw_76) (fun _ h9 => h9) rfl (by decide +kernel) rfl rfl (Nat.le_of_ble_eq_true rfl) d_Di_init_26 (fun H locs hP hD hS => ?_)
  have hP : va_P (dC, dI) vwCl [(h, .inr (4, [.int 0, .int 0, .int 0, .int 0, .int 0, x5]))] H := hP
  have hD : va_D A [(h, .inr (4, [.int 0, .int 0, .int 0, .int 0, .int 0, x5]))] := hD
  refine lv_aload_n hx hb d_Di_init_29 rfl (lv_at hl 0 rfl) ?_
  refine lv_iconst (v := 0) hx hb d_Di_init_30 (by decide) ?_
  refine va_put (D := (dC, dI)) (ci := 4) (v := .int 0) (ty := .int) (C := "TextForge$Directive") (T := TX4) (N := 6) hx hb hg iwX4 tyX4 tyX4_ok nmX4 hown hK hP hD hS 0 rfl rfl 5 (by decide) (hg _ kw_77) (fun _ h9 => h9) rfl (by decide +kernel) rfl rfl (Nat.le_of_ble_eq_true rfl) d_Di_init_31 (fun H locs hP hD hS => ?_)
  have hP : va_P (dC, dI) vwCl [(h, .inr (4, [.int 0, .int 0, .int 0, .int 0, .int 0, .int 0]))] H := hP
  have hD : va_D A [(h, .inr (4, [.int 0, .int 0, .int 0, .int 0, .int 0, .int 0]))] := hD
  have hP9 := hP.sub (ws' := [(h, .inr (4, [.int 0, .int 0, .int 0, .int 0, .int 0, .int 0]))]) [0] rfl
  have hD9 := hD.sub (ws' := [(h, .inr (4, [.int 0, .int 0, .int 0, .int 0, .int 0, .int 0]))]) [0] (by decide) rfl
  have hK9 := hK.sub (tys' := []) [] rfl
  exact zz_vret hx hb hr hlocks d_Di_init_34 hS (by first | exact Nat.le_refl _ | decide | omega | (dsimp only; omega)) (by first | exact Nat.le_refl _ | decide | omega | (dsimp only; omega)) () trivial hP9 hK9 hD9
set_option maxHeartbeats 4000000 in
set_option maxRecDepth 100000 in
theorem c_Di_open (l : Launch) (dC : Nat → ClassId) (dI : Nat → Nat → Nat) (h : Nat) (q mi pl ze wd le : Int32)  : zM_v (S := Unit) l y_Di_open w_Di_open { frames := 0, cells := 0, slots := 0, locals := 0 } (dC, dI) vwCl [.ref h] [(h, .inr (4, [.int q, .int mi, .int pl, .int ze, .int wd, .int le]))] [] (fun (u : Unit) => True) (fun u => [(h, .inr (4, [.int 1, .int 0, .int 0, .int 0, .int 0, .int le]))]) (fun u => []) 0 0 := by
  refine zz_enterv (cc := prog_6_method_3_code) (nL := 1) (ret := none) (by decide) rfl (Nat.le_of_ble_eq_true rfl) ?_
  intro p e s m below meth c A ls C0 hA hS hP hK hD hl
  obtain ⟨hx, hb, hml, hown, hg, hr, hlocks, hin⟩ := C0
  have hown : s.vm.findClass "TextForge$Directive" = some m.cls := hown
  have hP : va_P (dC, dI) vwCl [(h, .inr (4, [.int q, .int mi, .int pl, .int ze, .int wd, .int le]))] s.heap := hP
  have hK : va_K (dC, dI) vwCl [] s := hK
  have hD : va_D A [(h, .inr (4, [.int q, .int mi, .int pl, .int ze, .int wd, .int le]))] := hD
  have hl : lv_has ls 1 [(0, .ref h)] := hl
  refine lv_aload_n hx hb d_Di_open_0 rfl (lv_at hl 0 rfl) ?_
  refine lv_iconst (v := 1) hx hb d_Di_open_1 (by decide) ?_
  refine va_put (D := (dC, dI)) (ci := 4) (v := .int 1) (ty := .int) (C := "TextForge$Directive") (T := TX4) (N := 6) hx hb hg iwX4 tyX4 tyX4_ok nmX4 hown hK hP hD hS 0 rfl rfl 0 (by decide) (hg _ kw_72) (fun _ h9 => h9) rfl (by decide +kernel) rfl rfl (Nat.le_of_ble_eq_true rfl) d_Di_open_2 (fun H locs hP hD hS => ?_)
  have hP : va_P (dC, dI) vwCl [(h, .inr (4, [.int 1, .int mi, .int pl, .int ze, .int wd, .int le]))] H := hP
  have hD : va_D A [(h, .inr (4, [.int 1, .int mi, .int pl, .int ze, .int wd, .int le]))] := hD
  refine lv_aload_n hx hb d_Di_open_5 rfl (lv_at hl 0 rfl) ?_
  refine lv_iconst (v := 0) hx hb d_Di_open_6 (by decide) ?_
  refine va_put (D := (dC, dI)) (ci := 4) (v := .int 0) (ty := .boolean) (C := "TextForge$Directive") (T := TX4) (N := 6) hx hb hg iwX4 tyX4 tyX4_ok nmX4 hown hK hP hD hS 0 rfl rfl 1 (by decide) (hg _ kw_73) (fun _ h9 => h9) rfl (by decide +kernel) rfl rfl (Nat.le_of_ble_eq_true rfl) d_Di_open_7 (fun H locs hP hD hS => ?_)
  have hP : va_P (dC, dI) vwCl [(h, .inr (4, [.int 1, .int 0, .int pl, .int ze, .int wd, .int le]))] H := hP
  have hD : va_D A [(h, .inr (4, [.int 1, .int 0, .int pl, .int ze, .int wd, .int le]))] := hD
  refine lv_aload_n hx hb d_Di_open_10 rfl (lv_at hl 0 rfl) ?_
  refine lv_iconst (v := 0) hx hb d_Di_open_11 (by decide) ?_
  refine va_put (D := (dC, dI)) (ci := 4) (v := .int 0) (ty := .boolean) (C := "TextForge$Directive") (T := TX4) (N := 6) hx hb hg iwX4 tyX4 tyX4_ok nmX4 hown hK hP hD hS 0 rfl rfl 2 (by decide) (hg _ kw_74) (fun _ h9 => h9) rfl (by decide +kernel) rfl rfl (Nat.le_of_ble_eq_true rfl) d_Di_open_12 (fun H locs hP hD hS => ?_)
  have hP : va_P (dC, dI) vwCl [(h, .inr (4, [.int 1, .int 0, .int 0, .int ze, .int wd, .int le]))] H := hP
  have hD : va_D A [(h, .inr (4, [.int 1, .int 0, .int 0, .int ze, .int wd, .int le]))] := hD
  refine lv_aload_n hx hb d_Di_open_15 rfl (lv_at hl 0 rfl) ?_
  refine lv_iconst (v := 0) hx hb d_Di_open_16 (by decide) ?_
  refine va_put (D := (dC, dI)) (ci := 4) (v := .int 0) (ty := .boolean) (C := "TextForge$Directive") (T := TX4) (N := 6) hx hb hg iwX4 tyX4 tyX4_ok nmX4 hown hK hP hD hS 0 rfl rfl 3 (by decide) (hg _ kw_75) (fun _ h9 => h9) rfl (by decide +kernel) rfl rfl (Nat.le_of_ble_eq_true rfl) d_Di_open_17 (fun H locs hP hD hS => ?_)
  have hP : va_P (dC, dI) vwCl [(h, .inr (4, [.int 1, .int 0, .int 0, .int 0, .int wd, .int le]))] H := hP
  have hD : va_D A [(h, .inr (4, [.int 1, .int 0, .int 0, .int 0, .int wd, .int le]))] := hD
  refine lv_aload_n hx hb d_Di_open_20 rfl (lv_at hl 0 rfl) ?_
  refine lv_iconst (v := 0) hx hb d_Di_open_21 (by decide) ?_
  refine va_put (D := (dC, dI)) (ci := 4) (v := .int 0) (ty := .int) (C := "TextForge$Directive") (T := TX4) (N := 6) hx hb hg iwX4 tyX4 tyX4_ok nmX4 hown hK hP hD hS 0 rfl rfl 4 (by decide) (hg _ kw_76) (fun _ h9 => h9) rfl (by decide +kernel) rfl rfl (Nat.le_of_ble_eq_true rfl) d_Di_open_22 (fun H locs hP hD hS => ?_)
  have hP : va_P (dC, dI) vwCl [(h, .inr (4, [.int 1, .int 0, .int 0, .int 0, .int 0, .int le]))] H := hP
  have hD : va_D A [(h, .inr (4, [.int 1, .int 0, .int 0, .int 0, .int 0, .int le]))] := hD
  have hP9 := hP.sub (ws' := [(h, .inr (4, [.int 1, .int 0, .int 0, .int 0, .int 0, .int le]))]) [0] rfl
  have hD9 := hD.sub (ws' := [(h, .inr (4, [.int 1, .int 0, .int 0, .int 0, .int 0, .int le]))]) [0] (by decide) rfl
  have hK9 := hK.sub (tys' := []) [] rfl
  exact zz_vret hx hb hr hlocks d_Di_open_25 hS (by first | exact Nat.le_refl _ | decide | omega | (dsimp only; omega)) (by first | exact Nat.le_refl _ | decide | omega | (dsimp only; omega)) () trivial hP9 hK9 hD9
set_option maxHeartbeats 4000000 in
set_option maxRecDepth 100000 in
theorem c_Di_close (l : Launch) (dC : Nat → ClassId) (dI : Nat → Nat → Nat) (h : Nat) (q mi pl ze wd le : Int32)  : zM_v (S := Unit) l y_Di_close w_Di_close { frames := 0, cells := 0, slots := 0, locals := 0 } (dC, dI) vwCl [.ref h] [(h, .inr (4, [.int q, .int mi, .int pl, .int ze, .int wd, .int le]))] [] (fun (u : Unit) => True) (fun u => [(h, .inr (4, [.int 0, .int mi, .int pl, .int ze, .int wd, .int le]))]) (fun u => []) 0 0 := by
  refine zz_enterv (cc := prog_6_method_4_code) (nL := 1) (ret := none) (by decide) rfl (Nat.le_of_ble_eq_true rfl) ?_
  intro p e s m below meth c A ls C0 hA hS hP hK hD hl
  obtain ⟨hx, hb, hml, hown, hg, hr, hlocks, hin⟩ := C0
  have hown : s.vm.findClass "TextForge$Directive" = some m.cls := hown
  have hP : va_P (dC, dI) vwCl [(h, .inr (4, [.int q, .int mi, .int pl, .int ze, .int wd, .int le]))] s.heap := hP
  have hK : va_K (dC, dI) vwCl [] s := hK
  have hD : va_D A [(h, .inr (4, [.int q, .int mi, .int pl, .int ze, .int wd, .int le]))] := hD
  have hl : lv_has ls 1 [(0, .ref h)] := hl
  refine lv_aload_n hx hb d_Di_close_0 rfl (lv_at hl 0 rfl) ?_
  refine lv_iconst (v := 0) hx hb d_Di_close_1 (by decide) ?_
  refine va_put (D := (dC, dI)) (ci := 4) (v := .int 0) (ty := .int) (C := "TextForge$Directive") (T := TX4) (N := 6) hx hb hg iwX4 tyX4 tyX4_ok nmX4 hown hK hP hD hS 0 rfl rfl 0 (by decide) (hg _ kw_72) (fun _ h9 => h9) rfl (by decide +kernel) rfl rfl (Nat.le_of_ble_eq_true rfl) d_Di_close_2 (fun H locs hP hD hS => ?_)
  have hP : va_P (dC, dI) vwCl [(h, .inr (4, [.int 0, .int mi, .int pl, .int ze, .int wd, .int le]))] H := hP
  have hD : va_D A [(h, .inr (4, [.int 0, .int mi, .int pl, .int ze, .int wd, .int le]))] := hD
  have hP9 := hP.sub (ws' := [(h, .inr (4, [.int 0, .int mi, .int pl, .int ze, .int wd, .int le]))]) [0] rfl
  have hD9 := hD.sub (ws' := [(h, .inr (4, [.int 0, .int mi, .int pl, .int ze, .int wd, .int le]))]) [0] (by decide) rfl
  have hK9 := hK.sub (tys' := []) [] rfl
  exact zz_vret hx hb hr hlocks d_Di_close_5 hS (by first | exact Nat.le_refl _ | decide | omega | (dsimp only; omega)) (by first | exact Nat.le_refl _ | decide | omega | (dsimp only; omega)) () trivial hP9 hK9 hD9
set_option maxHeartbeats 4000000 in
set_option maxRecDepth 100000 in
theorem c_Di_letter (l : Launch) (dC : Nat → ClassId) (dI : Nat → Nat → Nat) (h : Nat) (q mi pl ze wd le : Int32)  : zR_i l y_Di_letter w_Di_letter { frames := 0, cells := 0, slots := 0, locals := 0 } (dC, dI) vwCl [.ref h] [(h, .inr (4, [.int q, .int mi, .int pl, .int ze, .int wd, .int le]))] [] (fun r : Int32 => r = le) := by
  refine zz_enterR (cc := prog_6_method_6_code) (nL := 1) (ret := (some .int)) (by decide) rfl (Nat.le_of_ble_eq_true rfl) ?_
  intro p e s m below meth c ls C0 hP hK hl
  obtain ⟨hx, hb, hml, hown, hg, hr, hlocks, hin⟩ := C0
  have hS : va_S (fun _ => False) s.heap s.heap [] := va_S.rf
  have hown : s.vm.findClass "TextForge$Directive" = some m.cls := hown
  have hP : va_P (dC, dI) vwCl [(h, .inr (4, [.int q, .int mi, .int pl, .int ze, .int wd, .int le]))] s.heap := hP
  have hK : va_K (dC, dI) vwCl [] s := hK
  have hl : lv_has ls 1 [(0, .ref h)] := hl
  refine lv_aload_n hx hb d_Di_letter_0 rfl (lv_at hl 0 rfl) ?_
  refine va_get (D := (dC, dI)) (ci := 4) (v := .int le) (C := "TextForge$Directive") (T := TX4) (N := 6) hx hb hg iwX4 hown hK hP 0 rfl rfl 5 (by decide) (hg _ kw_77) (fun _ h9 => h9) rfl d_Di_letter_1 ?_
  exact zz_iretR hx hb hr hlocks d_Di_letter_4 rfl
set_option maxHeartbeats 4000000 in
set_option maxRecDepth 100000 in
theorem c_Di_width (l : Launch) (dC : Nat → ClassId) (dI : Nat → Nat → Nat) (h : Nat) (q mi pl ze wd le : Int32)  : zR_i l y_Di_width w_Di_width { frames := 0, cells := 0, slots := 0, locals := 0 } (dC, dI) vwCl [.ref h] [(h, .inr (4, [.int q, .int mi, .int pl, .int ze, .int wd, .int le]))] [] (fun r : Int32 => r = wd) := by
  refine zz_enterR (cc := prog_6_method_7_code) (nL := 1) (ret := (some .int)) (by decide) rfl (Nat.le_of_ble_eq_true rfl) ?_
  intro p e s m below meth c ls C0 hP hK hl
  obtain ⟨hx, hb, hml, hown, hg, hr, hlocks, hin⟩ := C0
  have hS : va_S (fun _ => False) s.heap s.heap [] := va_S.rf
  have hown : s.vm.findClass "TextForge$Directive" = some m.cls := hown
  have hP : va_P (dC, dI) vwCl [(h, .inr (4, [.int q, .int mi, .int pl, .int ze, .int wd, .int le]))] s.heap := hP
  have hK : va_K (dC, dI) vwCl [] s := hK
  have hl : lv_has ls 1 [(0, .ref h)] := hl
  refine lv_aload_n hx hb d_Di_width_0 rfl (lv_at hl 0 rfl) ?_
  refine va_get (D := (dC, dI)) (ci := 4) (v := .int wd) (C := "TextForge$Directive") (T := TX4) (N := 6) hx hb hg iwX4 hown hK hP 0 rfl rfl 4 (by decide) (hg _ kw_76) (fun _ h9 => h9) rfl d_Di_width_1 ?_
  exact zz_iretR hx hb hr hlocks d_Di_width_4 rfl
set_option maxHeartbeats 4000000 in
set_option maxRecDepth 100000 in
theorem c_Di_hasMinus (l : Launch) (dC : Nat → ClassId) (dI : Nat → Nat → Nat) (h : Nat) (q mi pl ze wd le : Int32) (b : Bool) (hm : mi = by_z b) : zR_i l y_Di_hasMinus w_Di_hasMinus { frames := 0, cells := 0, slots := 0, locals := 0 } (dC, dI) vwCl [.ref h] [(h, .inr (4, [.int q, .int mi, .int pl, .int ze, .int wd, .int le]))] [] (fun r : Int32 => r = by_z b) := by
  refine zz_enterR (cc := prog_6_method_8_code) (nL := 1) (ret := (some .boolean)) (by decide) rfl (Nat.le_of_ble_eq_true rfl) ?_
  intro p e s m below meth c ls C0 hP hK hl
  obtain ⟨hx, hb, hml, hown, hg, hr, hlocks, hin⟩ := C0
  have hS : va_S (fun _ => False) s.heap s.heap [] := va_S.rf
  have hown : s.vm.findClass "TextForge$Directive" = some m.cls := hown
  have hP : va_P (dC, dI) vwCl [(h, .inr (4, [.int q, .int mi, .int pl, .int ze, .int wd, .int le]))] s.heap := hP
  have hK : va_K (dC, dI) vwCl [] s := hK
  have hl : lv_has ls 1 [(0, .ref h)] := hl
  refine lv_aload_n hx hb d_Di_hasMinus_0 rfl (lv_at hl 0 rfl) ?_
  refine va_get (D := (dC, dI)) (ci := 4) (v := .int mi) (C := "TextForge$Directive") (T := TX4) (N := 6) hx hb hg iwX4 hown hK hP 0 rfl rfl 1 (by decide) (hg _ kw_73) (fun _ h9 => h9) rfl d_Di_hasMinus_1 ?_
  exact zz_zretR hx hb hr hlocks d_Di_hasMinus_4 (by rw [hm]; exact by_zn) hm
set_option maxHeartbeats 4000000 in
set_option maxRecDepth 100000 in
theorem c_Di_hasPlus (l : Launch) (dC : Nat → ClassId) (dI : Nat → Nat → Nat) (h : Nat) (q mi pl ze wd le : Int32) (b : Bool) (hm : pl = by_z b) : zR_i l y_Di_hasPlus w_Di_hasPlus { frames := 0, cells := 0, slots := 0, locals := 0 } (dC, dI) vwCl [.ref h] [(h, .inr (4, [.int q, .int mi, .int pl, .int ze, .int wd, .int le]))] [] (fun r : Int32 => r = by_z b) := by
  refine zz_enterR (cc := prog_6_method_9_code) (nL := 1) (ret := (some .boolean)) (by decide) rfl (Nat.le_of_ble_eq_true rfl) ?_
  intro p e s m below meth c ls C0 hP hK hl
  obtain ⟨hx, hb, hml, hown, hg, hr, hlocks, hin⟩ := C0
  have hS : va_S (fun _ => False) s.heap s.heap [] := va_S.rf
  have hown : s.vm.findClass "TextForge$Directive" = some m.cls := hown
  have hP : va_P (dC, dI) vwCl [(h, .inr (4, [.int q, .int mi, .int pl, .int ze, .int wd, .int le]))] s.heap := hP
  have hK : va_K (dC, dI) vwCl [] s := hK
  have hl : lv_has ls 1 [(0, .ref h)] := hl
  refine lv_aload_n hx hb d_Di_hasPlus_0 rfl (lv_at hl 0 rfl) ?_
  refine va_get (D := (dC, dI)) (ci := 4) (v := .int pl) (C := "TextForge$Directive") (T := TX4) (N := 6) hx hb hg iwX4 hown hK hP 0 rfl rfl 2 (by decide) (hg _ kw_74) (fun _ h9 => h9) rfl d_Di_hasPlus_1 ?_
  exact zz_zretR hx hb hr hlocks d_Di_hasPlus_4 (by rw [hm]; exact by_zn) hm
set_option maxHeartbeats 4000000 in
set_option maxRecDepth 100000 in
theorem c_Di_isOpen (l : Launch) (dC : Nat → ClassId) (dI : Nat → Nat → Nat) (h : Nat) (q mi pl ze wd le : Int32)  : zR_i l y_Di_isOpen w_Di_isOpen { frames := 0, cells := 0, slots := 0, locals := 0 } (dC, dI) vwCl [.ref h] [(h, .inr (4, [.int q, .int mi, .int pl, .int ze, .int wd, .int le]))] [] (fun r : Int32 => r = if q = 0 then 0 else 1) := by
  refine zz_enterR (cc := prog_6_method_2_code) (nL := 1) (ret := (some .boolean)) (by decide) rfl (Nat.le_of_ble_eq_true rfl) ?_
  intro p e s m below meth c ls C0 hP hK hl
  obtain ⟨hx, hb, hml, hown, hg, hr, hlocks, hin⟩ := C0
  have hS : va_S (fun _ => False) s.heap s.heap [] := va_S.rf
  have hown : s.vm.findClass "TextForge$Directive" = some m.cls := hown
  have hP : va_P (dC, dI) vwCl [(h, .inr (4, [.int q, .int mi, .int pl, .int ze, .int wd, .int le]))] s.heap := hP
  have hK : va_K (dC, dI) vwCl [] s := hK
  have hl : lv_has ls 1 [(0, .ref h)] := hl
  refine lv_aload_n hx hb d_Di_isOpen_0 rfl (lv_at hl 0 rfl) ?_
  refine va_get (D := (dC, dI)) (ci := 4) (v := .int q) (C := "TextForge$Directive") (T := TX4) (N := 6) hx hb hg iwX4 hown hK hP 0 rfl rfl 0 (by decide) (hg _ kw_72) (fun _ h9 => h9) rfl d_Di_isOpen_1 ?_
  refine lv_if_eq (tgt := 11) hx hb d_Di_isOpen_4 (by decide) (fun c_4 => ?_) (fun c_4 => ?_)
  · skip
    refine lv_iconst (v := 0) hx hb d_Di_isOpen_11 (by decide) ?_
    exact zz_zretR hx hb hr hlocks d_Di_isOpen_12 rfl (if_pos c_4).symm
  · skip
    refine lv_iconst (v := 1) hx hb d_Di_isOpen_7 (by decide) ?_
    refine lv_goto (tgt := 12) hx hb d_Di_isOpen_8 (by decide) ?_
    exact zz_zretR hx hb hr hlocks d_Di_isOpen_12 rfl (if_neg c_4).symm
set_option maxHeartbeats 4000000 in
set_option maxRecDepth 100000 in
theorem c_Di_widthByZeros (l : Launch) (dC : Nat → ClassId) (dI : Nat → Nat → Nat) (h : Nat) (q mi pl ze wd le : Int32)  : zR_i l y_Di_widthByZeros w_Di_widthByZeros { frames := 0, cells := 0, slots := 0, locals := 0 } (dC, dI) vwCl [.ref h] [(h, .inr (4, [.int q, .int mi, .int pl, .int ze, .int wd, .int le]))] [] (fun r : Int32 => r = if ze ≠ 0 ∧ mi = 0 then wd else 0) := by
  refine zz_enterR (cc := prog_6_method_10_code) (nL := 1) (ret := (some .int)) (by decide) rfl (Nat.le_of_ble_eq_true rfl) ?_
  intro p e s m below meth c ls C0 hP hK hl
  obtain ⟨hx, hb, hml, hown, hg, hr, hlocks, hin⟩ := C0
  have hS : va_S (fun _ => False) s.heap s.heap [] := va_S.rf
  have hown : s.vm.findClass "TextForge$Directive" = some m.cls := hown
  have hP : va_P (dC, dI) vwCl [(h, .inr (4, [.int q, .int mi, .int pl, .int ze, .int wd, .int le]))] s.heap := hP
  have hK : va_K (dC, dI) vwCl [] s := hK
  have hl : lv_has ls 1 [(0, .ref h)] := hl
  refine lv_aload_n hx hb d_Di_widthByZeros_0 rfl (lv_at hl 0 rfl) ?_
  refine va_get (D := (dC, dI)) (ci := 4) (v := .int ze) (C := "TextForge$Directive") (T := TX4) (N := 6) hx hb hg iwX4 hown hK hP 0 rfl rfl 3 (by decide) (hg _ kw_75) (fun _ h9 => h9) rfl d_Di_widthByZeros_1 ?_
  refine lv_if_eq (tgt := 21) hx hb d_Di_widthByZeros_4 (by decide) (fun c_4 => ?_) (fun c_4 => ?_)
  · skip
    refine lv_iconst (v := 0) hx hb d_Di_widthByZeros_21 (by decide) ?_
    exact zz_iretR hx hb hr hlocks d_Di_widthByZeros_22 (if_neg (fun z => z.1 c_4)).symm
  · skip
    refine lv_aload_n hx hb d_Di_widthByZeros_7 rfl (lv_at hl 0 rfl) ?_
    refine va_get (D := (dC, dI)) (ci := 4) (v := .int mi) (C := "TextForge$Directive") (T := TX4) (N := 6) hx hb hg iwX4 hown hK hP 0 rfl rfl 1 (by decide) (hg _ kw_73) (fun _ h9 => h9) rfl d_Di_widthByZeros_8 ?_
    refine lv_if_ne (tgt := 21) hx hb d_Di_widthByZeros_11 (by decide) (fun c_11 => ?_) (fun c_11 => ?_)
    · skip
      refine lv_iconst (v := 0) hx hb d_Di_widthByZeros_21 (by decide) ?_
      exact zz_iretR hx hb hr hlocks d_Di_widthByZeros_22 (if_neg (fun z => c_11 z.2)).symm
    · skip
      refine lv_aload_n hx hb d_Di_widthByZeros_14 rfl (lv_at hl 0 rfl) ?_
      refine va_get (D := (dC, dI)) (ci := 4) (v := .int wd) (C := "TextForge$Directive") (T := TX4) (N := 6) hx hb hg iwX4 hown hK hP 0 rfl rfl 4 (by decide) (hg _ kw_76) (fun _ h9 => h9) rfl d_Di_widthByZeros_15 ?_
      refine lv_goto (tgt := 22) hx hb d_Di_widthByZeros_18 (by decide) ?_
      exact zz_iretR hx hb hr hlocks d_Di_widthByZeros_22 (if_pos ⟨c_4, c_11⟩).symm
abbrev y_Di_take : MethodName := ⟨"TextForge$Directive", "take", "(I)V"⟩
abbrev w_Di_take : List Cond := Cond.code y_Di_take prog_6_method_5_code 2 none :: gw
theorem d_Di_take_0 : decode prog_6_method_5_code 0 = .ok (.aload_n 0, 1) := by decide +kernel
theorem d_Di_take_1 : decode prog_6_method_5_code 1 = .ok (.getfield 9, 3) := by decide +kernel
theorem d_Di_take_4 : decode prog_6_method_5_code 4 = .ok (.iconst 1, 1) := by decide +kernel
theorem d_Di_take_5 : decode prog_6_method_5_code 5 = .ok (.if_icmp .ne 84, 3) := by decide +kernel
theorem d_Di_take_8 : decode prog_6_method_5_code 8 = .ok (.iload_n 1, 1) := by decide +kernel
theorem d_Di_take_9 : decode prog_6_method_5_code 9 = .ok (.bipush 45, 2) := by decide +kernel
theorem d_Di_take_11 : decode prog_6_method_5_code 11 = .ok (.if_icmp .eq 15, 3) := by decide +kernel
theorem d_Di_take_14 : decode prog_6_method_5_code 14 = .ok (.iload_n 1, 1) := by decide +kernel
theorem d_Di_take_15 : decode prog_6_method_5_code 15 = .ok (.bipush 43, 2) := by decide +kernel
theorem d_Di_take_17 : decode prog_6_method_5_code 17 = .ok (.if_icmp .eq 9, 3) := by decide +kernel
theorem d_Di_take_20 : decode prog_6_method_5_code 20 = .ok (.iload_n 1, 1) := by decide +kernel
theorem d_Di_take_21 : decode prog_6_method_5_code 21 = .ok (.bipush 48, 2) := by decide +kernel
theorem d_Di_take_23 : decode prog_6_method_5_code 23 = .ok (.if_icmp .ne 66, 3) := by decide +kernel
theorem d_Di_take_26 : decode prog_6_method_5_code 26 = .ok (.aload_n 0, 1) := by decide +kernel
theorem d_Di_take_27 : decode prog_6_method_5_code 27 = .ok (.dup, 1) := by decide +kernel
theorem d_Di_take_28 : decode prog_6_method_5_code 28 = .ok (.getfield 13, 3) := by decide +kernel
theorem d_Di_take_31 : decode prog_6_method_5_code 31 = .ok (.iload_n 1, 1) := by decide +kernel
theorem d_Di_take_32 : decode prog_6_method_5_code 32 = .ok (.bipush 45, 2) := by decide +kernel
theorem d_Di_take_34 : decode prog_6_method_5_code 34 = .ok (.if_icmp .ne 7, 3) := by decide +kernel
theorem d_Di_take_37 : decode prog_6_method_5_code 37 = .ok (.iconst 1, 1) := by decide +kernel
theorem d_Di_take_38 : decode prog_6_method_5_code 38 = .ok (.goto 4, 3) := by decide +kernel
theorem d_Di_take_41 : decode prog_6_method_5_code 41 = .ok (.iconst 0, 1) := by decide +kernel
theorem d_Di_take_42 : decode prog_6_method_5_code 42 = .ok (.ior, 1) := by decide +kernel
theorem d_Di_take_43 : decode prog_6_method_5_code 43 = .ok (.putfield 13, 3) := by decide +kernel
theorem d_Di_take_46 : decode prog_6_method_5_code 46 = .ok (.aload_n 0, 1) := by decide +kernel
theorem d_Di_take_47 : decode prog_6_method_5_code 47 = .ok (.dup, 1) := by decide +kernel
theorem d_Di_take_48 : decode prog_6_method_5_code 48 = .ok (.getfield 17, 3) := by decide +kernel
theorem d_Di_take_51 : decode prog_6_method_5_code 51 = .ok (.iload_n 1, 1) := by decide +kernel
theorem d_Di_take_52 : decode prog_6_method_5_code 52 = .ok (.bipush 43, 2) := by decide +kernel
theorem d_Di_take_54 : decode prog_6_method_5_code 54 = .ok (.if_icmp .ne 7, 3) := by decide +kernel
theorem d_Di_take_57 : decode prog_6_method_5_code 57 = .ok (.iconst 1, 1) := by decide +kernel
theorem d_Di_take_58 : decode prog_6_method_5_code 58 = .ok (.goto 4, 3) := by decide +kernel
theorem d_Di_take_61 : decode prog_6_method_5_code 61 = .ok (.iconst 0, 1) := by decide +kernel
theorem d_Di_take_62 : decode prog_6_method_5_code 62 = .ok (.ior, 1) := by decide +kernel
theorem d_Di_take_63 : decode prog_6_method_5_code 63 = .ok (.putfield 17, 3) := by decide +kernel
theorem d_Di_take_66 : decode prog_6_method_5_code 66 = .ok (.aload_n 0, 1) := by decide +kernel
theorem d_Di_take_67 : decode prog_6_method_5_code 67 = .ok (.dup, 1) := by decide +kernel
theorem d_Di_take_68 : decode prog_6_method_5_code 68 = .ok (.getfield 20, 3) := by decide +kernel
theorem d_Di_take_71 : decode prog_6_method_5_code 71 = .ok (.iload_n 1, 1) := by decide +kernel
theorem d_Di_take_72 : decode prog_6_method_5_code 72 = .ok (.bipush 48, 2) := by decide +kernel
theorem d_Di_take_74 : decode prog_6_method_5_code 74 = .ok (.if_icmp .ne 7, 3) := by decide +kernel
theorem d_Di_take_77 : decode prog_6_method_5_code 77 = .ok (.iconst 1, 1) := by decide +kernel
theorem d_Di_take_78 : decode prog_6_method_5_code 78 = .ok (.goto 4, 3) := by decide +kernel
theorem d_Di_take_81 : decode prog_6_method_5_code 81 = .ok (.iconst 0, 1) := by decide +kernel
theorem d_Di_take_82 : decode prog_6_method_5_code 82 = .ok (.ior, 1) := by decide +kernel
theorem d_Di_take_83 : decode prog_6_method_5_code 83 = .ok (.putfield 20, 3) := by decide +kernel
theorem d_Di_take_86 : decode prog_6_method_5_code 86 = .ok (.goto 69, 3) := by decide +kernel
theorem d_Di_take_89 : decode prog_6_method_5_code 89 = .ok (.aload_n 0, 1) := by decide +kernel
theorem d_Di_take_90 : decode prog_6_method_5_code 90 = .ok (.getfield 9, 3) := by decide +kernel
theorem d_Di_take_93 : decode prog_6_method_5_code 93 = .ok (.iconst 3, 1) := by decide +kernel
theorem d_Di_take_94 : decode prog_6_method_5_code 94 = .ok (.if_icmp .eq 51, 3) := by decide +kernel
theorem d_Di_take_97 : decode prog_6_method_5_code 97 = .ok (.iload_n 1, 1) := by decide +kernel
theorem d_Di_take_98 : decode prog_6_method_5_code 98 = .ok (.bipush 48, 2) := by decide +kernel
theorem d_Di_take_100 : decode prog_6_method_5_code 100 = .ok (.if_icmp .lt 45, 3) := by decide +kernel
theorem d_Di_take_103 : decode prog_6_method_5_code 103 = .ok (.iload_n 1, 1) := by decide +kernel
theorem d_Di_take_104 : decode prog_6_method_5_code 104 = .ok (.bipush 57, 2) := by decide +kernel
theorem d_Di_take_106 : decode prog_6_method_5_code 106 = .ok (.if_icmp .gt 39, 3) := by decide +kernel
theorem d_Di_take_109 : decode prog_6_method_5_code 109 = .ok (.aload_n 0, 1) := by decide +kernel
theorem d_Di_take_110 : decode prog_6_method_5_code 110 = .ok (.aload_n 0, 1) := by decide +kernel
theorem d_Di_take_111 : decode prog_6_method_5_code 111 = .ok (.getfield 23, 3) := by decide +kernel
theorem d_Di_take_114 : decode prog_6_method_5_code 114 = .ok (.bipush 10, 2) := by decide +kernel
theorem d_Di_take_116 : decode prog_6_method_5_code 116 = .ok (.imul, 1) := by decide +kernel
theorem d_Di_take_117 : decode prog_6_method_5_code 117 = .ok (.iload_n 1, 1) := by decide +kernel
theorem d_Di_take_118 : decode prog_6_method_5_code 118 = .ok (.iadd, 1) := by decide +kernel
theorem d_Di_take_119 : decode prog_6_method_5_code 119 = .ok (.bipush 48, 2) := by decide +kernel
theorem d_Di_take_121 : decode prog_6_method_5_code 121 = .ok (.isub, 1) := by decide +kernel
theorem d_Di_take_122 : decode prog_6_method_5_code 122 = .ok (.putfield 23, 3) := by decide +kernel
theorem d_Di_take_125 : decode prog_6_method_5_code 125 = .ok (.aload_n 0, 1) := by decide +kernel
theorem d_Di_take_126 : decode prog_6_method_5_code 126 = .ok (.aload_n 0, 1) := by decide +kernel
theorem d_Di_take_127 : decode prog_6_method_5_code 127 = .ok (.getfield 9, 3) := by decide +kernel
theorem d_Di_take_130 : decode prog_6_method_5_code 130 = .ok (.iconst 1, 1) := by decide +kernel
theorem d_Di_take_131 : decode prog_6_method_5_code 131 = .ok (.if_icmp .ne 7, 3) := by decide +kernel
theorem d_Di_take_134 : decode prog_6_method_5_code 134 = .ok (.iconst 2, 1) := by decide +kernel
theorem d_Di_take_135 : decode prog_6_method_5_code 135 = .ok (.goto 4, 3) := by decide +kernel
theorem d_Di_take_138 : decode prog_6_method_5_code 138 = .ok (.iconst 3, 1) := by decide +kernel
theorem d_Di_take_139 : decode prog_6_method_5_code 139 = .ok (.putfield 9, 3) := by decide +kernel
theorem d_Di_take_142 : decode prog_6_method_5_code 142 = .ok (.goto 13, 3) := by decide +kernel
theorem d_Di_take_145 : decode prog_6_method_5_code 145 = .ok (.aload_n 0, 1) := by decide +kernel
theorem d_Di_take_146 : decode prog_6_method_5_code 146 = .ok (.iload_n 1, 1) := by decide +kernel
theorem d_Di_take_147 : decode prog_6_method_5_code 147 = .ok (.putfield 26, 3) := by decide +kernel
theorem d_Di_take_150 : decode prog_6_method_5_code 150 = .ok (.aload_n 0, 1) := by decide +kernel
theorem d_Di_take_151 : decode prog_6_method_5_code 151 = .ok (.iconst 0, 1) := by decide +kernel
theorem d_Di_take_152 : decode prog_6_method_5_code 152 = .ok (.putfield 9, 3) := by decide +kernel
theorem d_Di_take_155 : decode prog_6_method_5_code 155 = .ok (.return_, 1) := by decide +kernel
set_option maxHeartbeats 4000000 in
set_option maxRecDepth 100000 in
theorem c_Di_take (l : Launch) (dC : Nat → ClassId) (dI : Nat → Nat → Nat) (h q : Nat) (mi pl ze : Bool) (wd le v : Nat) (hq : q ≤ 3) (hv : v < 256) (hw : wd < 10000) : zM_v (S := Dv) l y_Di_take w_Di_take { frames := 0, cells := 0, slots := 0, locals := 0 } (dC, dI) vwCl [.ref h, .int (nI v)] [(h, .inr (4, [.int (nI q), .int (by_z mi), .int (by_z pl), .int (by_z ze), .int (nI wd), .int (nI le)]))] [] (fun (u : Dv) => match u with | (q1, mi1, pl1, ze1, wd1, le1) => (q1, mi1, pl1, ze1, wd1, le1) = di_t (q, mi, pl, ze, wd, le) v) (fun u => match u with | (q1, mi1, pl1, ze1, wd1, le1) => [(h, .inr (4, [.int (nI q1), .int (by_z mi1), .int (by_z pl1), .int (by_z ze1), .int (nI wd1), .int (nI le1)]))]) (fun u => match u with | (q1, mi1, pl1, ze1, wd1, le1) => []) 0 0 := by
  refine zz_enterv (cc := prog_6_method_5_code) (nL := 2) (ret := none) (by decide) rfl (Nat.le_of_ble_eq_true rfl) ?_
  intro p e s m below meth c A ls C0 hA hS hP hK hD hl
  obtain ⟨hx, hb, hml, hown, hg, hr, hlocks, hin⟩ := C0
  have hown : s.vm.findClass "TextForge$Directive" = some m.cls := hown
  have hP : va_P (dC, dI) vwCl [(h, .inr (4, [.int (nI q), .int (by_z mi), .int (by_z pl), .int (by_z ze), .int (nI wd), .int (nI le)]))] s.heap := hP
  have hK : va_K (dC, dI) vwCl [] s := hK
  have hD : va_D A [(h, .inr (4, [.int (nI q), .int (by_z mi), .int (by_z pl), .int (by_z ze), .int (nI wd), .int (nI le)]))] := hD
  have hl : lv_has ls 2 [(0, .ref h), (1, .int (nI v))] := hl
  refine lv_aload_n hx hb d_Di_take_0 rfl (lv_at hl 0 rfl) ?_
  refine va_get (D := (dC, dI)) (ci := 4) (v := .int (nI q)) (C := "TextForge$Directive") (T := TX4) (N := 6) hx hb hg iwX4 hown hK hP 0 rfl rfl 0 (by decide) (hg _ kw_72) (fun _ h9 => h9) rfl d_Di_take_1 ?_
  refine lv_iconst (v := 1) hx hb d_Di_take_4 (by decide) ?_
  refine lv_icmp_ne (tgt := 89) hx hb d_Di_take_5 (by decide) (fun c_5 => ?_) (fun c_5 => ?_)
  · skip
    have hn1 : ¬ (q = 1 ∧ (v = 45 ∨ v = 43 ∨ v = 48)) := fun z => c_5 (by rw [z.1]; rfl)
    refine lv_aload_n hx hb d_Di_take_89 rfl (lv_at hl 0 rfl) ?_
    refine va_get (D := (dC, dI)) (ci := 4) (v := .int (nI q)) (C := "TextForge$Directive") (T := TX4) (N := 6) hx hb hg iwX4 hown hK hP 0 rfl rfl 0 (by decide) (hg _ kw_72) (fun _ h9 => h9) rfl d_Di_take_90 ?_
    refine lv_iconst (v := 3) hx hb d_Di_take_93 (by decide) ?_
    refine lv_icmp_eq (tgt := 145) hx hb d_Di_take_94 (by decide) (fun c_94 => ?_) (fun c_94 => ?_)
    · skip
      have hn2 : ¬ (q ≠ 3 ∧ 48 ≤ v ∧ v ≤ 57) := fun z => z.1 (nI_e1 (b := 3) c_94 (by omega) (by decide))
      refine lv_aload_n hx hb d_Di_take_145 rfl (lv_at hl 0 rfl) ?_
      refine lv_iload_n hx hb d_Di_take_146 rfl (lv_at hl 1 rfl) ?_
      refine va_put (D := (dC, dI)) (ci := 4) (v := .int (nI v)) (ty := .int) (C := "TextForge$Directive") (T := TX4) (N := 6) hx hb hg iwX4 tyX4 tyX4_ok nmX4 hown hK hP hD hS 0 rfl rfl 5 (by decide) (hg _ kw_77) (fun _ h9 => h9) rfl (by decide +kernel) rfl rfl (Nat.le_of_ble_eq_true rfl) d_Di_take_147 (fun H locs hP hD hS => ?_)
      have hP : va_P (dC, dI) vwCl [(h, .inr (4, [.int (nI q), .int (by_z mi), .int (by_z pl), .int (by_z ze), .int (nI wd), .int (nI v)]))] H := hP
      have hD : va_D A [(h, .inr (4, [.int (nI q), .int (by_z mi), .int (by_z pl), .int (by_z ze), .int (nI wd), .int (nI v)]))] := hD
      refine lv_aload_n hx hb d_Di_take_150 rfl (lv_at hl 0 rfl) ?_
      refine lv_iconst (v := 0) hx hb d_Di_take_151 (by decide) ?_
      refine va_put (D := (dC, dI)) (ci := 4) (v := .int 0) (ty := .int) (C := "TextForge$Directive") (T := TX4) (N := 6) hx hb hg iwX4 tyX4 tyX4_ok nmX4 hown hK hP hD hS 0 rfl rfl 0 (by decide) (hg _ kw_72) (fun _ h9 => h9) rfl (by decide +kernel) rfl rfl (Nat.le_of_ble_eq_true rfl) d_Di_take_152 (fun H locs hP hD hS => ?_)
      have hP : va_P (dC, dI) vwCl [(h, .inr (4, [.int 0, .int (by_z mi), .int (by_z pl), .int (by_z ze), .int (nI wd), .int (nI v)]))] H := hP
      have hD : va_D A [(h, .inr (4, [.int 0, .int (by_z mi), .int (by_z pl), .int (by_z ze), .int (nI wd), .int (nI v)]))] := hD
      have hP9 := hP.sub (ws' := [(h, .inr (4, [.int 0, .int (by_z mi), .int (by_z pl), .int (by_z ze), .int (nI wd), .int (nI v)]))]) [0] rfl
      have hD9 := hD.sub (ws' := [(h, .inr (4, [.int 0, .int (by_z mi), .int (by_z pl), .int (by_z ze), .int (nI wd), .int (nI v)]))]) [0] (by decide) rfl
      have hK9 := hK.sub (tys' := []) [] rfl
      exact zz_vret hx hb hr hlocks d_Di_take_155 hS (by first | exact Nat.le_refl _ | decide | omega | (dsimp only; omega)) (by first | exact Nat.le_refl _ | decide | omega | (dsimp only; omega)) (0, mi, pl, ze, wd, v) (by unfold di_t; dsimp only; rw [if_neg hn1, if_neg hn2]) hP9 hK9 hD9
    · skip
      refine lv_iload_n hx hb d_Di_take_97 rfl (lv_at hl 1 rfl) ?_
      refine lv_bipush (v := 48) hx hb d_Di_take_98 (by decide) ?_
      refine lv_icmp_lt (tgt := 145) hx hb d_Di_take_100 (by decide) (fun c_100 => ?_) (fun c_100 => ?_)
      · skip
        have hn2 : ¬ (q ≠ 3 ∧ 48 ≤ v ∧ v ≤ 57) := fun z => absurd c_100 (nI_nlt (b := 48) z.2.1 (by omega))
        refine lv_aload_n hx hb d_Di_take_145 rfl (lv_at hl 0 rfl) ?_
        refine lv_iload_n hx hb d_Di_take_146 rfl (lv_at hl 1 rfl) ?_
        refine va_put (D := (dC, dI)) (ci := 4) (v := .int (nI v)) (ty := .int) (C := "TextForge$Directive") (T := TX4) (N := 6) hx hb hg iwX4 tyX4 tyX4_ok nmX4 hown hK hP hD hS 0 rfl rfl 5 (by decide) (hg _ kw_77) (fun _ h9 => h9) rfl (by decide +kernel) rfl rfl (Nat.le_of_ble_eq_true rfl) d_Di_take_147 (fun H locs hP hD hS => ?_)
        have hP : va_P (dC, dI) vwCl [(h, .inr (4, [.int (nI q), .int (by_z mi), .int (by_z pl), .int (by_z ze), .int (nI wd), .int (nI v)]))] H := hP
        have hD : va_D A [(h, .inr (4, [.int (nI q), .int (by_z mi), .int (by_z pl), .int (by_z ze), .int (nI wd), .int (nI v)]))] := hD
        refine lv_aload_n hx hb d_Di_take_150 rfl (lv_at hl 0 rfl) ?_
        refine lv_iconst (v := 0) hx hb d_Di_take_151 (by decide) ?_
        refine va_put (D := (dC, dI)) (ci := 4) (v := .int 0) (ty := .int) (C := "TextForge$Directive") (T := TX4) (N := 6) hx hb hg iwX4 tyX4 tyX4_ok nmX4 hown hK hP hD hS 0 rfl rfl 0 (by decide) (hg _ kw_72) (fun _ h9 => h9) rfl (by decide +kernel) rfl rfl (Nat.le_of_ble_eq_true rfl) d_Di_take_152 (fun H locs hP hD hS => ?_)
        have hP : va_P (dC, dI) vwCl [(h, .inr (4, [.int 0, .int (by_z mi), .int (by_z pl), .int (by_z ze), .int (nI wd), .int (nI v)]))] H := hP
        have hD : va_D A [(h, .inr (4, [.int 0, .int (by_z mi), .int (by_z pl), .int (by_z ze), .int (nI wd), .int (nI v)]))] := hD
        have hP9 := hP.sub (ws' := [(h, .inr (4, [.int 0, .int (by_z mi), .int (by_z pl), .int (by_z ze), .int (nI wd), .int (nI v)]))]) [0] rfl
        have hD9 := hD.sub (ws' := [(h, .inr (4, [.int 0, .int (by_z mi), .int (by_z pl), .int (by_z ze), .int (nI wd), .int (nI v)]))]) [0] (by decide) rfl
        have hK9 := hK.sub (tys' := []) [] rfl
        exact zz_vret hx hb hr hlocks d_Di_take_155 hS (by first | exact Nat.le_refl _ | decide | omega | (dsimp only; omega)) (by first | exact Nat.le_refl _ | decide | omega | (dsimp only; omega)) (0, mi, pl, ze, wd, v) (by unfold di_t; dsimp only; rw [if_neg hn1, if_neg hn2]) hP9 hK9 hD9
      · skip
        refine lv_iload_n hx hb d_Di_take_103 rfl (lv_at hl 1 rfl) ?_
        refine lv_bipush (v := 57) hx hb d_Di_take_104 (by decide) ?_
        refine lv_icmp_gt (tgt := 145) hx hb d_Di_take_106 (by decide) (fun c_106 => ?_) (fun c_106 => ?_)
        · skip
          have hn2 : ¬ (q ≠ 3 ∧ 48 ≤ v ∧ v ≤ 57) := fun z => absurd c_106 (nI_nlt (a := 57) z.2.2 (by decide))
          refine lv_aload_n hx hb d_Di_take_145 rfl (lv_at hl 0 rfl) ?_
          refine lv_iload_n hx hb d_Di_take_146 rfl (lv_at hl 1 rfl) ?_
          refine va_put (D := (dC, dI)) (ci := 4) (v := .int (nI v)) (ty := .int) (C := "TextForge$Directive") (T := TX4) (N := 6) hx hb hg iwX4 tyX4 tyX4_ok nmX4 hown hK hP hD hS 0 rfl rfl 5 (by decide) (hg _ kw_77) (fun _ h9 => h9) rfl (by decide +kernel) rfl rfl (Nat.le_of_ble_eq_true rfl) d_Di_take_147 (fun H locs hP hD hS => ?_)
          have hP : va_P (dC, dI) vwCl [(h, .inr (4, [.int (nI q), .int (by_z mi), .int (by_z pl), .int (by_z ze), .int (nI wd), .int (nI v)]))] H := hP
          have hD : va_D A [(h, .inr (4, [.int (nI q), .int (by_z mi), .int (by_z pl), .int (by_z ze), .int (nI wd), .int (nI v)]))] := hD
          refine lv_aload_n hx hb d_Di_take_150 rfl (lv_at hl 0 rfl) ?_
          refine lv_iconst (v := 0) hx hb d_Di_take_151 (by decide) ?_
          refine va_put (D := (dC, dI)) (ci := 4) (v := .int 0) (ty := .int) (C := "TextForge$Directive") (T := TX4) (N := 6) hx hb hg iwX4 tyX4 tyX4_ok nmX4 hown hK hP hD hS 0 rfl rfl 0 (by decide) (hg _ kw_72) (fun _ h9 => h9) rfl (by decide +kernel) rfl rfl (Nat.le_of_ble_eq_true rfl) d_Di_take_152 (fun H locs hP hD hS => ?_)
          have hP : va_P (dC, dI) vwCl [(h, .inr (4, [.int 0, .int (by_z mi), .int (by_z pl), .int (by_z ze), .int (nI wd), .int (nI v)]))] H := hP
          have hD : va_D A [(h, .inr (4, [.int 0, .int (by_z mi), .int (by_z pl), .int (by_z ze), .int (nI wd), .int (nI v)]))] := hD
          have hP9 := hP.sub (ws' := [(h, .inr (4, [.int 0, .int (by_z mi), .int (by_z pl), .int (by_z ze), .int (nI wd), .int (nI v)]))]) [0] rfl
          have hD9 := hD.sub (ws' := [(h, .inr (4, [.int 0, .int (by_z mi), .int (by_z pl), .int (by_z ze), .int (nI wd), .int (nI v)]))]) [0] (by decide) rfl
          have hK9 := hK.sub (tys' := []) [] rfl
          exact zz_vret hx hb hr hlocks d_Di_take_155 hS (by first | exact Nat.le_refl _ | decide | omega | (dsimp only; omega)) (by first | exact Nat.le_refl _ | decide | omega | (dsimp only; omega)) (0, mi, pl, ze, wd, v) (by unfold di_t; dsimp only; rw [if_neg hn1, if_neg hn2]) hP9 hK9 hD9
        · skip
          have hlo : 48 ≤ v := Nat.le_of_not_lt (fun z => c_100 (nI_lt (b := 48) z (by decide)))
          have hhi : v ≤ 57 := Nat.le_of_not_lt (fun z => c_106 (nI_lt (a := 57) z (by omega)))
          have hn2 : q ≠ 3 ∧ 48 ≤ v ∧ v ≤ 57 := ⟨fun z => c_94 (by rw [z]; rfl), hlo, hhi⟩
          refine lv_aload_n hx hb d_Di_take_109 rfl (lv_at hl 0 rfl) ?_
          refine lv_aload_n hx hb d_Di_take_110 rfl (lv_at hl 0 rfl) ?_
          refine va_get (D := (dC, dI)) (ci := 4) (v := .int (nI wd)) (C := "TextForge$Directive") (T := TX4) (N := 6) hx hb hg iwX4 hown hK hP 0 rfl rfl 4 (by decide) (hg _ kw_76) (fun _ h9 => h9) rfl d_Di_take_111 ?_
          refine lv_bipush (v := 10) hx hb d_Di_take_114 (by decide) ?_
          refine lv_imul hx hb d_Di_take_116 ?_
          refine lv_iload_n hx hb d_Di_take_117 rfl (lv_at hl 1 rfl) ?_
          refine lv_iadd hx hb d_Di_take_118 ?_
          refine lv_bipush (v := 48) hx hb d_Di_take_119 (by decide) ?_
          refine lv_isub hx hb d_Di_take_121 ?_
          rw [di_w hlo]
          refine va_put (D := (dC, dI)) (ci := 4) (v := .int (nI (wd * 10 + v - 48))) (ty := .int) (C := "TextForge$Directive") (T := TX4) (N := 6) hx hb hg iwX4 tyX4 tyX4_ok nmX4 hown hK hP hD hS 0 rfl rfl 4 (by decide) (hg _ kw_76) (fun _ h9 => h9) rfl (by decide +kernel) rfl rfl (Nat.le_of_ble_eq_true rfl) d_Di_take_122 (fun H locs hP hD hS => ?_)
          have hP : va_P (dC, dI) vwCl [(h, .inr (4, [.int (nI q), .int (by_z mi), .int (by_z pl), .int (by_z ze), .int (nI (wd * 10 + v - 48)), .int (nI le)]))] H := hP
          have hD : va_D A [(h, .inr (4, [.int (nI q), .int (by_z mi), .int (by_z pl), .int (by_z ze), .int (nI (wd * 10 + v - 48)), .int (nI le)]))] := hD
          refine lv_aload_n hx hb d_Di_take_125 rfl (lv_at hl 0 rfl) ?_
          refine lv_aload_n hx hb d_Di_take_126 rfl (lv_at hl 0 rfl) ?_
          refine va_get (D := (dC, dI)) (ci := 4) (v := .int (nI q)) (C := "TextForge$Directive") (T := TX4) (N := 6) hx hb hg iwX4 hown hK hP 0 rfl rfl 0 (by decide) (hg _ kw_72) (fun _ h9 => h9) rfl d_Di_take_127 ?_
          refine lv_iconst (v := 1) hx hb d_Di_take_130 (by decide) ?_
          refine lv_icmp_ne (tgt := 138) hx hb d_Di_take_131 (by decide) (fun c_131 => ?_) (fun c_131 => ?_)
          · skip
            have hq1 : ¬ q = 1 := fun z => c_131 (by rw [z]; rfl)
            refine lv_iconst (v := 3) hx hb d_Di_take_138 (by decide) ?_
            refine va_put (D := (dC, dI)) (ci := 4) (v := .int 3) (ty := .int) (C := "TextForge$Directive") (T := TX4) (N := 6) hx hb hg iwX4 tyX4 tyX4_ok nmX4 hown hK hP hD hS 0 rfl rfl 0 (by decide) (hg _ kw_72) (fun _ h9 => h9) rfl (by decide +kernel) rfl rfl (Nat.le_of_ble_eq_true rfl) d_Di_take_139 (fun H locs hP hD hS => ?_)
            have hP : va_P (dC, dI) vwCl [(h, .inr (4, [.int 3, .int (by_z mi), .int (by_z pl), .int (by_z ze), .int (nI (wd * 10 + v - 48)), .int (nI le)]))] H := hP
            have hD : va_D A [(h, .inr (4, [.int 3, .int (by_z mi), .int (by_z pl), .int (by_z ze), .int (nI (wd * 10 + v - 48)), .int (nI le)]))] := hD
            refine lv_goto (tgt := 155) hx hb d_Di_take_142 (by decide) ?_
            have hP9 := hP.sub (ws' := [(h, .inr (4, [.int 3, .int (by_z mi), .int (by_z pl), .int (by_z ze), .int (nI (wd * 10 + v - 48)), .int (nI le)]))]) [0] rfl
            have hD9 := hD.sub (ws' := [(h, .inr (4, [.int 3, .int (by_z mi), .int (by_z pl), .int (by_z ze), .int (nI (wd * 10 + v - 48)), .int (nI le)]))]) [0] (by decide) rfl
            have hK9 := hK.sub (tys' := []) [] rfl
            exact zz_vret hx hb hr hlocks d_Di_take_155 hS (by first | exact Nat.le_refl _ | decide | omega | (dsimp only; omega)) (by first | exact Nat.le_refl _ | decide | omega | (dsimp only; omega)) (3, mi, pl, ze, (wd * 10 + v - 48), le) (by unfold di_t; dsimp only; rw [if_neg hn1, if_pos hn2, if_neg hq1]) hP9 hK9 hD9
          · skip
            have hq1 : q = 1 := nI_e1 (b := 1) c_131 (by omega) (by decide)
            refine lv_iconst (v := 2) hx hb d_Di_take_134 (by decide) ?_
            refine lv_goto (tgt := 139) hx hb d_Di_take_135 (by decide) ?_
            refine va_put (D := (dC, dI)) (ci := 4) (v := .int 2) (ty := .int) (C := "TextForge$Directive") (T := TX4) (N := 6) hx hb hg iwX4 tyX4 tyX4_ok nmX4 hown hK hP hD hS 0 rfl rfl 0 (by decide) (hg _ kw_72) (fun _ h9 => h9) rfl (by decide +kernel) rfl rfl (Nat.le_of_ble_eq_true rfl) d_Di_take_139 (fun H locs hP hD hS => ?_)
            have hP : va_P (dC, dI) vwCl [(h, .inr (4, [.int 2, .int (by_z mi), .int (by_z pl), .int (by_z ze), .int (nI (wd * 10 + v - 48)), .int (nI le)]))] H := hP
            have hD : va_D A [(h, .inr (4, [.int 2, .int (by_z mi), .int (by_z pl), .int (by_z ze), .int (nI (wd * 10 + v - 48)), .int (nI le)]))] := hD
            refine lv_goto (tgt := 155) hx hb d_Di_take_142 (by decide) ?_
            have hP9 := hP.sub (ws' := [(h, .inr (4, [.int 2, .int (by_z mi), .int (by_z pl), .int (by_z ze), .int (nI (wd * 10 + v - 48)), .int (nI le)]))]) [0] rfl
            have hD9 := hD.sub (ws' := [(h, .inr (4, [.int 2, .int (by_z mi), .int (by_z pl), .int (by_z ze), .int (nI (wd * 10 + v - 48)), .int (nI le)]))]) [0] (by decide) rfl
            have hK9 := hK.sub (tys' := []) [] rfl
            exact zz_vret hx hb hr hlocks d_Di_take_155 hS (by first | exact Nat.le_refl _ | decide | omega | (dsimp only; omega)) (by first | exact Nat.le_refl _ | decide | omega | (dsimp only; omega)) (2, mi, pl, ze, (wd * 10 + v - 48), le) (by unfold di_t; dsimp only; rw [if_neg hn1, if_pos hn2, if_pos hq1]) hP9 hK9 hD9
  · skip
    have hq0 : q = 1 := nI_e1 (b := 1) c_5 (by omega) (by decide)
    subst hq0
    have hP : va_P (dC, dI) vwCl [(h, .inr (4, [.int (nI 1), .int (by_z mi), .int (by_z pl), .int (by_z ze), .int (nI wd), .int (nI le)]))] s.heap := hP
    refine lv_iload_n hx hb d_Di_take_8 rfl (lv_at hl 1 rfl) ?_
    refine lv_bipush (v := 45) hx hb d_Di_take_9 (by decide) ?_
    refine lv_icmp_eq (tgt := 26) hx hb d_Di_take_11 (by decide) (fun c_11 => ?_) (fun c_11 => ?_)
    · skip
      have hv0 : v = 45 := nI_e1 (b := 45) c_11 (by omega) (by decide)
      subst hv0
      have hl : lv_has ls 2 [(0, .ref h), (1, .int (nI 45))] := hl
      refine lv_aload_n hx hb d_Di_take_26 rfl (lv_at hl 0 rfl) ?_
      refine lv_dup hx hb d_Di_take_27 rfl ?_
      refine va_get (D := (dC, dI)) (ci := 4) (v := .int (by_z mi)) (C := "TextForge$Directive") (T := TX4) (N := 6) hx hb hg iwX4 hown hK hP 0 rfl rfl 1 (by decide) (hg _ kw_73) (fun _ h9 => h9) rfl d_Di_take_28 ?_
      refine lv_iload_n hx hb d_Di_take_31 rfl (lv_at hl 1 rfl) ?_
      refine lv_bipush (v := 45) hx hb d_Di_take_32 (by decide) ?_
      refine lv_icmp_ne (tgt := 41) hx hb d_Di_take_34 (by decide) (fun c9 => by first | exact absurd c9 (fun z => z (by decide)) | exact absurd (fun z => z (by decide)) c9) (fun _ => ?_)
      refine lv_iconst (v := 1) hx hb d_Di_take_37 (by decide) ?_
      refine lv_goto (tgt := 42) hx hb d_Di_take_38 (by decide) ?_
      refine lv_ior hx hb d_Di_take_42 ?_
      rw [by_or1]
      refine va_put (D := (dC, dI)) (ci := 4) (v := .int (by_z (mi || true))) (ty := .boolean) (C := "TextForge$Directive") (T := TX4) (N := 6) hx hb hg iwX4 tyX4 tyX4_ok nmX4 hown hK hP hD hS 0 rfl rfl 1 (by decide) (hg _ kw_73) (fun _ h9 => h9) rfl (by decide +kernel) by_zn by_zf (Nat.le_of_ble_eq_true rfl) d_Di_take_43 (fun H locs hP hD hS => ?_)
      have hP : va_P (dC, dI) vwCl [(h, .inr (4, [.int (nI 1), .int (by_z (mi || true)), .int (by_z pl), .int (by_z ze), .int (nI wd), .int (nI le)]))] H := hP
      have hD : va_D A [(h, .inr (4, [.int (nI 1), .int (by_z (mi || true)), .int (by_z pl), .int (by_z ze), .int (nI wd), .int (nI le)]))] := hD
      refine lv_aload_n hx hb d_Di_take_46 rfl (lv_at hl 0 rfl) ?_
      refine lv_dup hx hb d_Di_take_47 rfl ?_
      refine va_get (D := (dC, dI)) (ci := 4) (v := .int (by_z pl)) (C := "TextForge$Directive") (T := TX4) (N := 6) hx hb hg iwX4 hown hK hP 0 rfl rfl 2 (by decide) (hg _ kw_74) (fun _ h9 => h9) rfl d_Di_take_48 ?_
      refine lv_iload_n hx hb d_Di_take_51 rfl (lv_at hl 1 rfl) ?_
      refine lv_bipush (v := 43) hx hb d_Di_take_52 (by decide) ?_
      refine lv_icmp_ne (tgt := 61) hx hb d_Di_take_54 (by decide) (fun _ => ?_) (fun c9 => by first | exact absurd c9 (by decide) | exact absurd (by decide) c9)
      refine lv_iconst (v := 0) hx hb d_Di_take_61 (by decide) ?_
      refine lv_ior hx hb d_Di_take_62 ?_
      rw [by_or0]
      refine va_put (D := (dC, dI)) (ci := 4) (v := .int (by_z (pl || false))) (ty := .boolean) (C := "TextForge$Directive") (T := TX4) (N := 6) hx hb hg iwX4 tyX4 tyX4_ok nmX4 hown hK hP hD hS 0 rfl rfl 2 (by decide) (hg _ kw_74) (fun _ h9 => h9) rfl (by decide +kernel) by_zn by_zf (Nat.le_of_ble_eq_true rfl) d_Di_take_63 (fun H locs hP hD hS => ?_)
      have hP : va_P (dC, dI) vwCl [(h, .inr (4, [.int (nI 1), .int (by_z (mi || true)), .int (by_z (pl || false)), .int (by_z ze), .int (nI wd), .int (nI le)]))] H := hP
      have hD : va_D A [(h, .inr (4, [.int (nI 1), .int (by_z (mi || true)), .int (by_z (pl || false)), .int (by_z ze), .int (nI wd), .int (nI le)]))] := hD
      refine lv_aload_n hx hb d_Di_take_66 rfl (lv_at hl 0 rfl) ?_
      refine lv_dup hx hb d_Di_take_67 rfl ?_
      refine va_get (D := (dC, dI)) (ci := 4) (v := .int (by_z ze)) (C := "TextForge$Directive") (T := TX4) (N := 6) hx hb hg iwX4 hown hK hP 0 rfl rfl 3 (by decide) (hg _ kw_75) (fun _ h9 => h9) rfl d_Di_take_68 ?_
      refine lv_iload_n hx hb d_Di_take_71 rfl (lv_at hl 1 rfl) ?_
      refine lv_bipush (v := 48) hx hb d_Di_take_72 (by decide) ?_
      refine lv_icmp_ne (tgt := 81) hx hb d_Di_take_74 (by decide) (fun _ => ?_) (fun c9 => by first | exact absurd c9 (by decide) | exact absurd (by decide) c9)
      refine lv_iconst (v := 0) hx hb d_Di_take_81 (by decide) ?_
      refine lv_ior hx hb d_Di_take_82 ?_
      rw [by_or0]
      refine va_put (D := (dC, dI)) (ci := 4) (v := .int (by_z (ze || false))) (ty := .boolean) (C := "TextForge$Directive") (T := TX4) (N := 6) hx hb hg iwX4 tyX4 tyX4_ok nmX4 hown hK hP hD hS 0 rfl rfl 3 (by decide) (hg _ kw_75) (fun _ h9 => h9) rfl (by decide +kernel) by_zn by_zf (Nat.le_of_ble_eq_true rfl) d_Di_take_83 (fun H locs hP hD hS => ?_)
      have hP : va_P (dC, dI) vwCl [(h, .inr (4, [.int (nI 1), .int (by_z (mi || true)), .int (by_z (pl || false)), .int (by_z (ze || false)), .int (nI wd), .int (nI le)]))] H := hP
      have hD : va_D A [(h, .inr (4, [.int (nI 1), .int (by_z (mi || true)), .int (by_z (pl || false)), .int (by_z (ze || false)), .int (nI wd), .int (nI le)]))] := hD
      refine lv_goto (tgt := 155) hx hb d_Di_take_86 (by decide) ?_
      have hP9 := hP.sub (ws' := [(h, .inr (4, [.int (nI 1), .int (by_z (mi || true)), .int (by_z (pl || false)), .int (by_z (ze || false)), .int (nI wd), .int (nI le)]))]) [0] rfl
      have hD9 := hD.sub (ws' := [(h, .inr (4, [.int (nI 1), .int (by_z (mi || true)), .int (by_z (pl || false)), .int (by_z (ze || false)), .int (nI wd), .int (nI le)]))]) [0] (by decide) rfl
      have hK9 := hK.sub (tys' := []) [] rfl
      exact zz_vret hx hb hr hlocks d_Di_take_155 hS (by first | exact Nat.le_refl _ | decide | omega | (dsimp only; omega)) (by first | exact Nat.le_refl _ | decide | omega | (dsimp only; omega)) (1, (mi || true), (pl || false), (ze || false), wd, le) rfl hP9 hK9 hD9
    · skip
      refine lv_iload_n hx hb d_Di_take_14 rfl (lv_at hl 1 rfl) ?_
      refine lv_bipush (v := 43) hx hb d_Di_take_15 (by decide) ?_
      refine lv_icmp_eq (tgt := 26) hx hb d_Di_take_17 (by decide) (fun c_17 => ?_) (fun c_17 => ?_)
      · skip
        have hv0 : v = 43 := nI_e1 (b := 43) c_17 (by omega) (by decide)
        subst hv0
        have hl : lv_has ls 2 [(0, .ref h), (1, .int (nI 43))] := hl
        refine lv_aload_n hx hb d_Di_take_26 rfl (lv_at hl 0 rfl) ?_
        refine lv_dup hx hb d_Di_take_27 rfl ?_
        refine va_get (D := (dC, dI)) (ci := 4) (v := .int (by_z mi)) (C := "TextForge$Directive") (T := TX4) (N := 6) hx hb hg iwX4 hown hK hP 0 rfl rfl 1 (by decide) (hg _ kw_73) (fun _ h9 => h9) rfl d_Di_take_28 ?_
        refine lv_iload_n hx hb d_Di_take_31 rfl (lv_at hl 1 rfl) ?_
        refine lv_bipush (v := 45) hx hb d_Di_take_32 (by decide) ?_
        refine lv_icmp_ne (tgt := 41) hx hb d_Di_take_34 (by decide) (fun _ => ?_) (fun c9 => by first | exact absurd c9 (by decide) | exact absurd (by decide) c9)
        refine lv_iconst (v := 0) hx hb d_Di_take_41 (by decide) ?_
        refine lv_ior hx hb d_Di_take_42 ?_
        rw [by_or0]
        refine va_put (D := (dC, dI)) (ci := 4) (v := .int (by_z (mi || false))) (ty := .boolean) (C := "TextForge$Directive") (T := TX4) (N := 6) hx hb hg iwX4 tyX4 tyX4_ok nmX4 hown hK hP hD hS 0 rfl rfl 1 (by decide) (hg _ kw_73) (fun _ h9 => h9) rfl (by decide +kernel) by_zn by_zf (Nat.le_of_ble_eq_true rfl) d_Di_take_43 (fun H locs hP hD hS => ?_)
        have hP : va_P (dC, dI) vwCl [(h, .inr (4, [.int (nI 1), .int (by_z (mi || false)), .int (by_z pl), .int (by_z ze), .int (nI wd), .int (nI le)]))] H := hP
        have hD : va_D A [(h, .inr (4, [.int (nI 1), .int (by_z (mi || false)), .int (by_z pl), .int (by_z ze), .int (nI wd), .int (nI le)]))] := hD
        refine lv_aload_n hx hb d_Di_take_46 rfl (lv_at hl 0 rfl) ?_
        refine lv_dup hx hb d_Di_take_47 rfl ?_
        refine va_get (D := (dC, dI)) (ci := 4) (v := .int (by_z pl)) (C := "TextForge$Directive") (T := TX4) (N := 6) hx hb hg iwX4 hown hK hP 0 rfl rfl 2 (by decide) (hg _ kw_74) (fun _ h9 => h9) rfl d_Di_take_48 ?_
        refine lv_iload_n hx hb d_Di_take_51 rfl (lv_at hl 1 rfl) ?_
        refine lv_bipush (v := 43) hx hb d_Di_take_52 (by decide) ?_
        refine lv_icmp_ne (tgt := 61) hx hb d_Di_take_54 (by decide) (fun c9 => by first | exact absurd c9 (fun z => z (by decide)) | exact absurd (fun z => z (by decide)) c9) (fun _ => ?_)
        refine lv_iconst (v := 1) hx hb d_Di_take_57 (by decide) ?_
        refine lv_goto (tgt := 62) hx hb d_Di_take_58 (by decide) ?_
        refine lv_ior hx hb d_Di_take_62 ?_
        rw [by_or1]
        refine va_put (D := (dC, dI)) (ci := 4) (v := .int (by_z (pl || true))) (ty := .boolean) (C := "TextForge$Directive") (T := TX4) (N := 6) hx hb hg iwX4 tyX4 tyX4_ok nmX4 hown hK hP hD hS 0 rfl rfl 2 (by decide) (hg _ kw_74) (fun _ h9 => h9) rfl (by decide +kernel) by_zn by_zf (Nat.le_of_ble_eq_true rfl) d_Di_take_63 (fun H locs hP hD hS => ?_)
        have hP : va_P (dC, dI) vwCl [(h, .inr (4, [.int (nI 1), .int (by_z (mi || false)), .int (by_z (pl || true)), .int (by_z ze), .int (nI wd), .int (nI le)]))] H := hP
        have hD : va_D A [(h, .inr (4, [.int (nI 1), .int (by_z (mi || false)), .int (by_z (pl || true)), .int (by_z ze), .int (nI wd), .int (nI le)]))] := hD
        refine lv_aload_n hx hb d_Di_take_66 rfl (lv_at hl 0 rfl) ?_
        refine lv_dup hx hb d_Di_take_67 rfl ?_
        refine va_get (D := (dC, dI)) (ci := 4) (v := .int (by_z ze)) (C := "TextForge$Directive") (T := TX4) (N := 6) hx hb hg iwX4 hown hK hP 0 rfl rfl 3 (by decide) (hg _ kw_75) (fun _ h9 => h9) rfl d_Di_take_68 ?_
        refine lv_iload_n hx hb d_Di_take_71 rfl (lv_at hl 1 rfl) ?_
        refine lv_bipush (v := 48) hx hb d_Di_take_72 (by decide) ?_
        refine lv_icmp_ne (tgt := 81) hx hb d_Di_take_74 (by decide) (fun _ => ?_) (fun c9 => by first | exact absurd c9 (by decide) | exact absurd (by decide) c9)
        refine lv_iconst (v := 0) hx hb d_Di_take_81 (by decide) ?_
        refine lv_ior hx hb d_Di_take_82 ?_
        rw [by_or0]
        refine va_put (D := (dC, dI)) (ci := 4) (v := .int (by_z (ze || false))) (ty := .boolean) (C := "TextForge$Directive") (T := TX4) (N := 6) hx hb hg iwX4 tyX4 tyX4_ok nmX4 hown hK hP hD hS 0 rfl rfl 3 (by decide) (hg _ kw_75) (fun _ h9 => h9) rfl (by decide +kernel) by_zn by_zf (Nat.le_of_ble_eq_true rfl) d_Di_take_83 (fun H locs hP hD hS => ?_)
        have hP : va_P (dC, dI) vwCl [(h, .inr (4, [.int (nI 1), .int (by_z (mi || false)), .int (by_z (pl || true)), .int (by_z (ze || false)), .int (nI wd), .int (nI le)]))] H := hP
        have hD : va_D A [(h, .inr (4, [.int (nI 1), .int (by_z (mi || false)), .int (by_z (pl || true)), .int (by_z (ze || false)), .int (nI wd), .int (nI le)]))] := hD
        refine lv_goto (tgt := 155) hx hb d_Di_take_86 (by decide) ?_
        have hP9 := hP.sub (ws' := [(h, .inr (4, [.int (nI 1), .int (by_z (mi || false)), .int (by_z (pl || true)), .int (by_z (ze || false)), .int (nI wd), .int (nI le)]))]) [0] rfl
        have hD9 := hD.sub (ws' := [(h, .inr (4, [.int (nI 1), .int (by_z (mi || false)), .int (by_z (pl || true)), .int (by_z (ze || false)), .int (nI wd), .int (nI le)]))]) [0] (by decide) rfl
        have hK9 := hK.sub (tys' := []) [] rfl
        exact zz_vret hx hb hr hlocks d_Di_take_155 hS (by first | exact Nat.le_refl _ | decide | omega | (dsimp only; omega)) (by first | exact Nat.le_refl _ | decide | omega | (dsimp only; omega)) (1, (mi || false), (pl || true), (ze || false), wd, le) rfl hP9 hK9 hD9
      · skip
        refine lv_iload_n hx hb d_Di_take_20 rfl (lv_at hl 1 rfl) ?_
        refine lv_bipush (v := 48) hx hb d_Di_take_21 (by decide) ?_
        refine lv_icmp_ne (tgt := 89) hx hb d_Di_take_23 (by decide) (fun c_23 => ?_) (fun c_23 => ?_)
        · skip
          have hn1 : ¬ ((1 : Nat) = 1 ∧ (v = 45 ∨ v = 43 ∨ v = 48)) := fun z => by rcases z.2 with h | h | h; exact c_11 (by rw [h]; rfl); exact c_17 (by rw [h]; rfl); exact c_23 (by rw [h]; rfl)
          refine lv_aload_n hx hb d_Di_take_89 rfl (lv_at hl 0 rfl) ?_
          refine va_get (D := (dC, dI)) (ci := 4) (v := .int (nI 1)) (C := "TextForge$Directive") (T := TX4) (N := 6) hx hb hg iwX4 hown hK hP 0 rfl rfl 0 (by decide) (hg _ kw_72) (fun _ h9 => h9) rfl d_Di_take_90 ?_
          refine lv_iconst (v := 3) hx hb d_Di_take_93 (by decide) ?_
          refine lv_icmp_eq (tgt := 145) hx hb d_Di_take_94 (by decide) (fun c_94 => ?_) (fun c_94 => ?_)
          · skip
            have hn2 : ¬ (1 ≠ 3 ∧ 48 ≤ v ∧ v ≤ 57) := fun z => z.1 (nI_e1 (b := 3) c_94 (by omega) (by decide))
            refine lv_aload_n hx hb d_Di_take_145 rfl (lv_at hl 0 rfl) ?_
            refine lv_iload_n hx hb d_Di_take_146 rfl (lv_at hl 1 rfl) ?_
            refine va_put (D := (dC, dI)) (ci := 4) (v := .int (nI v)) (ty := .int) (C := "TextForge$Directive") (T := TX4) (N := 6) hx hb hg iwX4 tyX4 tyX4_ok nmX4 hown hK hP hD hS 0 rfl rfl 5 (by decide) (hg _ kw_77) (fun _ h9 => h9) rfl (by decide +kernel) rfl rfl (Nat.le_of_ble_eq_true rfl) d_Di_take_147 (fun H locs hP hD hS => ?_)
            have hP : va_P (dC, dI) vwCl [(h, .inr (4, [.int (nI 1), .int (by_z mi), .int (by_z pl), .int (by_z ze), .int (nI wd), .int (nI v)]))] H := hP
            have hD : va_D A [(h, .inr (4, [.int (nI 1), .int (by_z mi), .int (by_z pl), .int (by_z ze), .int (nI wd), .int (nI v)]))] := hD
            refine lv_aload_n hx hb d_Di_take_150 rfl (lv_at hl 0 rfl) ?_
            refine lv_iconst (v := 0) hx hb d_Di_take_151 (by decide) ?_
            refine va_put (D := (dC, dI)) (ci := 4) (v := .int 0) (ty := .int) (C := "TextForge$Directive") (T := TX4) (N := 6) hx hb hg iwX4 tyX4 tyX4_ok nmX4 hown hK hP hD hS 0 rfl rfl 0 (by decide) (hg _ kw_72) (fun _ h9 => h9) rfl (by decide +kernel) rfl rfl (Nat.le_of_ble_eq_true rfl) d_Di_take_152 (fun H locs hP hD hS => ?_)
            have hP : va_P (dC, dI) vwCl [(h, .inr (4, [.int 0, .int (by_z mi), .int (by_z pl), .int (by_z ze), .int (nI wd), .int (nI v)]))] H := hP
            have hD : va_D A [(h, .inr (4, [.int 0, .int (by_z mi), .int (by_z pl), .int (by_z ze), .int (nI wd), .int (nI v)]))] := hD
            have hP9 := hP.sub (ws' := [(h, .inr (4, [.int 0, .int (by_z mi), .int (by_z pl), .int (by_z ze), .int (nI wd), .int (nI v)]))]) [0] rfl
            have hD9 := hD.sub (ws' := [(h, .inr (4, [.int 0, .int (by_z mi), .int (by_z pl), .int (by_z ze), .int (nI wd), .int (nI v)]))]) [0] (by decide) rfl
            have hK9 := hK.sub (tys' := []) [] rfl
            exact zz_vret hx hb hr hlocks d_Di_take_155 hS (by first | exact Nat.le_refl _ | decide | omega | (dsimp only; omega)) (by first | exact Nat.le_refl _ | decide | omega | (dsimp only; omega)) (0, mi, pl, ze, wd, v) (by unfold di_t; dsimp only; rw [if_neg hn1, if_neg hn2]) hP9 hK9 hD9
          · skip
            refine lv_iload_n hx hb d_Di_take_97 rfl (lv_at hl 1 rfl) ?_
            refine lv_bipush (v := 48) hx hb d_Di_take_98 (by decide) ?_
            refine lv_icmp_lt (tgt := 145) hx hb d_Di_take_100 (by decide) (fun c_100 => ?_) (fun c_100 => ?_)
            · skip
              have hn2 : ¬ (1 ≠ 3 ∧ 48 ≤ v ∧ v ≤ 57) := fun z => absurd c_100 (nI_nlt (b := 48) z.2.1 (by omega))
              refine lv_aload_n hx hb d_Di_take_145 rfl (lv_at hl 0 rfl) ?_
              refine lv_iload_n hx hb d_Di_take_146 rfl (lv_at hl 1 rfl) ?_
              refine va_put (D := (dC, dI)) (ci := 4) (v := .int (nI v)) (ty := .int) (C := "TextForge$Directive") (T := TX4) (N := 6) hx hb hg iwX4 tyX4 tyX4_ok nmX4 hown hK hP hD hS 0 rfl rfl 5 (by decide) (hg _ kw_77) (fun _ h9 => h9) rfl (by decide +kernel) rfl rfl (Nat.le_of_ble_eq_true rfl) d_Di_take_147 (fun H locs hP hD hS => ?_)
              have hP : va_P (dC, dI) vwCl [(h, .inr (4, [.int (nI 1), .int (by_z mi), .int (by_z pl), .int (by_z ze), .int (nI wd), .int (nI v)]))] H := hP
              have hD : va_D A [(h, .inr (4, [.int (nI 1), .int (by_z mi), .int (by_z pl), .int (by_z ze), .int (nI wd), .int (nI v)]))] := hD
              refine lv_aload_n hx hb d_Di_take_150 rfl (lv_at hl 0 rfl) ?_
              refine lv_iconst (v := 0) hx hb d_Di_take_151 (by decide) ?_
              refine va_put (D := (dC, dI)) (ci := 4) (v := .int 0) (ty := .int) (C := "TextForge$Directive") (T := TX4) (N := 6) hx hb hg iwX4 tyX4 tyX4_ok nmX4 hown hK hP hD hS 0 rfl rfl 0 (by decide) (hg _ kw_72) (fun _ h9 => h9) rfl (by decide +kernel) rfl rfl (Nat.le_of_ble_eq_true rfl) d_Di_take_152 (fun H locs hP hD hS => ?_)
              have hP : va_P (dC, dI) vwCl [(h, .inr (4, [.int 0, .int (by_z mi), .int (by_z pl), .int (by_z ze), .int (nI wd), .int (nI v)]))] H := hP
              have hD : va_D A [(h, .inr (4, [.int 0, .int (by_z mi), .int (by_z pl), .int (by_z ze), .int (nI wd), .int (nI v)]))] := hD
              have hP9 := hP.sub (ws' := [(h, .inr (4, [.int 0, .int (by_z mi), .int (by_z pl), .int (by_z ze), .int (nI wd), .int (nI v)]))]) [0] rfl
              have hD9 := hD.sub (ws' := [(h, .inr (4, [.int 0, .int (by_z mi), .int (by_z pl), .int (by_z ze), .int (nI wd), .int (nI v)]))]) [0] (by decide) rfl
              have hK9 := hK.sub (tys' := []) [] rfl
              exact zz_vret hx hb hr hlocks d_Di_take_155 hS (by first | exact Nat.le_refl _ | decide | omega | (dsimp only; omega)) (by first | exact Nat.le_refl _ | decide | omega | (dsimp only; omega)) (0, mi, pl, ze, wd, v) (by unfold di_t; dsimp only; rw [if_neg hn1, if_neg hn2]) hP9 hK9 hD9
            · skip
              refine lv_iload_n hx hb d_Di_take_103 rfl (lv_at hl 1 rfl) ?_
              refine lv_bipush (v := 57) hx hb d_Di_take_104 (by decide) ?_
              refine lv_icmp_gt (tgt := 145) hx hb d_Di_take_106 (by decide) (fun c_106 => ?_) (fun c_106 => ?_)
              · skip
                have hn2 : ¬ (1 ≠ 3 ∧ 48 ≤ v ∧ v ≤ 57) := fun z => absurd c_106 (nI_nlt (a := 57) z.2.2 (by decide))
                refine lv_aload_n hx hb d_Di_take_145 rfl (lv_at hl 0 rfl) ?_
                refine lv_iload_n hx hb d_Di_take_146 rfl (lv_at hl 1 rfl) ?_
                refine va_put (D := (dC, dI)) (ci := 4) (v := .int (nI v)) (ty := .int) (C := "TextForge$Directive") (T := TX4) (N := 6) hx hb hg iwX4 tyX4 tyX4_ok nmX4 hown hK hP hD hS 0 rfl rfl 5 (by decide) (hg _ kw_77) (fun _ h9 => h9) rfl (by decide +kernel) rfl rfl (Nat.le_of_ble_eq_true rfl) d_Di_take_147 (fun H locs hP hD hS => ?_)
                have hP : va_P (dC, dI) vwCl [(h, .inr (4, [.int (nI 1), .int (by_z mi), .int (by_z pl), .int (by_z ze), .int (nI wd), .int (nI v)]))] H := hP
                have hD : va_D A [(h, .inr (4, [.int (nI 1), .int (by_z mi), .int (by_z pl), .int (by_z ze), .int (nI wd), .int (nI v)]))] := hD
                refine lv_aload_n hx hb d_Di_take_150 rfl (lv_at hl 0 rfl) ?_
                refine lv_iconst (v := 0) hx hb d_Di_take_151 (by decide) ?_
                refine va_put (D := (dC, dI)) (ci := 4) (v := .int 0) (ty := .int) (C := "TextForge$Directive") (T := TX4) (N := 6) hx hb hg iwX4 tyX4 tyX4_ok nmX4 hown hK hP hD hS 0 rfl rfl 0 (by decide) (hg _ kw_72) (fun _ h9 => h9) rfl (by decide +kernel) rfl rfl (Nat.le_of_ble_eq_true rfl) d_Di_take_152 (fun H locs hP hD hS => ?_)
                have hP : va_P (dC, dI) vwCl [(h, .inr (4, [.int 0, .int (by_z mi), .int (by_z pl), .int (by_z ze), .int (nI wd), .int (nI v)]))] H := hP
                have hD : va_D A [(h, .inr (4, [.int 0, .int (by_z mi), .int (by_z pl), .int (by_z ze), .int (nI wd), .int (nI v)]))] := hD
                have hP9 := hP.sub (ws' := [(h, .inr (4, [.int 0, .int (by_z mi), .int (by_z pl), .int (by_z ze), .int (nI wd), .int (nI v)]))]) [0] rfl
                have hD9 := hD.sub (ws' := [(h, .inr (4, [.int 0, .int (by_z mi), .int (by_z pl), .int (by_z ze), .int (nI wd), .int (nI v)]))]) [0] (by decide) rfl
                have hK9 := hK.sub (tys' := []) [] rfl
                exact zz_vret hx hb hr hlocks d_Di_take_155 hS (by first | exact Nat.le_refl _ | decide | omega | (dsimp only; omega)) (by first | exact Nat.le_refl _ | decide | omega | (dsimp only; omega)) (0, mi, pl, ze, wd, v) (by unfold di_t; dsimp only; rw [if_neg hn1, if_neg hn2]) hP9 hK9 hD9
              · skip
                have hlo : 48 ≤ v := Nat.le_of_not_lt (fun z => c_100 (nI_lt (b := 48) z (by decide)))
                have hhi : v ≤ 57 := Nat.le_of_not_lt (fun z => c_106 (nI_lt (a := 57) z (by omega)))
                have hn2 : 1 ≠ 3 ∧ 48 ≤ v ∧ v ≤ 57 := ⟨fun z => c_94 (by rw [z]; rfl), hlo, hhi⟩
                refine lv_aload_n hx hb d_Di_take_109 rfl (lv_at hl 0 rfl) ?_
                refine lv_aload_n hx hb d_Di_take_110 rfl (lv_at hl 0 rfl) ?_
                refine va_get (D := (dC, dI)) (ci := 4) (v := .int (nI wd)) (C := "TextForge$Directive") (T := TX4) (N := 6) hx hb hg iwX4 hown hK hP 0 rfl rfl 4 (by decide) (hg _ kw_76) (fun _ h9 => h9) rfl d_Di_take_111 ?_
                refine lv_bipush (v := 10) hx hb d_Di_take_114 (by decide) ?_
                refine lv_imul hx hb d_Di_take_116 ?_
                refine lv_iload_n hx hb d_Di_take_117 rfl (lv_at hl 1 rfl) ?_
                refine lv_iadd hx hb d_Di_take_118 ?_
                refine lv_bipush (v := 48) hx hb d_Di_take_119 (by decide) ?_
                refine lv_isub hx hb d_Di_take_121 ?_
                rw [di_w hlo]
                refine va_put (D := (dC, dI)) (ci := 4) (v := .int (nI (wd * 10 + v - 48))) (ty := .int) (C := "TextForge$Directive") (T := TX4) (N := 6) hx hb hg iwX4 tyX4 tyX4_ok nmX4 hown hK hP hD hS 0 rfl rfl 4 (by decide) (hg _ kw_76) (fun _ h9 => h9) rfl (by decide +kernel) rfl rfl (Nat.le_of_ble_eq_true rfl) d_Di_take_122 (fun H locs hP hD hS => ?_)
                have hP : va_P (dC, dI) vwCl [(h, .inr (4, [.int (nI 1), .int (by_z mi), .int (by_z pl), .int (by_z ze), .int (nI (wd * 10 + v - 48)), .int (nI le)]))] H := hP
                have hD : va_D A [(h, .inr (4, [.int (nI 1), .int (by_z mi), .int (by_z pl), .int (by_z ze), .int (nI (wd * 10 + v - 48)), .int (nI le)]))] := hD
                refine lv_aload_n hx hb d_Di_take_125 rfl (lv_at hl 0 rfl) ?_
                refine lv_aload_n hx hb d_Di_take_126 rfl (lv_at hl 0 rfl) ?_
                refine va_get (D := (dC, dI)) (ci := 4) (v := .int (nI 1)) (C := "TextForge$Directive") (T := TX4) (N := 6) hx hb hg iwX4 hown hK hP 0 rfl rfl 0 (by decide) (hg _ kw_72) (fun _ h9 => h9) rfl d_Di_take_127 ?_
                refine lv_iconst (v := 1) hx hb d_Di_take_130 (by decide) ?_
                refine lv_icmp_ne (tgt := 138) hx hb d_Di_take_131 (by decide) (fun c9 => by first | exact absurd c9 (fun z => z (by decide)) | exact absurd (fun z => z (by decide)) c9) (fun _ => ?_)
                refine lv_iconst (v := 2) hx hb d_Di_take_134 (by decide) ?_
                refine lv_goto (tgt := 139) hx hb d_Di_take_135 (by decide) ?_
                refine va_put (D := (dC, dI)) (ci := 4) (v := .int 2) (ty := .int) (C := "TextForge$Directive") (T := TX4) (N := 6) hx hb hg iwX4 tyX4 tyX4_ok nmX4 hown hK hP hD hS 0 rfl rfl 0 (by decide) (hg _ kw_72) (fun _ h9 => h9) rfl (by decide +kernel) rfl rfl (Nat.le_of_ble_eq_true rfl) d_Di_take_139 (fun H locs hP hD hS => ?_)
                have hP : va_P (dC, dI) vwCl [(h, .inr (4, [.int 2, .int (by_z mi), .int (by_z pl), .int (by_z ze), .int (nI (wd * 10 + v - 48)), .int (nI le)]))] H := hP
                have hD : va_D A [(h, .inr (4, [.int 2, .int (by_z mi), .int (by_z pl), .int (by_z ze), .int (nI (wd * 10 + v - 48)), .int (nI le)]))] := hD
                refine lv_goto (tgt := 155) hx hb d_Di_take_142 (by decide) ?_
                have hP9 := hP.sub (ws' := [(h, .inr (4, [.int 2, .int (by_z mi), .int (by_z pl), .int (by_z ze), .int (nI (wd * 10 + v - 48)), .int (nI le)]))]) [0] rfl
                have hD9 := hD.sub (ws' := [(h, .inr (4, [.int 2, .int (by_z mi), .int (by_z pl), .int (by_z ze), .int (nI (wd * 10 + v - 48)), .int (nI le)]))]) [0] (by decide) rfl
                have hK9 := hK.sub (tys' := []) [] rfl
                exact zz_vret hx hb hr hlocks d_Di_take_155 hS (by first | exact Nat.le_refl _ | decide | omega | (dsimp only; omega)) (by first | exact Nat.le_refl _ | decide | omega | (dsimp only; omega)) (2, mi, pl, ze, (wd * 10 + v - 48), le) (by unfold di_t; dsimp only; rw [if_neg hn1, if_pos hn2, if_pos rfl]) hP9 hK9 hD9
        · skip
          have hv0 : v = 48 := nI_e1 (b := 48) c_23 (by omega) (by decide)
          subst hv0
          have hl : lv_has ls 2 [(0, .ref h), (1, .int (nI 48))] := hl
          refine lv_aload_n hx hb d_Di_take_26 rfl (lv_at hl 0 rfl) ?_
          refine lv_dup hx hb d_Di_take_27 rfl ?_
          refine va_get (D := (dC, dI)) (ci := 4) (v := .int (by_z mi)) (C := "TextForge$Directive") (T := TX4) (N := 6) hx hb hg iwX4 hown hK hP 0 rfl rfl 1 (by decide) (hg _ kw_73) (fun _ h9 => h9) rfl d_Di_take_28 ?_
          refine lv_iload_n hx hb d_Di_take_31 rfl (lv_at hl 1 rfl) ?_
          refine lv_bipush (v := 45) hx hb d_Di_take_32 (by decide) ?_
          refine lv_icmp_ne (tgt := 41) hx hb d_Di_take_34 (by decide) (fun _ => ?_) (fun c9 => by first | exact absurd c9 (by decide) | exact absurd (by decide) c9)
          refine lv_iconst (v := 0) hx hb d_Di_take_41 (by decide) ?_
          refine lv_ior hx hb d_Di_take_42 ?_
          rw [by_or0]
          refine va_put (D := (dC, dI)) (ci := 4) (v := .int (by_z (mi || false))) (ty := .boolean) (C := "TextForge$Directive") (T := TX4) (N := 6) hx hb hg iwX4 tyX4 tyX4_ok nmX4 hown hK hP hD hS 0 rfl rfl 1 (by decide) (hg _ kw_73) (fun _ h9 => h9) rfl (by decide +kernel) by_zn by_zf (Nat.le_of_ble_eq_true rfl) d_Di_take_43 (fun H locs hP hD hS => ?_)
          have hP : va_P (dC, dI) vwCl [(h, .inr (4, [.int (nI 1), .int (by_z (mi || false)), .int (by_z pl), .int (by_z ze), .int (nI wd), .int (nI le)]))] H := hP
          have hD : va_D A [(h, .inr (4, [.int (nI 1), .int (by_z (mi || false)), .int (by_z pl), .int (by_z ze), .int (nI wd), .int (nI le)]))] := hD
          refine lv_aload_n hx hb d_Di_take_46 rfl (lv_at hl 0 rfl) ?_
          refine lv_dup hx hb d_Di_take_47 rfl ?_
          refine va_get (D := (dC, dI)) (ci := 4) (v := .int (by_z pl)) (C := "TextForge$Directive") (T := TX4) (N := 6) hx hb hg iwX4 hown hK hP 0 rfl rfl 2 (by decide) (hg _ kw_74) (fun _ h9 => h9) rfl d_Di_take_48 ?_
          refine lv_iload_n hx hb d_Di_take_51 rfl (lv_at hl 1 rfl) ?_
          refine lv_bipush (v := 43) hx hb d_Di_take_52 (by decide) ?_
          refine lv_icmp_ne (tgt := 61) hx hb d_Di_take_54 (by decide) (fun _ => ?_) (fun c9 => by first | exact absurd c9 (by decide) | exact absurd (by decide) c9)
          refine lv_iconst (v := 0) hx hb d_Di_take_61 (by decide) ?_
          refine lv_ior hx hb d_Di_take_62 ?_
          rw [by_or0]
          refine va_put (D := (dC, dI)) (ci := 4) (v := .int (by_z (pl || false))) (ty := .boolean) (C := "TextForge$Directive") (T := TX4) (N := 6) hx hb hg iwX4 tyX4 tyX4_ok nmX4 hown hK hP hD hS 0 rfl rfl 2 (by decide) (hg _ kw_74) (fun _ h9 => h9) rfl (by decide +kernel) by_zn by_zf (Nat.le_of_ble_eq_true rfl) d_Di_take_63 (fun H locs hP hD hS => ?_)
          have hP : va_P (dC, dI) vwCl [(h, .inr (4, [.int (nI 1), .int (by_z (mi || false)), .int (by_z (pl || false)), .int (by_z ze), .int (nI wd), .int (nI le)]))] H := hP
          have hD : va_D A [(h, .inr (4, [.int (nI 1), .int (by_z (mi || false)), .int (by_z (pl || false)), .int (by_z ze), .int (nI wd), .int (nI le)]))] := hD
          refine lv_aload_n hx hb d_Di_take_66 rfl (lv_at hl 0 rfl) ?_
          refine lv_dup hx hb d_Di_take_67 rfl ?_
          refine va_get (D := (dC, dI)) (ci := 4) (v := .int (by_z ze)) (C := "TextForge$Directive") (T := TX4) (N := 6) hx hb hg iwX4 hown hK hP 0 rfl rfl 3 (by decide) (hg _ kw_75) (fun _ h9 => h9) rfl d_Di_take_68 ?_
          refine lv_iload_n hx hb d_Di_take_71 rfl (lv_at hl 1 rfl) ?_
          refine lv_bipush (v := 48) hx hb d_Di_take_72 (by decide) ?_
          refine lv_icmp_ne (tgt := 81) hx hb d_Di_take_74 (by decide) (fun c9 => by first | exact absurd c9 (fun z => z (by decide)) | exact absurd (fun z => z (by decide)) c9) (fun _ => ?_)
          refine lv_iconst (v := 1) hx hb d_Di_take_77 (by decide) ?_
          refine lv_goto (tgt := 82) hx hb d_Di_take_78 (by decide) ?_
          refine lv_ior hx hb d_Di_take_82 ?_
          rw [by_or1]
          refine va_put (D := (dC, dI)) (ci := 4) (v := .int (by_z (ze || true))) (ty := .boolean) (C := "TextForge$Directive") (T := TX4) (N := 6) hx hb hg iwX4 tyX4 tyX4_ok nmX4 hown hK hP hD hS 0 rfl rfl 3 (by decide) (hg _ kw_75) (fun _ h9 => h9) rfl (by decide +kernel) by_zn by_zf (Nat.le_of_ble_eq_true rfl) d_Di_take_83 (fun H locs hP hD hS => ?_)
          have hP : va_P (dC, dI) vwCl [(h, .inr (4, [.int (nI 1), .int (by_z (mi || false)), .int (by_z (pl || false)), .int (by_z (ze || true)), .int (nI wd), .int (nI le)]))] H := hP
          have hD : va_D A [(h, .inr (4, [.int (nI 1), .int (by_z (mi || false)), .int (by_z (pl || false)), .int (by_z (ze || true)), .int (nI wd), .int (nI le)]))] := hD
          refine lv_goto (tgt := 155) hx hb d_Di_take_86 (by decide) ?_
          have hP9 := hP.sub (ws' := [(h, .inr (4, [.int (nI 1), .int (by_z (mi || false)), .int (by_z (pl || false)), .int (by_z (ze || true)), .int (nI wd), .int (nI le)]))]) [0] rfl
          have hD9 := hD.sub (ws' := [(h, .inr (4, [.int (nI 1), .int (by_z (mi || false)), .int (by_z (pl || false)), .int (by_z (ze || true)), .int (nI wd), .int (nI le)]))]) [0] (by decide) rfl
          have hK9 := hK.sub (tys' := []) [] rfl
          exact zz_vret hx hb hr hlocks d_Di_take_155 hS (by first | exact Nat.le_refl _ | decide | omega | (dsimp only; omega)) (by first | exact Nat.le_refl _ | decide | omega | (dsimp only; omega)) (1, (mi || false), (pl || false), (ze || true), wd, le) rfl hP9 hK9 hD9
