/-! NUMERALS -/
def nu_d (t v : Nat) : Nat := if v < 10 then 48 + v else t + v - 10
/-- digits of n in base b, the lowest first, at most k of them -/
def nu_f (b t : Nat) : Nat → Nat → List Nat
  | 0, _ => []
  | k + 1, n => nu_d t (n % b) :: (if n / b = 0 then [] else nu_f b t k (n / b))
theorem nu_dl {t v : Nat} (h : v < 10) : 48 + nI v = nI (nu_d t v) := by unfold nu_d; rw [if_pos h]; exact nI_add 48 v
theorem nu_dg {t v : Nat} (h : 10 ≤ v) (ht : t < 1000) : nI t + nI v - 10 = nI (nu_d t v) := by
  unfold nu_d; rw [if_neg (by omega), nI_add, show (10 : Int32) = nI 10 from rfl, pk_sub (by omega)]
theorem nu_d_lt {t v : Nat} (hv : v < 16) (ht : t < 240) : nu_d t v < 256 := by unfold nu_d; split <;> omega
theorem nu_b10 (n : Nat) : nu_d 97 (n % 10) < 256 := nu_d_lt (by omega) (by decide)
theorem nu_t {n : Nat} (hn : n < 2 ^ 64) : ((lN n).toUInt64 >>> ((1 : Int32).toInt64.toUInt64 &&& Int64.toUInt64 63)).toInt64 / 5 = lN (n / 10) := by
  have h := wb_shr (k := 1) hn (by decide)
  rw [show (nI 1 : Int32) = 1 from rfl] at h
  rw [h, show (5 : Int64) = lN 5 from rfl, pk_lDiv (by omega) (by decide) (by decide)]
  congr 1; omega
theorem nu_v {n : Nat} (hn : n < 2 ^ 64) : ((48 + (lN n - lN (n / 10) * 10)).toInt32) = nI (nu_d 97 (n % 10)) := by
  rw [show (10 : Int64) = lN 10 from rfl, lN_mul, lN_sub (by omega), show (48 : Int64) = lN 48 from rfl, lN_add, lN_i]
  unfold nu_d; rw [if_pos (by omega)]; congr 1; omega
theorem nu_c1 (D : List Nat) (x : Nat) : nI D.length + 1 = nI (D ++ [x]).length := by rw [List.length_append, List.length_singleton, nI_1]
theorem nu_pu {D : List Nat} {g : Nat → Int32} {x : Nat} (h : by_L D g) (hl : D.length < 64) (hx : x < 256) : by_L (D ++ [x]) (upd g (nI D.length).toNatClampNeg (vp_nar .byte (nI x).toInt8.toInt32)) := by
  rw [nI_clamp (by omega)]
  exact by_push h hx (by rw [by_nar, by_b_n hx])
theorem nu_fe {b t k n : Nat} (hk : 0 < k) (h : n / b = 0) : nu_f b t k n = [nu_d t (n % b)] := by
  obtain ⟨j, rfl⟩ : ∃ j, k = j + 1 := ⟨k - 1, by omega⟩
  rw [nu_f, if_pos h]
theorem nu_fs {b t k n : Nat} (hk : 0 < k) (h : ¬ n / b = 0) : nu_f b t k n = nu_d t (n % b) :: nu_f b t (k - 1) (n / b) := by
  obtain ⟨j, rfl⟩ : ∃ j, k = j + 1 := ⟨k - 1, by omega⟩
  rw [nu_f, if_neg h]; rfl
/-- the digits that are still to come behind the first i -/
def nu_r (b t i n : Nat) : List Nat := if i ≠ 0 ∧ n = 0 then [] else nu_f b t (64 - i) n
theorem nu_i {b t n : Nat} : nu_f b t 64 n = [] ++ nu_r b t ([] : List Nat).length n := by
  unfold nu_r; rw [if_neg (fun h => h.1 rfl), List.nil_append]; rfl
theorem nu_le {D : List Nat} {x : Nat} (h : D.length < 64) : (D ++ [x]).length ≤ 64 := by
  rw [List.length_append, List.length_singleton]; exact h
theorem nu_x1 {b t n : Nat} {D N : List Nat} (hE : N = D ++ nu_r b t D.length n) (h : 64 ≤ D.length) : N = D := by
  rw [hE]; unfold nu_r
  split
  · exact List.append_nil _
  · rw [show 64 - D.length = 0 by omega, nu_f]; exact List.append_nil _
theorem nu_x2 {b t n : Nat} {D N : List Nat} (hE : N = D ++ nu_r b t D.length n) (h : D.length ≠ 0) (hn : n = 0) : N = D := by
  rw [hE]; unfold nu_r; rw [if_pos ⟨h, hn⟩]; exact List.append_nil _
theorem nu_step {b t n : Nat} {D N : List Nat} (hE : N = D ++ nu_r b t D.length n) (hl : D.length < 64) (hg : D.length = 0 ∨ n ≠ 0) : N = (D ++ [nu_d t (n % b)]) ++ nu_r b t (D ++ [nu_d t (n % b)]).length (n / b) := by
  rw [hE, List.append_assoc, List.length_append, List.length_singleton]
  congr 1
  unfold nu_r
  rw [if_neg (by omega)]
  obtain ⟨k, hk⟩ : ∃ k, 64 - D.length = k + 1 := ⟨63 - D.length, by omega⟩
  rw [hk, nu_f, show 64 - (D.length + 1) = k by omega]
  by_cases z : n / b = 0
  · rw [if_pos z, if_pos ⟨by omega, z⟩]; rfl
  · rw [if_neg z, if_neg (fun h => z h.2)]; rfl
theorem nu_z4 {n : Nat} (hn : n < 2 ^ 64) (c : lg_cmp (lN n) 0 = 0) : n = 0 := by
  rw [lg_cmp_eq] at c
  have h := congrArg (fun x : Int64 => x.toBitVec.toNat) c
  have h2 : (BitVec.ofNat 64 n).toNat = 0 := h
  rw [BitVec.toNat_ofNat, Nat.mod_eq_of_lt hn] at h2
  exact h2
theorem nu_z {n : Nat} (hn : n < 2 ^ 63) (c : lg_cmp (lN n) 0 = 0) : n = 0 := by
  rw [lg_cmp_eq, show (0 : Int64) = lN 0 from rfl, pk_lEQ hn (by decide)] at c; exact c
abbrev y_Nu_digit : MethodName := ⟨"TextForge$Numeral", "digit", "(II)I"⟩
abbrev w_Nu_digit : List Cond := Cond.code y_Nu_digit prog_7_method_2_code 2 (some .int) :: gw
theorem d_Nu_digit_0 : decode prog_7_method_2_code 0 = .ok (.iload_n 0, 1) := by decide +kernel
theorem d_Nu_digit_1 : decode prog_7_method_2_code 1 = .ok (.bipush 10, 2) := by decide +kernel
theorem d_Nu_digit_3 : decode prog_7_method_2_code 3 = .ok (.if_icmp .ge 10, 3) := by decide +kernel
theorem d_Nu_digit_6 : decode prog_7_method_2_code 6 = .ok (.bipush 48, 2) := by decide +kernel
theorem d_Nu_digit_8 : decode prog_7_method_2_code 8 = .ok (.iload_n 0, 1) := by decide +kernel
theorem d_Nu_digit_9 : decode prog_7_method_2_code 9 = .ok (.iadd, 1) := by decide +kernel
theorem d_Nu_digit_10 : decode prog_7_method_2_code 10 = .ok (.goto 9, 3) := by decide +kernel
theorem d_Nu_digit_13 : decode prog_7_method_2_code 13 = .ok (.iload_n 1, 1) := by decide +kernel
theorem d_Nu_digit_14 : decode prog_7_method_2_code 14 = .ok (.iload_n 0, 1) := by decide +kernel
theorem d_Nu_digit_15 : decode prog_7_method_2_code 15 = .ok (.iadd, 1) := by decide +kernel
theorem d_Nu_digit_16 : decode prog_7_method_2_code 16 = .ok (.bipush 10, 2) := by decide +kernel
theorem d_Nu_digit_18 : decode prog_7_method_2_code 18 = .ok (.isub, 1) := by decide +kernel
theorem d_Nu_digit_19 : decode prog_7_method_2_code 19 = .ok (.ireturn, 1) := by decide +kernel
set_option maxHeartbeats 4000000 in
set_option maxRecDepth 100000 in
theorem c_Nu_digit (l : Launch) (dC : Nat → ClassId) (dI : Nat → Nat → Nat) (v t : Nat) (hv : v < 36) (ht : t < 1000) : zR_i l y_Nu_digit w_Nu_digit { frames := 0, cells := 0, slots := 0, locals := 0 } (dC, dI) vwCl [.int (nI v), .int (nI t)] [] [] (fun r : Int32 => r = nI (nu_d t v)) := by
  refine zz_enterR (cc := prog_7_method_2_code) (nL := 2) (ret := (some .int)) (by decide) rfl (Nat.le_of_ble_eq_true rfl) ?_
  intro p e s m below meth c ls C0 hP hK hl
  obtain ⟨hx, hb, hml, hown, hg, hr, hlocks, hin⟩ := C0
  have hS : va_S (fun _ => False) s.heap s.heap [] := va_S.rf
  have hown : s.vm.findClass "TextForge$Numeral" = some m.cls := hown
  have hP : va_P (dC, dI) vwCl [] s.heap := hP
  have hK : va_K (dC, dI) vwCl [] s := hK
  have hl : lv_has ls 2 [(0, .int (nI v)), (1, .int (nI t))] := hl
  refine lv_iload_n hx hb d_Nu_digit_0 rfl (lv_at hl 0 rfl) ?_
  refine lv_bipush (v := 10) hx hb d_Nu_digit_1 (by decide) ?_
  refine lv_icmp_ge (tgt := 13) hx hb d_Nu_digit_3 (by decide) (fun c_3 => ?_) (fun c_3 => ?_)
  · skip
    have f_3 : 10 ≤ v := Nat.le_of_not_lt (fun z => nI_ge (b := 10) z (by omega) c_3)
    refine lv_iload_n hx hb d_Nu_digit_13 rfl (lv_at hl 1 rfl) ?_
    refine lv_iload_n hx hb d_Nu_digit_14 rfl (lv_at hl 0 rfl) ?_
    refine lv_iadd hx hb d_Nu_digit_15 ?_
    refine lv_bipush (v := 10) hx hb d_Nu_digit_16 (by decide) ?_
    refine lv_isub hx hb d_Nu_digit_18 ?_
    exact zz_iretR hx hb hr hlocks d_Nu_digit_19 (nu_dg (by omega) ht)
  · skip
    have f_3 : v < 10 := Nat.lt_of_not_le (fun z => c_3 (nI_le (a := 10) z (by omega)))
    refine lv_bipush (v := 48) hx hb d_Nu_digit_6 (by decide) ?_
    refine lv_iload_n hx hb d_Nu_digit_8 rfl (lv_at hl 0 rfl) ?_
    refine lv_iadd hx hb d_Nu_digit_9 ?_
    refine lv_goto (tgt := 19) hx hb d_Nu_digit_10 (by decide) ?_
    exact zz_iretR hx hb hr hlocks d_Nu_digit_19 (nu_dl (by omega))
abbrev y_Nu_count : MethodName := ⟨"TextForge$Numeral", "count", "()I"⟩
abbrev w_Nu_count : List Cond := Cond.code y_Nu_count prog_7_method_3_code 1 (some .int) :: gw
theorem d_Nu_count_0 : decode prog_7_method_3_code 0 = .ok (.aload_n 0, 1) := by decide +kernel
theorem d_Nu_count_1 : decode prog_7_method_3_code 1 = .ok (.getfield 13, 3) := by decide +kernel
theorem d_Nu_count_4 : decode prog_7_method_3_code 4 = .ok (.ireturn, 1) := by decide +kernel
set_option maxHeartbeats 4000000 in
set_option maxRecDepth 100000 in
theorem c_Nu_count (l : Launch) (dC : Nat → ClassId) (dI : Nat → Nat → Nat) (h : Nat) (x : Value) (n : Int32)  : zR_i l y_Nu_count w_Nu_count { frames := 0, cells := 0, slots := 0, locals := 0 } (dC, dI) vwCl [.ref h] [(h, .inr (5, [x, .int n]))] [] (fun r : Int32 => r = n) := by
  refine zz_enterR (cc := prog_7_method_3_code) (nL := 1) (ret := (some .int)) (by decide) rfl (Nat.le_of_ble_eq_true rfl) ?_
  intro p e s m below meth c ls C0 hP hK hl
  obtain ⟨hx, hb, hml, hown, hg, hr, hlocks, hin⟩ := C0
  have hS : va_S (fun _ => False) s.heap s.heap [] := va_S.rf
  have hown : s.vm.findClass "TextForge$Numeral" = some m.cls := hown
  have hP : va_P (dC, dI) vwCl [(h, .inr (5, [x, .int n]))] s.heap := hP
  have hK : va_K (dC, dI) vwCl [] s := hK
  have hl : lv_has ls 1 [(0, .ref h)] := hl
  refine lv_aload_n hx hb d_Nu_count_0 rfl (lv_at hl 0 rfl) ?_
  refine va_get (D := (dC, dI)) (ci := 5) (v := .int n) (C := "TextForge$Numeral") (T := TX5) (N := 2) hx hb hg iwX5 hown hK hP 0 rfl rfl 1 (by decide) (hg _ kw_104) (fun _ h9 => h9) rfl d_Nu_count_1 ?_
  exact zz_iretR hx hb hr hlocks d_Nu_count_4 rfl
abbrev y_Nu_init : MethodName := ⟨"TextForge$Numeral", "<init>", "()V"⟩
abbrev w_Nu_init : List Cond := Cond.code y_Nu_init prog_7_method_1_code 1 none :: gw
theorem d_Nu_init_0 : decode prog_7_method_1_code 0 = .ok (.aload_n 0, 1) := by decide +kernel
theorem d_Nu_init_1 : decode prog_7_method_1_code 1 = .ok (.invokespecial 1, 3) := by decide +kernel
theorem d_Nu_init_4 : decode prog_7_method_1_code 4 = .ok (.aload_n 0, 1) := by decide +kernel
theorem d_Nu_init_5 : decode prog_7_method_1_code 5 = .ok (.bipush 64, 2) := by decide +kernel
theorem d_Nu_init_7 : decode prog_7_method_1_code 7 = .ok (.newarray .byte, 2) := by decide +kernel
theorem d_Nu_init_9 : decode prog_7_method_1_code 9 = .ok (.putfield 7, 3) := by decide +kernel
theorem d_Nu_init_12 : decode prog_7_method_1_code 12 = .ok (.aload_n 0, 1) := by decide +kernel
theorem d_Nu_init_13 : decode prog_7_method_1_code 13 = .ok (.iconst 0, 1) := by decide +kernel
theorem d_Nu_init_14 : decode prog_7_method_1_code 14 = .ok (.putfield 13, 3) := by decide +kernel
theorem d_Nu_init_17 : decode prog_7_method_1_code 17 = .ok (.return_, 1) := by decide +kernel
set_option maxHeartbeats 4000000 in
set_option maxRecDepth 100000 in
theorem c_Nu_init (l : Launch) (dC : Nat → ClassId) (dI : Nat → Nat → Nat) (h : Nat) (x : Value) (y : Value)  : zM_v (S := Nat × ClassId) l y_Nu_init w_Nu_init { frames := 1, cells := 1, slots := 64, locals := 12 } (dC, dI) vwCl [.ref h] [(h, .inr (5, [x, y]))] [] (fun (u : Nat × ClassId) => match u with | (r, cA) => True) (fun u => match u with | (r, cA) => [(h, .inr (5, [.ref r, .int (nI ([] : List Nat).length)])), (r, .inl (cA, 64, .inl (fun _ => 0)))]) (fun u => match u with | (r, cA) => [(cA, .byte)]) 1 64 := by
  refine zz_enterv (cc := prog_7_method_1_code) (nL := 1) (ret := none) (by decide) rfl (Nat.le_of_ble_eq_true rfl) ?_
  intro p e s m below meth c A ls C0 hA hS hP hK hD hl
  obtain ⟨hx, hb, hml, hown, hg, hr, hlocks, hin⟩ := C0
  have hown : s.vm.findClass "TextForge$Numeral" = some m.cls := hown
  have hP : va_P (dC, dI) vwCl [(h, .inr (5, [x, y]))] s.heap := hP
  have hK : va_K (dC, dI) vwCl [] s := hK
  have hD : va_D A [(h, .inr (5, [x, y]))] := hD
  have hl : lv_has ls 1 [(0, .ref h)] := hl
  refine lv_aload_n hx hb d_Nu_init_0 rfl (lv_at hl 0 rfl) ?_
  refine W.objInit hx hb hown (hg _ kw_102) (hg _ kw_29) (hg _ kw_30) rfl (by rw [hml]; exact hl.1) rfl d_Nu_init_1 (Nat.le_of_ble_eq_true rfl) (Nat.le_of_ble_eq_true rfl) ?_
  refine W.eq (g2 := F0 m 4 ls []) rfl ?_
  refine lv_aload_n hx hb d_Nu_init_4 rfl (lv_at hl 0 rfl) ?_
  refine lv_bipush (v := 64) hx hb d_Nu_init_5 (by decide) ?_
  refine va_newa (atype := .byte) (a0 := (64, .inl (fun _ => 0))) hx hb (hg _ kw_47) rfl hK hP hD hS hA (fun _ => rfl) (by decide) (by decide) (by decide) (by first | exact Nat.le_refl _ | decide | omega | (dsimp only; omega)) (by first | exact Nat.le_refl _ | decide | omega | (dsimp only; omega)) d_Nu_init_7 (fun q_1 cA_2 H hK hP hD hS => ?_)
  have hK : va_K (dC, dI) vwCl [(cA_2, .byte)] s := hK
  have hP : va_P (dC, dI) vwCl [(h, .inr (5, [x, y])), (q_1, .inl (cA_2, 64, .inl (fun _ => 0)))] H := hP
  have hD : va_D A [(h, .inr (5, [x, y])), (q_1, .inl (cA_2, 64, .inl (fun _ => 0)))] := hD
  refine va_putF (D := (dC, dI)) (ci := 5) (v := .ref q_1) (ty := .array .byte) (C := "TextForge$Numeral") (T := TX5) (N := 2) hx hb hg iwX5 tyX5 tyX5_ok nmX5 hown hK hP hD hS 0 rfl rfl 0 (by decide) (hg _ kw_103) (fun _ h9 => h9) rfl hin rfl (by decide +kernel) rfl rfl (Nat.le_of_ble_eq_true rfl) d_Nu_init_9 (fun H locs hP hD hS => ?_)
  have hP : va_P (dC, dI) vwCl [(h, .inr (5, [.ref q_1, y])), (q_1, .inl (cA_2, 64, .inl (fun _ => 0)))] H := hP
  have hD : va_D A [(h, .inr (5, [.ref q_1, y])), (q_1, .inl (cA_2, 64, .inl (fun _ => 0)))] := hD
  refine lv_aload_n hx hb d_Nu_init_12 rfl (lv_at hl 0 rfl) ?_
  refine lv_iconst (v := 0) hx hb d_Nu_init_13 (by decide) ?_
  refine va_put (D := (dC, dI)) (ci := 5) (v := .int 0) (ty := .int) (C := "TextForge$Numeral") (T := TX5) (N := 2) hx hb hg iwX5 tyX5 tyX5_ok nmX5 hown hK hP hD hS 0 rfl rfl 1 (by decide) (hg _ kw_104) (fun _ h9 => h9) rfl (by decide +kernel) rfl rfl (Nat.le_of_ble_eq_true rfl) d_Nu_init_14 (fun H locs hP hD hS => ?_)
  have hP : va_P (dC, dI) vwCl [(h, .inr (5, [.ref q_1, .int 0])), (q_1, .inl (cA_2, 64, .inl (fun _ => 0)))] H := hP
  have hD : va_D A [(h, .inr (5, [.ref q_1, .int 0])), (q_1, .inl (cA_2, 64, .inl (fun _ => 0)))] := hD
  have hP9 := hP.sub (ws' := [(h, .inr (5, [.ref q_1, .int 0])), (q_1, .inl (cA_2, 64, .inl (fun _ => 0)))]) [0, 1] rfl
  have hD9 := hD.sub (ws' := [(h, .inr (5, [.ref q_1, .int 0])), (q_1, .inl (cA_2, 64, .inl (fun _ => 0)))]) [0, 1] (by decide) rfl
  have hK9 := hK.sub (tys' := [(cA_2, .byte)]) [0] rfl
  exact zz_vret hx hb hr hlocks d_Nu_init_17 hS (by first | exact Nat.le_refl _ | decide | omega | (dsimp only; omega)) (by first | exact Nat.le_refl _ | decide | omega | (dsimp only; omega)) (q_1, cA_2) trivial hP9 hK9 hD9
abbrev y_Nu_setDecimal : MethodName := ⟨"TextForge$Numeral", "setDecimal", "(J)V"⟩
abbrev w_Nu_setDecimal : List Cond := Cond.code y_Nu_setDecimal prog_7_method_4_code 7 none :: gw
theorem d_Nu_setDecimal_0 : decode prog_7_method_4_code 0 = .ok (.lload_n 1, 1) := by decide +kernel
theorem d_Nu_setDecimal_1 : decode prog_7_method_4_code 1 = .ok (.lstore_n 3, 1) := by decide +kernel
theorem d_Nu_setDecimal_2 : decode prog_7_method_4_code 2 = .ok (.aload_n 0, 1) := by decide +kernel
theorem d_Nu_setDecimal_3 : decode prog_7_method_4_code 3 = .ok (.iconst 0, 1) := by decide +kernel
theorem d_Nu_setDecimal_4 : decode prog_7_method_4_code 4 = .ok (.putfield 13, 3) := by decide +kernel
theorem d_Nu_setDecimal_7 : decode prog_7_method_4_code 7 = .ok (.aload_n 0, 1) := by decide +kernel
theorem d_Nu_setDecimal_8 : decode prog_7_method_4_code 8 = .ok (.getfield 13, 3) := by decide +kernel
theorem d_Nu_setDecimal_11 : decode prog_7_method_4_code 11 = .ok (.aload_n 0, 1) := by decide +kernel
theorem d_Nu_setDecimal_12 : decode prog_7_method_4_code 12 = .ok (.getfield 7, 3) := by decide +kernel
theorem d_Nu_setDecimal_15 : decode prog_7_method_4_code 15 = .ok (.arraylength, 1) := by decide +kernel
theorem d_Nu_setDecimal_16 : decode prog_7_method_4_code 16 = .ok (.if_icmp .ge 64, 3) := by decide +kernel
theorem d_Nu_setDecimal_19 : decode prog_7_method_4_code 19 = .ok (.aload_n 0, 1) := by decide +kernel
theorem d_Nu_setDecimal_20 : decode prog_7_method_4_code 20 = .ok (.getfield 13, 3) := by decide +kernel
theorem d_Nu_setDecimal_23 : decode prog_7_method_4_code 23 = .ok (.ifCond .eq 9, 3) := by decide +kernel
theorem d_Nu_setDecimal_26 : decode prog_7_method_4_code 26 = .ok (.lload_n 3, 1) := by decide +kernel
theorem d_Nu_setDecimal_27 : decode prog_7_method_4_code 27 = .ok (.lconst 0, 1) := by decide +kernel
theorem d_Nu_setDecimal_28 : decode prog_7_method_4_code 28 = .ok (.lcmp, 1) := by decide +kernel
theorem d_Nu_setDecimal_29 : decode prog_7_method_4_code 29 = .ok (.ifCond .eq 51, 3) := by decide +kernel
theorem d_Nu_setDecimal_32 : decode prog_7_method_4_code 32 = .ok (.lload_n 3, 1) := by decide +kernel
theorem d_Nu_setDecimal_33 : decode prog_7_method_4_code 33 = .ok (.iconst 1, 1) := by decide +kernel
theorem d_Nu_setDecimal_34 : decode prog_7_method_4_code 34 = .ok (.lushr, 1) := by decide +kernel
theorem d_Nu_setDecimal_35 : decode prog_7_method_4_code 35 = .ok (.ldc2_w 17, 3) := by decide +kernel
theorem d_Nu_setDecimal_38 : decode prog_7_method_4_code 38 = .ok (.ldiv, 1) := by decide +kernel
theorem d_Nu_setDecimal_39 : decode prog_7_method_4_code 39 = .ok (.lstore 5, 2) := by decide +kernel
theorem d_Nu_setDecimal_41 : decode prog_7_method_4_code 41 = .ok (.aload_n 0, 1) := by decide +kernel
theorem d_Nu_setDecimal_42 : decode prog_7_method_4_code 42 = .ok (.getfield 7, 3) := by decide +kernel
theorem d_Nu_setDecimal_45 : decode prog_7_method_4_code 45 = .ok (.aload_n 0, 1) := by decide +kernel
theorem d_Nu_setDecimal_46 : decode prog_7_method_4_code 46 = .ok (.getfield 13, 3) := by decide +kernel
theorem d_Nu_setDecimal_49 : decode prog_7_method_4_code 49 = .ok (.ldc2_w 19, 3) := by decide +kernel
theorem d_Nu_setDecimal_52 : decode prog_7_method_4_code 52 = .ok (.lload_n 3, 1) := by decide +kernel
theorem d_Nu_setDecimal_53 : decode prog_7_method_4_code 53 = .ok (.lload 5, 2) := by decide +kernel
theorem d_Nu_setDecimal_55 : decode prog_7_method_4_code 55 = .ok (.ldc2_w 21, 3) := by decide +kernel
theorem d_Nu_setDecimal_58 : decode prog_7_method_4_code 58 = .ok (.lmul, 1) := by decide +kernel
theorem d_Nu_setDecimal_59 : decode prog_7_method_4_code 59 = .ok (.lsub, 1) := by decide +kernel
theorem d_Nu_setDecimal_60 : decode prog_7_method_4_code 60 = .ok (.ladd, 1) := by decide +kernel
theorem d_Nu_setDecimal_61 : decode prog_7_method_4_code 61 = .ok (.l2i, 1) := by decide +kernel
theorem d_Nu_setDecimal_62 : decode prog_7_method_4_code 62 = .ok (.i2b, 1) := by decide +kernel
theorem d_Nu_setDecimal_63 : decode prog_7_method_4_code 63 = .ok (.bastore, 1) := by decide +kernel
theorem d_Nu_setDecimal_64 : decode prog_7_method_4_code 64 = .ok (.lload 5, 2) := by decide +kernel
theorem d_Nu_setDecimal_66 : decode prog_7_method_4_code 66 = .ok (.lstore_n 3, 1) := by decide +kernel
theorem d_Nu_setDecimal_67 : decode prog_7_method_4_code 67 = .ok (.aload_n 0, 1) := by decide +kernel
theorem d_Nu_setDecimal_68 : decode prog_7_method_4_code 68 = .ok (.dup, 1) := by decide +kernel
theorem d_Nu_setDecimal_69 : decode prog_7_method_4_code 69 = .ok (.getfield 13, 3) := by decide +kernel
theorem d_Nu_setDecimal_72 : decode prog_7_method_4_code 72 = .ok (.iconst 1, 1) := by decide +kernel
theorem d_Nu_setDecimal_73 : decode prog_7_method_4_code 73 = .ok (.iadd, 1) := by decide +kernel
theorem d_Nu_setDecimal_74 : decode prog_7_method_4_code 74 = .ok (.putfield 13, 3) := by decide +kernel
theorem d_Nu_setDecimal_77 : decode prog_7_method_4_code 77 = .ok (.goto (-70), 3) := by decide +kernel
theorem d_Nu_setDecimal_80 : decode prog_7_method_4_code 80 = .ok (.return_, 1) := by decide +kernel
set_option maxHeartbeats 4000000 in
set_option maxRecDepth 100000 in
theorem c_Nu_setDecimal (l : Launch) (dC : Nat → ClassId) (dI : Nat → Nat → Nat) (h r : Nat) (cA : ClassId) (f : Nat → Int32) (k0 : Int32) (n0 : Nat) (hn0 : n0 < 2 ^ 64) : zM_v (S := Nat → Int32) l y_Nu_setDecimal w_Nu_setDecimal { frames := 0, cells := 0, slots := 0, locals := 0 } (dC, dI) vwCl [.ref h, .long (lN n0)] [(h, .inr (5, [.ref r, .int k0])), (r, .inl (cA, 64, .inl f))] [(cA, .byte)] (fun (u : Nat → Int32) => by_L (nu_f 10 97 64 n0) u) (fun u => [(h, .inr (5, [.ref r, .int (nI (nu_f 10 97 64 n0).length)])), (r, .inl (cA, 64, .inl u))]) (fun u => [(cA, .byte)]) 0 0 := by
  refine zz_enterv (cc := prog_7_method_4_code) (nL := 7) (ret := none) (by decide) rfl (Nat.le_of_ble_eq_true rfl) ?_
  intro p e s m below meth c A ls C0 hA hS hP hK hD hl
  obtain ⟨hx, hb, hml, hown, hg, hr, hlocks, hin⟩ := C0
  have hown : s.vm.findClass "TextForge$Numeral" = some m.cls := hown
  have hP : va_P (dC, dI) vwCl [(h, .inr (5, [.ref r, .int k0])), (r, .inl (cA, 64, .inl f))] s.heap := hP
  have hK : va_K (dC, dI) vwCl [(cA, .byte)] s := hK
  have hD : va_D A [(h, .inr (5, [.ref r, .int k0])), (r, .inl (cA, 64, .inl f))] := hD
  have hl : lv_has ls 7 [(0, .ref h), (1, .long (lN n0))] := hl
  refine lv_lload_n hx hb d_Nu_setDecimal_0 rfl (lv_at hl 1 rfl) ?_
  refine lv_lstore_n (lv' := [(3, .long (lN n0)), (0, .ref h), (1, .long (lN n0))]) hx hb d_Nu_setDecimal_1 rfl hl (by decide) rfl (fun ls hl => ?_)
  refine lv_aload_n hx hb d_Nu_setDecimal_2 rfl (lv_at hl 1 rfl) ?_
  refine lv_iconst (v := 0) hx hb d_Nu_setDecimal_3 (by decide) ?_
  refine va_put (D := (dC, dI)) (ci := 5) (v := .int 0) (ty := .int) (C := "TextForge$Numeral") (T := TX5) (N := 2) hx hb hg iwX5 tyX5 tyX5_ok nmX5 hown hK hP hD hS 0 rfl rfl 1 (by decide) (hg _ kw_104) (fun _ h9 => h9) rfl (by decide +kernel) rfl rfl (Nat.le_of_ble_eq_true rfl) d_Nu_setDecimal_4 (fun H locs hP hD hS => ?_)
  have hP : va_P (dC, dI) vwCl [(h, .inr (5, [.ref r, .int 0])), (r, .inl (cA, 64, .inl f))] H := hP
  have hD : va_D A [(h, .inr (5, [.ref r, .int 0])), (r, .inl (cA, 64, .inl f))] := hD
  refine zz_loop (fun (x : List Nat × Nat × (Nat → Int32)) H locs ls => match x with | (D, n, g) => va_P (dC, dI) vwCl [(h, .inr (5, [.ref r, .int (nI D.length)])), (r, .inl (cA, 64, .inl g))] H ∧ va_D A [(h, .inr (5, [.ref r, .int (nI D.length)])), (r, .inl (cA, 64, .inl g))] ∧ va_S A s.heap H locs ∧ lv_has ls 7 [(0, .ref h), (1, .long (lN n0)), (3, .long (lN n))] ∧ by_L D g ∧ D.length ≤ 64 ∧ n < 2 ^ 64 ∧ nu_f 10 97 64 n0 = D ++ nu_r 10 97 D.length n) (fun x => match x with | (D, n, g) => 64 - D.length) ?_ ([], n0, f) ⟨hP.sub [0, 1] rfl, hD.sub [0, 1] (by decide) rfl, hS, lv_sub hl [1, 2, 0] rfl, (by_nil _), (Nat.zero_le 64), hn0, nu_i⟩
  intro x H locs ls hI ih_7
  obtain ⟨D, n, g⟩ := x
  try dsimp only at hI
  obtain ⟨hP, hD, hS, hl, hLD, hD6, hn, hE⟩ := hI
  refine lv_aload_n hx hb d_Nu_setDecimal_7 rfl (lv_at hl 0 rfl) ?_
  refine va_get (D := (dC, dI)) (ci := 5) (v := .int (nI D.length)) (C := "TextForge$Numeral") (T := TX5) (N := 2) hx hb hg iwX5 hown hK hP 0 rfl rfl 1 (by decide) (hg _ kw_104) (fun _ h9 => h9) rfl d_Nu_setDecimal_8 ?_
  refine lv_aload_n hx hb d_Nu_setDecimal_11 rfl (lv_at hl 0 rfl) ?_
  refine va_get (D := (dC, dI)) (ci := 5) (v := .ref r) (C := "TextForge$Numeral") (T := TX5) (N := 2) hx hb hg iwX5 hown hK hP 0 rfl rfl 0 (by decide) (hg _ kw_103) (fun _ h9 => h9) rfl d_Nu_setDecimal_12 ?_
  refine va_alen (v := nI 64) hx hb hK hP 1 0 rfl rfl rfl d_Nu_setDecimal_15 ?_
  refine lv_icmp_ge (tgt := 80) hx hb d_Nu_setDecimal_16 (by decide) (fun c_16 => ?_) (fun c_16 => ?_)
  · skip
    have f_16 : 64 ≤ D.length := Nat.le_of_not_lt (fun z => nI_ge (b := 64) z (by omega) c_16)
    have hN := nu_x1 hE f_16
    have hP9 := hP.sub (ws' := [(h, .inr (5, [.ref r, .int (nI D.length)])), (r, .inl (cA, 64, .inl g))]) [0, 1] rfl
    have hD9 := hD.sub (ws' := [(h, .inr (5, [.ref r, .int (nI D.length)])), (r, .inl (cA, 64, .inl g))]) [0, 1] (by decide) rfl
    have hK9 := hK.sub (tys' := [(cA, .byte)]) [0] rfl
    rw [← hN] at hP9 hD9
    exact zz_vret hx hb hr hlocks d_Nu_setDecimal_80 hS (by first | exact Nat.le_refl _ | decide | omega | (dsimp only; omega)) (by first | exact Nat.le_refl _ | decide | omega | (dsimp only; omega)) g (by rw [hN]; exact hLD) hP9 hK9 hD9
  · skip
    have f_16 : D.length < 64 := Nat.lt_of_not_le (fun z => c_16 (nI_le (a := 64) z (by omega)))
    have hi9 : vp_in (nI D.length) 64 := vp_in_nI f_16 (by decide)
    refine lv_aload_n hx hb d_Nu_setDecimal_19 rfl (lv_at hl 0 rfl) ?_
    refine va_get (D := (dC, dI)) (ci := 5) (v := .int (nI D.length)) (C := "TextForge$Numeral") (T := TX5) (N := 2) hx hb hg iwX5 hown hK hP 0 rfl rfl 1 (by decide) (hg _ kw_104) (fun _ h9 => h9) rfl d_Nu_setDecimal_20 ?_
    refine lv_if_eq (tgt := 32) hx hb d_Nu_setDecimal_23 (by decide) (fun c_23 => ?_) (fun c_23 => ?_)
    · skip
      have f_23 : D.length = 0 := nI_e1 (b := 0) c_23 (by omega) (by omega)
      have hgo : D.length = 0 ∨ n ≠ 0 := Or.inl f_23
      refine lv_lload_n hx hb d_Nu_setDecimal_32 rfl (lv_at hl 2 rfl) ?_
      refine lv_iconst (v := 1) hx hb d_Nu_setDecimal_33 (by decide) ?_
      refine lv_lushr hx hb d_Nu_setDecimal_34 rfl ?_
      refine W.ldc2 (v := 5) hx hb hown (hg _ kw_260) rfl d_Nu_setDecimal_35 ?_
      refine W.eq (g2 := F0 m 38 ls [.long 5, .long (((lN n).toUInt64 >>> ((1 : Int32).toInt64.toUInt64 &&& Int64.toUInt64 63)).toInt64)]) rfl ?_
      refine lv_ldiv hx hb d_Nu_setDecimal_38 (by decide) ?_
      rw [nu_t hn]
      refine lv_lstore (lv' := [(5, .long (lN (n / 10))), (0, .ref h), (1, .long (lN n0)), (3, .long (lN n))]) hx hb d_Nu_setDecimal_39 hl (by decide) rfl (fun ls hl => ?_)
      refine lv_aload_n hx hb d_Nu_setDecimal_41 rfl (lv_at hl 1 rfl) ?_
      refine va_get (D := (dC, dI)) (ci := 5) (v := .ref r) (C := "TextForge$Numeral") (T := TX5) (N := 2) hx hb hg iwX5 hown hK hP 0 rfl rfl 0 (by decide) (hg _ kw_103) (fun _ h9 => h9) rfl d_Nu_setDecimal_42 ?_
      refine lv_aload_n hx hb d_Nu_setDecimal_45 rfl (lv_at hl 1 rfl) ?_
      refine va_get (D := (dC, dI)) (ci := 5) (v := .int (nI D.length)) (C := "TextForge$Numeral") (T := TX5) (N := 2) hx hb hg iwX5 hown hK hP 0 rfl rfl 1 (by decide) (hg _ kw_104) (fun _ h9 => h9) rfl d_Nu_setDecimal_46 ?_
      refine W.ldc2 (v := 48) hx hb hown (hg _ kw_261) rfl d_Nu_setDecimal_49 ?_
      refine W.eq (g2 := F0 m 52 ls [.long 48, .int (nI D.length), .ref r]) rfl ?_
      refine lv_lload_n hx hb d_Nu_setDecimal_52 rfl (lv_at hl 3 rfl) ?_
      refine lv_lload hx hb d_Nu_setDecimal_53 (lv_at hl 0 rfl) ?_
      refine W.ldc2 (v := 10) hx hb hown (hg _ kw_262) rfl d_Nu_setDecimal_55 ?_
      refine W.eq (g2 := F0 m 58 ls [.long 10, .long (lN (n / 10)), .long (lN n), .long 48, .int (nI D.length), .ref r]) rfl ?_
      refine lv_lmul hx hb d_Nu_setDecimal_58 ?_
      refine lv_lsub hx hb d_Nu_setDecimal_59 ?_
      refine lv_ladd hx hb d_Nu_setDecimal_60 ?_
      refine lv_l2i hx hb d_Nu_setDecimal_61 rfl ?_
      rw [nu_v hn]
      refine lv_i2b hx hb d_Nu_setDecimal_62 rfl ?_
      refine va_bast hx hb hK hP hD hS 1 0 rfl rfl hi9 d_Nu_setDecimal_63 (fun H locs hP hD hS => ?_)
      have hP : va_P (dC, dI) vwCl [(h, .inr (5, [.ref r, .int (nI D.length)])), (r, .inl (cA, 64, .inl (upd g (nI D.length).toNatClampNeg (vp_nar .byte ((nI (nu_d 97 (n % 10))).toInt8.toInt32)))))] H := hP
      have hD : va_D A [(h, .inr (5, [.ref r, .int (nI D.length)])), (r, .inl (cA, 64, .inl (upd g (nI D.length).toNatClampNeg (vp_nar .byte ((nI (nu_d 97 (n % 10))).toInt8.toInt32)))))] := hD
      refine lv_lload hx hb d_Nu_setDecimal_64 (lv_at hl 0 rfl) ?_
      refine lv_lstore_n (lv' := [(3, .long (lN (n / 10))), (5, .long (lN (n / 10))), (0, .ref h), (1, .long (lN n0))]) hx hb d_Nu_setDecimal_66 rfl hl (by decide) rfl (fun ls hl => ?_)
      refine lv_aload_n hx hb d_Nu_setDecimal_67 rfl (lv_at hl 2 rfl) ?_
      refine lv_dup hx hb d_Nu_setDecimal_68 rfl ?_
      refine va_get (D := (dC, dI)) (ci := 5) (v := .int (nI D.length)) (C := "TextForge$Numeral") (T := TX5) (N := 2) hx hb hg iwX5 hown hK hP 0 rfl rfl 1 (by decide) (hg _ kw_104) (fun _ h9 => h9) rfl d_Nu_setDecimal_69 ?_
      refine lv_iconst (v := 1) hx hb d_Nu_setDecimal_72 (by decide) ?_
      refine lv_iadd hx hb d_Nu_setDecimal_73 ?_
      refine va_put (D := (dC, dI)) (ci := 5) (v := .int ((nI D.length) + 1)) (ty := .int) (C := "TextForge$Numeral") (T := TX5) (N := 2) hx hb hg iwX5 tyX5 tyX5_ok nmX5 hown hK hP hD hS 0 rfl rfl 1 (by decide) (hg _ kw_104) (fun _ h9 => h9) rfl (by decide +kernel) rfl rfl (Nat.le_of_ble_eq_true rfl) d_Nu_setDecimal_74 (fun H locs hP hD hS => ?_)
      have hP : va_P (dC, dI) vwCl [(h, .inr (5, [.ref r, .int ((nI D.length) + 1)])), (r, .inl (cA, 64, .inl (upd g (nI D.length).toNatClampNeg (vp_nar .byte ((nI (nu_d 97 (n % 10))).toInt8.toInt32)))))] H := hP
      have hD : va_D A [(h, .inr (5, [.ref r, .int ((nI D.length) + 1)])), (r, .inl (cA, 64, .inl (upd g (nI D.length).toNatClampNeg (vp_nar .byte ((nI (nu_d 97 (n % 10))).toInt8.toInt32)))))] := hD
      refine lv_goto (tgt := 7) hx hb d_Nu_setDecimal_77 (by decide) ?_
      rw [nu_c1 D (nu_d 97 (n % 10))] at hP hD
      exact ih_7 (D ++ [nu_d 97 (n % 10)], n / 10, (upd g (nI D.length).toNatClampNeg (vp_nar .byte ((nI (nu_d 97 (n % 10))).toInt8.toInt32)))) H locs ls ⟨hP.sub [0, 1] rfl, hD.sub [0, 1] (by decide) rfl, hS, lv_sub hl [2, 3, 0] rfl, (nu_pu hLD f_16 (nu_b10 n)), (nu_le f_16), (Nat.lt_of_le_of_lt (Nat.div_le_self _ _) hn), (nu_step hE f_16 hgo)⟩ (by dsimp only; rw [List.length_append, List.length_singleton]; omega)
    · skip
      have f_23 : D.length ≠ 0 := nI_ne (b := 0) c_23
      refine lv_lload_n hx hb d_Nu_setDecimal_26 rfl (lv_at hl 2 rfl) ?_
      refine lv_lconst (v := 0) hx hb d_Nu_setDecimal_27 (by decide) ?_
      refine W.lcmp hx hb d_Nu_setDecimal_28 ?_
      refine lv_if_eq (tgt := 80) hx hb d_Nu_setDecimal_29 (by decide) (fun c_29 => ?_) (fun c_29 => ?_)
      · skip
        have f_29 : n = 0 := nu_z4 hn c_29
        have hN := nu_x2 hE f_23 f_29
        have hP9 := hP.sub (ws' := [(h, .inr (5, [.ref r, .int (nI D.length)])), (r, .inl (cA, 64, .inl g))]) [0, 1] rfl
        have hD9 := hD.sub (ws' := [(h, .inr (5, [.ref r, .int (nI D.length)])), (r, .inl (cA, 64, .inl g))]) [0, 1] (by decide) rfl
        have hK9 := hK.sub (tys' := [(cA, .byte)]) [0] rfl
        rw [← hN] at hP9 hD9
        exact zz_vret hx hb hr hlocks d_Nu_setDecimal_80 hS (by first | exact Nat.le_refl _ | decide | omega | (dsimp only; omega)) (by first | exact Nat.le_refl _ | decide | omega | (dsimp only; omega)) g (by rw [hN]; exact hLD) hP9 hK9 hD9
      · skip
        have hgo : D.length = 0 ∨ n ≠ 0 := Or.inr (fun e => c_29 (by rw [e]; decide))
        refine lv_lload_n hx hb d_Nu_setDecimal_32 rfl (lv_at hl 2 rfl) ?_
        refine lv_iconst (v := 1) hx hb d_Nu_setDecimal_33 (by decide) ?_
        refine lv_lushr hx hb d_Nu_setDecimal_34 rfl ?_
        refine W.ldc2 (v := 5) hx hb hown (hg _ kw_260) rfl d_Nu_setDecimal_35 ?_
        refine W.eq (g2 := F0 m 38 ls [.long 5, .long (((lN n).toUInt64 >>> ((1 : Int32).toInt64.toUInt64 &&& Int64.toUInt64 63)).toInt64)]) rfl ?_
        refine lv_ldiv hx hb d_Nu_setDecimal_38 (by decide) ?_
        rw [nu_t hn]
        refine lv_lstore (lv' := [(5, .long (lN (n / 10))), (0, .ref h), (1, .long (lN n0)), (3, .long (lN n))]) hx hb d_Nu_setDecimal_39 hl (by decide) rfl (fun ls hl => ?_)
        refine lv_aload_n hx hb d_Nu_setDecimal_41 rfl (lv_at hl 1 rfl) ?_
        refine va_get (D := (dC, dI)) (ci := 5) (v := .ref r) (C := "TextForge$Numeral") (T := TX5) (N := 2) hx hb hg iwX5 hown hK hP 0 rfl rfl 0 (by decide) (hg _ kw_103) (fun _ h9 => h9) rfl d_Nu_setDecimal_42 ?_
        refine lv_aload_n hx hb d_Nu_setDecimal_45 rfl (lv_at hl 1 rfl) ?_
        refine va_get (D := (dC, dI)) (ci := 5) (v := .int (nI D.length)) (C := "TextForge$Numeral") (T := TX5) (N := 2) hx hb hg iwX5 hown hK hP 0 rfl rfl 1 (by decide) (hg _ kw_104) (fun _ h9 => h9) rfl d_Nu_setDecimal_46 ?_
        refine W.ldc2 (v := 48) hx hb hown (hg _ kw_261) rfl d_Nu_setDecimal_49 ?_
        refine W.eq (g2 := F0 m 52 ls [.long 48, .int (nI D.length), .ref r]) rfl ?_
        refine lv_lload_n hx hb d_Nu_setDecimal_52 rfl (lv_at hl 3 rfl) ?_
        refine lv_lload hx hb d_Nu_setDecimal_53 (lv_at hl 0 rfl) ?_
        refine W.ldc2 (v := 10) hx hb hown (hg _ kw_262) rfl d_Nu_setDecimal_55 ?_
        refine W.eq (g2 := F0 m 58 ls [.long 10, .long (lN (n / 10)), .long (lN n), .long 48, .int (nI D.length), .ref r]) rfl ?_
        refine lv_lmul hx hb d_Nu_setDecimal_58 ?_
        refine lv_lsub hx hb d_Nu_setDecimal_59 ?_
        refine lv_ladd hx hb d_Nu_setDecimal_60 ?_
        refine lv_l2i hx hb d_Nu_setDecimal_61 rfl ?_
        rw [nu_v hn]
        refine lv_i2b hx hb d_Nu_setDecimal_62 rfl ?_
        refine va_bast hx hb hK hP hD hS 1 0 rfl rfl hi9 d_Nu_setDecimal_63 (fun H locs hP hD hS => ?_)
        have hP : va_P (dC, dI) vwCl [(h, .inr (5, [.ref r, .int (nI D.length)])), (r, .inl (cA, 64, .inl (upd g (nI D.length).toNatClampNeg (vp_nar .byte ((nI (nu_d 97 (n % 10))).toInt8.toInt32)))))] H := hP
        have hD : va_D A [(h, .inr (5, [.ref r, .int (nI D.length)])), (r, .inl (cA, 64, .inl (upd g (nI D.length).toNatClampNeg (vp_nar .byte ((nI (nu_d 97 (n % 10))).toInt8.toInt32)))))] := hD
        refine lv_lload hx hb d_Nu_setDecimal_64 (lv_at hl 0 rfl) ?_
        refine lv_lstore_n (lv' := [(3, .long (lN (n / 10))), (5, .long (lN (n / 10))), (0, .ref h), (1, .long (lN n0))]) hx hb d_Nu_setDecimal_66 rfl hl (by decide) rfl (fun ls hl => ?_)
        refine lv_aload_n hx hb d_Nu_setDecimal_67 rfl (lv_at hl 2 rfl) ?_
        refine lv_dup hx hb d_Nu_setDecimal_68 rfl ?_
        refine va_get (D := (dC, dI)) (ci := 5) (v := .int (nI D.length)) (C := "TextForge$Numeral") (T := TX5) (N := 2) hx hb hg iwX5 hown hK hP 0 rfl rfl 1 (by decide) (hg _ kw_104) (fun _ h9 => h9) rfl d_Nu_setDecimal_69 ?_
        refine lv_iconst (v := 1) hx hb d_Nu_setDecimal_72 (by decide) ?_
        refine lv_iadd hx hb d_Nu_setDecimal_73 ?_
        refine va_put (D := (dC, dI)) (ci := 5) (v := .int ((nI D.length) + 1)) (ty := .int) (C := "TextForge$Numeral") (T := TX5) (N := 2) hx hb hg iwX5 tyX5 tyX5_ok nmX5 hown hK hP hD hS 0 rfl rfl 1 (by decide) (hg _ kw_104) (fun _ h9 => h9) rfl (by decide +kernel) rfl rfl (Nat.le_of_ble_eq_true rfl) d_Nu_setDecimal_74 (fun H locs hP hD hS => ?_)
        have hP : va_P (dC, dI) vwCl [(h, .inr (5, [.ref r, .int ((nI D.length) + 1)])), (r, .inl (cA, 64, .inl (upd g (nI D.length).toNatClampNeg (vp_nar .byte ((nI (nu_d 97 (n % 10))).toInt8.toInt32)))))] H := hP
        have hD : va_D A [(h, .inr (5, [.ref r, .int ((nI D.length) + 1)])), (r, .inl (cA, 64, .inl (upd g (nI D.length).toNatClampNeg (vp_nar .byte ((nI (nu_d 97 (n % 10))).toInt8.toInt32)))))] := hD
        refine lv_goto (tgt := 7) hx hb d_Nu_setDecimal_77 (by decide) ?_
        rw [nu_c1 D (nu_d 97 (n % 10))] at hP hD
        exact ih_7 (D ++ [nu_d 97 (n % 10)], n / 10, (upd g (nI D.length).toNatClampNeg (vp_nar .byte ((nI (nu_d 97 (n % 10))).toInt8.toInt32)))) H locs ls ⟨hP.sub [0, 1] rfl, hD.sub [0, 1] (by decide) rfl, hS, lv_sub hl [2, 3, 0] rfl, (nu_pu hLD f_16 (nu_b10 n)), (nu_le f_16), (Nat.lt_of_le_of_lt (Nat.div_le_self _ _) hn), (nu_step hE f_16 hgo)⟩ (by dsimp only; rw [List.length_append, List.length_singleton]; omega)
