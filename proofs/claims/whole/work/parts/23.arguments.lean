/-! ARGUMENTS -/
abbrev y_As_init : MethodName := ⟨"TextForge$Arguments", "<init>", "()V"⟩
abbrev w_As_init : List Cond := Cond.code y_As_init prog_3_method_1_code 1 none :: gw
theorem d_As_init_0 : decode prog_3_method_1_code 0 = .ok (.aload_n 0, 1) := by decide +kernel
theorem d_As_init_1 : decode prog_3_method_1_code 1 = .ok (.invokespecial 1, 3) := by decide +kernel
theorem d_As_init_4 : decode prog_3_method_1_code 4 = .ok (.aload_n 0, 1) := by decide +kernel
theorem d_As_init_5 : decode prog_3_method_1_code 5 = .ok (.bipush 16, 2) := by decide +kernel
theorem d_As_init_7 : decode prog_3_method_1_code 7 = .ok (.anewarray 9, 3) := by decide +kernel
theorem d_As_init_10 : decode prog_3_method_1_code 10 = .ok (.putfield 11, 3) := by decide +kernel
theorem d_As_init_13 : decode prog_3_method_1_code 13 = .ok (.aload_n 0, 1) := by decide +kernel
theorem d_As_init_14 : decode prog_3_method_1_code 14 = .ok (.iconst 0, 1) := by decide +kernel
theorem d_As_init_15 : decode prog_3_method_1_code 15 = .ok (.putfield 15, 3) := by decide +kernel
theorem d_As_init_18 : decode prog_3_method_1_code 18 = .ok (.aload_n 0, 1) := by decide +kernel
theorem d_As_init_19 : decode prog_3_method_1_code 19 = .ok (.iconst 0, 1) := by decide +kernel
theorem d_As_init_20 : decode prog_3_method_1_code 20 = .ok (.putfield 19, 3) := by decide +kernel
theorem d_As_init_23 : decode prog_3_method_1_code 23 = .ok (.return_, 1) := by decide +kernel
set_option maxHeartbeats 4000000 in
set_option maxRecDepth 100000 in
theorem c_As_init (l : Launch) (dC : Nat → ClassId) (dI : Nat → Nat → Nat) (ad : Nat → Nat) (hs : Nat) (x y z : Value)  : yM_v (S := Nat × ClassId) ad l y_As_init w_As_init { frames := 1, cells := 1, slots := 16, locals := 12 } (dC, dI) vwCl [.ref hs] [(hs, .inr (1, [x, y, z]))] [] (fun (u : Nat × ClassId) => match u with | (rs, cR) => True) (fun u => match u with | (rs, cR) => [(hs, .inr (1, [.ref rs, .int (nI 0), .int (nI 0)])), (rs, .inl (cR, 16, .inr (.inr (.inr (.inr (fun _ => none))))))]) (fun u => match u with | (rs, cR) => [(cR, .object "TextForge$Argument")]) 1 16 := by
  refine zy_enterv (cc := prog_3_method_1_code) (nL := 1) (ret := none) (by decide) rfl (Nat.le_of_ble_eq_true rfl) ?_
  intro p e s m below meth c A ls C0 hA hS hP hK hD hl hX
  obtain ⟨hx, hb, hml, hown, hg, hr, hlocks, hin⟩ := C0
  have hown : s.vm.findClass "TextForge$Arguments" = some m.cls := hown
  have hP : va_P (dC, dI) vwCl [(hs, .inr (1, [x, y, z]))] s.heap := hP
  have hK : va_K (dC, dI) vwCl [] s := hK
  have hD : va_D A [(hs, .inr (1, [x, y, z]))] := hD
  have hl : lv_has ls 1 [(0, .ref hs)] := hl
  refine lv_aload_n hx hb d_As_init_0 rfl (lv_at hl 0 rfl) ?_
  refine W.objInit hx hb hown (hg _ kw_53) (hg _ kw_29) (hg _ kw_30) rfl (by rw [hml]; exact hl.1) rfl d_As_init_1 (Nat.le_of_ble_eq_true rfl) (Nat.le_of_ble_eq_true rfl) ?_
  refine W.eq (g2 := F0 m 4 ls []) rfl ?_
  refine lv_aload_n hx hb d_As_init_4 rfl (lv_at hl 0 rfl) ?_
  refine lv_bipush (v := 16) hx hb d_As_init_5 (by decide) ?_
  refine va_newq (N' := 16) hx hb hown (hg _ kw_54) hX.2.2.2.1 hK hP hD hS hA (by decide) (by decide) (by decide) (by first | exact Nat.le_refl _ | decide | omega | (dsimp only; omega)) (by first | exact Nat.le_refl _ | decide | omega | (dsimp only; omega)) d_As_init_7 (fun q_1 cA_2 H hK hP hD hS => ?_)
  have hK : va_K (dC, dI) vwCl [(cA_2, .object "TextForge$Argument")] s := hK
  have hP : va_P (dC, dI) vwCl [(hs, .inr (1, [x, y, z])), (q_1, .inl (cA_2, 16, .inr (.inr (.inr (.inr (fun _ => none))))))] H := hP
  have hD : va_D A [(hs, .inr (1, [x, y, z])), (q_1, .inl (cA_2, 16, .inr (.inr (.inr (.inr (fun _ => none))))))] := hD
  refine va_putF (D := (dC, dI)) (ci := 1) (v := .ref q_1) (ty := .array (.object "TextForge$Argument")) (C := "TextForge$Arguments") (T := TX1) (N := 3) hx hb hg iwX1 tyX1 tyX1_ok nmX1 hown hK hP hD hS 0 rfl rfl 0 (by decide) (hg _ kw_56) (fun _ h9 => h9) rfl hin rfl (by decide +kernel) rfl rfl (Nat.le_of_ble_eq_true rfl) d_As_init_10 (fun H locs hP hD hS => ?_)
  have hP : va_P (dC, dI) vwCl [(hs, .inr (1, [.ref q_1, y, z])), (q_1, .inl (cA_2, 16, .inr (.inr (.inr (.inr (fun _ => none))))))] H := hP
  have hD : va_D A [(hs, .inr (1, [.ref q_1, y, z])), (q_1, .inl (cA_2, 16, .inr (.inr (.inr (.inr (fun _ => none))))))] := hD
  refine lv_aload_n hx hb d_As_init_13 rfl (lv_at hl 0 rfl) ?_
  refine lv_iconst (v := 0) hx hb d_As_init_14 (by decide) ?_
  refine va_put (D := (dC, dI)) (ci := 1) (v := .int 0) (ty := .int) (C := "TextForge$Arguments") (T := TX1) (N := 3) hx hb hg iwX1 tyX1 tyX1_ok nmX1 hown hK hP hD hS 0 rfl rfl 1 (by decide) (hg _ kw_57) (fun _ h9 => h9) rfl (by decide +kernel) rfl rfl (Nat.le_of_ble_eq_true rfl) d_As_init_15 (fun H locs hP hD hS => ?_)
  have hP : va_P (dC, dI) vwCl [(hs, .inr (1, [.ref q_1, .int 0, z])), (q_1, .inl (cA_2, 16, .inr (.inr (.inr (.inr (fun _ => none))))))] H := hP
  have hD : va_D A [(hs, .inr (1, [.ref q_1, .int 0, z])), (q_1, .inl (cA_2, 16, .inr (.inr (.inr (.inr (fun _ => none))))))] := hD
  refine lv_aload_n hx hb d_As_init_18 rfl (lv_at hl 0 rfl) ?_
  refine lv_iconst (v := 0) hx hb d_As_init_19 (by decide) ?_
  refine va_put (D := (dC, dI)) (ci := 1) (v := .int 0) (ty := .int) (C := "TextForge$Arguments") (T := TX1) (N := 3) hx hb hg iwX1 tyX1 tyX1_ok nmX1 hown hK hP hD hS 0 rfl rfl 2 (by decide) (hg _ kw_58) (fun _ h9 => h9) rfl (by decide +kernel) rfl rfl (Nat.le_of_ble_eq_true rfl) d_As_init_20 (fun H locs hP hD hS => ?_)
  have hP : va_P (dC, dI) vwCl [(hs, .inr (1, [.ref q_1, .int 0, .int 0])), (q_1, .inl (cA_2, 16, .inr (.inr (.inr (.inr (fun _ => none))))))] H := hP
  have hD : va_D A [(hs, .inr (1, [.ref q_1, .int 0, .int 0])), (q_1, .inl (cA_2, 16, .inr (.inr (.inr (.inr (fun _ => none))))))] := hD
  have hP9 := hP.sub (ws' := [(hs, .inr (1, [.ref q_1, .int 0, .int 0])), (q_1, .inl (cA_2, 16, .inr (.inr (.inr (.inr (fun _ => none))))))]) [0, 1] rfl
  have hD9 := hD.sub (ws' := [(hs, .inr (1, [.ref q_1, .int 0, .int 0])), (q_1, .inl (cA_2, 16, .inr (.inr (.inr (.inr (fun _ => none))))))]) [0, 1] (by decide) rfl
  have hK9 := hK.sub (tys' := [(cA_2, .object "TextForge$Argument")]) [0] rfl
  exact zz_vret hx hb hr hlocks d_As_init_23 hS (by first | exact Nat.le_refl _ | decide | omega | (dsimp only; omega)) (by first | exact Nat.le_refl _ | decide | omega | (dsimp only; omega)) (q_1, cA_2) trivial hP9 hK9 hD9
abbrev y_As_count : MethodName := ⟨"TextForge$Arguments", "count", "()I"⟩
abbrev w_As_count : List Cond := Cond.code y_As_count prog_3_method_2_code 1 (some .int) :: gw
theorem d_As_count_0 : decode prog_3_method_2_code 0 = .ok (.aload_n 0, 1) := by decide +kernel
theorem d_As_count_1 : decode prog_3_method_2_code 1 = .ok (.getfield 15, 3) := by decide +kernel
theorem d_As_count_4 : decode prog_3_method_2_code 4 = .ok (.ireturn, 1) := by decide +kernel
set_option maxHeartbeats 4000000 in
set_option maxRecDepth 100000 in
theorem c_As_count (l : Launch) (dC : Nat → ClassId) (dI : Nat → Nat → Nat) (hs rs : Nat) (cR : ClassId) (fR : Nat → Option Nat) (n us : Nat)  : zR_i l y_As_count w_As_count { frames := 0, cells := 0, slots := 0, locals := 0 } (dC, dI) vwCl [.ref hs] [(hs, .inr (1, [.ref rs, .int (nI n), .int (nI us)])), (rs, .inl (cR, 16, .inr (.inr (.inr (.inr fR)))))] [(cR, .object "TextForge$Argument")] (fun r : Int32 => r = nI n) := by
  refine zz_enterR (cc := prog_3_method_2_code) (nL := 1) (ret := (some .int)) (by decide) rfl (Nat.le_of_ble_eq_true rfl) ?_
  intro p e s m below meth c ls C0 hP hK hl
  obtain ⟨hx, hb, hml, hown, hg, hr, hlocks, hin⟩ := C0
  have hS : va_S (fun _ => False) s.heap s.heap [] := va_S.rf
  have hown : s.vm.findClass "TextForge$Arguments" = some m.cls := hown
  have hP : va_P (dC, dI) vwCl [(hs, .inr (1, [.ref rs, .int (nI n), .int (nI us)])), (rs, .inl (cR, 16, .inr (.inr (.inr (.inr fR)))))] s.heap := hP
  have hK : va_K (dC, dI) vwCl [(cR, .object "TextForge$Argument")] s := hK
  have hl : lv_has ls 1 [(0, .ref hs)] := hl
  refine lv_aload_n hx hb d_As_count_0 rfl (lv_at hl 0 rfl) ?_
  refine va_get (D := (dC, dI)) (ci := 1) (v := .int (nI n)) (C := "TextForge$Arguments") (T := TX1) (N := 3) hx hb hg iwX1 hown hK hP 0 rfl rfl 1 (by decide) (hg _ kw_57) (fun _ h9 => h9) rfl d_As_count_1 ?_
  exact zz_iretR hx hb hr hlocks d_As_count_4 rfl
abbrev y_As_isFull : MethodName := ⟨"TextForge$Arguments", "isFull", "()Z"⟩
abbrev w_As_isFull : List Cond := Cond.code y_As_isFull prog_3_method_3_code 1 (some .boolean) :: gw
theorem d_As_isFull_0 : decode prog_3_method_3_code 0 = .ok (.aload_n 0, 1) := by decide +kernel
theorem d_As_isFull_1 : decode prog_3_method_3_code 1 = .ok (.getfield 15, 3) := by decide +kernel
theorem d_As_isFull_4 : decode prog_3_method_3_code 4 = .ok (.aload_n 0, 1) := by decide +kernel
theorem d_As_isFull_5 : decode prog_3_method_3_code 5 = .ok (.getfield 11, 3) := by decide +kernel
theorem d_As_isFull_8 : decode prog_3_method_3_code 8 = .ok (.arraylength, 1) := by decide +kernel
theorem d_As_isFull_9 : decode prog_3_method_3_code 9 = .ok (.if_icmp .lt 7, 3) := by decide +kernel
theorem d_As_isFull_12 : decode prog_3_method_3_code 12 = .ok (.iconst 1, 1) := by decide +kernel
theorem d_As_isFull_13 : decode prog_3_method_3_code 13 = .ok (.goto 4, 3) := by decide +kernel
theorem d_As_isFull_16 : decode prog_3_method_3_code 16 = .ok (.iconst 0, 1) := by decide +kernel
theorem d_As_isFull_17 : decode prog_3_method_3_code 17 = .ok (.ireturn, 1) := by decide +kernel
set_option maxHeartbeats 4000000 in
set_option maxRecDepth 100000 in
theorem c_As_isFull (l : Launch) (dC : Nat → ClassId) (dI : Nat → Nat → Nat) (hs rs : Nat) (cR : ClassId) (fR : Nat → Option Nat) (n us : Nat) (hnn : n ≤ 16) (hus : us < 1000000) : zR_i l y_As_isFull w_As_isFull { frames := 0, cells := 0, slots := 0, locals := 0 } (dC, dI) vwCl [.ref hs] [(hs, .inr (1, [.ref rs, .int (nI n), .int (nI us)])), (rs, .inl (cR, 16, .inr (.inr (.inr (.inr fR)))))] [(cR, .object "TextForge$Argument")] (fun r : Int32 => r = by_z (decide (16 ≤ n))) := by
  refine zz_enterR (cc := prog_3_method_3_code) (nL := 1) (ret := (some .boolean)) (by decide) rfl (Nat.le_of_ble_eq_true rfl) ?_
  intro p e s m below meth c ls C0 hP hK hl
  obtain ⟨hx, hb, hml, hown, hg, hr, hlocks, hin⟩ := C0
  have hS : va_S (fun _ => False) s.heap s.heap [] := va_S.rf
  have hown : s.vm.findClass "TextForge$Arguments" = some m.cls := hown
  have hP : va_P (dC, dI) vwCl [(hs, .inr (1, [.ref rs, .int (nI n), .int (nI us)])), (rs, .inl (cR, 16, .inr (.inr (.inr (.inr fR)))))] s.heap := hP
  have hK : va_K (dC, dI) vwCl [(cR, .object "TextForge$Argument")] s := hK
  have hl : lv_has ls 1 [(0, .ref hs)] := hl
  refine lv_aload_n hx hb d_As_isFull_0 rfl (lv_at hl 0 rfl) ?_
  refine va_get (D := (dC, dI)) (ci := 1) (v := .int (nI n)) (C := "TextForge$Arguments") (T := TX1) (N := 3) hx hb hg iwX1 hown hK hP 0 rfl rfl 1 (by decide) (hg _ kw_57) (fun _ h9 => h9) rfl d_As_isFull_1 ?_
  refine lv_aload_n hx hb d_As_isFull_4 rfl (lv_at hl 0 rfl) ?_
  refine va_get (D := (dC, dI)) (ci := 1) (v := .ref rs) (C := "TextForge$Arguments") (T := TX1) (N := 3) hx hb hg iwX1 hown hK hP 0 rfl rfl 0 (by decide) (hg _ kw_56) (fun _ h9 => h9) rfl d_As_isFull_5 ?_
  refine va_alen (v := nI 16) hx hb hK hP 1 0 rfl rfl rfl d_As_isFull_8 ?_
  refine lv_icmp_lt (tgt := 16) hx hb d_As_isFull_9 (by decide) (fun c_9 => ?_) (fun c_9 => ?_)
  · skip
    refine lv_iconst (v := 0) hx hb d_As_isFull_16 (by decide) ?_
    exact zz_zretR hx hb hr hlocks d_As_isFull_17 rfl (by rw [decide_eq_false (by have := (nI_ltI (b := 16) (by omega) (by decide)).mp c_9; omega)]; rfl)
  · skip
    refine lv_iconst (v := 1) hx hb d_As_isFull_12 (by decide) ?_
    refine lv_goto (tgt := 17) hx hb d_As_isFull_13 (by decide) ?_
    exact zz_zretR hx hb hr hlocks d_As_isFull_17 rfl (by rw [decide_eq_true (Nat.le_of_not_lt (fun z => c_9 (nI_lt (b := 16) z (by decide))))]; rfl)
abbrev y_As_at : MethodName := ⟨"TextForge$Arguments", "at", "(I)LTextForge$Argument;"⟩
abbrev w_As_at : List Cond := Cond.code y_As_at prog_3_method_5_code 2 (some (.object "TextForge$Argument")) :: gw
theorem d_As_at_0 : decode prog_3_method_5_code 0 = .ok (.iload_n 1, 1) := by decide +kernel
theorem d_As_at_1 : decode prog_3_method_5_code 1 = .ok (.ifCond .lt 20, 3) := by decide +kernel
theorem d_As_at_4 : decode prog_3_method_5_code 4 = .ok (.iload_n 1, 1) := by decide +kernel
theorem d_As_at_5 : decode prog_3_method_5_code 5 = .ok (.aload_n 0, 1) := by decide +kernel
theorem d_As_at_6 : decode prog_3_method_5_code 6 = .ok (.getfield 15, 3) := by decide +kernel
theorem d_As_at_9 : decode prog_3_method_5_code 9 = .ok (.if_icmp .ge 12, 3) := by decide +kernel
theorem d_As_at_12 : decode prog_3_method_5_code 12 = .ok (.aload_n 0, 1) := by decide +kernel
theorem d_As_at_13 : decode prog_3_method_5_code 13 = .ok (.getfield 11, 3) := by decide +kernel
theorem d_As_at_16 : decode prog_3_method_5_code 16 = .ok (.iload_n 1, 1) := by decide +kernel
theorem d_As_at_17 : decode prog_3_method_5_code 17 = .ok (.aaload, 1) := by decide +kernel
theorem d_As_at_18 : decode prog_3_method_5_code 18 = .ok (.goto 4, 3) := by decide +kernel
theorem d_As_at_21 : decode prog_3_method_5_code 21 = .ok (.aconst_null, 1) := by decide +kernel
theorem d_As_at_22 : decode prog_3_method_5_code 22 = .ok (.areturn, 1) := by decide +kernel
set_option maxHeartbeats 4000000 in
set_option maxRecDepth 100000 in
theorem c_As_at (l : Launch) (dC : Nat → ClassId) (dI : Nat → Nat → Nat) (hs rs : Nat) (cR : ClassId) (fR : Nat → Option Nat) (n us : Nat) (i : Nat) (hnn : n ≤ 16) (hus : us < 1000000) (hi0 : i < 1000000) : zR_q l y_As_at w_As_at { frames := 0, cells := 0, slots := 0, locals := 0 } (dC, dI) vwCl [.ref hs, .int (nI i)] [(hs, .inr (1, [.ref rs, .int (nI n), .int (nI us)])), (rs, .inl (cR, 16, .inr (.inr (.inr (.inr fR)))))] [(cR, .object "TextForge$Argument")] (fun r : Option Nat => r = if i < n then fR i else none) := by
  refine zz_enterR (cc := prog_3_method_5_code) (nL := 2) (ret := (some (.object "TextForge$Argument"))) (by decide) rfl (Nat.le_of_ble_eq_true rfl) ?_
  intro p e s m below meth c ls C0 hP hK hl
  obtain ⟨hx, hb, hml, hown, hg, hr, hlocks, hin⟩ := C0
  have hS : va_S (fun _ => False) s.heap s.heap [] := va_S.rf
  have hown : s.vm.findClass "TextForge$Arguments" = some m.cls := hown
  have hP : va_P (dC, dI) vwCl [(hs, .inr (1, [.ref rs, .int (nI n), .int (nI us)])), (rs, .inl (cR, 16, .inr (.inr (.inr (.inr fR)))))] s.heap := hP
  have hK : va_K (dC, dI) vwCl [(cR, .object "TextForge$Argument")] s := hK
  have hl : lv_has ls 2 [(0, .ref hs), (1, .int (nI i))] := hl
  refine lv_iload_n hx hb d_As_at_0 rfl (lv_at hl 1 rfl) ?_
  refine lv_if_lt (tgt := 21) hx hb d_As_at_1 (by decide) (fun c9 => by first | exact absurd c9 (nI_pos (by omega)) | exact absurd (nI_pos (by omega)) c9) (fun _ => ?_)
  refine lv_iload_n hx hb d_As_at_4 rfl (lv_at hl 1 rfl) ?_
  refine lv_aload_n hx hb d_As_at_5 rfl (lv_at hl 0 rfl) ?_
  refine va_get (D := (dC, dI)) (ci := 1) (v := .int (nI n)) (C := "TextForge$Arguments") (T := TX1) (N := 3) hx hb hg iwX1 hown hK hP 0 rfl rfl 1 (by decide) (hg _ kw_57) (fun _ h9 => h9) rfl d_As_at_6 ?_
  refine lv_icmp_ge (tgt := 21) hx hb d_As_at_9 (by decide) (fun c_9 => ?_) (fun c_9 => ?_)
  · skip
    have f_9 : ¬ i < n := fun z => nI_ge z (by omega) c_9
    refine lv_null hx hb d_As_at_21 ?_
    exact zz_qretR (r := none) hx hb hr hlocks d_As_at_22 (if_neg f_9).symm
  · skip
    have f_9 : i < n := Nat.lt_of_not_le (fun z => c_9 (nI_le z (by omega)))
    refine lv_aload_n hx hb d_As_at_12 rfl (lv_at hl 0 rfl) ?_
    refine va_get (D := (dC, dI)) (ci := 1) (v := .ref rs) (C := "TextForge$Arguments") (T := TX1) (N := 3) hx hb hg iwX1 hown hK hP 0 rfl rfl 0 (by decide) (hg _ kw_56) (fun _ h9 => h9) rfl d_As_at_13 ?_
    refine lv_iload_n hx hb d_As_at_16 rfl (lv_at hl 1 rfl) ?_
    refine va_aldq hx hb hK hP 1 0 rfl rfl (vp_in_nI (by omega) (by decide)) d_As_at_17 ?_
    refine lv_goto (tgt := 22) hx hb d_As_at_18 (by decide) ?_
    exact zz_qretR (r := (fR (nI i).toNatClampNeg)) hx hb hr hlocks d_As_at_22 (by rw [if_pos f_9, nI_clamp (by omega)])
abbrev y_As_drop : MethodName := ⟨"TextForge$Arguments", "drop", "()V"⟩
abbrev w_As_drop : List Cond := Cond.code y_As_drop prog_3_method_7_code 1 none :: gw
theorem d_As_drop_0 : decode prog_3_method_7_code 0 = .ok (.aload_n 0, 1) := by decide +kernel
theorem d_As_drop_1 : decode prog_3_method_7_code 1 = .ok (.iconst 0, 1) := by decide +kernel
theorem d_As_drop_2 : decode prog_3_method_7_code 2 = .ok (.putfield 15, 3) := by decide +kernel
theorem d_As_drop_5 : decode prog_3_method_7_code 5 = .ok (.aload_n 0, 1) := by decide +kernel
theorem d_As_drop_6 : decode prog_3_method_7_code 6 = .ok (.iconst 0, 1) := by decide +kernel
theorem d_As_drop_7 : decode prog_3_method_7_code 7 = .ok (.putfield 19, 3) := by decide +kernel
theorem d_As_drop_10 : decode prog_3_method_7_code 10 = .ok (.return_, 1) := by decide +kernel
set_option maxHeartbeats 4000000 in
set_option maxRecDepth 100000 in
theorem c_As_drop (l : Launch) (dC : Nat → ClassId) (dI : Nat → Nat → Nat) (hs rs : Nat) (cR : ClassId) (fR : Nat → Option Nat) (n us : Nat)  : zM_v (S := Unit) l y_As_drop w_As_drop { frames := 0, cells := 0, slots := 0, locals := 0 } (dC, dI) vwCl [.ref hs] [(hs, .inr (1, [.ref rs, .int (nI n), .int (nI us)])), (rs, .inl (cR, 16, .inr (.inr (.inr (.inr fR)))))] [(cR, .object "TextForge$Argument")] (fun (u : Unit) => True) (fun u => [(hs, .inr (1, [.ref rs, .int (nI 0), .int (nI 0)])), (rs, .inl (cR, 16, .inr (.inr (.inr (.inr fR)))))]) (fun u => [(cR, .object "TextForge$Argument")]) 0 0 := by
  refine zz_enterv (cc := prog_3_method_7_code) (nL := 1) (ret := none) (by decide) rfl (Nat.le_of_ble_eq_true rfl) ?_
  intro p e s m below meth c A ls C0 hA hS hP hK hD hl
  obtain ⟨hx, hb, hml, hown, hg, hr, hlocks, hin⟩ := C0
  have hown : s.vm.findClass "TextForge$Arguments" = some m.cls := hown
  have hP : va_P (dC, dI) vwCl [(hs, .inr (1, [.ref rs, .int (nI n), .int (nI us)])), (rs, .inl (cR, 16, .inr (.inr (.inr (.inr fR)))))] s.heap := hP
  have hK : va_K (dC, dI) vwCl [(cR, .object "TextForge$Argument")] s := hK
  have hD : va_D A [(hs, .inr (1, [.ref rs, .int (nI n), .int (nI us)])), (rs, .inl (cR, 16, .inr (.inr (.inr (.inr fR)))))] := hD
  have hl : lv_has ls 1 [(0, .ref hs)] := hl
  refine lv_aload_n hx hb d_As_drop_0 rfl (lv_at hl 0 rfl) ?_
  refine lv_iconst (v := 0) hx hb d_As_drop_1 (by decide) ?_
  refine va_put (D := (dC, dI)) (ci := 1) (v := .int 0) (ty := .int) (C := "TextForge$Arguments") (T := TX1) (N := 3) hx hb hg iwX1 tyX1 tyX1_ok nmX1 hown hK hP hD hS 0 rfl rfl 1 (by decide) (hg _ kw_57) (fun _ h9 => h9) rfl (by decide +kernel) rfl rfl (Nat.le_of_ble_eq_true rfl) d_As_drop_2 (fun H locs hP hD hS => ?_)
  have hP : va_P (dC, dI) vwCl [(hs, .inr (1, [.ref rs, .int 0, .int (nI us)])), (rs, .inl (cR, 16, .inr (.inr (.inr (.inr fR)))))] H := hP
  have hD : va_D A [(hs, .inr (1, [.ref rs, .int 0, .int (nI us)])), (rs, .inl (cR, 16, .inr (.inr (.inr (.inr fR)))))] := hD
  refine lv_aload_n hx hb d_As_drop_5 rfl (lv_at hl 0 rfl) ?_
  refine lv_iconst (v := 0) hx hb d_As_drop_6 (by decide) ?_
  refine va_put (D := (dC, dI)) (ci := 1) (v := .int 0) (ty := .int) (C := "TextForge$Arguments") (T := TX1) (N := 3) hx hb hg iwX1 tyX1 tyX1_ok nmX1 hown hK hP hD hS 0 rfl rfl 2 (by decide) (hg _ kw_58) (fun _ h9 => h9) rfl (by decide +kernel) rfl rfl (Nat.le_of_ble_eq_true rfl) d_As_drop_7 (fun H locs hP hD hS => ?_)
  have hP : va_P (dC, dI) vwCl [(hs, .inr (1, [.ref rs, .int 0, .int 0])), (rs, .inl (cR, 16, .inr (.inr (.inr (.inr fR)))))] H := hP
  have hD : va_D A [(hs, .inr (1, [.ref rs, .int 0, .int 0])), (rs, .inl (cR, 16, .inr (.inr (.inr (.inr fR)))))] := hD
  have hP9 := hP.sub (ws' := [(hs, .inr (1, [.ref rs, .int 0, .int 0])), (rs, .inl (cR, 16, .inr (.inr (.inr (.inr fR)))))]) [0, 1] rfl
  have hD9 := hD.sub (ws' := [(hs, .inr (1, [.ref rs, .int 0, .int 0])), (rs, .inl (cR, 16, .inr (.inr (.inr (.inr fR)))))]) [0, 1] (by decide) rfl
  have hK9 := hK.sub (tys' := [(cR, .object "TextForge$Argument")]) [0] rfl
  exact zz_vret hx hb hr hlocks d_As_drop_10 hS (by first | exact Nat.le_refl _ | decide | omega | (dsimp only; omega)) (by first | exact Nat.le_refl _ | decide | omega | (dsimp only; omega)) () trivial hP9 hK9 hD9
abbrev y_As_next : MethodName := ⟨"TextForge$Arguments", "next", "()LTextForge$Argument;"⟩
abbrev w_As_next : List Cond := Cond.code y_As_next prog_3_method_6_code 1 (some (.object "TextForge$Argument")) :: gw
theorem d_As_next_0 : decode prog_3_method_6_code 0 = .ok (.aload_n 0, 1) := by decide +kernel
theorem d_As_next_1 : decode prog_3_method_6_code 1 = .ok (.dup, 1) := by decide +kernel
theorem d_As_next_2 : decode prog_3_method_6_code 2 = .ok (.getfield 19, 3) := by decide +kernel
theorem d_As_next_5 : decode prog_3_method_6_code 5 = .ok (.iconst 1, 1) := by decide +kernel
theorem d_As_next_6 : decode prog_3_method_6_code 6 = .ok (.iadd, 1) := by decide +kernel
theorem d_As_next_7 : decode prog_3_method_6_code 7 = .ok (.putfield 19, 3) := by decide +kernel
theorem d_As_next_10 : decode prog_3_method_6_code 10 = .ok (.aload_n 0, 1) := by decide +kernel
theorem d_As_next_11 : decode prog_3_method_6_code 11 = .ok (.aload_n 0, 1) := by decide +kernel
theorem d_As_next_12 : decode prog_3_method_6_code 12 = .ok (.getfield 19, 3) := by decide +kernel
theorem d_As_next_15 : decode prog_3_method_6_code 15 = .ok (.iconst 1, 1) := by decide +kernel
theorem d_As_next_16 : decode prog_3_method_6_code 16 = .ok (.isub, 1) := by decide +kernel
theorem d_As_next_17 : decode prog_3_method_6_code 17 = .ok (.invokevirtual 22, 3) := by decide +kernel
theorem d_As_next_20 : decode prog_3_method_6_code 20 = .ok (.areturn, 1) := by decide +kernel
set_option maxHeartbeats 4000000 in
set_option maxRecDepth 100000 in
theorem c_As_next (l : Launch) (dC : Nat → ClassId) (dI : Nat → Nat → Nat) (hs rs : Nat) (cR : ClassId) (fR : Nat → Option Nat) (n us : Nat) (hnn : n ≤ 16) (hus : us < 900000) : zM_q (S := Unit) l y_As_next w_As_next { frames := 1, cells := 0, slots := 0, locals := 21 } (dC, dI) vwCl [.ref hs] [(hs, .inr (1, [.ref rs, .int (nI n), .int (nI us)])), (rs, .inl (cR, 16, .inr (.inr (.inr (.inr fR)))))] [(cR, .object "TextForge$Argument")] (fun (r : Option Nat) (u : Unit) => r = if us < n then fR us else none) (fun u => [(hs, .inr (1, [.ref rs, .int (nI n), .int (nI (us + 1))])), (rs, .inl (cR, 16, .inr (.inr (.inr (.inr fR)))))]) (fun u => [(cR, .object "TextForge$Argument")]) 0 0 := by
  refine zz_enterq (cc := prog_3_method_6_code) (nL := 1) (ret := (some (.object "TextForge$Argument"))) (by decide) rfl (Nat.le_of_ble_eq_true rfl) ?_
  intro p e s m below meth c A ls C0 hA hS hP hK hD hl
  obtain ⟨hx, hb, hml, hown, hg, hr, hlocks, hin⟩ := C0
  have hown : s.vm.findClass "TextForge$Arguments" = some m.cls := hown
  have hP : va_P (dC, dI) vwCl [(hs, .inr (1, [.ref rs, .int (nI n), .int (nI us)])), (rs, .inl (cR, 16, .inr (.inr (.inr (.inr fR)))))] s.heap := hP
  have hK : va_K (dC, dI) vwCl [(cR, .object "TextForge$Argument")] s := hK
  have hD : va_D A [(hs, .inr (1, [.ref rs, .int (nI n), .int (nI us)])), (rs, .inl (cR, 16, .inr (.inr (.inr (.inr fR)))))] := hD
  have hl : lv_has ls 1 [(0, .ref hs)] := hl
  refine lv_aload_n hx hb d_As_next_0 rfl (lv_at hl 0 rfl) ?_
  refine lv_dup hx hb d_As_next_1 rfl ?_
  refine va_get (D := (dC, dI)) (ci := 1) (v := .int (nI us)) (C := "TextForge$Arguments") (T := TX1) (N := 3) hx hb hg iwX1 hown hK hP 0 rfl rfl 2 (by decide) (hg _ kw_58) (fun _ h9 => h9) rfl d_As_next_2 ?_
  refine lv_iconst (v := 1) hx hb d_As_next_5 (by decide) ?_
  refine lv_iadd hx hb d_As_next_6 ?_
  rw [nI_1]
  refine va_put (D := (dC, dI)) (ci := 1) (v := .int (nI (us + 1))) (ty := .int) (C := "TextForge$Arguments") (T := TX1) (N := 3) hx hb hg iwX1 tyX1 tyX1_ok nmX1 hown hK hP hD hS 0 rfl rfl 2 (by decide) (hg _ kw_58) (fun _ h9 => h9) rfl (by decide +kernel) rfl rfl (Nat.le_of_ble_eq_true rfl) d_As_next_7 (fun H locs hP hD hS => ?_)
  have hP : va_P (dC, dI) vwCl [(hs, .inr (1, [.ref rs, .int (nI n), .int (nI (us + 1))])), (rs, .inl (cR, 16, .inr (.inr (.inr (.inr fR)))))] H := hP
  have hD : va_D A [(hs, .inr (1, [.ref rs, .int (nI n), .int (nI (us + 1))])), (rs, .inl (cR, 16, .inr (.inr (.inr (.inr fR)))))] := hD
  refine lv_aload_n hx hb d_As_next_10 rfl (lv_at hl 0 rfl) ?_
  refine lv_aload_n hx hb d_As_next_11 rfl (lv_at hl 0 rfl) ?_
  refine va_get (D := (dC, dI)) (ci := 1) (v := .int (nI (us + 1))) (C := "TextForge$Arguments") (T := TX1) (N := 3) hx hb hg iwX1 hown hK hP 0 rfl rfl 2 (by decide) (hg _ kw_58) (fun _ h9 => h9) rfl d_As_next_12 ?_
  refine lv_iconst (v := 1) hx hb d_As_next_15 (by decide) ?_
  refine lv_isub hx hb d_As_next_16 ?_
  rw [show nI (us + 1) - 1 = nI us from nI_pred _]
  have hPc := hP.sub (ws' := [(hs, .inr (1, [.ref rs, .int (nI n), .int (nI (us + 1))])), (rs, .inl (cR, 16, .inr (.inr (.inr (.inr fR)))))]) [0, 1] rfl
  have hKc := hK.sub (tys' := [(cR, .object "TextForge$Argument")]) [0] rfl
  refine va_csq (W.runV (As := [.int (nI us)]) (rest := []) ⟨hx, hb, hml, hown, hg⟩ (c_As_at l dC dI hs rs cR fR n (us + 1) us hnn (by omega) (by omega)) (cwV 1 hg (gi_V kw_219 kw_220 kw_221 kw_4 kw_222) rfl rfl rfl (by decide +kernel) ⟨Nat.le_of_ble_eq_true rfl, Nat.le_of_ble_eq_true rfl⟩) (zz_prJV hPc hKc _ (q0 := 0) (ci := 1) rfl rfl) rfl rfl hl.1 rfl (lv_room (Nat.le_of_ble_eq_true rfl)) d_As_next_17 ⟨Nat.le_of_ble_eq_true rfl, Nat.le_of_ble_eq_true rfl⟩) (fun r_1 hr_1 => ?_)
  have hP9 := hP.sub (ws' := [(hs, .inr (1, [.ref rs, .int (nI n), .int (nI (us + 1))])), (rs, .inl (cR, 16, .inr (.inr (.inr (.inr fR)))))]) [0, 1] rfl
  have hD9 := hD.sub (ws' := [(hs, .inr (1, [.ref rs, .int (nI n), .int (nI (us + 1))])), (rs, .inl (cR, 16, .inr (.inr (.inr (.inr fR)))))]) [0, 1] (by decide) rfl
  have hK9 := hK.sub (tys' := [(cR, .object "TextForge$Argument")]) [0] rfl
  exact zz_qret (r := r_1) hx hb hr hlocks d_As_next_20 hS (by first | exact Nat.le_refl _ | decide | omega | (dsimp only; omega)) (by first | exact Nat.le_refl _ | decide | omega | (dsimp only; omega)) () hr_1 hP9 hK9 hD9
abbrev y_As_add : MethodName := ⟨"TextForge$Arguments", "add", "(LTextForge$Argument;)I"⟩
abbrev w_As_add : List Cond := Cond.code y_As_add prog_3_method_4_code 2 (some .int) :: gw
theorem d_As_add_0 : decode prog_3_method_4_code 0 = .ok (.aload_n 0, 1) := by decide +kernel
theorem d_As_add_1 : decode prog_3_method_4_code 1 = .ok (.getfield 15, 3) := by decide +kernel
theorem d_As_add_4 : decode prog_3_method_4_code 4 = .ok (.aload_n 0, 1) := by decide +kernel
theorem d_As_add_5 : decode prog_3_method_4_code 5 = .ok (.getfield 11, 3) := by decide +kernel
theorem d_As_add_8 : decode prog_3_method_4_code 8 = .ok (.arraylength, 1) := by decide +kernel
theorem d_As_add_9 : decode prog_3_method_4_code 9 = .ok (.if_icmp .ge 23, 3) := by decide +kernel
theorem d_As_add_12 : decode prog_3_method_4_code 12 = .ok (.aload_n 0, 1) := by decide +kernel
theorem d_As_add_13 : decode prog_3_method_4_code 13 = .ok (.getfield 11, 3) := by decide +kernel
theorem d_As_add_16 : decode prog_3_method_4_code 16 = .ok (.aload_n 0, 1) := by decide +kernel
theorem d_As_add_17 : decode prog_3_method_4_code 17 = .ok (.getfield 15, 3) := by decide +kernel
theorem d_As_add_20 : decode prog_3_method_4_code 20 = .ok (.aload_n 1, 1) := by decide +kernel
theorem d_As_add_21 : decode prog_3_method_4_code 21 = .ok (.aastore, 1) := by decide +kernel
theorem d_As_add_22 : decode prog_3_method_4_code 22 = .ok (.aload_n 0, 1) := by decide +kernel
theorem d_As_add_23 : decode prog_3_method_4_code 23 = .ok (.dup, 1) := by decide +kernel
theorem d_As_add_24 : decode prog_3_method_4_code 24 = .ok (.getfield 15, 3) := by decide +kernel
theorem d_As_add_27 : decode prog_3_method_4_code 27 = .ok (.iconst 1, 1) := by decide +kernel
theorem d_As_add_28 : decode prog_3_method_4_code 28 = .ok (.iadd, 1) := by decide +kernel
theorem d_As_add_29 : decode prog_3_method_4_code 29 = .ok (.putfield 15, 3) := by decide +kernel
theorem d_As_add_32 : decode prog_3_method_4_code 32 = .ok (.aload_n 0, 1) := by decide +kernel
theorem d_As_add_33 : decode prog_3_method_4_code 33 = .ok (.getfield 15, 3) := by decide +kernel
theorem d_As_add_36 : decode prog_3_method_4_code 36 = .ok (.ireturn, 1) := by decide +kernel
set_option maxHeartbeats 4000000 in
set_option maxRecDepth 100000 in
theorem c_As_add (l : Launch) (dC : Nat → ClassId) (dI : Nat → Nat → Nat) (hs rs : Nat) (cR : ClassId) (fR : Nat → Option Nat) (n us : Nat) (a : Nat) (y0 y1 y2 : Value) (hnn : n < 16) : zM_i (S := Unit) l y_As_add w_As_add { frames := 0, cells := 0, slots := 0, locals := 0 } (dC, dI) vwCl [.ref hs, .ref a] [(hs, .inr (1, [.ref rs, .int (nI n), .int (nI us)])), (rs, .inl (cR, 16, .inr (.inr (.inr (.inr fR))))), (a, .inr (0, [y0, y1, y2]))] [(cR, .object "TextForge$Argument")] (fun (r : Int32) (u : Unit) => r = nI (n + 1)) (fun u => [(hs, .inr (1, [.ref rs, .int (nI (n + 1)), .int (nI us)])), (rs, .inl (cR, 16, .inr (.inr (.inr (.inr (va_up fR n (some a))))))), (a, .inr (0, [y0, y1, y2]))]) (fun u => [(cR, .object "TextForge$Argument")]) 0 0 := by
  refine zz_enteri (cc := prog_3_method_4_code) (nL := 2) (ret := (some .int)) (by decide) rfl (Nat.le_of_ble_eq_true rfl) ?_
  intro p e s m below meth c A ls C0 hA hS hP hK hD hl
  obtain ⟨hx, hb, hml, hown, hg, hr, hlocks, hin⟩ := C0
  have hown : s.vm.findClass "TextForge$Arguments" = some m.cls := hown
  have hP : va_P (dC, dI) vwCl [(hs, .inr (1, [.ref rs, .int (nI n), .int (nI us)])), (rs, .inl (cR, 16, .inr (.inr (.inr (.inr fR))))), (a, .inr (0, [y0, y1, y2]))] s.heap := hP
  have hK : va_K (dC, dI) vwCl [(cR, .object "TextForge$Argument")] s := hK
  have hD : va_D A [(hs, .inr (1, [.ref rs, .int (nI n), .int (nI us)])), (rs, .inl (cR, 16, .inr (.inr (.inr (.inr fR))))), (a, .inr (0, [y0, y1, y2]))] := hD
  have hl : lv_has ls 2 [(0, .ref hs), (1, .ref a)] := hl
  refine lv_aload_n hx hb d_As_add_0 rfl (lv_at hl 0 rfl) ?_
  refine va_get (D := (dC, dI)) (ci := 1) (v := .int (nI n)) (C := "TextForge$Arguments") (T := TX1) (N := 3) hx hb hg iwX1 hown hK hP 0 rfl rfl 1 (by decide) (hg _ kw_57) (fun _ h9 => h9) rfl d_As_add_1 ?_
  refine lv_aload_n hx hb d_As_add_4 rfl (lv_at hl 0 rfl) ?_
  refine va_get (D := (dC, dI)) (ci := 1) (v := .ref rs) (C := "TextForge$Arguments") (T := TX1) (N := 3) hx hb hg iwX1 hown hK hP 0 rfl rfl 0 (by decide) (hg _ kw_56) (fun _ h9 => h9) rfl d_As_add_5 ?_
  refine va_alen (v := nI 16) hx hb hK hP 1 0 rfl rfl rfl d_As_add_8 ?_
  refine lv_icmp_ge (tgt := 32) hx hb d_As_add_9 (by decide) (fun c9 => by first | exact absurd c9 (nI_ge (b := 16) hnn (by decide)) | exact absurd (nI_ge (b := 16) hnn (by decide)) c9) (fun _ => ?_)
  refine lv_aload_n hx hb d_As_add_12 rfl (lv_at hl 0 rfl) ?_
  refine va_get (D := (dC, dI)) (ci := 1) (v := .ref rs) (C := "TextForge$Arguments") (T := TX1) (N := 3) hx hb hg iwX1 hown hK hP 0 rfl rfl 0 (by decide) (hg _ kw_56) (fun _ h9 => h9) rfl d_As_add_13 ?_
  refine lv_aload_n hx hb d_As_add_16 rfl (lv_at hl 0 rfl) ?_
  refine va_get (D := (dC, dI)) (ci := 1) (v := .int (nI n)) (C := "TextForge$Arguments") (T := TX1) (N := 3) hx hb hg iwX1 hown hK hP 0 rfl rfl 1 (by decide) (hg _ kw_57) (fun _ h9 => h9) rfl d_As_add_17 ?_
  refine lv_aload_n hx hb d_As_add_20 rfl (lv_at hl 1 rfl) ?_
  refine va_astq hx hb hK hP hD hS 1 0 2 0 rfl rfl rfl rfl (vp_in_nI hnn (by decide)) d_As_add_21 (fun H locs hP hD hS => ?_)
  have hP : va_P (dC, dI) vwCl [(hs, .inr (1, [.ref rs, .int (nI n), .int (nI us)])), (rs, .inl (cR, 16, .inr (.inr (.inr (.inr (va_up fR (nI n).toNatClampNeg (some a))))))), (a, .inr (0, [y0, y1, y2]))] H := hP
  have hD : va_D A [(hs, .inr (1, [.ref rs, .int (nI n), .int (nI us)])), (rs, .inl (cR, 16, .inr (.inr (.inr (.inr (va_up fR (nI n).toNatClampNeg (some a))))))), (a, .inr (0, [y0, y1, y2]))] := hD
  refine lv_aload_n hx hb d_As_add_22 rfl (lv_at hl 0 rfl) ?_
  refine lv_dup hx hb d_As_add_23 rfl ?_
  refine va_get (D := (dC, dI)) (ci := 1) (v := .int (nI n)) (C := "TextForge$Arguments") (T := TX1) (N := 3) hx hb hg iwX1 hown hK hP 0 rfl rfl 1 (by decide) (hg _ kw_57) (fun _ h9 => h9) rfl d_As_add_24 ?_
  refine lv_iconst (v := 1) hx hb d_As_add_27 (by decide) ?_
  refine lv_iadd hx hb d_As_add_28 ?_
  rw [nI_1]
  refine va_put (D := (dC, dI)) (ci := 1) (v := .int (nI (n + 1))) (ty := .int) (C := "TextForge$Arguments") (T := TX1) (N := 3) hx hb hg iwX1 tyX1 tyX1_ok nmX1 hown hK hP hD hS 0 rfl rfl 1 (by decide) (hg _ kw_57) (fun _ h9 => h9) rfl (by decide +kernel) rfl rfl (Nat.le_of_ble_eq_true rfl) d_As_add_29 (fun H locs hP hD hS => ?_)
  have hP : va_P (dC, dI) vwCl [(hs, .inr (1, [.ref rs, .int (nI (n + 1)), .int (nI us)])), (rs, .inl (cR, 16, .inr (.inr (.inr (.inr (va_up fR (nI n).toNatClampNeg (some a))))))), (a, .inr (0, [y0, y1, y2]))] H := hP
  have hD : va_D A [(hs, .inr (1, [.ref rs, .int (nI (n + 1)), .int (nI us)])), (rs, .inl (cR, 16, .inr (.inr (.inr (.inr (va_up fR (nI n).toNatClampNeg (some a))))))), (a, .inr (0, [y0, y1, y2]))] := hD
  refine lv_aload_n hx hb d_As_add_32 rfl (lv_at hl 0 rfl) ?_
  refine va_get (D := (dC, dI)) (ci := 1) (v := .int (nI (n + 1))) (C := "TextForge$Arguments") (T := TX1) (N := 3) hx hb hg iwX1 hown hK hP 0 rfl rfl 1 (by decide) (hg _ kw_57) (fun _ h9 => h9) rfl d_As_add_33 ?_
  have hP9 := hP.sub (ws' := [(hs, .inr (1, [.ref rs, .int (nI (n + 1)), .int (nI us)])), (rs, .inl (cR, 16, .inr (.inr (.inr (.inr (va_up fR (nI n).toNatClampNeg (some a))))))), (a, .inr (0, [y0, y1, y2]))]) [0, 1, 2] rfl
  have hD9 := hD.sub (ws' := [(hs, .inr (1, [.ref rs, .int (nI (n + 1)), .int (nI us)])), (rs, .inl (cR, 16, .inr (.inr (.inr (.inr (va_up fR (nI n).toNatClampNeg (some a))))))), (a, .inr (0, [y0, y1, y2]))]) [0, 1, 2] (by decide) rfl
  have hK9 := hK.sub (tys' := [(cR, .object "TextForge$Argument")]) [0] rfl
  rw [nI_clamp (show n < 2 ^ 31 by omega)] at hP9 hD9
  exact zz_iret hx hb hr hlocks d_As_add_36 hS (by first | exact Nat.le_refl _ | decide | omega | (dsimp only; omega)) (by first | exact Nat.le_refl _ | decide | omega | (dsimp only; omega)) () rfl hP9 hK9 hD9
