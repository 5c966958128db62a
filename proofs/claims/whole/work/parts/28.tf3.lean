/-! TEXTFORGE: arguments, codes, bytes of the result, encode, quote, decode -/
def nm_k (sg : Int32) : Nat := if sg = 0 then 1 else 0
def nm_t (sg : Int32) : Int64 := if sg = 0 then 0 else 1
theorem nm_k1 {sg : Int32} (h : sg = 0) : nm_k sg = 1 := if_pos h
theorem nm_k0 {sg : Int32} (h : ¬ sg = 0) : nm_k sg = 0 := if_neg h
theorem nm_t0 {sg : Int32} (h : sg = 0) : nm_t sg = 0 := if_pos h
theorem nm_t1 {sg : Int32} (h : ¬ sg = 0) : nm_t sg = 1 := if_neg h
theorem ag_push (cB : ClassId) {AL : List Ag} {g : Ag} {X ck : va_W} {D : va_G} {cl : List vw_C} {H : Heap} {A : Nat → Prop} (hc : ag_c cB g = ck) (hP : va_P D cl ((X ++ ck) ++ ag_W cB AL) H) (hD : va_D A ((X ++ ck) ++ ag_W cB AL)) : va_P D cl (X ++ ag_W cB (AL ++ [g])) H ∧ va_D A (X ++ ag_W cB (AL ++ [g])) := by
  have e : ag_W cB (AL ++ [g]) = ag_W cB AL ++ ck := by unfold ag_W; rw [List.flatMap_append, List.flatMap_cons, List.flatMap_nil, List.append_nil, hc]
  rw [e, ← List.append_assoc]
  exact ⟨hP.swap, hD.swap⟩
theorem kp_e {G M : List Nat} : List.take 4096 (by_ap 4195 (List.take 0 G) M) = List.take 4096 M := by
  unfold by_ap; rw [List.take_zero, List.nil_append, List.take_take]; rfl
theorem ut_cn_le (n : Int) : ut_cn n ≤ 1114111 := by
  unfold ut_cn
  by_cases h : ut_ok n = true
  · rw [if_pos h]; have := of_decide_eq_true h; omega
  · rw [if_neg h]; decide
abbrev y_Tf_number : MethodName := ⟨"TextForge", "number", "(JZ)I"⟩
abbrev w_Tf_number : List Cond := Cond.code y_Tf_number prog_1_method_4_code 4 (some .int) :: gw
theorem d_Tf_number_0 : decode prog_1_method_4_code 0 = .ok (.aload_n 0, 1) := by decide +kernel
theorem d_Tf_number_1 : decode prog_1_method_4_code 1 = .ok (.invokevirtual 63, 3) := by decide +kernel
theorem d_Tf_number_4 : decode prog_1_method_4_code 4 = .ok (.aload_n 0, 1) := by decide +kernel
theorem d_Tf_number_5 : decode prog_1_method_4_code 5 = .ok (.getfield 24, 3) := by decide +kernel
theorem d_Tf_number_8 : decode prog_1_method_4_code 8 = .ok (.new 66, 3) := by decide +kernel
theorem d_Tf_number_11 : decode prog_1_method_4_code 11 = .ok (.dup, 1) := by decide +kernel
theorem d_Tf_number_12 : decode prog_1_method_4_code 12 = .ok (.iload_n 3, 1) := by decide +kernel
theorem d_Tf_number_13 : decode prog_1_method_4_code 13 = .ok (.ifCond .eq 7, 3) := by decide +kernel
theorem d_Tf_number_16 : decode prog_1_method_4_code 16 = .ok (.iconst 0, 1) := by decide +kernel
theorem d_Tf_number_17 : decode prog_1_method_4_code 17 = .ok (.goto 4, 3) := by decide +kernel
theorem d_Tf_number_20 : decode prog_1_method_4_code 20 = .ok (.iconst 1, 1) := by decide +kernel
theorem d_Tf_number_21 : decode prog_1_method_4_code 21 = .ok (.lload_n 1, 1) := by decide +kernel
theorem d_Tf_number_22 : decode prog_1_method_4_code 22 = .ok (.aconst_null, 1) := by decide +kernel
theorem d_Tf_number_23 : decode prog_1_method_4_code 23 = .ok (.invokespecial 68, 3) := by decide +kernel
theorem d_Tf_number_26 : decode prog_1_method_4_code 26 = .ok (.invokevirtual 71, 3) := by decide +kernel
theorem d_Tf_number_29 : decode prog_1_method_4_code 29 = .ok (.ireturn, 1) := by decide +kernel
set_option maxHeartbeats 4000000 in
set_option maxRecDepth 100000 in
theorem c_Tf_number (l : Launch) (dC : Nat → ClassId) (dI : Nat → Nat → Nat) (tf hf hq hs hd hp hc : Nat) (ln : Int64) (rs : Nat) (cR : ClassId) (fR : Nat → Option Nat) (us : Nat) (cB : ClassId) (AL : List Ag) (v : Int64) (sg : Int32) (hnn : AL.length < 16) (hus : us < 1000000) : zM_i (S := Nat) l y_Tf_number w_Tf_number { frames := 2, cells := 1, slots := 3, locals := 40 } (dC, dI) vwCl [.ref tf, .long v, .int sg] ([(tf, .inr (7, [.ref hf, .ref hq, .ref hs, .ref hd, .ref hp, .ref hc, .long ln])), (hs, .inr (1, [.ref rs, .int (nI AL.length), .int (nI us)])), (rs, .inl (cR, 16, .inr (.inr (.inr (.inr fR)))))] ++ (ag_W cB AL)) [(cR, .object "TextForge$Argument")] (fun (r : Int32) (u : Nat) => r = nI (AL.length + 1)) (fun u => ([(tf, .inr (7, [.ref hf, .ref hq, .ref hs, .ref hd, .ref hp, .ref hc, .long ln])), (hs, .inr (1, [.ref rs, .int (nI (AL.length + 1)), .int (nI us)])), (rs, .inl (cR, 16, .inr (.inr (.inr (.inr (va_up fR AL.length (some u)))))))] ++ (ag_W cB (AL ++ [(u, nm_k sg, v, 0, 0, (fun _ => 0), [])])))) (fun u => [(cR, .object "TextForge$Argument")]) 1 3 := by
  refine zz_enteri (cc := prog_1_method_4_code) (nL := 4) (ret := (some .int)) (by decide) rfl (Nat.le_of_ble_eq_true rfl) ?_
  intro p e s m below meth c A ls C0 hA hS hP hK hD hl
  obtain ⟨hx, hb, hml, hown, hg, hr, hlocks, hin⟩ := C0
  have hown : s.vm.findClass "TextForge" = some m.cls := hown
  have hP : va_P (dC, dI) vwCl ([(tf, .inr (7, [.ref hf, .ref hq, .ref hs, .ref hd, .ref hp, .ref hc, .long ln])), (hs, .inr (1, [.ref rs, .int (nI AL.length), .int (nI us)])), (rs, .inl (cR, 16, .inr (.inr (.inr (.inr fR)))))] ++ (ag_W cB AL)) s.heap := hP
  have hK : va_K (dC, dI) vwCl [(cR, .object "TextForge$Argument")] s := hK
  have hD : va_D A ([(tf, .inr (7, [.ref hf, .ref hq, .ref hs, .ref hd, .ref hp, .ref hc, .long ln])), (hs, .inr (1, [.ref rs, .int (nI AL.length), .int (nI us)])), (rs, .inl (cR, 16, .inr (.inr (.inr (.inr fR)))))] ++ (ag_W cB AL)) := hD
  have hl : lv_has ls 4 [(0, .ref tf), (1, .long v), (3, .int sg)] := hl
  refine lv_aload_n hx hb d_Tf_number_0 rfl (lv_at hl 0 rfl) ?_
  have hPc := hP.sub (ws' := [(tf, .inr (7, [.ref hf, .ref hq, .ref hs, .ref hd, .ref hp, .ref hc, .long ln])), (hs, .inr (1, [.ref rs, .int (nI AL.length), .int (nI us)])), (rs, .inl (cR, 16, .inr (.inr (.inr (.inr fR)))))]) [0, 1, 2] rfl
  have hKc := hK.sub (tys' := [(cR, .object "TextForge$Argument")]) [0] rfl
  refine va_csv (W.runV (As := []) (rest := []) ⟨hx, hb, hml, hown, hg⟩ (c_Tf_requireRoomForArgument l dC dI tf hf hq hs hd hp hc ln rs cR fR AL.length us hnn hus) (cwV 0 hg (gi_V kw_520 kw_522 sw_7 kw_1 kw_523) rfl rfl rfl (by decide +kernel) ⟨Nat.le_of_ble_eq_true rfl, Nat.le_of_ble_eq_true rfl⟩) (zz_prJV hPc hKc _ (q0 := 0) (ci := 7) rfl rfl) rfl rfl hl.1 rfl (lv_room (Nat.le_of_ble_eq_true rfl)) d_Tf_number_1 ⟨Nat.le_of_ble_eq_true rfl, Nat.le_of_ble_eq_true rfl⟩) (fun hr_1 => ?_)
  refine lv_aload_n hx hb d_Tf_number_4 rfl (lv_at hl 0 rfl) ?_
  refine va_get (D := (dC, dI)) (ci := 7) (v := .ref hs) (C := "TextForge") (T := TX7) (N := 7) hx hb hg iwX7 hown hK hP 0 rfl rfl 2 (by decide) (hg _ kw_133) (fun _ h9 => h9) rfl d_Tf_number_5 ?_
  refine va_new (ci := 0) (fs := [.int 0, .long 0, .null]) (C := "TextForge$Argument") (T := TX0) (N := 3) hx hb hg iwX0 tyX0 tyX0_ok hown (hg _ kw_595) (hg _ kw_596) (hg _ kw_14) hK hP hD hS hA rfl (fun j hj => by rcases (show j = 0 ∨ j = 1 ∨ j = 2 by omega) with rfl | rfl | rfl <;> rfl) (by first | exact Nat.le_refl _ | decide | omega | (dsimp only; omega)) (by first | exact Nat.le_refl _ | decide | omega | (dsimp only; omega)) d_Tf_number_8 (fun q_2 H hP hD hS => ?_)
  have hP := hP.swap
  have hD := hD.swap
  have hP : va_P (dC, dI) vwCl ([(tf, .inr (7, [.ref hf, .ref hq, .ref hs, .ref hd, .ref hp, .ref hc, .long ln])), (hs, .inr (1, [.ref rs, .int (nI AL.length), .int (nI us)])), (rs, .inl (cR, 16, .inr (.inr (.inr (.inr fR))))), (q_2, .inr (0, [.int 0, .long 0, .null]))] ++ (ag_W cB AL)) H := hP
  have hD : va_D A ([(tf, .inr (7, [.ref hf, .ref hq, .ref hs, .ref hd, .ref hp, .ref hc, .long ln])), (hs, .inr (1, [.ref rs, .int (nI AL.length), .int (nI us)])), (rs, .inl (cR, 16, .inr (.inr (.inr (.inr fR))))), (q_2, .inr (0, [.int 0, .long 0, .null]))] ++ (ag_W cB AL)) := hD
  refine lv_dup hx hb d_Tf_number_11 rfl ?_
  refine lv_iload_n hx hb d_Tf_number_12 rfl (lv_at hl 2 rfl) ?_
  refine lv_if_eq (tgt := 20) hx hb d_Tf_number_13 (by decide) (fun c_13 => ?_) (fun c_13 => ?_)
  · skip
    refine lv_iconst (v := 1) hx hb d_Tf_number_20 (by decide) ?_
    refine lv_lload_n hx hb d_Tf_number_21 rfl (lv_at hl 1 rfl) ?_
    refine lv_null hx hb d_Tf_number_22 ?_
    have hPc := hP.sub (ws' := [(q_2, .inr (0, [.int 0, .long 0, .null]))]) [3] rfl
    have hKc := hK.sub (tys' := []) [] rfl
    have hDc := hD.sub (ws' := [(q_2, .inr (0, [.int 0, .long 0, .null]))]) [3] (by decide) rfl
    have hFc := va_free (wc := [(q_2, .inr (0, [.int 0, .long 0, .null]))]) hD hS hA [3] rfl
    refine zz_callv (va_runI (As := [.int 1, .long v, .null]) (rest := [.ref q_2, .ref hs]) ⟨hx, hb, hml, hown, hg⟩ (c_Ar_init0 l dC dI q_2 (.int 0) (.long 0) .null 1 v  H.size) (cwI 3 hg (gi_0 kw_599) rfl rfl rfl (hg _ kw_14) (hg _ kw_597) (hg _ kw_598) rfl (by decide +kernel) ⟨Nat.le_of_ble_eq_true rfl, Nat.le_of_ble_eq_true rfl⟩) (zz_preS hPc hKc hDc _) rfl rfl hl.1 rfl (lv_room (Nat.le_of_ble_eq_true rfl)) d_Tf_number_23 ⟨Nat.le_of_ble_eq_true rfl, Nat.le_of_ble_eq_true rfl⟩) hS hFc (fun u H1 k9 p9 d9 => va_joinQ (wr := [(tf, .inr (7, [.ref hf, .ref hq, .ref hs, .ref hd, .ref hp, .ref hc, .long ln])), (hs, .inr (1, [.ref rs, .int (nI AL.length), .int (nI us)])), (rs, .inl (cR, 16, .inr (.inr (.inr (.inr fR)))))]) hP hD [3] [0, 1, 2] rfl rfl (by decide) (by decide) k9 hFc p9 d9) (fun u H locs hw hP hD hK1 hS => ?_)
    obtain ⟨u_3, rfl⟩ : ∃ z, z = u := ⟨_, rfl⟩
    try dsimp only at hw
    have hP : va_P (dC, dI) vwCl ([(tf, .inr (7, [.ref hf, .ref hq, .ref hs, .ref hd, .ref hp, .ref hc, .long ln])), (hs, .inr (1, [.ref rs, .int (nI AL.length), .int (nI us)])), (rs, .inl (cR, 16, .inr (.inr (.inr (.inr fR))))), (q_2, .inr (0, [.int 1, .long v, .null]))] ++ (ag_W cB AL)) H := hP
    have hD : va_D A ([(tf, .inr (7, [.ref hf, .ref hq, .ref hs, .ref hd, .ref hp, .ref hc, .long ln])), (hs, .inr (1, [.ref rs, .int (nI AL.length), .int (nI us)])), (rs, .inl (cR, 16, .inr (.inr (.inr (.inr fR))))), (q_2, .inr (0, [.int 1, .long v, .null]))] ++ (ag_W cB AL)) := hD
    have hPc := hP.sub (ws' := [(hs, .inr (1, [.ref rs, .int (nI AL.length), .int (nI us)])), (rs, .inl (cR, 16, .inr (.inr (.inr (.inr fR))))), (q_2, .inr (0, [.int 1, .long v, .null]))]) [1, 2, 3] rfl
    have hKc := hK.sub (tys' := [(cR, .object "TextForge$Argument")]) [0] rfl
    have hDc := hD.sub (ws' := [(hs, .inr (1, [.ref rs, .int (nI AL.length), .int (nI us)])), (rs, .inl (cR, 16, .inr (.inr (.inr (.inr fR))))), (q_2, .inr (0, [.int 1, .long v, .null]))]) [1, 2, 3] (by decide) rfl
    have hFc := va_free (wc := [(hs, .inr (1, [.ref rs, .int (nI AL.length), .int (nI us)])), (rs, .inl (cR, 16, .inr (.inr (.inr (.inr fR))))), (q_2, .inr (0, [.int 1, .long v, .null]))]) hD hS hA [1, 2, 3] rfl
    refine zz_calli (va_runV (As := [.ref q_2]) (rest := []) ⟨hx, hb, hml, hown, hg⟩ (c_As_add l dC dI hs rs cR fR AL.length us q_2 (.int 1) (.long v) .null hnn H.size) (cwV 1 hg (gi_V kw_611 kw_612 kw_613 kw_4 kw_614) rfl rfl rfl (by decide +kernel) ⟨Nat.le_of_ble_eq_true rfl, Nat.le_of_ble_eq_true rfl⟩) (zz_preV hPc hKc hDc _ (q0 := 0) (ci := 1) rfl rfl) rfl rfl hl.1 rfl (lv_room (Nat.le_of_ble_eq_true rfl)) d_Tf_number_26 ⟨Nat.le_of_ble_eq_true rfl, Nat.le_of_ble_eq_true rfl⟩) hS hFc (fun u H1 k9 p9 d9 => va_joinQ (wr := [(tf, .inr (7, [.ref hf, .ref hq, .ref hs, .ref hd, .ref hp, .ref hc, .long ln]))]) hP hD [1, 2, 3] [0] rfl rfl (by decide) (by decide) k9 hFc p9 d9) (fun r_6 u H locs hw hP hD hK1 hS => ?_)
    obtain ⟨u_5, rfl⟩ : ∃ z, z = u := ⟨_, rfl⟩
    try dsimp only at hw
    have hP : va_P (dC, dI) vwCl ([(tf, .inr (7, [.ref hf, .ref hq, .ref hs, .ref hd, .ref hp, .ref hc, .long ln])), (hs, .inr (1, [.ref rs, .int (nI (AL.length + 1)), .int (nI us)])), (rs, .inl (cR, 16, .inr (.inr (.inr (.inr (va_up fR AL.length (some q_2))))))), (q_2, .inr (0, [.int 1, .long v, .null]))] ++ (ag_W cB AL)) H := hP
    have hD : va_D A ([(tf, .inr (7, [.ref hf, .ref hq, .ref hs, .ref hd, .ref hp, .ref hc, .long ln])), (hs, .inr (1, [.ref rs, .int (nI (AL.length + 1)), .int (nI us)])), (rs, .inl (cR, 16, .inr (.inr (.inr (.inr (va_up fR AL.length (some q_2))))))), (q_2, .inr (0, [.int 1, .long v, .null]))] ++ (ag_W cB AL)) := hD
    have hrr := hw
    have hP9 := hP.part (cx := [(tf, .inr (7, [.ref hf, .ref hq, .ref hs, .ref hd, .ref hp, .ref hc, .long ln])), (hs, .inr (1, [.ref rs, .int (nI (AL.length + 1)), .int (nI us)])), (rs, .inl (cR, 16, .inr (.inr (.inr (.inr (va_up fR AL.length (some q_2))))))), (q_2, .inr (0, [.int 1, .long v, .null]))]) [0, 1, 2, 3] rfl
    have hD9 := hD.part (cx := [(tf, .inr (7, [.ref hf, .ref hq, .ref hs, .ref hd, .ref hp, .ref hc, .long ln])), (hs, .inr (1, [.ref rs, .int (nI (AL.length + 1)), .int (nI us)])), (rs, .inl (cR, 16, .inr (.inr (.inr (.inr (va_up fR AL.length (some q_2))))))), (q_2, .inr (0, [.int 1, .long v, .null]))]) [0, 1, 2, 3] (by decide) rfl
    obtain ⟨hP9, hD9⟩ := ag_push cB (AL := AL) (g := (q_2, nm_k sg, v, 0, 0, (fun _ => 0), [])) (X := [(tf, .inr (7, [.ref hf, .ref hq, .ref hs, .ref hd, .ref hp, .ref hc, .long ln])), (hs, .inr (1, [.ref rs, .int (nI (AL.length + 1)), .int (nI us)])), (rs, .inl (cR, 16, .inr (.inr (.inr (.inr (va_up fR AL.length (some q_2)))))))]) (ck := [(q_2, .inr (0, [.int 1, .long v, .null]))]) (by rw [nm_k1 c_13]; rfl) hP9 hD9
    have hK9 := hK.sub (tys' := [(cR, .object "TextForge$Argument")]) [0] rfl
    exact zz_iret hx hb hr hlocks d_Tf_number_29 hS (by first | exact Nat.le_refl _ | decide | omega | (dsimp only; omega)) (by first | exact Nat.le_refl _ | decide | omega | (dsimp only; omega)) q_2 hrr hP9 hK9 hD9
  · skip
    refine lv_iconst (v := 0) hx hb d_Tf_number_16 (by decide) ?_
    refine lv_goto (tgt := 21) hx hb d_Tf_number_17 (by decide) ?_
    refine lv_lload_n hx hb d_Tf_number_21 rfl (lv_at hl 1 rfl) ?_
    refine lv_null hx hb d_Tf_number_22 ?_
    have hPc := hP.sub (ws' := [(q_2, .inr (0, [.int 0, .long 0, .null]))]) [3] rfl
    have hKc := hK.sub (tys' := []) [] rfl
    have hDc := hD.sub (ws' := [(q_2, .inr (0, [.int 0, .long 0, .null]))]) [3] (by decide) rfl
    have hFc := va_free (wc := [(q_2, .inr (0, [.int 0, .long 0, .null]))]) hD hS hA [3] rfl
    refine zz_callv (va_runI (As := [.int 0, .long v, .null]) (rest := [.ref q_2, .ref hs]) ⟨hx, hb, hml, hown, hg⟩ (c_Ar_init0 l dC dI q_2 (.int 0) (.long 0) .null 0 v  H.size) (cwI 3 hg (gi_0 kw_599) rfl rfl rfl (hg _ kw_14) (hg _ kw_597) (hg _ kw_598) rfl (by decide +kernel) ⟨Nat.le_of_ble_eq_true rfl, Nat.le_of_ble_eq_true rfl⟩) (zz_preS hPc hKc hDc _) rfl rfl hl.1 rfl (lv_room (Nat.le_of_ble_eq_true rfl)) d_Tf_number_23 ⟨Nat.le_of_ble_eq_true rfl, Nat.le_of_ble_eq_true rfl⟩) hS hFc (fun u H1 k9 p9 d9 => va_joinQ (wr := [(tf, .inr (7, [.ref hf, .ref hq, .ref hs, .ref hd, .ref hp, .ref hc, .long ln])), (hs, .inr (1, [.ref rs, .int (nI AL.length), .int (nI us)])), (rs, .inl (cR, 16, .inr (.inr (.inr (.inr fR)))))]) hP hD [3] [0, 1, 2] rfl rfl (by decide) (by decide) k9 hFc p9 d9) (fun u H locs hw hP hD hK1 hS => ?_)
    obtain ⟨u_7, rfl⟩ : ∃ z, z = u := ⟨_, rfl⟩
    try dsimp only at hw
    have hP : va_P (dC, dI) vwCl ([(tf, .inr (7, [.ref hf, .ref hq, .ref hs, .ref hd, .ref hp, .ref hc, .long ln])), (hs, .inr (1, [.ref rs, .int (nI AL.length), .int (nI us)])), (rs, .inl (cR, 16, .inr (.inr (.inr (.inr fR))))), (q_2, .inr (0, [.int 0, .long v, .null]))] ++ (ag_W cB AL)) H := hP
    have hD : va_D A ([(tf, .inr (7, [.ref hf, .ref hq, .ref hs, .ref hd, .ref hp, .ref hc, .long ln])), (hs, .inr (1, [.ref rs, .int (nI AL.length), .int (nI us)])), (rs, .inl (cR, 16, .inr (.inr (.inr (.inr fR))))), (q_2, .inr (0, [.int 0, .long v, .null]))] ++ (ag_W cB AL)) := hD
    have hPc := hP.sub (ws' := [(hs, .inr (1, [.ref rs, .int (nI AL.length), .int (nI us)])), (rs, .inl (cR, 16, .inr (.inr (.inr (.inr fR))))), (q_2, .inr (0, [.int 0, .long v, .null]))]) [1, 2, 3] rfl
    have hKc := hK.sub (tys' := [(cR, .object "TextForge$Argument")]) [0] rfl
    have hDc := hD.sub (ws' := [(hs, .inr (1, [.ref rs, .int (nI AL.length), .int (nI us)])), (rs, .inl (cR, 16, .inr (.inr (.inr (.inr fR))))), (q_2, .inr (0, [.int 0, .long v, .null]))]) [1, 2, 3] (by decide) rfl
    have hFc := va_free (wc := [(hs, .inr (1, [.ref rs, .int (nI AL.length), .int (nI us)])), (rs, .inl (cR, 16, .inr (.inr (.inr (.inr fR))))), (q_2, .inr (0, [.int 0, .long v, .null]))]) hD hS hA [1, 2, 3] rfl
    refine zz_calli (va_runV (As := [.ref q_2]) (rest := []) ⟨hx, hb, hml, hown, hg⟩ (c_As_add l dC dI hs rs cR fR AL.length us q_2 (.int 0) (.long v) .null hnn H.size) (cwV 1 hg (gi_V kw_611 kw_612 kw_613 kw_4 kw_614) rfl rfl rfl (by decide +kernel) ⟨Nat.le_of_ble_eq_true rfl, Nat.le_of_ble_eq_true rfl⟩) (zz_preV hPc hKc hDc _ (q0 := 0) (ci := 1) rfl rfl) rfl rfl hl.1 rfl (lv_room (Nat.le_of_ble_eq_true rfl)) d_Tf_number_26 ⟨Nat.le_of_ble_eq_true rfl, Nat.le_of_ble_eq_true rfl⟩) hS hFc (fun u H1 k9 p9 d9 => va_joinQ (wr := [(tf, .inr (7, [.ref hf, .ref hq, .ref hs, .ref hd, .ref hp, .ref hc, .long ln]))]) hP hD [1, 2, 3] [0] rfl rfl (by decide) (by decide) k9 hFc p9 d9) (fun r_10 u H locs hw hP hD hK1 hS => ?_)
    obtain ⟨u_9, rfl⟩ : ∃ z, z = u := ⟨_, rfl⟩
    try dsimp only at hw
    have hP : va_P (dC, dI) vwCl ([(tf, .inr (7, [.ref hf, .ref hq, .ref hs, .ref hd, .ref hp, .ref hc, .long ln])), (hs, .inr (1, [.ref rs, .int (nI (AL.length + 1)), .int (nI us)])), (rs, .inl (cR, 16, .inr (.inr (.inr (.inr (va_up fR AL.length (some q_2))))))), (q_2, .inr (0, [.int 0, .long v, .null]))] ++ (ag_W cB AL)) H := hP
    have hD : va_D A ([(tf, .inr (7, [.ref hf, .ref hq, .ref hs, .ref hd, .ref hp, .ref hc, .long ln])), (hs, .inr (1, [.ref rs, .int (nI (AL.length + 1)), .int (nI us)])), (rs, .inl (cR, 16, .inr (.inr (.inr (.inr (va_up fR AL.length (some q_2))))))), (q_2, .inr (0, [.int 0, .long v, .null]))] ++ (ag_W cB AL)) := hD
    have hrr := hw
    have hP9 := hP.part (cx := [(tf, .inr (7, [.ref hf, .ref hq, .ref hs, .ref hd, .ref hp, .ref hc, .long ln])), (hs, .inr (1, [.ref rs, .int (nI (AL.length + 1)), .int (nI us)])), (rs, .inl (cR, 16, .inr (.inr (.inr (.inr (va_up fR AL.length (some q_2))))))), (q_2, .inr (0, [.int 0, .long v, .null]))]) [0, 1, 2, 3] rfl
    have hD9 := hD.part (cx := [(tf, .inr (7, [.ref hf, .ref hq, .ref hs, .ref hd, .ref hp, .ref hc, .long ln])), (hs, .inr (1, [.ref rs, .int (nI (AL.length + 1)), .int (nI us)])), (rs, .inl (cR, 16, .inr (.inr (.inr (.inr (va_up fR AL.length (some q_2))))))), (q_2, .inr (0, [.int 0, .long v, .null]))]) [0, 1, 2, 3] (by decide) rfl
    obtain ⟨hP9, hD9⟩ := ag_push cB (AL := AL) (g := (q_2, nm_k sg, v, 0, 0, (fun _ => 0), [])) (X := [(tf, .inr (7, [.ref hf, .ref hq, .ref hs, .ref hd, .ref hp, .ref hc, .long ln])), (hs, .inr (1, [.ref rs, .int (nI (AL.length + 1)), .int (nI us)])), (rs, .inl (cR, 16, .inr (.inr (.inr (.inr (va_up fR AL.length (some q_2)))))))]) (ck := [(q_2, .inr (0, [.int 0, .long v, .null]))]) (by rw [nm_k0 c_13]; rfl) hP9 hD9
    have hK9 := hK.sub (tys' := [(cR, .object "TextForge$Argument")]) [0] rfl
    exact zz_iret hx hb hr hlocks d_Tf_number_29 hS (by first | exact Nat.le_refl _ | decide | omega | (dsimp only; omega)) (by first | exact Nat.le_refl _ | decide | omega | (dsimp only; omega)) q_2 hrr hP9 hK9 hD9
set_option maxHeartbeats 4000000 in
set_option maxRecDepth 100000 in
theorem c_Tf_numberT (l : Launch) (dC : Nat → ClassId) (dI : Nat → Nat → Nat) (ad : Nat → Nat) (tf hf hq hs hd hp hc : Nat) (ln : Int64) (rs : Nat) (cR : ClassId) (fR : Nat → Option Nat) (n us : Nat) (v : Int64) (sg : Int32) (hnt : l.flags = pinnedFlags ++ [noTraceFlag]) (hnn : n = 16) (hus : us < 1000000) : yT ad l y_Tf_number w_Tf_number { frames := 7, cells := 1, slots := 6, locals := 102 } (dC, dI) vwCl [.ref tf, .long v, .int sg] [(tf, .inr (7, [.ref hf, .ref hq, .ref hs, .ref hd, .ref hp, .ref hc, .long ln])), (hs, .inr (1, [.ref rs, .int (nI n), .int (nI us)])), (rs, .inl (cR, 16, .inr (.inr (.inr (.inr fR)))))] [(cR, .object "TextForge$Argument")] "java/lang/IllegalStateException" := by
  refine zy_enterT (cc := prog_1_method_4_code) (nL := 4) (ret := (some .int)) (by decide) rfl (Nat.le_of_ble_eq_true rfl) ?_
  intro p e s m below meth c ls C0 hexc hP hK hl hX
  obtain ⟨hx, hb, hml, hown, hg, hr, hlocks, hin⟩ := C0
  have hS : va_S (fun _ => False) s.heap s.heap [] := va_S.rf
  have hown : s.vm.findClass "TextForge" = some m.cls := hown
  have hP : va_P (dC, dI) vwCl [(tf, .inr (7, [.ref hf, .ref hq, .ref hs, .ref hd, .ref hp, .ref hc, .long ln])), (hs, .inr (1, [.ref rs, .int (nI n), .int (nI us)])), (rs, .inl (cR, 16, .inr (.inr (.inr (.inr fR)))))] s.heap := hP
  have hK : va_K (dC, dI) vwCl [(cR, .object "TextForge$Argument")] s := hK
  have hl : lv_has ls 4 [(0, .ref tf), (1, .long v), (3, .int sg)] := hl
  refine lv_aload_n hx hb d_Tf_number_0 rfl (lv_at hl 0 rfl) ?_
  have hPc := hP.sub (ws' := [(tf, .inr (7, [.ref hf, .ref hq, .ref hs, .ref hd, .ref hp, .ref hc, .long ln])), (hs, .inr (1, [.ref rs, .int (nI n), .int (nI us)])), (rs, .inl (cR, 16, .inr (.inr (.inr (.inr fR)))))]) [0, 1, 2] rfl
  have hKc := hK.sub (tys' := [(cR, .object "TextForge$Argument")]) [0] rfl
  exact tx_prop (As := []) (rest := []) ⟨hx, hb, hml, hown, hg⟩ (c_Tf_reqT l dC dI ad tf hf hq hs hd hp hc ln rs cR fR n us hnt hnn hus) (cwV 0 hg (gi_V kw_520 kw_522 sw_7 kw_1 kw_523) rfl rfl rfl (by decide +kernel) ⟨Nat.le_of_ble_eq_true rfl, Nat.le_of_ble_eq_true rfl⟩) (zy_prJV hX hS hPc hKc _ (q0 := 0) (ci := 7) rfl rfl) rfl hl.1 rfl (Nat.le_of_ble_eq_true rfl) d_Tf_number_1 ⟨(Nat.le_of_ble_eq_true rfl), (Nat.le_of_ble_eq_true rfl)⟩ hexc hlocks
abbrev y_Tf_truth : MethodName := ⟨"TextForge", "truth", "(Z)I"⟩
abbrev w_Tf_truth : List Cond := Cond.code y_Tf_truth prog_1_method_5_code 2 (some .int) :: gw
theorem d_Tf_truth_0 : decode prog_1_method_5_code 0 = .ok (.aload_n 0, 1) := by decide +kernel
theorem d_Tf_truth_1 : decode prog_1_method_5_code 1 = .ok (.invokevirtual 63, 3) := by decide +kernel
theorem d_Tf_truth_4 : decode prog_1_method_5_code 4 = .ok (.aload_n 0, 1) := by decide +kernel
theorem d_Tf_truth_5 : decode prog_1_method_5_code 5 = .ok (.getfield 24, 3) := by decide +kernel
theorem d_Tf_truth_8 : decode prog_1_method_5_code 8 = .ok (.new 66, 3) := by decide +kernel
theorem d_Tf_truth_11 : decode prog_1_method_5_code 11 = .ok (.dup, 1) := by decide +kernel
theorem d_Tf_truth_12 : decode prog_1_method_5_code 12 = .ok (.iconst 2, 1) := by decide +kernel
theorem d_Tf_truth_13 : decode prog_1_method_5_code 13 = .ok (.iload_n 1, 1) := by decide +kernel
theorem d_Tf_truth_14 : decode prog_1_method_5_code 14 = .ok (.ifCond .eq 7, 3) := by decide +kernel
theorem d_Tf_truth_17 : decode prog_1_method_5_code 17 = .ok (.lconst 1, 1) := by decide +kernel
theorem d_Tf_truth_18 : decode prog_1_method_5_code 18 = .ok (.goto 4, 3) := by decide +kernel
theorem d_Tf_truth_21 : decode prog_1_method_5_code 21 = .ok (.lconst 0, 1) := by decide +kernel
theorem d_Tf_truth_22 : decode prog_1_method_5_code 22 = .ok (.aconst_null, 1) := by decide +kernel
theorem d_Tf_truth_23 : decode prog_1_method_5_code 23 = .ok (.invokespecial 68, 3) := by decide +kernel
theorem d_Tf_truth_26 : decode prog_1_method_5_code 26 = .ok (.invokevirtual 71, 3) := by decide +kernel
theorem d_Tf_truth_29 : decode prog_1_method_5_code 29 = .ok (.ireturn, 1) := by decide +kernel
set_option maxHeartbeats 4000000 in
set_option maxRecDepth 100000 in
theorem c_Tf_truth (l : Launch) (dC : Nat → ClassId) (dI : Nat → Nat → Nat) (tf hf hq hs hd hp hc : Nat) (ln : Int64) (rs : Nat) (cR : ClassId) (fR : Nat → Option Nat) (us : Nat) (cB : ClassId) (AL : List Ag) (sg : Int32) (hnn : AL.length < 16) (hus : us < 1000000) : zM_i (S := Nat) l y_Tf_truth w_Tf_truth { frames := 2, cells := 1, slots := 3, locals := 40 } (dC, dI) vwCl [.ref tf, .int sg] ([(tf, .inr (7, [.ref hf, .ref hq, .ref hs, .ref hd, .ref hp, .ref hc, .long ln])), (hs, .inr (1, [.ref rs, .int (nI AL.length), .int (nI us)])), (rs, .inl (cR, 16, .inr (.inr (.inr (.inr fR)))))] ++ (ag_W cB AL)) [(cR, .object "TextForge$Argument")] (fun (r : Int32) (u : Nat) => r = nI (AL.length + 1)) (fun u => ([(tf, .inr (7, [.ref hf, .ref hq, .ref hs, .ref hd, .ref hp, .ref hc, .long ln])), (hs, .inr (1, [.ref rs, .int (nI (AL.length + 1)), .int (nI us)])), (rs, .inl (cR, 16, .inr (.inr (.inr (.inr (va_up fR AL.length (some u)))))))] ++ (ag_W cB (AL ++ [(u, 2, nm_t sg, 0, 0, (fun _ => 0), [])])))) (fun u => [(cR, .object "TextForge$Argument")]) 1 3 := by
  refine zz_enteri (cc := prog_1_method_5_code) (nL := 2) (ret := (some .int)) (by decide) rfl (Nat.le_of_ble_eq_true rfl) ?_
  intro p e s m below meth c A ls C0 hA hS hP hK hD hl
  obtain ⟨hx, hb, hml, hown, hg, hr, hlocks, hin⟩ := C0
  have hown : s.vm.findClass "TextForge" = some m.cls := hown
  have hP : va_P (dC, dI) vwCl ([(tf, .inr (7, [.ref hf, .ref hq, .ref hs, .ref hd, .ref hp, .ref hc, .long ln])), (hs, .inr (1, [.ref rs, .int (nI AL.length), .int (nI us)])), (rs, .inl (cR, 16, .inr (.inr (.inr (.inr fR)))))] ++ (ag_W cB AL)) s.heap := hP
  have hK : va_K (dC, dI) vwCl [(cR, .object "TextForge$Argument")] s := hK
  have hD : va_D A ([(tf, .inr (7, [.ref hf, .ref hq, .ref hs, .ref hd, .ref hp, .ref hc, .long ln])), (hs, .inr (1, [.ref rs, .int (nI AL.length), .int (nI us)])), (rs, .inl (cR, 16, .inr (.inr (.inr (.inr fR)))))] ++ (ag_W cB AL)) := hD
  have hl : lv_has ls 2 [(0, .ref tf), (1, .int sg)] := hl
  refine lv_aload_n hx hb d_Tf_truth_0 rfl (lv_at hl 0 rfl) ?_
  have hPc := hP.sub (ws' := [(tf, .inr (7, [.ref hf, .ref hq, .ref hs, .ref hd, .ref hp, .ref hc, .long ln])), (hs, .inr (1, [.ref rs, .int (nI AL.length), .int (nI us)])), (rs, .inl (cR, 16, .inr (.inr (.inr (.inr fR)))))]) [0, 1, 2] rfl
  have hKc := hK.sub (tys' := [(cR, .object "TextForge$Argument")]) [0] rfl
  refine va_csv (W.runV (As := []) (rest := []) ⟨hx, hb, hml, hown, hg⟩ (c_Tf_requireRoomForArgument l dC dI tf hf hq hs hd hp hc ln rs cR fR AL.length us hnn hus) (cwV 0 hg (gi_V kw_520 kw_522 sw_7 kw_1 kw_523) rfl rfl rfl (by decide +kernel) ⟨Nat.le_of_ble_eq_true rfl, Nat.le_of_ble_eq_true rfl⟩) (zz_prJV hPc hKc _ (q0 := 0) (ci := 7) rfl rfl) rfl rfl hl.1 rfl (lv_room (Nat.le_of_ble_eq_true rfl)) d_Tf_truth_1 ⟨Nat.le_of_ble_eq_true rfl, Nat.le_of_ble_eq_true rfl⟩) (fun hr_1 => ?_)
  refine lv_aload_n hx hb d_Tf_truth_4 rfl (lv_at hl 0 rfl) ?_
  refine va_get (D := (dC, dI)) (ci := 7) (v := .ref hs) (C := "TextForge") (T := TX7) (N := 7) hx hb hg iwX7 hown hK hP 0 rfl rfl 2 (by decide) (hg _ kw_133) (fun _ h9 => h9) rfl d_Tf_truth_5 ?_
  refine va_new (ci := 0) (fs := [.int 0, .long 0, .null]) (C := "TextForge$Argument") (T := TX0) (N := 3) hx hb hg iwX0 tyX0 tyX0_ok hown (hg _ kw_595) (hg _ kw_596) (hg _ kw_14) hK hP hD hS hA rfl (fun j hj => by rcases (show j = 0 ∨ j = 1 ∨ j = 2 by omega) with rfl | rfl | rfl <;> rfl) (by first | exact Nat.le_refl _ | decide | omega | (dsimp only; omega)) (by first | exact Nat.le_refl _ | decide | omega | (dsimp only; omega)) d_Tf_truth_8 (fun q_2 H hP hD hS => ?_)
  have hP := hP.swap
  have hD := hD.swap
  have hP : va_P (dC, dI) vwCl ([(tf, .inr (7, [.ref hf, .ref hq, .ref hs, .ref hd, .ref hp, .ref hc, .long ln])), (hs, .inr (1, [.ref rs, .int (nI AL.length), .int (nI us)])), (rs, .inl (cR, 16, .inr (.inr (.inr (.inr fR))))), (q_2, .inr (0, [.int 0, .long 0, .null]))] ++ (ag_W cB AL)) H := hP
  have hD : va_D A ([(tf, .inr (7, [.ref hf, .ref hq, .ref hs, .ref hd, .ref hp, .ref hc, .long ln])), (hs, .inr (1, [.ref rs, .int (nI AL.length), .int (nI us)])), (rs, .inl (cR, 16, .inr (.inr (.inr (.inr fR))))), (q_2, .inr (0, [.int 0, .long 0, .null]))] ++ (ag_W cB AL)) := hD
  refine lv_dup hx hb d_Tf_truth_11 rfl ?_
  refine lv_iconst (v := 2) hx hb d_Tf_truth_12 (by decide) ?_
  refine lv_iload_n hx hb d_Tf_truth_13 rfl (lv_at hl 1 rfl) ?_
  refine lv_if_eq (tgt := 21) hx hb d_Tf_truth_14 (by decide) (fun c_14 => ?_) (fun c_14 => ?_)
  · skip
    refine lv_lconst (v := 0) hx hb d_Tf_truth_21 (by decide) ?_
    refine lv_null hx hb d_Tf_truth_22 ?_
    have hPc := hP.sub (ws' := [(q_2, .inr (0, [.int 0, .long 0, .null]))]) [3] rfl
    have hKc := hK.sub (tys' := []) [] rfl
    have hDc := hD.sub (ws' := [(q_2, .inr (0, [.int 0, .long 0, .null]))]) [3] (by decide) rfl
    have hFc := va_free (wc := [(q_2, .inr (0, [.int 0, .long 0, .null]))]) hD hS hA [3] rfl
    refine zz_callv (va_runI (As := [.int 2, .long 0, .null]) (rest := [.ref q_2, .ref hs]) ⟨hx, hb, hml, hown, hg⟩ (c_Ar_init0 l dC dI q_2 (.int 0) (.long 0) .null 2 0  H.size) (cwI 3 hg (gi_0 kw_599) rfl rfl rfl (hg _ kw_14) (hg _ kw_597) (hg _ kw_598) rfl (by decide +kernel) ⟨Nat.le_of_ble_eq_true rfl, Nat.le_of_ble_eq_true rfl⟩) (zz_preS hPc hKc hDc _) rfl rfl hl.1 rfl (lv_room (Nat.le_of_ble_eq_true rfl)) d_Tf_truth_23 ⟨Nat.le_of_ble_eq_true rfl, Nat.le_of_ble_eq_true rfl⟩) hS hFc (fun u H1 k9 p9 d9 => va_joinQ (wr := [(tf, .inr (7, [.ref hf, .ref hq, .ref hs, .ref hd, .ref hp, .ref hc, .long ln])), (hs, .inr (1, [.ref rs, .int (nI AL.length), .int (nI us)])), (rs, .inl (cR, 16, .inr (.inr (.inr (.inr fR)))))]) hP hD [3] [0, 1, 2] rfl rfl (by decide) (by decide) k9 hFc p9 d9) (fun u H locs hw hP hD hK1 hS => ?_)
    obtain ⟨u_3, rfl⟩ : ∃ z, z = u := ⟨_, rfl⟩
    try dsimp only at hw
    have hP : va_P (dC, dI) vwCl ([(tf, .inr (7, [.ref hf, .ref hq, .ref hs, .ref hd, .ref hp, .ref hc, .long ln])), (hs, .inr (1, [.ref rs, .int (nI AL.length), .int (nI us)])), (rs, .inl (cR, 16, .inr (.inr (.inr (.inr fR))))), (q_2, .inr (0, [.int 2, .long 0, .null]))] ++ (ag_W cB AL)) H := hP
    have hD : va_D A ([(tf, .inr (7, [.ref hf, .ref hq, .ref hs, .ref hd, .ref hp, .ref hc, .long ln])), (hs, .inr (1, [.ref rs, .int (nI AL.length), .int (nI us)])), (rs, .inl (cR, 16, .inr (.inr (.inr (.inr fR))))), (q_2, .inr (0, [.int 2, .long 0, .null]))] ++ (ag_W cB AL)) := hD
    have hPc := hP.sub (ws' := [(hs, .inr (1, [.ref rs, .int (nI AL.length), .int (nI us)])), (rs, .inl (cR, 16, .inr (.inr (.inr (.inr fR))))), (q_2, .inr (0, [.int 2, .long 0, .null]))]) [1, 2, 3] rfl
    have hKc := hK.sub (tys' := [(cR, .object "TextForge$Argument")]) [0] rfl
    have hDc := hD.sub (ws' := [(hs, .inr (1, [.ref rs, .int (nI AL.length), .int (nI us)])), (rs, .inl (cR, 16, .inr (.inr (.inr (.inr fR))))), (q_2, .inr (0, [.int 2, .long 0, .null]))]) [1, 2, 3] (by decide) rfl
    have hFc := va_free (wc := [(hs, .inr (1, [.ref rs, .int (nI AL.length), .int (nI us)])), (rs, .inl (cR, 16, .inr (.inr (.inr (.inr fR))))), (q_2, .inr (0, [.int 2, .long 0, .null]))]) hD hS hA [1, 2, 3] rfl
    refine zz_calli (va_runV (As := [.ref q_2]) (rest := []) ⟨hx, hb, hml, hown, hg⟩ (c_As_add l dC dI hs rs cR fR AL.length us q_2 (.int 2) (.long 0) .null hnn H.size) (cwV 1 hg (gi_V kw_611 kw_612 kw_613 kw_4 kw_614) rfl rfl rfl (by decide +kernel) ⟨Nat.le_of_ble_eq_true rfl, Nat.le_of_ble_eq_true rfl⟩) (zz_preV hPc hKc hDc _ (q0 := 0) (ci := 1) rfl rfl) rfl rfl hl.1 rfl (lv_room (Nat.le_of_ble_eq_true rfl)) d_Tf_truth_26 ⟨Nat.le_of_ble_eq_true rfl, Nat.le_of_ble_eq_true rfl⟩) hS hFc (fun u H1 k9 p9 d9 => va_joinQ (wr := [(tf, .inr (7, [.ref hf, .ref hq, .ref hs, .ref hd, .ref hp, .ref hc, .long ln]))]) hP hD [1, 2, 3] [0] rfl rfl (by decide) (by decide) k9 hFc p9 d9) (fun r_6 u H locs hw hP hD hK1 hS => ?_)
    obtain ⟨u_5, rfl⟩ : ∃ z, z = u := ⟨_, rfl⟩
    try dsimp only at hw
    have hP : va_P (dC, dI) vwCl ([(tf, .inr (7, [.ref hf, .ref hq, .ref hs, .ref hd, .ref hp, .ref hc, .long ln])), (hs, .inr (1, [.ref rs, .int (nI (AL.length + 1)), .int (nI us)])), (rs, .inl (cR, 16, .inr (.inr (.inr (.inr (va_up fR AL.length (some q_2))))))), (q_2, .inr (0, [.int 2, .long 0, .null]))] ++ (ag_W cB AL)) H := hP
    have hD : va_D A ([(tf, .inr (7, [.ref hf, .ref hq, .ref hs, .ref hd, .ref hp, .ref hc, .long ln])), (hs, .inr (1, [.ref rs, .int (nI (AL.length + 1)), .int (nI us)])), (rs, .inl (cR, 16, .inr (.inr (.inr (.inr (va_up fR AL.length (some q_2))))))), (q_2, .inr (0, [.int 2, .long 0, .null]))] ++ (ag_W cB AL)) := hD
    have hrr := hw
    have hP9 := hP.part (cx := [(tf, .inr (7, [.ref hf, .ref hq, .ref hs, .ref hd, .ref hp, .ref hc, .long ln])), (hs, .inr (1, [.ref rs, .int (nI (AL.length + 1)), .int (nI us)])), (rs, .inl (cR, 16, .inr (.inr (.inr (.inr (va_up fR AL.length (some q_2))))))), (q_2, .inr (0, [.int 2, .long 0, .null]))]) [0, 1, 2, 3] rfl
    have hD9 := hD.part (cx := [(tf, .inr (7, [.ref hf, .ref hq, .ref hs, .ref hd, .ref hp, .ref hc, .long ln])), (hs, .inr (1, [.ref rs, .int (nI (AL.length + 1)), .int (nI us)])), (rs, .inl (cR, 16, .inr (.inr (.inr (.inr (va_up fR AL.length (some q_2))))))), (q_2, .inr (0, [.int 2, .long 0, .null]))]) [0, 1, 2, 3] (by decide) rfl
    obtain ⟨hP9, hD9⟩ := ag_push cB (AL := AL) (g := (q_2, 2, nm_t sg, 0, 0, (fun _ => 0), [])) (X := [(tf, .inr (7, [.ref hf, .ref hq, .ref hs, .ref hd, .ref hp, .ref hc, .long ln])), (hs, .inr (1, [.ref rs, .int (nI (AL.length + 1)), .int (nI us)])), (rs, .inl (cR, 16, .inr (.inr (.inr (.inr (va_up fR AL.length (some q_2)))))))]) (ck := [(q_2, .inr (0, [.int 2, .long 0, .null]))]) (by rw [nm_t0 c_14]; rfl) hP9 hD9
    have hK9 := hK.sub (tys' := [(cR, .object "TextForge$Argument")]) [0] rfl
    exact zz_iret hx hb hr hlocks d_Tf_truth_29 hS (by first | exact Nat.le_refl _ | decide | omega | (dsimp only; omega)) (by first | exact Nat.le_refl _ | decide | omega | (dsimp only; omega)) q_2 hrr hP9 hK9 hD9
  · skip
    refine lv_lconst (v := 1) hx hb d_Tf_truth_17 (by decide) ?_
    refine lv_goto (tgt := 22) hx hb d_Tf_truth_18 (by decide) ?_
    refine lv_null hx hb d_Tf_truth_22 ?_
    have hPc := hP.sub (ws' := [(q_2, .inr (0, [.int 0, .long 0, .null]))]) [3] rfl
    have hKc := hK.sub (tys' := []) [] rfl
    have hDc := hD.sub (ws' := [(q_2, .inr (0, [.int 0, .long 0, .null]))]) [3] (by decide) rfl
    have hFc := va_free (wc := [(q_2, .inr (0, [.int 0, .long 0, .null]))]) hD hS hA [3] rfl
    refine zz_callv (va_runI (As := [.int 2, .long 1, .null]) (rest := [.ref q_2, .ref hs]) ⟨hx, hb, hml, hown, hg⟩ (c_Ar_init0 l dC dI q_2 (.int 0) (.long 0) .null 2 1  H.size) (cwI 3 hg (gi_0 kw_599) rfl rfl rfl (hg _ kw_14) (hg _ kw_597) (hg _ kw_598) rfl (by decide +kernel) ⟨Nat.le_of_ble_eq_true rfl, Nat.le_of_ble_eq_true rfl⟩) (zz_preS hPc hKc hDc _) rfl rfl hl.1 rfl (lv_room (Nat.le_of_ble_eq_true rfl)) d_Tf_truth_23 ⟨Nat.le_of_ble_eq_true rfl, Nat.le_of_ble_eq_true rfl⟩) hS hFc (fun u H1 k9 p9 d9 => va_joinQ (wr := [(tf, .inr (7, [.ref hf, .ref hq, .ref hs, .ref hd, .ref hp, .ref hc, .long ln])), (hs, .inr (1, [.ref rs, .int (nI AL.length), .int (nI us)])), (rs, .inl (cR, 16, .inr (.inr (.inr (.inr fR)))))]) hP hD [3] [0, 1, 2] rfl rfl (by decide) (by decide) k9 hFc p9 d9) (fun u H locs hw hP hD hK1 hS => ?_)
    obtain ⟨u_7, rfl⟩ : ∃ z, z = u := ⟨_, rfl⟩
    try dsimp only at hw
    have hP : va_P (dC, dI) vwCl ([(tf, .inr (7, [.ref hf, .ref hq, .ref hs, .ref hd, .ref hp, .ref hc, .long ln])), (hs, .inr (1, [.ref rs, .int (nI AL.length), .int (nI us)])), (rs, .inl (cR, 16, .inr (.inr (.inr (.inr fR))))), (q_2, .inr (0, [.int 2, .long 1, .null]))] ++ (ag_W cB AL)) H := hP
    have hD : va_D A ([(tf, .inr (7, [.ref hf, .ref hq, .ref hs, .ref hd, .ref hp, .ref hc, .long ln])), (hs, .inr (1, [.ref rs, .int (nI AL.length), .int (nI us)])), (rs, .inl (cR, 16, .inr (.inr (.inr (.inr fR))))), (q_2, .inr (0, [.int 2, .long 1, .null]))] ++ (ag_W cB AL)) := hD
    have hPc := hP.sub (ws' := [(hs, .inr (1, [.ref rs, .int (nI AL.length), .int (nI us)])), (rs, .inl (cR, 16, .inr (.inr (.inr (.inr fR))))), (q_2, .inr (0, [.int 2, .long 1, .null]))]) [1, 2, 3] rfl
    have hKc := hK.sub (tys' := [(cR, .object "TextForge$Argument")]) [0] rfl
    have hDc := hD.sub (ws' := [(hs, .inr (1, [.ref rs, .int (nI AL.length), .int (nI us)])), (rs, .inl (cR, 16, .inr (.inr (.inr (.inr fR))))), (q_2, .inr (0, [.int 2, .long 1, .null]))]) [1, 2, 3] (by decide) rfl
    have hFc := va_free (wc := [(hs, .inr (1, [.ref rs, .int (nI AL.length), .int (nI us)])), (rs, .inl (cR, 16, .inr (.inr (.inr (.inr fR))))), (q_2, .inr (0, [.int 2, .long 1, .null]))]) hD hS hA [1, 2, 3] rfl
    refine zz_calli (va_runV (As := [.ref q_2]) (rest := []) ⟨hx, hb, hml, hown, hg⟩ (c_As_add l dC dI hs rs cR fR AL.length us q_2 (.int 2) (.long 1) .null hnn H.size) (cwV 1 hg (gi_V kw_611 kw_612 kw_613 kw_4 kw_614) rfl rfl rfl (by decide +kernel) ⟨Nat.le_of_ble_eq_true rfl, Nat.le_of_ble_eq_true rfl⟩) (zz_preV hPc hKc hDc _ (q0 := 0) (ci := 1) rfl rfl) rfl rfl hl.1 rfl (lv_room (Nat.le_of_ble_eq_true rfl)) d_Tf_truth_26 ⟨Nat.le_of_ble_eq_true rfl, Nat.le_of_ble_eq_true rfl⟩) hS hFc (fun u H1 k9 p9 d9 => va_joinQ (wr := [(tf, .inr (7, [.ref hf, .ref hq, .ref hs, .ref hd, .ref hp, .ref hc, .long ln]))]) hP hD [1, 2, 3] [0] rfl rfl (by decide) (by decide) k9 hFc p9 d9) (fun r_10 u H locs hw hP hD hK1 hS => ?_)
    obtain ⟨u_9, rfl⟩ : ∃ z, z = u := ⟨_, rfl⟩
    try dsimp only at hw
    have hP : va_P (dC, dI) vwCl ([(tf, .inr (7, [.ref hf, .ref hq, .ref hs, .ref hd, .ref hp, .ref hc, .long ln])), (hs, .inr (1, [.ref rs, .int (nI (AL.length + 1)), .int (nI us)])), (rs, .inl (cR, 16, .inr (.inr (.inr (.inr (va_up fR AL.length (some q_2))))))), (q_2, .inr (0, [.int 2, .long 1, .null]))] ++ (ag_W cB AL)) H := hP
    have hD : va_D A ([(tf, .inr (7, [.ref hf, .ref hq, .ref hs, .ref hd, .ref hp, .ref hc, .long ln])), (hs, .inr (1, [.ref rs, .int (nI (AL.length + 1)), .int (nI us)])), (rs, .inl (cR, 16, .inr (.inr (.inr (.inr (va_up fR AL.length (some q_2))))))), (q_2, .inr (0, [.int 2, .long 1, .null]))] ++ (ag_W cB AL)) := hD
    have hrr := hw
    have hP9 := hP.part (cx := [(tf, .inr (7, [.ref hf, .ref hq, .ref hs, .ref hd, .ref hp, .ref hc, .long ln])), (hs, .inr (1, [.ref rs, .int (nI (AL.length + 1)), .int (nI us)])), (rs, .inl (cR, 16, .inr (.inr (.inr (.inr (va_up fR AL.length (some q_2))))))), (q_2, .inr (0, [.int 2, .long 1, .null]))]) [0, 1, 2, 3] rfl
    have hD9 := hD.part (cx := [(tf, .inr (7, [.ref hf, .ref hq, .ref hs, .ref hd, .ref hp, .ref hc, .long ln])), (hs, .inr (1, [.ref rs, .int (nI (AL.length + 1)), .int (nI us)])), (rs, .inl (cR, 16, .inr (.inr (.inr (.inr (va_up fR AL.length (some q_2))))))), (q_2, .inr (0, [.int 2, .long 1, .null]))]) [0, 1, 2, 3] (by decide) rfl
    obtain ⟨hP9, hD9⟩ := ag_push cB (AL := AL) (g := (q_2, 2, nm_t sg, 0, 0, (fun _ => 0), [])) (X := [(tf, .inr (7, [.ref hf, .ref hq, .ref hs, .ref hd, .ref hp, .ref hc, .long ln])), (hs, .inr (1, [.ref rs, .int (nI (AL.length + 1)), .int (nI us)])), (rs, .inl (cR, 16, .inr (.inr (.inr (.inr (va_up fR AL.length (some q_2)))))))]) (ck := [(q_2, .inr (0, [.int 2, .long 1, .null]))]) (by rw [nm_t1 c_14]; rfl) hP9 hD9
    have hK9 := hK.sub (tys' := [(cR, .object "TextForge$Argument")]) [0] rfl
    exact zz_iret hx hb hr hlocks d_Tf_truth_29 hS (by first | exact Nat.le_refl _ | decide | omega | (dsimp only; omega)) (by first | exact Nat.le_refl _ | decide | omega | (dsimp only; omega)) q_2 hrr hP9 hK9 hD9
set_option maxHeartbeats 4000000 in
set_option maxRecDepth 100000 in
theorem c_Tf_truthT (l : Launch) (dC : Nat → ClassId) (dI : Nat → Nat → Nat) (ad : Nat → Nat) (tf hf hq hs hd hp hc : Nat) (ln : Int64) (rs : Nat) (cR : ClassId) (fR : Nat → Option Nat) (n us : Nat) (sg : Int32) (hnt : l.flags = pinnedFlags ++ [noTraceFlag]) (hnn : n = 16) (hus : us < 1000000) : yT ad l y_Tf_truth w_Tf_truth { frames := 7, cells := 1, slots := 6, locals := 102 } (dC, dI) vwCl [.ref tf, .int sg] [(tf, .inr (7, [.ref hf, .ref hq, .ref hs, .ref hd, .ref hp, .ref hc, .long ln])), (hs, .inr (1, [.ref rs, .int (nI n), .int (nI us)])), (rs, .inl (cR, 16, .inr (.inr (.inr (.inr fR)))))] [(cR, .object "TextForge$Argument")] "java/lang/IllegalStateException" := by
  refine zy_enterT (cc := prog_1_method_5_code) (nL := 2) (ret := (some .int)) (by decide) rfl (Nat.le_of_ble_eq_true rfl) ?_
  intro p e s m below meth c ls C0 hexc hP hK hl hX
  obtain ⟨hx, hb, hml, hown, hg, hr, hlocks, hin⟩ := C0
  have hS : va_S (fun _ => False) s.heap s.heap [] := va_S.rf
  have hown : s.vm.findClass "TextForge" = some m.cls := hown
  have hP : va_P (dC, dI) vwCl [(tf, .inr (7, [.ref hf, .ref hq, .ref hs, .ref hd, .ref hp, .ref hc, .long ln])), (hs, .inr (1, [.ref rs, .int (nI n), .int (nI us)])), (rs, .inl (cR, 16, .inr (.inr (.inr (.inr fR)))))] s.heap := hP
  have hK : va_K (dC, dI) vwCl [(cR, .object "TextForge$Argument")] s := hK
  have hl : lv_has ls 2 [(0, .ref tf), (1, .int sg)] := hl
  refine lv_aload_n hx hb d_Tf_truth_0 rfl (lv_at hl 0 rfl) ?_
  have hPc := hP.sub (ws' := [(tf, .inr (7, [.ref hf, .ref hq, .ref hs, .ref hd, .ref hp, .ref hc, .long ln])), (hs, .inr (1, [.ref rs, .int (nI n), .int (nI us)])), (rs, .inl (cR, 16, .inr (.inr (.inr (.inr fR)))))]) [0, 1, 2] rfl
  have hKc := hK.sub (tys' := [(cR, .object "TextForge$Argument")]) [0] rfl
  exact tx_prop (As := []) (rest := []) ⟨hx, hb, hml, hown, hg⟩ (c_Tf_reqT l dC dI ad tf hf hq hs hd hp hc ln rs cR fR n us hnt hnn hus) (cwV 0 hg (gi_V kw_520 kw_522 sw_7 kw_1 kw_523) rfl rfl rfl (by decide +kernel) ⟨Nat.le_of_ble_eq_true rfl, Nat.le_of_ble_eq_true rfl⟩) (zy_prJV hX hS hPc hKc _ (q0 := 0) (ci := 7) rfl rfl) rfl hl.1 rfl (Nat.le_of_ble_eq_true rfl) d_Tf_truth_1 ⟨(Nat.le_of_ble_eq_true rfl), (Nat.le_of_ble_eq_true rfl)⟩ hexc hlocks
abbrev y_Tf_thing : MethodName := ⟨"TextForge", "thing", "(I)I"⟩
abbrev w_Tf_thing : List Cond := Cond.code y_Tf_thing prog_1_method_7_code 2 (some .int) :: gw
theorem d_Tf_thing_0 : decode prog_1_method_7_code 0 = .ok (.iload_n 1, 1) := by decide +kernel
theorem d_Tf_thing_1 : decode prog_1_method_7_code 1 = .ok (.iconst (-1), 1) := by decide +kernel
theorem d_Tf_thing_2 : decode prog_1_method_7_code 2 = .ok (.if_icmp .lt 9, 3) := by decide +kernel
theorem d_Tf_thing_5 : decode prog_1_method_7_code 5 = .ok (.iload_n 1, 1) := by decide +kernel
theorem d_Tf_thing_6 : decode prog_1_method_7_code 6 = .ok (.bipush 8, 2) := by decide +kernel
theorem d_Tf_thing_8 : decode prog_1_method_7_code 8 = .ok (.if_icmp .le 13, 3) := by decide +kernel
theorem d_Tf_thing_11 : decode prog_1_method_7_code 11 = .ok (.new 79, 3) := by decide +kernel
theorem d_Tf_thing_14 : decode prog_1_method_7_code 14 = .ok (.dup, 1) := by decide +kernel
theorem d_Tf_thing_15 : decode prog_1_method_7_code 15 = .ok (.ldc 81, 2) := by decide +kernel
theorem d_Tf_thing_17 : decode prog_1_method_7_code 17 = .ok (.invokespecial 83, 3) := by decide +kernel
theorem d_Tf_thing_20 : decode prog_1_method_7_code 20 = .ok (.athrow, 1) := by decide +kernel
theorem d_Tf_thing_21 : decode prog_1_method_7_code 21 = .ok (.aload_n 0, 1) := by decide +kernel
theorem d_Tf_thing_22 : decode prog_1_method_7_code 22 = .ok (.invokevirtual 63, 3) := by decide +kernel
theorem d_Tf_thing_25 : decode prog_1_method_7_code 25 = .ok (.aload_n 0, 1) := by decide +kernel
theorem d_Tf_thing_26 : decode prog_1_method_7_code 26 = .ok (.getfield 24, 3) := by decide +kernel
theorem d_Tf_thing_29 : decode prog_1_method_7_code 29 = .ok (.new 66, 3) := by decide +kernel
theorem d_Tf_thing_32 : decode prog_1_method_7_code 32 = .ok (.dup, 1) := by decide +kernel
theorem d_Tf_thing_33 : decode prog_1_method_7_code 33 = .ok (.iconst 4, 1) := by decide +kernel
theorem d_Tf_thing_34 : decode prog_1_method_7_code 34 = .ok (.iload_n 1, 1) := by decide +kernel
theorem d_Tf_thing_35 : decode prog_1_method_7_code 35 = .ok (.i2l, 1) := by decide +kernel
theorem d_Tf_thing_36 : decode prog_1_method_7_code 36 = .ok (.aconst_null, 1) := by decide +kernel
theorem d_Tf_thing_37 : decode prog_1_method_7_code 37 = .ok (.invokespecial 68, 3) := by decide +kernel
theorem d_Tf_thing_40 : decode prog_1_method_7_code 40 = .ok (.invokevirtual 71, 3) := by decide +kernel
theorem d_Tf_thing_43 : decode prog_1_method_7_code 43 = .ok (.ireturn, 1) := by decide +kernel
set_option maxHeartbeats 4000000 in
set_option maxRecDepth 100000 in
theorem c_Tf_thing (l : Launch) (dC : Nat → ClassId) (dI : Nat → Nat → Nat) (tf hf hq hs hd hp hc : Nat) (ln : Int64) (rs : Nat) (cR : ClassId) (fR : Nat → Option Nat) (us : Nat) (cB : ClassId) (AL : List Ag) (v : Int32) (hnn : AL.length < 16) (hus : us < 1000000) (hv1 : ¬ v < -1) (hv2 : v ≤ 8) : zM_i (S := Nat) l y_Tf_thing w_Tf_thing { frames := 2, cells := 1, slots := 3, locals := 40 } (dC, dI) vwCl [.ref tf, .int v] ([(tf, .inr (7, [.ref hf, .ref hq, .ref hs, .ref hd, .ref hp, .ref hc, .long ln])), (hs, .inr (1, [.ref rs, .int (nI AL.length), .int (nI us)])), (rs, .inl (cR, 16, .inr (.inr (.inr (.inr fR)))))] ++ (ag_W cB AL)) [(cR, .object "TextForge$Argument")] (fun (r : Int32) (u : Nat) => r = nI (AL.length + 1)) (fun u => ([(tf, .inr (7, [.ref hf, .ref hq, .ref hs, .ref hd, .ref hp, .ref hc, .long ln])), (hs, .inr (1, [.ref rs, .int (nI (AL.length + 1)), .int (nI us)])), (rs, .inl (cR, 16, .inr (.inr (.inr (.inr (va_up fR AL.length (some u)))))))] ++ (ag_W cB (AL ++ [(u, 4, v.toInt64, 0, 0, (fun _ => 0), [])])))) (fun u => [(cR, .object "TextForge$Argument")]) 1 3 := by
  refine zz_enteri (cc := prog_1_method_7_code) (nL := 2) (ret := (some .int)) (by decide) rfl (Nat.le_of_ble_eq_true rfl) ?_
  intro p e s m below meth c A ls C0 hA hS hP hK hD hl
  obtain ⟨hx, hb, hml, hown, hg, hr, hlocks, hin⟩ := C0
  have hown : s.vm.findClass "TextForge" = some m.cls := hown
  have hP : va_P (dC, dI) vwCl ([(tf, .inr (7, [.ref hf, .ref hq, .ref hs, .ref hd, .ref hp, .ref hc, .long ln])), (hs, .inr (1, [.ref rs, .int (nI AL.length), .int (nI us)])), (rs, .inl (cR, 16, .inr (.inr (.inr (.inr fR)))))] ++ (ag_W cB AL)) s.heap := hP
  have hK : va_K (dC, dI) vwCl [(cR, .object "TextForge$Argument")] s := hK
  have hD : va_D A ([(tf, .inr (7, [.ref hf, .ref hq, .ref hs, .ref hd, .ref hp, .ref hc, .long ln])), (hs, .inr (1, [.ref rs, .int (nI AL.length), .int (nI us)])), (rs, .inl (cR, 16, .inr (.inr (.inr (.inr fR)))))] ++ (ag_W cB AL)) := hD
  have hl : lv_has ls 2 [(0, .ref tf), (1, .int v)] := hl
  refine lv_iload_n hx hb d_Tf_thing_0 rfl (lv_at hl 1 rfl) ?_
  refine lv_iconst (v := (-1)) hx hb d_Tf_thing_1 (by decide) ?_
  refine lv_icmp_lt (tgt := 11) hx hb d_Tf_thing_2 (by decide) (fun c9 => by first | exact absurd c9 hv1 | exact absurd hv1 c9) (fun _ => ?_)
  refine lv_iload_n hx hb d_Tf_thing_5 rfl (lv_at hl 1 rfl) ?_
  refine lv_bipush (v := 8) hx hb d_Tf_thing_6 (by decide) ?_
  refine lv_icmp_le (tgt := 21) hx hb d_Tf_thing_8 (by decide) (fun _ => ?_) (fun c9 => by first | exact absurd c9 hv2 | exact absurd hv2 c9)
  refine lv_aload_n hx hb d_Tf_thing_21 rfl (lv_at hl 0 rfl) ?_
  have hPc := hP.sub (ws' := [(tf, .inr (7, [.ref hf, .ref hq, .ref hs, .ref hd, .ref hp, .ref hc, .long ln])), (hs, .inr (1, [.ref rs, .int (nI AL.length), .int (nI us)])), (rs, .inl (cR, 16, .inr (.inr (.inr (.inr fR)))))]) [0, 1, 2] rfl
  have hKc := hK.sub (tys' := [(cR, .object "TextForge$Argument")]) [0] rfl
  refine va_csv (W.runV (As := []) (rest := []) ⟨hx, hb, hml, hown, hg⟩ (c_Tf_requireRoomForArgument l dC dI tf hf hq hs hd hp hc ln rs cR fR AL.length us hnn hus) (cwV 0 hg (gi_V kw_520 kw_522 sw_7 kw_1 kw_523) rfl rfl rfl (by decide +kernel) ⟨Nat.le_of_ble_eq_true rfl, Nat.le_of_ble_eq_true rfl⟩) (zz_prJV hPc hKc _ (q0 := 0) (ci := 7) rfl rfl) rfl rfl hl.1 rfl (lv_room (Nat.le_of_ble_eq_true rfl)) d_Tf_thing_22 ⟨Nat.le_of_ble_eq_true rfl, Nat.le_of_ble_eq_true rfl⟩) (fun hr_1 => ?_)
  refine lv_aload_n hx hb d_Tf_thing_25 rfl (lv_at hl 0 rfl) ?_
  refine va_get (D := (dC, dI)) (ci := 7) (v := .ref hs) (C := "TextForge") (T := TX7) (N := 7) hx hb hg iwX7 hown hK hP 0 rfl rfl 2 (by decide) (hg _ kw_133) (fun _ h9 => h9) rfl d_Tf_thing_26 ?_
  refine va_new (ci := 0) (fs := [.int 0, .long 0, .null]) (C := "TextForge$Argument") (T := TX0) (N := 3) hx hb hg iwX0 tyX0 tyX0_ok hown (hg _ kw_595) (hg _ kw_596) (hg _ kw_14) hK hP hD hS hA rfl (fun j hj => by rcases (show j = 0 ∨ j = 1 ∨ j = 2 by omega) with rfl | rfl | rfl <;> rfl) (by first | exact Nat.le_refl _ | decide | omega | (dsimp only; omega)) (by first | exact Nat.le_refl _ | decide | omega | (dsimp only; omega)) d_Tf_thing_29 (fun q_2 H hP hD hS => ?_)
  have hP := hP.swap
  have hD := hD.swap
  have hP : va_P (dC, dI) vwCl ([(tf, .inr (7, [.ref hf, .ref hq, .ref hs, .ref hd, .ref hp, .ref hc, .long ln])), (hs, .inr (1, [.ref rs, .int (nI AL.length), .int (nI us)])), (rs, .inl (cR, 16, .inr (.inr (.inr (.inr fR))))), (q_2, .inr (0, [.int 0, .long 0, .null]))] ++ (ag_W cB AL)) H := hP
  have hD : va_D A ([(tf, .inr (7, [.ref hf, .ref hq, .ref hs, .ref hd, .ref hp, .ref hc, .long ln])), (hs, .inr (1, [.ref rs, .int (nI AL.length), .int (nI us)])), (rs, .inl (cR, 16, .inr (.inr (.inr (.inr fR))))), (q_2, .inr (0, [.int 0, .long 0, .null]))] ++ (ag_W cB AL)) := hD
  refine lv_dup hx hb d_Tf_thing_32 rfl ?_
  refine lv_iconst (v := 4) hx hb d_Tf_thing_33 (by decide) ?_
  refine lv_iload_n hx hb d_Tf_thing_34 rfl (lv_at hl 1 rfl) ?_
  refine lv_i2l hx hb d_Tf_thing_35 rfl ?_
  refine lv_null hx hb d_Tf_thing_36 ?_
  have hPc := hP.sub (ws' := [(q_2, .inr (0, [.int 0, .long 0, .null]))]) [3] rfl
  have hKc := hK.sub (tys' := []) [] rfl
  have hDc := hD.sub (ws' := [(q_2, .inr (0, [.int 0, .long 0, .null]))]) [3] (by decide) rfl
  have hFc := va_free (wc := [(q_2, .inr (0, [.int 0, .long 0, .null]))]) hD hS hA [3] rfl
  refine zz_callv (va_runI (As := [.int 4, .long v.toInt64, .null]) (rest := [.ref q_2, .ref hs]) ⟨hx, hb, hml, hown, hg⟩ (c_Ar_init0 l dC dI q_2 (.int 0) (.long 0) .null 4 v.toInt64  H.size) (cwI 3 hg (gi_0 kw_599) rfl rfl rfl (hg _ kw_14) (hg _ kw_597) (hg _ kw_598) rfl (by decide +kernel) ⟨Nat.le_of_ble_eq_true rfl, Nat.le_of_ble_eq_true rfl⟩) (zz_preS hPc hKc hDc _) rfl rfl hl.1 rfl (lv_room (Nat.le_of_ble_eq_true rfl)) d_Tf_thing_37 ⟨Nat.le_of_ble_eq_true rfl, Nat.le_of_ble_eq_true rfl⟩) hS hFc (fun u H1 k9 p9 d9 => va_joinQ (wr := [(tf, .inr (7, [.ref hf, .ref hq, .ref hs, .ref hd, .ref hp, .ref hc, .long ln])), (hs, .inr (1, [.ref rs, .int (nI AL.length), .int (nI us)])), (rs, .inl (cR, 16, .inr (.inr (.inr (.inr fR)))))]) hP hD [3] [0, 1, 2] rfl rfl (by decide) (by decide) k9 hFc p9 d9) (fun u H locs hw hP hD hK1 hS => ?_)
  obtain ⟨u_3, rfl⟩ : ∃ z, z = u := ⟨_, rfl⟩
  try dsimp only at hw
  have hP : va_P (dC, dI) vwCl ([(tf, .inr (7, [.ref hf, .ref hq, .ref hs, .ref hd, .ref hp, .ref hc, .long ln])), (hs, .inr (1, [.ref rs, .int (nI AL.length), .int (nI us)])), (rs, .inl (cR, 16, .inr (.inr (.inr (.inr fR))))), (q_2, .inr (0, [.int 4, .long v.toInt64, .null]))] ++ (ag_W cB AL)) H := hP
  have hD : va_D A ([(tf, .inr (7, [.ref hf, .ref hq, .ref hs, .ref hd, .ref hp, .ref hc, .long ln])), (hs, .inr (1, [.ref rs, .int (nI AL.length), .int (nI us)])), (rs, .inl (cR, 16, .inr (.inr (.inr (.inr fR))))), (q_2, .inr (0, [.int 4, .long v.toInt64, .null]))] ++ (ag_W cB AL)) := hD
  have hPc := hP.sub (ws' := [(hs, .inr (1, [.ref rs, .int (nI AL.length), .int (nI us)])), (rs, .inl (cR, 16, .inr (.inr (.inr (.inr fR))))), (q_2, .inr (0, [.int 4, .long v.toInt64, .null]))]) [1, 2, 3] rfl
  have hKc := hK.sub (tys' := [(cR, .object "TextForge$Argument")]) [0] rfl
  have hDc := hD.sub (ws' := [(hs, .inr (1, [.ref rs, .int (nI AL.length), .int (nI us)])), (rs, .inl (cR, 16, .inr (.inr (.inr (.inr fR))))), (q_2, .inr (0, [.int 4, .long v.toInt64, .null]))]) [1, 2, 3] (by decide) rfl
  have hFc := va_free (wc := [(hs, .inr (1, [.ref rs, .int (nI AL.length), .int (nI us)])), (rs, .inl (cR, 16, .inr (.inr (.inr (.inr fR))))), (q_2, .inr (0, [.int 4, .long v.toInt64, .null]))]) hD hS hA [1, 2, 3] rfl
  refine zz_calli (va_runV (As := [.ref q_2]) (rest := []) ⟨hx, hb, hml, hown, hg⟩ (c_As_add l dC dI hs rs cR fR AL.length us q_2 (.int 4) (.long v.toInt64) .null hnn H.size) (cwV 1 hg (gi_V kw_611 kw_612 kw_613 kw_4 kw_614) rfl rfl rfl (by decide +kernel) ⟨Nat.le_of_ble_eq_true rfl, Nat.le_of_ble_eq_true rfl⟩) (zz_preV hPc hKc hDc _ (q0 := 0) (ci := 1) rfl rfl) rfl rfl hl.1 rfl (lv_room (Nat.le_of_ble_eq_true rfl)) d_Tf_thing_40 ⟨Nat.le_of_ble_eq_true rfl, Nat.le_of_ble_eq_true rfl⟩) hS hFc (fun u H1 k9 p9 d9 => va_joinQ (wr := [(tf, .inr (7, [.ref hf, .ref hq, .ref hs, .ref hd, .ref hp, .ref hc, .long ln]))]) hP hD [1, 2, 3] [0] rfl rfl (by decide) (by decide) k9 hFc p9 d9) (fun r_6 u H locs hw hP hD hK1 hS => ?_)
  obtain ⟨u_5, rfl⟩ : ∃ z, z = u := ⟨_, rfl⟩
  try dsimp only at hw
  have hP : va_P (dC, dI) vwCl ([(tf, .inr (7, [.ref hf, .ref hq, .ref hs, .ref hd, .ref hp, .ref hc, .long ln])), (hs, .inr (1, [.ref rs, .int (nI (AL.length + 1)), .int (nI us)])), (rs, .inl (cR, 16, .inr (.inr (.inr (.inr (va_up fR AL.length (some q_2))))))), (q_2, .inr (0, [.int 4, .long v.toInt64, .null]))] ++ (ag_W cB AL)) H := hP
  have hD : va_D A ([(tf, .inr (7, [.ref hf, .ref hq, .ref hs, .ref hd, .ref hp, .ref hc, .long ln])), (hs, .inr (1, [.ref rs, .int (nI (AL.length + 1)), .int (nI us)])), (rs, .inl (cR, 16, .inr (.inr (.inr (.inr (va_up fR AL.length (some q_2))))))), (q_2, .inr (0, [.int 4, .long v.toInt64, .null]))] ++ (ag_W cB AL)) := hD
  have hrr := hw
  have hP9 := hP.part (cx := [(tf, .inr (7, [.ref hf, .ref hq, .ref hs, .ref hd, .ref hp, .ref hc, .long ln])), (hs, .inr (1, [.ref rs, .int (nI (AL.length + 1)), .int (nI us)])), (rs, .inl (cR, 16, .inr (.inr (.inr (.inr (va_up fR AL.length (some q_2))))))), (q_2, .inr (0, [.int 4, .long v.toInt64, .null]))]) [0, 1, 2, 3] rfl
  have hD9 := hD.part (cx := [(tf, .inr (7, [.ref hf, .ref hq, .ref hs, .ref hd, .ref hp, .ref hc, .long ln])), (hs, .inr (1, [.ref rs, .int (nI (AL.length + 1)), .int (nI us)])), (rs, .inl (cR, 16, .inr (.inr (.inr (.inr (va_up fR AL.length (some q_2))))))), (q_2, .inr (0, [.int 4, .long v.toInt64, .null]))]) [0, 1, 2, 3] (by decide) rfl
  obtain ⟨hP9, hD9⟩ := ag_push cB (AL := AL) (g := (q_2, 4, v.toInt64, 0, 0, (fun _ => 0), [])) (X := [(tf, .inr (7, [.ref hf, .ref hq, .ref hs, .ref hd, .ref hp, .ref hc, .long ln])), (hs, .inr (1, [.ref rs, .int (nI (AL.length + 1)), .int (nI us)])), (rs, .inl (cR, 16, .inr (.inr (.inr (.inr (va_up fR AL.length (some q_2)))))))]) (ck := [(q_2, .inr (0, [.int 4, .long v.toInt64, .null]))]) rfl hP9 hD9
  have hK9 := hK.sub (tys' := [(cR, .object "TextForge$Argument")]) [0] rfl
  exact zz_iret hx hb hr hlocks d_Tf_thing_43 hS (by first | exact Nat.le_refl _ | decide | omega | (dsimp only; omega)) (by first | exact Nat.le_refl _ | decide | omega | (dsimp only; omega)) q_2 hrr hP9 hK9 hD9
set_option maxHeartbeats 4000000 in
set_option maxRecDepth 100000 in
theorem c_Tf_thingT (l : Launch) (dC : Nat → ClassId) (dI : Nat → Nat → Nat) (ad : Nat → Nat) (tf hf hq hs hd hp hc : Nat) (ln : Int64) (rs : Nat) (cR : ClassId) (fR : Nat → Option Nat) (n us : Nat) (v : Int32) (hnt : l.flags = pinnedFlags ++ [noTraceFlag]) (hnn : n = 16) (hus : us < 1000000) (hv1 : ¬ v < -1) (hv2 : v ≤ 8) : yT ad l y_Tf_thing w_Tf_thing { frames := 7, cells := 1, slots := 6, locals := 102 } (dC, dI) vwCl [.ref tf, .int v] [(tf, .inr (7, [.ref hf, .ref hq, .ref hs, .ref hd, .ref hp, .ref hc, .long ln])), (hs, .inr (1, [.ref rs, .int (nI n), .int (nI us)])), (rs, .inl (cR, 16, .inr (.inr (.inr (.inr fR)))))] [(cR, .object "TextForge$Argument")] "java/lang/IllegalStateException" := by
  refine zy_enterT (cc := prog_1_method_7_code) (nL := 2) (ret := (some .int)) (by decide) rfl (Nat.le_of_ble_eq_true rfl) ?_
  intro p e s m below meth c ls C0 hexc hP hK hl hX
  obtain ⟨hx, hb, hml, hown, hg, hr, hlocks, hin⟩ := C0
  have hS : va_S (fun _ => False) s.heap s.heap [] := va_S.rf
  have hown : s.vm.findClass "TextForge" = some m.cls := hown
  have hP : va_P (dC, dI) vwCl [(tf, .inr (7, [.ref hf, .ref hq, .ref hs, .ref hd, .ref hp, .ref hc, .long ln])), (hs, .inr (1, [.ref rs, .int (nI n), .int (nI us)])), (rs, .inl (cR, 16, .inr (.inr (.inr (.inr fR)))))] s.heap := hP
  have hK : va_K (dC, dI) vwCl [(cR, .object "TextForge$Argument")] s := hK
  have hl : lv_has ls 2 [(0, .ref tf), (1, .int v)] := hl
  refine lv_iload_n hx hb d_Tf_thing_0 rfl (lv_at hl 1 rfl) ?_
  refine lv_iconst (v := (-1)) hx hb d_Tf_thing_1 (by decide) ?_
  refine lv_icmp_lt (tgt := 11) hx hb d_Tf_thing_2 (by decide) (fun c9 => by first | exact absurd c9 hv1 | exact absurd hv1 c9) (fun _ => ?_)
  refine lv_iload_n hx hb d_Tf_thing_5 rfl (lv_at hl 1 rfl) ?_
  refine lv_bipush (v := 8) hx hb d_Tf_thing_6 (by decide) ?_
  refine lv_icmp_le (tgt := 21) hx hb d_Tf_thing_8 (by decide) (fun _ => ?_) (fun c9 => by first | exact absurd c9 hv2 | exact absurd hv2 c9)
  refine lv_aload_n hx hb d_Tf_thing_21 rfl (lv_at hl 0 rfl) ?_
  have hPc := hP.sub (ws' := [(tf, .inr (7, [.ref hf, .ref hq, .ref hs, .ref hd, .ref hp, .ref hc, .long ln])), (hs, .inr (1, [.ref rs, .int (nI n), .int (nI us)])), (rs, .inl (cR, 16, .inr (.inr (.inr (.inr fR)))))]) [0, 1, 2] rfl
  have hKc := hK.sub (tys' := [(cR, .object "TextForge$Argument")]) [0] rfl
  exact tx_prop (As := []) (rest := []) ⟨hx, hb, hml, hown, hg⟩ (c_Tf_reqT l dC dI ad tf hf hq hs hd hp hc ln rs cR fR n us hnt hnn hus) (cwV 0 hg (gi_V kw_520 kw_522 sw_7 kw_1 kw_523) rfl rfl rfl (by decide +kernel) ⟨Nat.le_of_ble_eq_true rfl, Nat.le_of_ble_eq_true rfl⟩) (zy_prJV hX hS hPc hKc _ (q0 := 0) (ci := 7) rfl rfl) rfl hl.1 rfl (Nat.le_of_ble_eq_true rfl) d_Tf_thing_22 ⟨(Nat.le_of_ble_eq_true rfl), (Nat.le_of_ble_eq_true rfl)⟩ hexc hlocks
set_option maxHeartbeats 4000000 in
set_option maxRecDepth 100000 in
theorem c_Tf_thingA (l : Launch) (dC : Nat → ClassId) (dI : Nat → Nat → Nat) (ad : Nat → Nat) (tf : Nat) (v : Int32) (hnt : l.flags = pinnedFlags ++ [noTraceFlag]) (hbad : v < -1 ∨ ¬ v ≤ 8) : yT ad l y_Tf_thing w_Tf_thing { frames := 6, cells := 1, slots := 6, locals := 82 } (dC, dI) vwCl [.ref tf, .int v] [] [] "java/lang/IllegalArgumentException" := by
  refine zy_enterT (cc := prog_1_method_7_code) (nL := 2) (ret := (some .int)) (by decide) rfl (Nat.le_of_ble_eq_true rfl) ?_
  intro p e s m below meth c ls C0 hexc hP hK hl hX
  obtain ⟨hx, hb, hml, hown, hg, hr, hlocks, hin⟩ := C0
  have hS : va_S (fun _ => False) s.heap s.heap [] := va_S.rf
  have hown : s.vm.findClass "TextForge" = some m.cls := hown
  have hP : va_P (dC, dI) vwCl [] s.heap := hP
  have hK : va_K (dC, dI) vwCl [] s := hK
  have hl : lv_has ls 2 [(0, .ref tf), (1, .int v)] := hl
  refine lv_iload_n hx hb d_Tf_thing_0 rfl (lv_at hl 1 rfl) ?_
  refine lv_iconst (v := (-1)) hx hb d_Tf_thing_1 (by decide) ?_
  refine lv_icmp_lt (tgt := 11) hx hb d_Tf_thing_2 (by decide) (fun c_2 => ?_) (fun c_2 => ?_)
  · skip
    exact tx_throw hx hb hml hl.1 hexc hlocks hnt hown (by decide +kernel) (by decide +kernel) (by decide +kernel) (by decide +kernel) (by decide +kernel) (tx_IAE hg hX.2.2.2.2.2) (hg _ kw_644) (hg _ kw_15) (show vk_R "TextForge" 81 "no such sort" (ad 16) s from (hX.2.1 16 (by decide)).1) d_Tf_thing_11 d_Tf_thing_14 d_Tf_thing_15 d_Tf_thing_17 d_Tf_thing_20 (Nat.le_of_ble_eq_true rfl) (Nat.le_of_ble_eq_true rfl) (Nat.le_of_ble_eq_true rfl) (Nat.le_of_ble_eq_true rfl)
  · skip
    refine lv_iload_n hx hb d_Tf_thing_5 rfl (lv_at hl 1 rfl) ?_
    refine lv_bipush (v := 8) hx hb d_Tf_thing_6 (by decide) ?_
    refine lv_icmp_le (tgt := 21) hx hb d_Tf_thing_8 (by decide) (fun c_8 => ?_) (fun c_8 => ?_)
    · skip
      rcases hbad with h9 | h9
      · exact absurd h9 c_2
      · exact absurd c_8 h9
    · skip
      exact tx_throw hx hb hml hl.1 hexc hlocks hnt hown (by decide +kernel) (by decide +kernel) (by decide +kernel) (by decide +kernel) (by decide +kernel) (tx_IAE hg hX.2.2.2.2.2) (hg _ kw_644) (hg _ kw_15) (show vk_R "TextForge" 81 "no such sort" (ad 16) s from (hX.2.1 16 (by decide)).1) d_Tf_thing_11 d_Tf_thing_14 d_Tf_thing_15 d_Tf_thing_17 d_Tf_thing_20 (Nat.le_of_ble_eq_true rfl) (Nat.le_of_ble_eq_true rfl) (Nat.le_of_ble_eq_true rfl) (Nat.le_of_ble_eq_true rfl)
abbrev y_Tf_parse : MethodName := ⟨"TextForge", "parse", "(I)Z"⟩
abbrev w_Tf_parse : List Cond := Cond.code y_Tf_parse prog_1_method_12_code 3 (some .boolean) :: gw
theorem d_Tf_parse_0 : decode prog_1_method_12_code 0 = .ok (.iload_n 1, 1) := by decide +kernel
theorem d_Tf_parse_1 : decode prog_1_method_12_code 1 = .ok (.iconst 2, 1) := by decide +kernel
theorem d_Tf_parse_2 : decode prog_1_method_12_code 2 = .ok (.if_icmp .lt 9, 3) := by decide +kernel
theorem d_Tf_parse_5 : decode prog_1_method_12_code 5 = .ok (.iload_n 1, 1) := by decide +kernel
theorem d_Tf_parse_6 : decode prog_1_method_12_code 6 = .ok (.bipush 36, 2) := by decide +kernel
theorem d_Tf_parse_8 : decode prog_1_method_12_code 8 = .ok (.if_icmp .le 13, 3) := by decide +kernel
theorem d_Tf_parse_11 : decode prog_1_method_12_code 11 = .ok (.new 79, 3) := by decide +kernel
theorem d_Tf_parse_14 : decode prog_1_method_12_code 14 = .ok (.dup, 1) := by decide +kernel
theorem d_Tf_parse_15 : decode prog_1_method_12_code 15 = .ok (.ldc 136, 2) := by decide +kernel
theorem d_Tf_parse_17 : decode prog_1_method_12_code 17 = .ok (.invokespecial 83, 3) := by decide +kernel
theorem d_Tf_parse_20 : decode prog_1_method_12_code 20 = .ok (.athrow, 1) := by decide +kernel
theorem d_Tf_parse_21 : decode prog_1_method_12_code 21 = .ok (.aload_n 0, 1) := by decide +kernel
theorem d_Tf_parse_22 : decode prog_1_method_12_code 22 = .ok (.lconst 0, 1) := by decide +kernel
theorem d_Tf_parse_23 : decode prog_1_method_12_code 23 = .ok (.putfield 49, 3) := by decide +kernel
theorem d_Tf_parse_26 : decode prog_1_method_12_code 26 = .ok (.aload_n 0, 1) := by decide +kernel
theorem d_Tf_parse_27 : decode prog_1_method_12_code 27 = .ok (.iload_n 1, 1) := by decide +kernel
theorem d_Tf_parse_28 : decode prog_1_method_12_code 28 = .ok (.invokevirtual 138, 3) := by decide +kernel
theorem d_Tf_parse_31 : decode prog_1_method_12_code 31 = .ok (.istore_n 2, 1) := by decide +kernel
theorem d_Tf_parse_32 : decode prog_1_method_12_code 32 = .ok (.aload_n 0, 1) := by decide +kernel
theorem d_Tf_parse_33 : decode prog_1_method_12_code 33 = .ok (.getfield 14, 3) := by decide +kernel
theorem d_Tf_parse_36 : decode prog_1_method_12_code 36 = .ok (.iconst 0, 1) := by decide +kernel
theorem d_Tf_parse_37 : decode prog_1_method_12_code 37 = .ok (.invokevirtual 60, 3) := by decide +kernel
theorem d_Tf_parse_40 : decode prog_1_method_12_code 40 = .ok (.iload_n 2, 1) := by decide +kernel
theorem d_Tf_parse_41 : decode prog_1_method_12_code 41 = .ok (.ireturn, 1) := by decide +kernel
set_option maxHeartbeats 4000000 in
set_option maxRecDepth 100000 in
theorem c_Tf_parseA (l : Launch) (dC : Nat → ClassId) (dI : Nat → Nat → Nat) (ad : Nat → Nat) (tf : Nat) (v : Int32) (hnt : l.flags = pinnedFlags ++ [noTraceFlag]) (hbad : v < 2 ∨ ¬ v ≤ 36) : yT ad l y_Tf_parse w_Tf_parse { frames := 6, cells := 1, slots := 6, locals := 82 } (dC, dI) vwCl [.ref tf, .int v] [] [] "java/lang/IllegalArgumentException" := by
  refine zy_enterT (cc := prog_1_method_12_code) (nL := 3) (ret := (some .boolean)) (by decide) rfl (Nat.le_of_ble_eq_true rfl) ?_
  intro p e s m below meth c ls C0 hexc hP hK hl hX
  obtain ⟨hx, hb, hml, hown, hg, hr, hlocks, hin⟩ := C0
  have hS : va_S (fun _ => False) s.heap s.heap [] := va_S.rf
  have hown : s.vm.findClass "TextForge" = some m.cls := hown
  have hP : va_P (dC, dI) vwCl [] s.heap := hP
  have hK : va_K (dC, dI) vwCl [] s := hK
  have hl : lv_has ls 3 [(0, .ref tf), (1, .int v)] := hl
  refine lv_iload_n hx hb d_Tf_parse_0 rfl (lv_at hl 1 rfl) ?_
  refine lv_iconst (v := 2) hx hb d_Tf_parse_1 (by decide) ?_
  refine lv_icmp_lt (tgt := 11) hx hb d_Tf_parse_2 (by decide) (fun c_2 => ?_) (fun c_2 => ?_)
  · skip
    exact tx_throw hx hb hml hl.1 hexc hlocks hnt hown (by decide +kernel) (by decide +kernel) (by decide +kernel) (by decide +kernel) (by decide +kernel) (tx_IAE hg hX.2.2.2.2.2) (hg _ kw_644) (hg _ kw_15) (show vk_R "TextForge" 136 "no such base" (ad 17) s from (hX.2.1 17 (by decide)).1) d_Tf_parse_11 d_Tf_parse_14 d_Tf_parse_15 d_Tf_parse_17 d_Tf_parse_20 (Nat.le_of_ble_eq_true rfl) (Nat.le_of_ble_eq_true rfl) (Nat.le_of_ble_eq_true rfl) (Nat.le_of_ble_eq_true rfl)
  · skip
    refine lv_iload_n hx hb d_Tf_parse_5 rfl (lv_at hl 1 rfl) ?_
    refine lv_bipush (v := 36) hx hb d_Tf_parse_6 (by decide) ?_
    refine lv_icmp_le (tgt := 21) hx hb d_Tf_parse_8 (by decide) (fun c_8 => ?_) (fun c_8 => ?_)
    · skip
      rcases hbad with h9 | h9
      · exact absurd h9 c_2
      · exact absurd c_8 h9
    · skip
      exact tx_throw hx hb hml hl.1 hexc hlocks hnt hown (by decide +kernel) (by decide +kernel) (by decide +kernel) (by decide +kernel) (by decide +kernel) (tx_IAE hg hX.2.2.2.2.2) (hg _ kw_644) (hg _ kw_15) (show vk_R "TextForge" 136 "no such base" (ad 17) s from (hX.2.1 17 (by decide)).1) d_Tf_parse_11 d_Tf_parse_14 d_Tf_parse_15 d_Tf_parse_17 d_Tf_parse_20 (Nat.le_of_ble_eq_true rfl) (Nat.le_of_ble_eq_true rfl) (Nat.le_of_ble_eq_true rfl) (Nat.le_of_ble_eq_true rfl)
abbrev y_Tf_text : MethodName := ⟨"TextForge", "text", "()I"⟩
abbrev w_Tf_text : List Cond := Cond.code y_Tf_text prog_1_method_6_code 2 (some .int) :: gw
theorem d_Tf_text_0 : decode prog_1_method_6_code 0 = .ok (.aload_n 0, 1) := by decide +kernel
theorem d_Tf_text_1 : decode prog_1_method_6_code 1 = .ok (.invokevirtual 63, 3) := by decide +kernel
theorem d_Tf_text_4 : decode prog_1_method_6_code 4 = .ok (.new 66, 3) := by decide +kernel
theorem d_Tf_text_7 : decode prog_1_method_6_code 7 = .ok (.dup, 1) := by decide +kernel
theorem d_Tf_text_8 : decode prog_1_method_6_code 8 = .ok (.iconst 3, 1) := by decide +kernel
theorem d_Tf_text_9 : decode prog_1_method_6_code 9 = .ok (.lconst 0, 1) := by decide +kernel
theorem d_Tf_text_10 : decode prog_1_method_6_code 10 = .ok (.aload_n 0, 1) := by decide +kernel
theorem d_Tf_text_11 : decode prog_1_method_6_code 11 = .ok (.getfield 14, 3) := by decide +kernel
theorem d_Tf_text_14 : decode prog_1_method_6_code 14 = .ok (.invokevirtual 75, 3) := by decide +kernel
theorem d_Tf_text_17 : decode prog_1_method_6_code 17 = .ok (.invokespecial 68, 3) := by decide +kernel
theorem d_Tf_text_20 : decode prog_1_method_6_code 20 = .ok (.astore_n 1, 1) := by decide +kernel
theorem d_Tf_text_21 : decode prog_1_method_6_code 21 = .ok (.aload_n 0, 1) := by decide +kernel
theorem d_Tf_text_22 : decode prog_1_method_6_code 22 = .ok (.getfield 14, 3) := by decide +kernel
theorem d_Tf_text_25 : decode prog_1_method_6_code 25 = .ok (.iconst 0, 1) := by decide +kernel
theorem d_Tf_text_26 : decode prog_1_method_6_code 26 = .ok (.invokevirtual 60, 3) := by decide +kernel
theorem d_Tf_text_29 : decode prog_1_method_6_code 29 = .ok (.aload_n 0, 1) := by decide +kernel
theorem d_Tf_text_30 : decode prog_1_method_6_code 30 = .ok (.getfield 24, 3) := by decide +kernel
theorem d_Tf_text_33 : decode prog_1_method_6_code 33 = .ok (.aload_n 1, 1) := by decide +kernel
theorem d_Tf_text_34 : decode prog_1_method_6_code 34 = .ok (.invokevirtual 71, 3) := by decide +kernel
theorem d_Tf_text_37 : decode prog_1_method_6_code 37 = .ok (.ireturn, 1) := by decide +kernel
set_option maxHeartbeats 4000000 in
set_option maxRecDepth 100000 in
theorem c_Tf_text (l : Launch) (dC : Nat → ClassId) (dI : Nat → Nat → Nat) (tf hf hq hs hd hp hc : Nat) (ln : Int64) (rs : Nat) (cR : ClassId) (fR : Nat → Option Nat) (us : Nat) (cB : ClassId) (AL : List Ag) (rf : Nat) (ff : Nat → Int32) (F : List Nat) (hnn : AL.length < 16) (hus : us < 1000000) (hLf : by_L F ff) (hcf : F.length ≤ 4096) : zM_i (S := Nat × Nat × Nat × (Nat → Int32)) l y_Tf_text w_Tf_text { frames := 3, cells := 3, slots := (5 + F.length), locals := 66 } (dC, dI) vwCl [.ref tf] ([(tf, .inr (7, [.ref hf, .ref hq, .ref hs, .ref hd, .ref hp, .ref hc, .long ln])), (hs, .inr (1, [.ref rs, .int (nI AL.length), .int (nI us)])), (rs, .inl (cR, 16, .inr (.inr (.inr (.inr fR))))), (hf, .inr (2, [.ref rf, .int (nI F.length)])), (rf, .inl (cB, 4096, .inl ff))] ++ (ag_W cB AL)) [(cR, .object "TextForge$Argument"), (cB, .byte)] (fun (r : Int32) (u : Nat × Nat × Nat × (Nat → Int32)) => match u with | (a0, b0, r0, f0) => r = nI (AL.length + 1) ∧ by_L F f0) (fun u => match u with | (a0, b0, r0, f0) => ([(tf, .inr (7, [.ref hf, .ref hq, .ref hs, .ref hd, .ref hp, .ref hc, .long ln])), (hs, .inr (1, [.ref rs, .int (nI (AL.length + 1)), .int (nI us)])), (rs, .inl (cR, 16, .inr (.inr (.inr (.inr (va_up fR AL.length (some a0))))))), (hf, .inr (2, [.ref rf, .int (nI (List.take 0 F).length)])), (rf, .inl (cB, 4096, .inl ff))] ++ (ag_W cB (AL ++ [(a0, 3, 0, b0, r0, f0, F)])))) (fun u => match u with | (a0, b0, r0, f0) => [(cR, .object "TextForge$Argument"), (cB, .byte)]) 3 (5 + F.length) := by
  refine zz_enteri (cc := prog_1_method_6_code) (nL := 2) (ret := (some .int)) (by decide) rfl (Nat.le_of_ble_eq_true rfl) ?_
  intro p e s m below meth c A ls C0 hA hS hP hK hD hl
  obtain ⟨hx, hb, hml, hown, hg, hr, hlocks, hin⟩ := C0
  have hown : s.vm.findClass "TextForge" = some m.cls := hown
  have hP : va_P (dC, dI) vwCl ([(tf, .inr (7, [.ref hf, .ref hq, .ref hs, .ref hd, .ref hp, .ref hc, .long ln])), (hs, .inr (1, [.ref rs, .int (nI AL.length), .int (nI us)])), (rs, .inl (cR, 16, .inr (.inr (.inr (.inr fR))))), (hf, .inr (2, [.ref rf, .int (nI F.length)])), (rf, .inl (cB, 4096, .inl ff))] ++ (ag_W cB AL)) s.heap := hP
  have hK : va_K (dC, dI) vwCl [(cR, .object "TextForge$Argument"), (cB, .byte)] s := hK
  have hD : va_D A ([(tf, .inr (7, [.ref hf, .ref hq, .ref hs, .ref hd, .ref hp, .ref hc, .long ln])), (hs, .inr (1, [.ref rs, .int (nI AL.length), .int (nI us)])), (rs, .inl (cR, 16, .inr (.inr (.inr (.inr fR))))), (hf, .inr (2, [.ref rf, .int (nI F.length)])), (rf, .inl (cB, 4096, .inl ff))] ++ (ag_W cB AL)) := hD
  have hl : lv_has ls 2 [(0, .ref tf)] := hl
  refine lv_aload_n hx hb d_Tf_text_0 rfl (lv_at hl 0 rfl) ?_
  have hPc := hP.sub (ws' := [(tf, .inr (7, [.ref hf, .ref hq, .ref hs, .ref hd, .ref hp, .ref hc, .long ln])), (hs, .inr (1, [.ref rs, .int (nI AL.length), .int (nI us)])), (rs, .inl (cR, 16, .inr (.inr (.inr (.inr fR)))))]) [0, 1, 2] rfl
  have hKc := hK.sub (tys' := [(cR, .object "TextForge$Argument")]) [0] rfl
  refine va_csv (W.runV (As := []) (rest := []) ⟨hx, hb, hml, hown, hg⟩ (c_Tf_requireRoomForArgument l dC dI tf hf hq hs hd hp hc ln rs cR fR AL.length us hnn hus) (cwV 0 hg (gi_V kw_520 kw_522 sw_7 kw_1 kw_523) rfl rfl rfl (by decide +kernel) ⟨Nat.le_of_ble_eq_true rfl, Nat.le_of_ble_eq_true rfl⟩) (zz_prJV hPc hKc _ (q0 := 0) (ci := 7) rfl rfl) rfl rfl hl.1 rfl (lv_room (Nat.le_of_ble_eq_true rfl)) d_Tf_text_1 ⟨(by dsimp only; omega), (by dsimp only; omega)⟩) (fun hr_1 => ?_)
  refine va_new (ci := 0) (fs := [.int 0, .long 0, .null]) (C := "TextForge$Argument") (T := TX0) (N := 3) hx hb hg iwX0 tyX0 tyX0_ok hown (hg _ kw_595) (hg _ kw_596) (hg _ kw_14) hK hP hD hS hA rfl (fun j hj => by rcases (show j = 0 ∨ j = 1 ∨ j = 2 by omega) with rfl | rfl | rfl <;> rfl) (by first | exact Nat.le_refl _ | decide | omega | (dsimp only; omega)) (by first | exact Nat.le_refl _ | decide | omega | (dsimp only; omega)) d_Tf_text_4 (fun q_2 H hP hD hS => ?_)
  have hP := hP.swap
  have hD := hD.swap
  have hP : va_P (dC, dI) vwCl ([(tf, .inr (7, [.ref hf, .ref hq, .ref hs, .ref hd, .ref hp, .ref hc, .long ln])), (hs, .inr (1, [.ref rs, .int (nI AL.length), .int (nI us)])), (rs, .inl (cR, 16, .inr (.inr (.inr (.inr fR))))), (hf, .inr (2, [.ref rf, .int (nI F.length)])), (rf, .inl (cB, 4096, .inl ff)), (q_2, .inr (0, [.int 0, .long 0, .null]))] ++ (ag_W cB AL)) H := hP
  have hD : va_D A ([(tf, .inr (7, [.ref hf, .ref hq, .ref hs, .ref hd, .ref hp, .ref hc, .long ln])), (hs, .inr (1, [.ref rs, .int (nI AL.length), .int (nI us)])), (rs, .inl (cR, 16, .inr (.inr (.inr (.inr fR))))), (hf, .inr (2, [.ref rf, .int (nI F.length)])), (rf, .inl (cB, 4096, .inl ff)), (q_2, .inr (0, [.int 0, .long 0, .null]))] ++ (ag_W cB AL)) := hD
  refine lv_dup hx hb d_Tf_text_7 rfl ?_
  refine lv_iconst (v := 3) hx hb d_Tf_text_8 (by decide) ?_
  refine lv_lconst (v := 0) hx hb d_Tf_text_9 (by decide) ?_
  refine lv_aload_n hx hb d_Tf_text_10 rfl (lv_at hl 0 rfl) ?_
  refine va_get (D := (dC, dI)) (ci := 7) (v := .ref hf) (C := "TextForge") (T := TX7) (N := 7) hx hb hg iwX7 hown hK hP 0 rfl rfl 0 (by decide) (hg _ kw_131) (fun _ h9 => h9) rfl d_Tf_text_11 ?_
  have hPc := hP.sub (ws' := [(hf, .inr (2, [.ref rf, .int (nI F.length)])), (rf, .inl (cB, 4096, .inl ff))]) [3, 4] rfl
  have hKc := hK.sub (tys' := [(cB, .byte)]) [1] rfl
  have hDc := hD.sub (ws' := [(hf, .inr (2, [.ref rf, .int (nI F.length)])), (rf, .inl (cB, 4096, .inl ff))]) [3, 4] (by decide) rfl
  have hFc := va_free (wc := [(hf, .inr (2, [.ref rf, .int (nI F.length)])), (rf, .inl (cB, 4096, .inl ff))]) hD hS hA [3, 4] rfl
  refine zz_callr (va_runV (As := []) (rest := [.long 0, .int 3, .ref q_2, .ref q_2]) ⟨hx, hb, hml, hown, hg⟩ (c_By_copy l dC dI hf rf cB 4096 ff F hLf hcf (by decide) (by omega) H.size) (cwV 0 hg (gi_V kw_629 kw_630 kw_631 kw_2 kw_632) rfl rfl rfl (by decide +kernel) ⟨Nat.le_of_ble_eq_true rfl, Nat.le_of_ble_eq_true rfl⟩) (zz_preV hPc hKc hDc _ (q0 := 0) (ci := 2) rfl rfl) rfl rfl hl.1 rfl (lv_room (Nat.le_of_ble_eq_true rfl)) d_Tf_text_14 ⟨(by dsimp only; omega), (by dsimp only; omega)⟩) hS hFc (fun u b H1 k9 p9 d9 => va_joinQ (wr := [(tf, .inr (7, [.ref hf, .ref hq, .ref hs, .ref hd, .ref hp, .ref hc, .long ln])), (hs, .inr (1, [.ref rs, .int (nI AL.length), .int (nI us)])), (rs, .inl (cR, 16, .inr (.inr (.inr (.inr fR))))), (q_2, .inr (0, [.int 0, .long 0, .null]))]) hP hD [3, 4] [0, 1, 2, 5] rfl rfl (by decide) (by decide) k9 hFc p9 d9) (fun u x9 H locs hw hP hD hK1 hS => ?_)
  obtain ⟨r2, cA2, f2⟩ := u
  try dsimp only at hw
  have hK : va_K (dC, dI) vwCl [(cR, .object "TextForge$Argument"), (cB, .byte), (cB, .byte), (cA2, .byte)] s := hK.app hK1
  have hP : va_P (dC, dI) vwCl ([(tf, .inr (7, [.ref hf, .ref hq, .ref hs, .ref hd, .ref hp, .ref hc, .long ln])), (hs, .inr (1, [.ref rs, .int (nI AL.length), .int (nI us)])), (rs, .inl (cR, 16, .inr (.inr (.inr (.inr fR))))), (q_2, .inr (0, [.int 0, .long 0, .null])), (hf, .inr (2, [.ref rf, .int (nI F.length)])), (rf, .inl (cB, 4096, .inl ff)), (x9, .inr (2, [.ref r2, .int (nI F.length)])), (r2, .inl (cA2, F.length, .inl f2))] ++ (ag_W cB AL)) H := hP
  have hD : va_D A ([(tf, .inr (7, [.ref hf, .ref hq, .ref hs, .ref hd, .ref hp, .ref hc, .long ln])), (hs, .inr (1, [.ref rs, .int (nI AL.length), .int (nI us)])), (rs, .inl (cR, 16, .inr (.inr (.inr (.inr fR))))), (q_2, .inr (0, [.int 0, .long 0, .null])), (hf, .inr (2, [.ref rf, .int (nI F.length)])), (rf, .inl (cB, 4096, .inl ff)), (x9, .inr (2, [.ref r2, .int (nI F.length)])), (r2, .inl (cA2, F.length, .inl f2))] ++ (ag_W cB AL)) := hD
  have hLx := hw
  have hPc := hP.sub (ws' := [(q_2, .inr (0, [.int 0, .long 0, .null]))]) [3] rfl
  have hKc := hK.sub (tys' := []) [] rfl
  have hDc := hD.sub (ws' := [(q_2, .inr (0, [.int 0, .long 0, .null]))]) [3] (by decide) rfl
  have hFc := va_free (wc := [(q_2, .inr (0, [.int 0, .long 0, .null]))]) hD hS hA [3] rfl
  refine zz_callv (va_runI (As := [.int 3, .long 0, .ref x9]) (rest := [.ref q_2]) ⟨hx, hb, hml, hown, hg⟩ (c_Ar_initR l dC dI q_2 (.int 0) (.long 0) .null 3 0 x9  H.size) (cwI 3 hg (gi_0 kw_599) rfl rfl rfl (hg _ kw_14) (hg _ kw_597) (hg _ kw_598) rfl (by decide +kernel) ⟨Nat.le_of_ble_eq_true rfl, Nat.le_of_ble_eq_true rfl⟩) (zz_preS hPc hKc hDc _) rfl rfl hl.1 rfl (lv_room (Nat.le_of_ble_eq_true rfl)) d_Tf_text_17 ⟨(by dsimp only; omega), (by dsimp only; omega)⟩) hS hFc (fun u H1 k9 p9 d9 => va_joinQ (wr := [(tf, .inr (7, [.ref hf, .ref hq, .ref hs, .ref hd, .ref hp, .ref hc, .long ln])), (hs, .inr (1, [.ref rs, .int (nI AL.length), .int (nI us)])), (rs, .inl (cR, 16, .inr (.inr (.inr (.inr fR))))), (hf, .inr (2, [.ref rf, .int (nI F.length)])), (rf, .inl (cB, 4096, .inl ff)), (x9, .inr (2, [.ref r2, .int (nI F.length)])), (r2, .inl (cA2, F.length, .inl f2))]) hP hD [3] [0, 1, 2, 4, 5, 6, 7] rfl rfl (by decide) (by decide) k9 hFc p9 d9) (fun u H locs hw hP hD hK1 hS => ?_)
  obtain ⟨u_3, rfl⟩ : ∃ z, z = u := ⟨_, rfl⟩
  try dsimp only at hw
  have hP : va_P (dC, dI) vwCl ([(tf, .inr (7, [.ref hf, .ref hq, .ref hs, .ref hd, .ref hp, .ref hc, .long ln])), (hs, .inr (1, [.ref rs, .int (nI AL.length), .int (nI us)])), (rs, .inl (cR, 16, .inr (.inr (.inr (.inr fR))))), (hf, .inr (2, [.ref rf, .int (nI F.length)])), (rf, .inl (cB, 4096, .inl ff)), (x9, .inr (2, [.ref r2, .int (nI F.length)])), (r2, .inl (cA2, F.length, .inl f2)), (q_2, .inr (0, [.int 3, .long 0, .ref x9]))] ++ (ag_W cB AL)) H := hP
  have hD : va_D A ([(tf, .inr (7, [.ref hf, .ref hq, .ref hs, .ref hd, .ref hp, .ref hc, .long ln])), (hs, .inr (1, [.ref rs, .int (nI AL.length), .int (nI us)])), (rs, .inl (cR, 16, .inr (.inr (.inr (.inr fR))))), (hf, .inr (2, [.ref rf, .int (nI F.length)])), (rf, .inl (cB, 4096, .inl ff)), (x9, .inr (2, [.ref r2, .int (nI F.length)])), (r2, .inl (cA2, F.length, .inl f2)), (q_2, .inr (0, [.int 3, .long 0, .ref x9]))] ++ (ag_W cB AL)) := hD
  refine lv_astore_n (lv' := [(1, .ref q_2), (0, .ref tf)]) hx hb d_Tf_text_20 rfl hl (by decide) rfl (fun ls hl => ?_)
  refine lv_aload_n hx hb d_Tf_text_21 rfl (lv_at hl 1 rfl) ?_
  refine va_get (D := (dC, dI)) (ci := 7) (v := .ref hf) (C := "TextForge") (T := TX7) (N := 7) hx hb hg iwX7 hown hK hP 0 rfl rfl 0 (by decide) (hg _ kw_131) (fun _ h9 => h9) rfl d_Tf_text_22 ?_
  refine lv_iconst (v := 0) hx hb d_Tf_text_25 (by decide) ?_
  have hPc := hP.sub (ws' := [(hf, .inr (2, [.ref rf, .int (nI F.length)])), (rf, .inl (cB, 4096, .inl ff))]) [3, 4] rfl
  have hKc := hK.sub (tys' := [(cB, .byte)]) [1] rfl
  have hDc := hD.sub (ws' := [(hf, .inr (2, [.ref rf, .int (nI F.length)])), (rf, .inl (cB, 4096, .inl ff))]) [3, 4] (by decide) rfl
  have hFc := va_free (wc := [(hf, .inr (2, [.ref rf, .int (nI F.length)])), (rf, .inl (cB, 4096, .inl ff))]) hD hS hA [3, 4] rfl
  refine zz_callv (va_runV (As := [.int 0]) (rest := []) ⟨hx, hb, hml, hown, hg⟩ (c_By_cut l dC dI hf rf cB 4096 ff F 0 0 hLf hcf (by decide) rfl (by decide) H.size) (cwV 1 hg (gi_V kw_173 kw_174 kw_175 kw_2 kw_176) rfl rfl rfl (by decide +kernel) ⟨Nat.le_of_ble_eq_true rfl, Nat.le_of_ble_eq_true rfl⟩) (zz_preV hPc hKc hDc _ (q0 := 0) (ci := 2) rfl rfl) rfl rfl hl.1 rfl (lv_room (Nat.le_of_ble_eq_true rfl)) d_Tf_text_26 ⟨(by dsimp only; omega), (by dsimp only; omega)⟩) hS hFc (fun u H1 k9 p9 d9 => va_joinQ (wr := [(tf, .inr (7, [.ref hf, .ref hq, .ref hs, .ref hd, .ref hp, .ref hc, .long ln])), (hs, .inr (1, [.ref rs, .int (nI AL.length), .int (nI us)])), (rs, .inl (cR, 16, .inr (.inr (.inr (.inr fR))))), (x9, .inr (2, [.ref r2, .int (nI F.length)])), (r2, .inl (cA2, F.length, .inl f2)), (q_2, .inr (0, [.int 3, .long 0, .ref x9]))]) hP hD [3, 4] [0, 1, 2, 5, 6, 7] rfl rfl (by decide) (by decide) k9 hFc p9 d9) (fun u H locs hw hP hD hK1 hS => ?_)
  obtain ⟨f9, rfl⟩ : ∃ z, z = u := ⟨_, rfl⟩
  try dsimp only at hw
  have hP : va_P (dC, dI) vwCl ([(tf, .inr (7, [.ref hf, .ref hq, .ref hs, .ref hd, .ref hp, .ref hc, .long ln])), (hs, .inr (1, [.ref rs, .int (nI AL.length), .int (nI us)])), (rs, .inl (cR, 16, .inr (.inr (.inr (.inr fR))))), (x9, .inr (2, [.ref r2, .int (nI F.length)])), (r2, .inl (cA2, F.length, .inl f2)), (q_2, .inr (0, [.int 3, .long 0, .ref x9])), (hf, .inr (2, [.ref rf, .int (nI (List.take 0 F).length)])), (rf, .inl (cB, 4096, .inl f9))] ++ (ag_W cB AL)) H := hP
  have hD : va_D A ([(tf, .inr (7, [.ref hf, .ref hq, .ref hs, .ref hd, .ref hp, .ref hc, .long ln])), (hs, .inr (1, [.ref rs, .int (nI AL.length), .int (nI us)])), (rs, .inl (cR, 16, .inr (.inr (.inr (.inr fR))))), (x9, .inr (2, [.ref r2, .int (nI F.length)])), (r2, .inl (cA2, F.length, .inl f2)), (q_2, .inr (0, [.int 3, .long 0, .ref x9])), (hf, .inr (2, [.ref rf, .int (nI (List.take 0 F).length)])), (rf, .inl (cB, 4096, .inl f9))] ++ (ag_W cB AL)) := hD
  rw [hw] at hP hD
  have hP : va_P (dC, dI) vwCl ([(tf, .inr (7, [.ref hf, .ref hq, .ref hs, .ref hd, .ref hp, .ref hc, .long ln])), (hs, .inr (1, [.ref rs, .int (nI AL.length), .int (nI us)])), (rs, .inl (cR, 16, .inr (.inr (.inr (.inr fR))))), (x9, .inr (2, [.ref r2, .int (nI F.length)])), (r2, .inl (cA2, F.length, .inl f2)), (q_2, .inr (0, [.int 3, .long 0, .ref x9])), (hf, .inr (2, [.ref rf, .int (nI (List.take 0 F).length)])), (rf, .inl (cB, 4096, .inl ff))] ++ (ag_W cB AL)) H := hP
  have hD : va_D A ([(tf, .inr (7, [.ref hf, .ref hq, .ref hs, .ref hd, .ref hp, .ref hc, .long ln])), (hs, .inr (1, [.ref rs, .int (nI AL.length), .int (nI us)])), (rs, .inl (cR, 16, .inr (.inr (.inr (.inr fR))))), (x9, .inr (2, [.ref r2, .int (nI F.length)])), (r2, .inl (cA2, F.length, .inl f2)), (q_2, .inr (0, [.int 3, .long 0, .ref x9])), (hf, .inr (2, [.ref rf, .int (nI (List.take 0 F).length)])), (rf, .inl (cB, 4096, .inl ff))] ++ (ag_W cB AL)) := hD
  refine lv_aload_n hx hb d_Tf_text_29 rfl (lv_at hl 1 rfl) ?_
  refine va_get (D := (dC, dI)) (ci := 7) (v := .ref hs) (C := "TextForge") (T := TX7) (N := 7) hx hb hg iwX7 hown hK hP 0 rfl rfl 2 (by decide) (hg _ kw_133) (fun _ h9 => h9) rfl d_Tf_text_30 ?_
  refine lv_aload_n hx hb d_Tf_text_33 rfl (lv_at hl 0 rfl) ?_
  have hPc := hP.sub (ws' := [(hs, .inr (1, [.ref rs, .int (nI AL.length), .int (nI us)])), (rs, .inl (cR, 16, .inr (.inr (.inr (.inr fR))))), (q_2, .inr (0, [.int 3, .long 0, .ref x9]))]) [1, 2, 5] rfl
  have hKc := hK.sub (tys' := [(cR, .object "TextForge$Argument")]) [0] rfl
  have hDc := hD.sub (ws' := [(hs, .inr (1, [.ref rs, .int (nI AL.length), .int (nI us)])), (rs, .inl (cR, 16, .inr (.inr (.inr (.inr fR))))), (q_2, .inr (0, [.int 3, .long 0, .ref x9]))]) [1, 2, 5] (by decide) rfl
  have hFc := va_free (wc := [(hs, .inr (1, [.ref rs, .int (nI AL.length), .int (nI us)])), (rs, .inl (cR, 16, .inr (.inr (.inr (.inr fR))))), (q_2, .inr (0, [.int 3, .long 0, .ref x9]))]) hD hS hA [1, 2, 5] rfl
  refine zz_calli (va_runV (As := [.ref q_2]) (rest := []) ⟨hx, hb, hml, hown, hg⟩ (c_As_add l dC dI hs rs cR fR AL.length us q_2 (.int 3) (.long 0) (.ref x9) hnn H.size) (cwV 1 hg (gi_V kw_611 kw_612 kw_613 kw_4 kw_614) rfl rfl rfl (by decide +kernel) ⟨Nat.le_of_ble_eq_true rfl, Nat.le_of_ble_eq_true rfl⟩) (zz_preV hPc hKc hDc _ (q0 := 0) (ci := 1) rfl rfl) rfl rfl hl.1 rfl (lv_room (Nat.le_of_ble_eq_true rfl)) d_Tf_text_34 ⟨(by dsimp only; omega), (by dsimp only; omega)⟩) hS hFc (fun u H1 k9 p9 d9 => va_joinQ (wr := [(tf, .inr (7, [.ref hf, .ref hq, .ref hs, .ref hd, .ref hp, .ref hc, .long ln])), (x9, .inr (2, [.ref r2, .int (nI F.length)])), (r2, .inl (cA2, F.length, .inl f2)), (hf, .inr (2, [.ref rf, .int (nI (List.take 0 F).length)])), (rf, .inl (cB, 4096, .inl ff))]) hP hD [1, 2, 5] [0, 3, 4, 6, 7] rfl rfl (by decide) (by decide) k9 hFc p9 d9) (fun r_7 u H locs hw hP hD hK1 hS => ?_)
  obtain ⟨u_6, rfl⟩ : ∃ z, z = u := ⟨_, rfl⟩
  try dsimp only at hw
  have hP : va_P (dC, dI) vwCl ([(tf, .inr (7, [.ref hf, .ref hq, .ref hs, .ref hd, .ref hp, .ref hc, .long ln])), (x9, .inr (2, [.ref r2, .int (nI F.length)])), (r2, .inl (cA2, F.length, .inl f2)), (hf, .inr (2, [.ref rf, .int (nI (List.take 0 F).length)])), (rf, .inl (cB, 4096, .inl ff)), (hs, .inr (1, [.ref rs, .int (nI (AL.length + 1)), .int (nI us)])), (rs, .inl (cR, 16, .inr (.inr (.inr (.inr (va_up fR AL.length (some q_2))))))), (q_2, .inr (0, [.int 3, .long 0, .ref x9]))] ++ (ag_W cB AL)) H := hP
  have hD : va_D A ([(tf, .inr (7, [.ref hf, .ref hq, .ref hs, .ref hd, .ref hp, .ref hc, .long ln])), (x9, .inr (2, [.ref r2, .int (nI F.length)])), (r2, .inl (cA2, F.length, .inl f2)), (hf, .inr (2, [.ref rf, .int (nI (List.take 0 F).length)])), (rf, .inl (cB, 4096, .inl ff)), (hs, .inr (1, [.ref rs, .int (nI (AL.length + 1)), .int (nI us)])), (rs, .inl (cR, 16, .inr (.inr (.inr (.inr (va_up fR AL.length (some q_2))))))), (q_2, .inr (0, [.int 3, .long 0, .ref x9]))] ++ (ag_W cB AL)) := hD
  have hrr := hw
  have hP9 := hP.part (cx := [(tf, .inr (7, [.ref hf, .ref hq, .ref hs, .ref hd, .ref hp, .ref hc, .long ln])), (hs, .inr (1, [.ref rs, .int (nI (AL.length + 1)), .int (nI us)])), (rs, .inl (cR, 16, .inr (.inr (.inr (.inr (va_up fR AL.length (some q_2))))))), (hf, .inr (2, [.ref rf, .int (nI (List.take 0 F).length)])), (rf, .inl (cB, 4096, .inl ff)), (q_2, .inr (0, [.int 3, .long 0, .ref x9])), (x9, .inr (2, [.ref r2, .int (nI F.length)])), (r2, .inl (cA2, F.length, .inl f2))]) [0, 5, 6, 3, 4, 7, 1, 2] rfl
  have hD9 := hD.part (cx := [(tf, .inr (7, [.ref hf, .ref hq, .ref hs, .ref hd, .ref hp, .ref hc, .long ln])), (hs, .inr (1, [.ref rs, .int (nI (AL.length + 1)), .int (nI us)])), (rs, .inl (cR, 16, .inr (.inr (.inr (.inr (va_up fR AL.length (some q_2))))))), (hf, .inr (2, [.ref rf, .int (nI (List.take 0 F).length)])), (rf, .inl (cB, 4096, .inl ff)), (q_2, .inr (0, [.int 3, .long 0, .ref x9])), (x9, .inr (2, [.ref r2, .int (nI F.length)])), (r2, .inl (cA2, F.length, .inl f2))]) [0, 5, 6, 3, 4, 7, 1, 2] (by decide) rfl
  rw [(va_Ksm hK 3 2 rfl rfl : cA2 = cB)] at hP9 hD9
  obtain ⟨hP9, hD9⟩ := ag_push cB (AL := AL) (g := (q_2, 3, 0, x9, r2, f2, F)) (X := [(tf, .inr (7, [.ref hf, .ref hq, .ref hs, .ref hd, .ref hp, .ref hc, .long ln])), (hs, .inr (1, [.ref rs, .int (nI (AL.length + 1)), .int (nI us)])), (rs, .inl (cR, 16, .inr (.inr (.inr (.inr (va_up fR AL.length (some q_2))))))), (hf, .inr (2, [.ref rf, .int (nI (List.take 0 F).length)])), (rf, .inl (cB, 4096, .inl ff))]) (ck := [(q_2, .inr (0, [.int 3, .long 0, .ref x9])), (x9, .inr (2, [.ref r2, .int (nI F.length)])), (r2, .inl (cB, F.length, .inl f2))]) rfl hP9 hD9
  have hK9 := hK.sub (tys' := [(cR, .object "TextForge$Argument"), (cB, .byte)]) [0, 1] rfl
  exact zz_iret hx hb hr hlocks d_Tf_text_37 hS (by first | exact Nat.le_refl _ | decide | omega | (dsimp only; omega)) (by first | exact Nat.le_refl _ | decide | omega | (dsimp only; omega)) (q_2, x9, r2, f2) ⟨hrr, hLx⟩ hP9 hK9 hD9
set_option maxHeartbeats 4000000 in
set_option maxRecDepth 100000 in
theorem c_Tf_textT (l : Launch) (dC : Nat → ClassId) (dI : Nat → Nat → Nat) (ad : Nat → Nat) (tf hf hq hs hd hp hc : Nat) (ln : Int64) (rs : Nat) (cR : ClassId) (fR : Nat → Option Nat) (n us : Nat) (hnt : l.flags = pinnedFlags ++ [noTraceFlag]) (hnn : n = 16) (hus : us < 1000000) : yT ad l y_Tf_text w_Tf_text { frames := 7, cells := 1, slots := 6, locals := 102 } (dC, dI) vwCl [.ref tf] [(tf, .inr (7, [.ref hf, .ref hq, .ref hs, .ref hd, .ref hp, .ref hc, .long ln])), (hs, .inr (1, [.ref rs, .int (nI n), .int (nI us)])), (rs, .inl (cR, 16, .inr (.inr (.inr (.inr fR)))))] [(cR, .object "TextForge$Argument")] "java/lang/IllegalStateException" := by
  refine zy_enterT (cc := prog_1_method_6_code) (nL := 2) (ret := (some .int)) (by decide) rfl (Nat.le_of_ble_eq_true rfl) ?_
  intro p e s m below meth c ls C0 hexc hP hK hl hX
  obtain ⟨hx, hb, hml, hown, hg, hr, hlocks, hin⟩ := C0
  have hS : va_S (fun _ => False) s.heap s.heap [] := va_S.rf
  have hown : s.vm.findClass "TextForge" = some m.cls := hown
  have hP : va_P (dC, dI) vwCl [(tf, .inr (7, [.ref hf, .ref hq, .ref hs, .ref hd, .ref hp, .ref hc, .long ln])), (hs, .inr (1, [.ref rs, .int (nI n), .int (nI us)])), (rs, .inl (cR, 16, .inr (.inr (.inr (.inr fR)))))] s.heap := hP
  have hK : va_K (dC, dI) vwCl [(cR, .object "TextForge$Argument")] s := hK
  have hl : lv_has ls 2 [(0, .ref tf)] := hl
  refine lv_aload_n hx hb d_Tf_text_0 rfl (lv_at hl 0 rfl) ?_
  have hPc := hP.sub (ws' := [(tf, .inr (7, [.ref hf, .ref hq, .ref hs, .ref hd, .ref hp, .ref hc, .long ln])), (hs, .inr (1, [.ref rs, .int (nI n), .int (nI us)])), (rs, .inl (cR, 16, .inr (.inr (.inr (.inr fR)))))]) [0, 1, 2] rfl
  have hKc := hK.sub (tys' := [(cR, .object "TextForge$Argument")]) [0] rfl
  exact tx_prop (As := []) (rest := []) ⟨hx, hb, hml, hown, hg⟩ (c_Tf_reqT l dC dI ad tf hf hq hs hd hp hc ln rs cR fR n us hnt hnn hus) (cwV 0 hg (gi_V kw_520 kw_522 sw_7 kw_1 kw_523) rfl rfl rfl (by decide +kernel) ⟨Nat.le_of_ble_eq_true rfl, Nat.le_of_ble_eq_true rfl⟩) (zy_prJV hX hS hPc hKc _ (q0 := 0) (ci := 7) rfl rfl) rfl hl.1 rfl (Nat.le_of_ble_eq_true rfl) d_Tf_text_1 ⟨(Nat.le_of_ble_eq_true rfl), (Nat.le_of_ble_eq_true rfl)⟩ hexc hlocks
abbrev y_Tf_code : MethodName := ⟨"TextForge", "code", "(II)I"⟩
abbrev w_Tf_code : List Cond := Cond.code y_Tf_code prog_1_method_16_code 3 (some .int) :: gw
theorem d_Tf_code_0 : decode prog_1_method_16_code 0 = .ok (.iload_n 1, 1) := by decide +kernel
theorem d_Tf_code_1 : decode prog_1_method_16_code 1 = .ok (.ifCond .lt 23, 3) := by decide +kernel
theorem d_Tf_code_4 : decode prog_1_method_16_code 4 = .ok (.iload_n 1, 1) := by decide +kernel
theorem d_Tf_code_5 : decode prog_1_method_16_code 5 = .ok (.aload_n 0, 1) := by decide +kernel
theorem d_Tf_code_6 : decode prog_1_method_16_code 6 = .ok (.getfield 45, 3) := by decide +kernel
theorem d_Tf_code_9 : decode prog_1_method_16_code 9 = .ok (.invokevirtual 155, 3) := by decide +kernel
theorem d_Tf_code_12 : decode prog_1_method_16_code 12 = .ok (.if_icmp .ge 12, 3) := by decide +kernel
theorem d_Tf_code_15 : decode prog_1_method_16_code 15 = .ok (.iload_n 2, 1) := by decide +kernel
theorem d_Tf_code_16 : decode prog_1_method_16_code 16 = .ok (.ifCond .lt 8, 3) := by decide +kernel
theorem d_Tf_code_19 : decode prog_1_method_16_code 19 = .ok (.iload_n 2, 1) := by decide +kernel
theorem d_Tf_code_20 : decode prog_1_method_16_code 20 = .ok (.iconst 2, 1) := by decide +kernel
theorem d_Tf_code_21 : decode prog_1_method_16_code 21 = .ok (.if_icmp .le 13, 3) := by decide +kernel
theorem d_Tf_code_24 : decode prog_1_method_16_code 24 = .ok (.new 156, 3) := by decide +kernel
theorem d_Tf_code_27 : decode prog_1_method_16_code 27 = .ok (.dup, 1) := by decide +kernel
theorem d_Tf_code_28 : decode prog_1_method_16_code 28 = .ok (.ldc 158, 2) := by decide +kernel
theorem d_Tf_code_30 : decode prog_1_method_16_code 30 = .ok (.invokespecial 160, 3) := by decide +kernel
theorem d_Tf_code_33 : decode prog_1_method_16_code 33 = .ok (.athrow, 1) := by decide +kernel
theorem d_Tf_code_34 : decode prog_1_method_16_code 34 = .ok (.iload_n 2, 1) := by decide +kernel
theorem d_Tf_code_35 : decode prog_1_method_16_code 35 = .ok (.ifCond .ne 12, 3) := by decide +kernel
theorem d_Tf_code_38 : decode prog_1_method_16_code 38 = .ok (.aload_n 0, 1) := by decide +kernel
theorem d_Tf_code_39 : decode prog_1_method_16_code 39 = .ok (.getfield 45, 3) := by decide +kernel
theorem d_Tf_code_42 : decode prog_1_method_16_code 42 = .ok (.iload_n 1, 1) := by decide +kernel
theorem d_Tf_code_43 : decode prog_1_method_16_code 43 = .ok (.invokevirtual 161, 3) := by decide +kernel
theorem d_Tf_code_46 : decode prog_1_method_16_code 46 = .ok (.ireturn, 1) := by decide +kernel
theorem d_Tf_code_47 : decode prog_1_method_16_code 47 = .ok (.iload_n 2, 1) := by decide +kernel
theorem d_Tf_code_48 : decode prog_1_method_16_code 48 = .ok (.iconst 1, 1) := by decide +kernel
theorem d_Tf_code_49 : decode prog_1_method_16_code 49 = .ok (.if_icmp .ne 14, 3) := by decide +kernel
theorem d_Tf_code_52 : decode prog_1_method_16_code 52 = .ok (.aload_n 0, 1) := by decide +kernel
theorem d_Tf_code_53 : decode prog_1_method_16_code 53 = .ok (.getfield 45, 3) := by decide +kernel
theorem d_Tf_code_56 : decode prog_1_method_16_code 56 = .ok (.iload_n 1, 1) := by decide +kernel
theorem d_Tf_code_57 : decode prog_1_method_16_code 57 = .ok (.invokevirtual 164, 3) := by decide +kernel
theorem d_Tf_code_60 : decode prog_1_method_16_code 60 = .ok (.goto 11, 3) := by decide +kernel
theorem d_Tf_code_63 : decode prog_1_method_16_code 63 = .ok (.aload_n 0, 1) := by decide +kernel
theorem d_Tf_code_64 : decode prog_1_method_16_code 64 = .ok (.getfield 45, 3) := by decide +kernel
theorem d_Tf_code_67 : decode prog_1_method_16_code 67 = .ok (.iload_n 1, 1) := by decide +kernel
theorem d_Tf_code_68 : decode prog_1_method_16_code 68 = .ok (.invokevirtual 167, 3) := by decide +kernel
theorem d_Tf_code_71 : decode prog_1_method_16_code 71 = .ok (.ireturn, 1) := by decide +kernel
set_option maxHeartbeats 4000000 in
set_option maxRecDepth 100000 in
theorem c_Tf_code (l : Launch) (dC : Nat → ClassId) (dI : Nat → Nat → Nat) (tf hf hq hs hd hp hc : Nat) (ln : Int64) (rv rp : Nat) (cI : ClassId) (nv : Nat) (fv fp : Nat → Int32) (kn : Nat) (j w : Nat) (o : Option Nat) (hkn : kn ≤ nv) (hnv : nv < 1000000) (hj : j < kn) (hw2 : w ≤ 2) (hfo : fv j = ut_v o) (ho : cd_ok o) : zR_i l y_Tf_code w_Tf_code { frames := 3, cells := 0, slots := 0, locals := 63 } (dC, dI) vwCl [.ref tf, .int (nI j), .int (nI w)] [(tf, .inr (7, [.ref hf, .ref hq, .ref hs, .ref hd, .ref hp, .ref hc, .long ln])), (hc, .inr (3, [.ref rv, .ref rp, .int (nI kn)])), (rv, .inl (cI, nv, .inl fv)), (rp, .inl (cI, nv, .inl fp))] [(cI, .int)] (fun r : Int32 => r = if w = 0 then nI (cd_v o) else if w = 1 then fp j else nI (ut_bo o)) := by
  refine zz_enterR (cc := prog_1_method_16_code) (nL := 3) (ret := (some .int)) (by decide) rfl (Nat.le_of_ble_eq_true rfl) ?_
  intro p e s m below meth c ls C0 hP hK hl
  obtain ⟨hx, hb, hml, hown, hg, hr, hlocks, hin⟩ := C0
  have hS : va_S (fun _ => False) s.heap s.heap [] := va_S.rf
  have hown : s.vm.findClass "TextForge" = some m.cls := hown
  have hP : va_P (dC, dI) vwCl [(tf, .inr (7, [.ref hf, .ref hq, .ref hs, .ref hd, .ref hp, .ref hc, .long ln])), (hc, .inr (3, [.ref rv, .ref rp, .int (nI kn)])), (rv, .inl (cI, nv, .inl fv)), (rp, .inl (cI, nv, .inl fp))] s.heap := hP
  have hK : va_K (dC, dI) vwCl [(cI, .int)] s := hK
  have hl : lv_has ls 3 [(0, .ref tf), (1, .int (nI j)), (2, .int (nI w))] := hl
  refine lv_iload_n hx hb d_Tf_code_0 rfl (lv_at hl 1 rfl) ?_
  refine lv_if_lt (tgt := 24) hx hb d_Tf_code_1 (by decide) (fun c9 => by first | exact absurd c9 (nI_pos (by omega)) | exact absurd (nI_pos (by omega)) c9) (fun _ => ?_)
  refine lv_iload_n hx hb d_Tf_code_4 rfl (lv_at hl 1 rfl) ?_
  refine lv_aload_n hx hb d_Tf_code_5 rfl (lv_at hl 0 rfl) ?_
  refine va_get (D := (dC, dI)) (ci := 7) (v := .ref hc) (C := "TextForge") (T := TX7) (N := 7) hx hb hg iwX7 hown hK hP 0 rfl rfl 5 (by decide) (hg _ kw_136) (fun _ h9 => h9) rfl d_Tf_code_6 ?_
  have hPc := hP.sub (ws' := [(hc, .inr (3, [.ref rv, .ref rp, .int (nI kn)]))]) [1] rfl
  have hKc := hK.sub (tys' := []) [] rfl
  refine vp_callSi (W.runV (As := []) (rest := [.int (nI j)]) ⟨hx, hb, hml, hown, hg⟩ (c_Cd_count l dC dI hc (.ref rv) (.ref rp) (nI kn) ) (cwV 0 hg (gi_V kw_504 kw_505 kw_506 kw_8 kw_507) rfl rfl rfl (by decide +kernel) ⟨Nat.le_of_ble_eq_true rfl, Nat.le_of_ble_eq_true rfl⟩) (zz_prJV hPc hKc _ (q0 := 0) (ci := 3) rfl rfl) rfl rfl hl.1 rfl (lv_room (Nat.le_of_ble_eq_true rfl)) d_Tf_code_9 ⟨Nat.le_of_ble_eq_true rfl, Nat.le_of_ble_eq_true rfl⟩) (fun r_1 hr_1 => ?_)
  subst hr_1
  refine lv_icmp_ge (tgt := 24) hx hb d_Tf_code_12 (by decide) (fun c9 => by first | exact absurd c9 (nI_ge hj (by omega)) | exact absurd (nI_ge hj (by omega)) c9) (fun _ => ?_)
  refine lv_iload_n hx hb d_Tf_code_15 rfl (lv_at hl 2 rfl) ?_
  refine lv_if_lt (tgt := 24) hx hb d_Tf_code_16 (by decide) (fun c9 => by first | exact absurd c9 (nI_pos (by omega)) | exact absurd (nI_pos (by omega)) c9) (fun _ => ?_)
  refine lv_iload_n hx hb d_Tf_code_19 rfl (lv_at hl 2 rfl) ?_
  refine lv_iconst (v := 2) hx hb d_Tf_code_20 (by decide) ?_
  refine lv_icmp_le (tgt := 34) hx hb d_Tf_code_21 (by decide) (fun _ => ?_) (fun c9 => by first | exact absurd c9 (nI_le hw2 (by decide)) | exact absurd (nI_le hw2 (by decide)) c9)
  refine lv_iload_n hx hb d_Tf_code_34 rfl (lv_at hl 2 rfl) ?_
  refine lv_if_ne (tgt := 47) hx hb d_Tf_code_35 (by decide) (fun c_35 => ?_) (fun c_35 => ?_)
  · skip
    have f_35 : w ≠ 0 := nI_ne (b := 0) c_35
    refine lv_iload_n hx hb d_Tf_code_47 rfl (lv_at hl 2 rfl) ?_
    refine lv_iconst (v := 1) hx hb d_Tf_code_48 (by decide) ?_
    refine lv_icmp_ne (tgt := 63) hx hb d_Tf_code_49 (by decide) (fun c_49 => ?_) (fun c_49 => ?_)
    · skip
      have f_49 : w ≠ 1 := nI_ne (b := 1) c_49
      refine lv_aload_n hx hb d_Tf_code_63 rfl (lv_at hl 0 rfl) ?_
      refine va_get (D := (dC, dI)) (ci := 7) (v := .ref hc) (C := "TextForge") (T := TX7) (N := 7) hx hb hg iwX7 hown hK hP 0 rfl rfl 5 (by decide) (hg _ kw_136) (fun _ h9 => h9) rfl d_Tf_code_64 ?_
      refine lv_iload_n hx hb d_Tf_code_67 rfl (lv_at hl 1 rfl) ?_
      have hPc := hP.sub (ws' := [(hc, .inr (3, [.ref rv, .ref rp, .int (nI kn)])), (rv, .inl (cI, nv, .inl fv)), (rp, .inl (cI, nv, .inl fp))]) [1, 2, 3] rfl
      have hKc := hK.sub (tys' := [(cI, .int), (cI, .int)]) [0, 0] rfl
      refine vp_callSi (W.runV (As := [.int (nI j)]) (rest := []) ⟨hx, hb, hml, hown, hg⟩ (c_Cd_bytesOf l dC dI hc rv rp cI cI nv fv fp (nI kn) j o (by omega) hnv hfo ho) (cwV 1 hg (gi_V kw_710 kw_496 kw_497 kw_8 kw_498) rfl rfl rfl (by decide +kernel) ⟨Nat.le_of_ble_eq_true rfl, Nat.le_of_ble_eq_true rfl⟩) (zz_prJV hPc hKc _ (q0 := 0) (ci := 3) rfl rfl) rfl rfl hl.1 rfl (lv_room (Nat.le_of_ble_eq_true rfl)) d_Tf_code_68 ⟨Nat.le_of_ble_eq_true rfl, Nat.le_of_ble_eq_true rfl⟩) (fun r_2 hr_2 => ?_)
      subst hr_2
      exact zz_iretR hx hb hr hlocks d_Tf_code_71 (by rw [if_neg f_35, if_neg f_49])
    · skip
      have f_49 : w = 1 := nI_e1 (b := 1) c_49 (by omega) (by omega)
      refine lv_aload_n hx hb d_Tf_code_52 rfl (lv_at hl 0 rfl) ?_
      refine va_get (D := (dC, dI)) (ci := 7) (v := .ref hc) (C := "TextForge") (T := TX7) (N := 7) hx hb hg iwX7 hown hK hP 0 rfl rfl 5 (by decide) (hg _ kw_136) (fun _ h9 => h9) rfl d_Tf_code_53 ?_
      refine lv_iload_n hx hb d_Tf_code_56 rfl (lv_at hl 1 rfl) ?_
      have hPc := hP.sub (ws' := [(hc, .inr (3, [.ref rv, .ref rp, .int (nI kn)])), (rv, .inl (cI, nv, .inl fv)), (rp, .inl (cI, nv, .inl fp))]) [1, 2, 3] rfl
      have hKc := hK.sub (tys' := [(cI, .int), (cI, .int)]) [0, 0] rfl
      refine vp_callSi (W.runV (As := [.int (nI j)]) (rest := []) ⟨hx, hb, hml, hown, hg⟩ (c_Cd_placeOf l dC dI hc rv rp cI cI nv fv fp (nI kn) j (by omega) hnv) (cwV 1 hg (gi_V kw_706 kw_707 kw_708 kw_8 kw_709) rfl rfl rfl (by decide +kernel) ⟨Nat.le_of_ble_eq_true rfl, Nat.le_of_ble_eq_true rfl⟩) (zz_prJV hPc hKc _ (q0 := 0) (ci := 3) rfl rfl) rfl rfl hl.1 rfl (lv_room (Nat.le_of_ble_eq_true rfl)) d_Tf_code_57 ⟨Nat.le_of_ble_eq_true rfl, Nat.le_of_ble_eq_true rfl⟩) (fun r_3 hr_3 => ?_)
      subst hr_3
      refine lv_goto (tgt := 71) hx hb d_Tf_code_60 (by decide) ?_
      exact zz_iretR hx hb hr hlocks d_Tf_code_71 (by rw [if_neg f_35, if_pos f_49])
  · skip
    have f_35 : w = 0 := nI_e1 (b := 0) c_35 (by omega) (by omega)
    refine lv_aload_n hx hb d_Tf_code_38 rfl (lv_at hl 0 rfl) ?_
    refine va_get (D := (dC, dI)) (ci := 7) (v := .ref hc) (C := "TextForge") (T := TX7) (N := 7) hx hb hg iwX7 hown hK hP 0 rfl rfl 5 (by decide) (hg _ kw_136) (fun _ h9 => h9) rfl d_Tf_code_39 ?_
    refine lv_iload_n hx hb d_Tf_code_42 rfl (lv_at hl 1 rfl) ?_
    have hPc := hP.sub (ws' := [(hc, .inr (3, [.ref rv, .ref rp, .int (nI kn)])), (rv, .inl (cI, nv, .inl fv)), (rp, .inl (cI, nv, .inl fp))]) [1, 2, 3] rfl
    have hKc := hK.sub (tys' := [(cI, .int), (cI, .int)]) [0, 0] rfl
    refine vp_callSi (W.runV (As := [.int (nI j)]) (rest := []) ⟨hx, hb, hml, hown, hg⟩ (c_Cd_valueOf l dC dI hc rv rp cI cI nv fv fp (nI kn) j o (by omega) hnv hfo ho) (cwV 1 hg (gi_V kw_701 kw_702 kw_703 kw_8 kw_704) rfl rfl rfl (by decide +kernel) ⟨Nat.le_of_ble_eq_true rfl, Nat.le_of_ble_eq_true rfl⟩) (zz_prJV hPc hKc _ (q0 := 0) (ci := 3) rfl rfl) rfl rfl hl.1 rfl (lv_room (Nat.le_of_ble_eq_true rfl)) d_Tf_code_43 ⟨Nat.le_of_ble_eq_true rfl, Nat.le_of_ble_eq_true rfl⟩) (fun r_4 hr_4 => ?_)
    subst hr_4
    exact zz_iretR hx hb hr hlocks d_Tf_code_46 (by rw [if_pos f_35])
set_option maxHeartbeats 4000000 in
set_option maxRecDepth 100000 in
theorem c_Tf_codeT (l : Launch) (dC : Nat → ClassId) (dI : Nat → Nat → Nat) (ad : Nat → Nat) (tf hf hq hs hd hp hc : Nat) (ln : Int64) (rv rp : Nat) (cI : ClassId) (nv : Nat) (fv fp : Nat → Int32) (kn : Nat) (v w : Int32) (hnt : l.flags = pinnedFlags ++ [noTraceFlag]) (hbad : v < 0 ∨ nI kn ≤ v ∨ w < 0 ∨ ¬ w ≤ 2) : yT ad l y_Tf_code w_Tf_code { frames := 6, cells := 1, slots := 6, locals := 82 } (dC, dI) vwCl [.ref tf, .int v, .int w] [(tf, .inr (7, [.ref hf, .ref hq, .ref hs, .ref hd, .ref hp, .ref hc, .long ln])), (hc, .inr (3, [.ref rv, .ref rp, .int (nI kn)])), (rv, .inl (cI, nv, .inl fv)), (rp, .inl (cI, nv, .inl fp))] [(cI, .int)] "java/util/NoSuchElementException" := by
  refine zy_enterT (cc := prog_1_method_16_code) (nL := 3) (ret := (some .int)) (by decide) rfl (Nat.le_of_ble_eq_true rfl) ?_
  intro p e s m below meth c ls C0 hexc hP hK hl hX
  obtain ⟨hx, hb, hml, hown, hg, hr, hlocks, hin⟩ := C0
  have hS : va_S (fun _ => False) s.heap s.heap [] := va_S.rf
  have hown : s.vm.findClass "TextForge" = some m.cls := hown
  have hP : va_P (dC, dI) vwCl [(tf, .inr (7, [.ref hf, .ref hq, .ref hs, .ref hd, .ref hp, .ref hc, .long ln])), (hc, .inr (3, [.ref rv, .ref rp, .int (nI kn)])), (rv, .inl (cI, nv, .inl fv)), (rp, .inl (cI, nv, .inl fp))] s.heap := hP
  have hK : va_K (dC, dI) vwCl [(cI, .int)] s := hK
  have hl : lv_has ls 3 [(0, .ref tf), (1, .int v), (2, .int w)] := hl
  refine lv_iload_n hx hb d_Tf_code_0 rfl (lv_at hl 1 rfl) ?_
  refine lv_if_lt (tgt := 24) hx hb d_Tf_code_1 (by decide) (fun c_1 => ?_) (fun c_1 => ?_)
  · skip
    exact tx_throw hx hb hml hl.1 hexc hlocks hnt hown (by decide +kernel) (by decide +kernel) (by decide +kernel) (by decide +kernel) (by decide +kernel) (tx_NSE hg hX.2.2.2.2.2) (hg _ kw_685) (hg _ kw_22) (show vk_R "TextForge" 158 "no such code, or nothing of it by this number" (ad 18) s from (hX.2.1 18 (by decide)).1) d_Tf_code_24 d_Tf_code_27 d_Tf_code_28 d_Tf_code_30 d_Tf_code_33 (Nat.le_of_ble_eq_true rfl) (Nat.le_of_ble_eq_true rfl) (Nat.le_of_ble_eq_true rfl) (Nat.le_of_ble_eq_true rfl)
  · skip
    refine lv_iload_n hx hb d_Tf_code_4 rfl (lv_at hl 1 rfl) ?_
    refine lv_aload_n hx hb d_Tf_code_5 rfl (lv_at hl 0 rfl) ?_
    refine va_get (D := (dC, dI)) (ci := 7) (v := .ref hc) (C := "TextForge") (T := TX7) (N := 7) hx hb hg iwX7 hown hK hP 0 rfl rfl 5 (by decide) (hg _ kw_136) (fun _ h9 => h9) rfl d_Tf_code_6 ?_
    have hPc := hP.sub (ws' := [(hc, .inr (3, [.ref rv, .ref rp, .int (nI kn)]))]) [1] rfl
    have hKc := hK.sub (tys' := []) [] rfl
    refine vp_callSi (W.runV (As := []) (rest := [.int v]) ⟨hx, hb, hml, hown, hg⟩ (c_Cd_count l dC dI hc (.ref rv) (.ref rp) (nI kn) ) (cwV 0 hg (gi_V kw_504 kw_505 kw_506 kw_8 kw_507) rfl rfl rfl (by decide +kernel) ⟨Nat.le_of_ble_eq_true rfl, Nat.le_of_ble_eq_true rfl⟩) (zz_prJV hPc hKc _ (q0 := 0) (ci := 3) rfl rfl) rfl rfl hl.1 rfl (lv_room (Nat.le_of_ble_eq_true rfl)) d_Tf_code_9 ⟨Nat.le_of_ble_eq_true rfl, Nat.le_of_ble_eq_true rfl⟩) (fun r_1 hr_1 => ?_)
    subst hr_1
    refine lv_icmp_ge (tgt := 24) hx hb d_Tf_code_12 (by decide) (fun c_12 => ?_) (fun c_12 => ?_)
    · skip
      exact tx_throw hx hb hml hl.1 hexc hlocks hnt hown (by decide +kernel) (by decide +kernel) (by decide +kernel) (by decide +kernel) (by decide +kernel) (tx_NSE hg hX.2.2.2.2.2) (hg _ kw_685) (hg _ kw_22) (show vk_R "TextForge" 158 "no such code, or nothing of it by this number" (ad 18) s from (hX.2.1 18 (by decide)).1) d_Tf_code_24 d_Tf_code_27 d_Tf_code_28 d_Tf_code_30 d_Tf_code_33 (Nat.le_of_ble_eq_true rfl) (Nat.le_of_ble_eq_true rfl) (Nat.le_of_ble_eq_true rfl) (Nat.le_of_ble_eq_true rfl)
    · skip
      refine lv_iload_n hx hb d_Tf_code_15 rfl (lv_at hl 2 rfl) ?_
      refine lv_if_lt (tgt := 24) hx hb d_Tf_code_16 (by decide) (fun c_16 => ?_) (fun c_16 => ?_)
      · skip
        exact tx_throw hx hb hml hl.1 hexc hlocks hnt hown (by decide +kernel) (by decide +kernel) (by decide +kernel) (by decide +kernel) (by decide +kernel) (tx_NSE hg hX.2.2.2.2.2) (hg _ kw_685) (hg _ kw_22) (show vk_R "TextForge" 158 "no such code, or nothing of it by this number" (ad 18) s from (hX.2.1 18 (by decide)).1) d_Tf_code_24 d_Tf_code_27 d_Tf_code_28 d_Tf_code_30 d_Tf_code_33 (Nat.le_of_ble_eq_true rfl) (Nat.le_of_ble_eq_true rfl) (Nat.le_of_ble_eq_true rfl) (Nat.le_of_ble_eq_true rfl)
      · skip
        refine lv_iload_n hx hb d_Tf_code_19 rfl (lv_at hl 2 rfl) ?_
        refine lv_iconst (v := 2) hx hb d_Tf_code_20 (by decide) ?_
        refine lv_icmp_le (tgt := 34) hx hb d_Tf_code_21 (by decide) (fun c_21 => ?_) (fun c_21 => ?_)
        · skip
          rcases hbad with h9 | h9 | h9 | h9
          · exact absurd h9 c_1
          · exact absurd h9 c_12
          · exact absurd h9 c_16
          · exact absurd c_21 h9
        · skip
          exact tx_throw hx hb hml hl.1 hexc hlocks hnt hown (by decide +kernel) (by decide +kernel) (by decide +kernel) (by decide +kernel) (by decide +kernel) (tx_NSE hg hX.2.2.2.2.2) (hg _ kw_685) (hg _ kw_22) (show vk_R "TextForge" 158 "no such code, or nothing of it by this number" (ad 18) s from (hX.2.1 18 (by decide)).1) d_Tf_code_24 d_Tf_code_27 d_Tf_code_28 d_Tf_code_30 d_Tf_code_33 (Nat.le_of_ble_eq_true rfl) (Nat.le_of_ble_eq_true rfl) (Nat.le_of_ble_eq_true rfl) (Nat.le_of_ble_eq_true rfl)
abbrev y_Tf_byteOf : MethodName := ⟨"TextForge", "byteOf", "(I)I"⟩
abbrev w_Tf_byteOf : List Cond := Cond.code y_Tf_byteOf prog_1_method_18_code 3 (some .int) :: gw
theorem d_Tf_byteOf_0 : decode prog_1_method_18_code 0 = .ok (.aload_n 0, 1) := by decide +kernel
theorem d_Tf_byteOf_1 : decode prog_1_method_18_code 1 = .ok (.getfield 18, 3) := by decide +kernel
theorem d_Tf_byteOf_4 : decode prog_1_method_18_code 4 = .ok (.iload_n 1, 1) := by decide +kernel
theorem d_Tf_byteOf_5 : decode prog_1_method_18_code 5 = .ok (.invokevirtual 92, 3) := by decide +kernel
theorem d_Tf_byteOf_8 : decode prog_1_method_18_code 8 = .ok (.istore_n 2, 1) := by decide +kernel
theorem d_Tf_byteOf_9 : decode prog_1_method_18_code 9 = .ok (.iload_n 2, 1) := by decide +kernel
theorem d_Tf_byteOf_10 : decode prog_1_method_18_code 10 = .ok (.iconst (-1), 1) := by decide +kernel
theorem d_Tf_byteOf_11 : decode prog_1_method_18_code 11 = .ok (.if_icmp .ne 13, 3) := by decide +kernel
theorem d_Tf_byteOf_14 : decode prog_1_method_18_code 14 = .ok (.new 156, 3) := by decide +kernel
theorem d_Tf_byteOf_17 : decode prog_1_method_18_code 17 = .ok (.dup, 1) := by decide +kernel
theorem d_Tf_byteOf_18 : decode prog_1_method_18_code 18 = .ok (.ldc 170, 2) := by decide +kernel
theorem d_Tf_byteOf_20 : decode prog_1_method_18_code 20 = .ok (.invokespecial 160, 3) := by decide +kernel
theorem d_Tf_byteOf_23 : decode prog_1_method_18_code 23 = .ok (.athrow, 1) := by decide +kernel
theorem d_Tf_byteOf_24 : decode prog_1_method_18_code 24 = .ok (.iload_n 2, 1) := by decide +kernel
theorem d_Tf_byteOf_25 : decode prog_1_method_18_code 25 = .ok (.ireturn, 1) := by decide +kernel
set_option maxHeartbeats 4000000 in
set_option maxRecDepth 100000 in
theorem c_Tf_byteOf (l : Launch) (dC : Nat → ClassId) (dI : Nat → Nat → Nat) (tf hf hq hs hd hp hc : Nat) (ln : Int64) (rq : Nat) (cB : ClassId) (fq : Nat → Int32) (G : List Nat) (i : Nat) (hLq : by_L G fq) (hcq : G.length ≤ 4195) (hi : i < G.length) : zR_i l y_Tf_byteOf w_Tf_byteOf { frames := 1, cells := 0, slots := 0, locals := 21 } (dC, dI) vwCl [.ref tf, .int (nI i)] [(tf, .inr (7, [.ref hf, .ref hq, .ref hs, .ref hd, .ref hp, .ref hc, .long ln])), (hq, .inr (2, [.ref rq, .int (nI G.length)])), (rq, .inl (cB, 4195, .inl fq))] [(cB, .byte)] (fun r : Int32 => r = nI (G.getD i 0)) := by
  refine zz_enterR (cc := prog_1_method_18_code) (nL := 3) (ret := (some .int)) (by decide) rfl (Nat.le_of_ble_eq_true rfl) ?_
  intro p e s m below meth c ls C0 hP hK hl
  obtain ⟨hx, hb, hml, hown, hg, hr, hlocks, hin⟩ := C0
  have hS : va_S (fun _ => False) s.heap s.heap [] := va_S.rf
  have hown : s.vm.findClass "TextForge" = some m.cls := hown
  have hP : va_P (dC, dI) vwCl [(tf, .inr (7, [.ref hf, .ref hq, .ref hs, .ref hd, .ref hp, .ref hc, .long ln])), (hq, .inr (2, [.ref rq, .int (nI G.length)])), (rq, .inl (cB, 4195, .inl fq))] s.heap := hP
  have hK : va_K (dC, dI) vwCl [(cB, .byte)] s := hK
  have hl : lv_has ls 3 [(0, .ref tf), (1, .int (nI i))] := hl
  refine lv_aload_n hx hb d_Tf_byteOf_0 rfl (lv_at hl 0 rfl) ?_
  refine va_get (D := (dC, dI)) (ci := 7) (v := .ref hq) (C := "TextForge") (T := TX7) (N := 7) hx hb hg iwX7 hown hK hP 0 rfl rfl 1 (by decide) (hg _ kw_132) (fun _ h9 => h9) rfl d_Tf_byteOf_1 ?_
  refine lv_iload_n hx hb d_Tf_byteOf_4 rfl (lv_at hl 1 rfl) ?_
  have hPc := hP.sub (ws' := [(hq, .inr (2, [.ref rq, .int (nI G.length)])), (rq, .inl (cB, 4195, .inl fq))]) [1, 2] rfl
  have hKc := hK.sub (tys' := [(cB, .byte)]) [0] rfl
  refine vp_callSi (W.runV (As := [.int (nI i)]) (rest := []) ⟨hx, hb, hml, hown, hg⟩ (c_By_at l dC dI hq rq cB 4195 fq G (nI i) hLq hcq (by decide)) (cwV 1 hg (gi_V kw_193 kw_194 kw_195 kw_2 kw_196) rfl rfl rfl (by decide +kernel) ⟨Nat.le_of_ble_eq_true rfl, Nat.le_of_ble_eq_true rfl⟩) (zz_prJV hPc hKc _ (q0 := 0) (ci := 2) rfl rfl) rfl rfl hl.1 rfl (lv_room (Nat.le_of_ble_eq_true rfl)) d_Tf_byteOf_5 ⟨Nat.le_of_ble_eq_true rfl, Nat.le_of_ble_eq_true rfl⟩) (fun r_1 hr_1 => ?_)
  rw [by_at_in hi (by omega)] at hr_1
  subst hr_1
  refine lv_istore_n (lv' := [(2, .int (nI (G.getD i 0))), (0, .ref tf), (1, .int (nI i))]) hx hb d_Tf_byteOf_8 rfl hl (by decide) rfl (fun ls hl => ?_)
  refine lv_iload_n hx hb d_Tf_byteOf_9 rfl (lv_at hl 0 rfl) ?_
  refine lv_iconst (v := (-1)) hx hb d_Tf_byteOf_10 (by decide) ?_
  refine lv_icmp_ne (tgt := 24) hx hb d_Tf_byteOf_11 (by decide) (fun _ => ?_) (fun c9 => by first | exact absurd c9 (nI_nm1 (Nat.lt_trans (hLq i hi).1 (by decide))) | exact absurd (nI_nm1 (Nat.lt_trans (hLq i hi).1 (by decide))) c9)
  refine lv_iload_n hx hb d_Tf_byteOf_24 rfl (lv_at hl 0 rfl) ?_
  exact zz_iretR hx hb hr hlocks d_Tf_byteOf_25 rfl
set_option maxHeartbeats 4000000 in
set_option maxRecDepth 100000 in
theorem c_Tf_byteOfT (l : Launch) (dC : Nat → ClassId) (dI : Nat → Nat → Nat) (ad : Nat → Nat) (tf hf hq hs hd hp hc : Nat) (ln : Int64) (rq : Nat) (cB : ClassId) (fq : Nat → Int32) (G : List Nat) (v : Int32) (hnt : l.flags = pinnedFlags ++ [noTraceFlag]) (hLq : by_L G fq) (hcq : G.length ≤ 4195) (hbad : v < 0 ∨ nI G.length ≤ v) : yT ad l y_Tf_byteOf w_Tf_byteOf { frames := 6, cells := 1, slots := 6, locals := 82 } (dC, dI) vwCl [.ref tf, .int v] [(tf, .inr (7, [.ref hf, .ref hq, .ref hs, .ref hd, .ref hp, .ref hc, .long ln])), (hq, .inr (2, [.ref rq, .int (nI G.length)])), (rq, .inl (cB, 4195, .inl fq))] [(cB, .byte)] "java/util/NoSuchElementException" := by
  refine zy_enterT (cc := prog_1_method_18_code) (nL := 3) (ret := (some .int)) (by decide) rfl (Nat.le_of_ble_eq_true rfl) ?_
  intro p e s m below meth c ls C0 hexc hP hK hl hX
  obtain ⟨hx, hb, hml, hown, hg, hr, hlocks, hin⟩ := C0
  have hS : va_S (fun _ => False) s.heap s.heap [] := va_S.rf
  have hown : s.vm.findClass "TextForge" = some m.cls := hown
  have hP : va_P (dC, dI) vwCl [(tf, .inr (7, [.ref hf, .ref hq, .ref hs, .ref hd, .ref hp, .ref hc, .long ln])), (hq, .inr (2, [.ref rq, .int (nI G.length)])), (rq, .inl (cB, 4195, .inl fq))] s.heap := hP
  have hK : va_K (dC, dI) vwCl [(cB, .byte)] s := hK
  have hl : lv_has ls 3 [(0, .ref tf), (1, .int v)] := hl
  refine lv_aload_n hx hb d_Tf_byteOf_0 rfl (lv_at hl 0 rfl) ?_
  refine va_get (D := (dC, dI)) (ci := 7) (v := .ref hq) (C := "TextForge") (T := TX7) (N := 7) hx hb hg iwX7 hown hK hP 0 rfl rfl 1 (by decide) (hg _ kw_132) (fun _ h9 => h9) rfl d_Tf_byteOf_1 ?_
  refine lv_iload_n hx hb d_Tf_byteOf_4 rfl (lv_at hl 1 rfl) ?_
  have hPc := hP.sub (ws' := [(hq, .inr (2, [.ref rq, .int (nI G.length)])), (rq, .inl (cB, 4195, .inl fq))]) [1, 2] rfl
  have hKc := hK.sub (tys' := [(cB, .byte)]) [0] rfl
  refine vp_callSi (W.runV (As := [.int v]) (rest := []) ⟨hx, hb, hml, hown, hg⟩ (c_By_at l dC dI hq rq cB 4195 fq G v hLq hcq (by decide)) (cwV 1 hg (gi_V kw_193 kw_194 kw_195 kw_2 kw_196) rfl rfl rfl (by decide +kernel) ⟨Nat.le_of_ble_eq_true rfl, Nat.le_of_ble_eq_true rfl⟩) (zz_prJV hPc hKc _ (q0 := 0) (ci := 2) rfl rfl) rfl rfl hl.1 rfl (lv_room (Nat.le_of_ble_eq_true rfl)) d_Tf_byteOf_5 ⟨Nat.le_of_ble_eq_true rfl, Nat.le_of_ble_eq_true rfl⟩) (fun r_1 hr_1 => ?_)
  refine lv_istore_n (lv' := [(2, .int r_1), (0, .ref tf), (1, .int v)]) hx hb d_Tf_byteOf_8 rfl hl (by decide) rfl (fun ls hl => ?_)
  refine lv_iload_n hx hb d_Tf_byteOf_9 rfl (lv_at hl 0 rfl) ?_
  refine lv_iconst (v := (-1)) hx hb d_Tf_byteOf_10 (by decide) ?_
  refine lv_icmp_ne (tgt := 24) hx hb d_Tf_byteOf_11 (by decide) (fun c9 => by first | exact absurd c9 (by rw [hr_1]; exact hbad.elim (fun z => (by_at_neg z).symm) (fun z => (by_at_ge z).symm)) | exact absurd (by rw [hr_1]; exact hbad.elim (fun z => (by_at_neg z).symm) (fun z => (by_at_ge z).symm)) c9) (fun _ => ?_)
  exact tx_throw hx hb hml hl.1 hexc hlocks hnt hown (by decide +kernel) (by decide +kernel) (by decide +kernel) (by decide +kernel) (by decide +kernel) (tx_NSE hg hX.2.2.2.2.2) (hg _ kw_685) (hg _ kw_22) (show vk_R "TextForge" 170 "the result has no such byte" (ad 19) s from (hX.2.1 19 (by decide)).1) d_Tf_byteOf_14 d_Tf_byteOf_17 d_Tf_byteOf_18 d_Tf_byteOf_20 d_Tf_byteOf_23 (Nat.le_of_ble_eq_true rfl) (Nat.le_of_ble_eq_true rfl) (Nat.le_of_ble_eq_true rfl) (Nat.le_of_ble_eq_true rfl)
abbrev y_Tf_encode : MethodName := ⟨"TextForge", "encode", "(I)I"⟩
abbrev w_Tf_encode : List Cond := Cond.code y_Tf_encode prog_1_method_14_code 2 (some .int) :: gw
theorem d_Tf_encode_0 : decode prog_1_method_14_code 0 = .ok (.aload_n 0, 1) := by decide +kernel
theorem d_Tf_encode_1 : decode prog_1_method_14_code 1 = .ok (.getfield 18, 3) := by decide +kernel
theorem d_Tf_encode_4 : decode prog_1_method_14_code 4 = .ok (.iconst 0, 1) := by decide +kernel
theorem d_Tf_encode_5 : decode prog_1_method_14_code 5 = .ok (.invokevirtual 60, 3) := by decide +kernel
theorem d_Tf_encode_8 : decode prog_1_method_14_code 8 = .ok (.iload_n 1, 1) := by decide +kernel
theorem d_Tf_encode_9 : decode prog_1_method_14_code 9 = .ok (.i2l, 1) := by decide +kernel
theorem d_Tf_encode_10 : decode prog_1_method_14_code 10 = .ok (.invokestatic 142, 3) := by decide +kernel
theorem d_Tf_encode_13 : decode prog_1_method_14_code 13 = .ok (.aload_n 0, 1) := by decide +kernel
theorem d_Tf_encode_14 : decode prog_1_method_14_code 14 = .ok (.getfield 18, 3) := by decide +kernel
theorem d_Tf_encode_17 : decode prog_1_method_14_code 17 = .ok (.invokestatic 148, 3) := by decide +kernel
theorem d_Tf_encode_20 : decode prog_1_method_14_code 20 = .ok (.aload_n 0, 1) := by decide +kernel
theorem d_Tf_encode_21 : decode prog_1_method_14_code 21 = .ok (.invokevirtual 117, 3) := by decide +kernel
theorem d_Tf_encode_24 : decode prog_1_method_14_code 24 = .ok (.ireturn, 1) := by decide +kernel
set_option maxHeartbeats 4000000 in
set_option maxRecDepth 100000 in
theorem c_Tf_encode (l : Launch) (dC : Nat → ClassId) (dI : Nat → Nat → Nat) (tf hf hq hs hd hp hc : Nat) (ln : Int64) (rq : Nat) (cB : ClassId) (fq : Nat → Int32) (G : List Nat) (v : Int32) (hLq : by_L G fq) (hcq : G.length ≤ 4195) : zM_i (S := Nat → Int32) l y_Tf_encode w_Tf_encode { frames := 2, cells := 0, slots := 0, locals := 44 } (dC, dI) vwCl [.ref tf, .int v] [(tf, .inr (7, [.ref hf, .ref hq, .ref hs, .ref hd, .ref hp, .ref hc, .long ln])), (hq, .inr (2, [.ref rq, .int (nI G.length)])), (rq, .inl (cB, 4195, .inl fq))] [(cB, .byte)] (fun (r : Int32) (u : Nat → Int32) => r = nI (List.take 4096 (ut_8 (ut_cn v.toInt))).length ∧ by_L (List.take 4096 (ut_8 (ut_cn v.toInt))) u) (fun u => [(tf, .inr (7, [.ref hf, .ref hq, .ref hs, .ref hd, .ref hp, .ref hc, .long ln])), (hq, .inr (2, [.ref rq, .int (nI (List.take 4096 (ut_8 (ut_cn v.toInt))).length)])), (rq, .inl (cB, 4195, .inl u))]) (fun u => [(cB, .byte)]) 0 0 := by
  refine zz_enteri (cc := prog_1_method_14_code) (nL := 2) (ret := (some .int)) (by decide) rfl (Nat.le_of_ble_eq_true rfl) ?_
  intro p e s m below meth c A ls C0 hA hS hP hK hD hl
  obtain ⟨hx, hb, hml, hown, hg, hr, hlocks, hin⟩ := C0
  have hown : s.vm.findClass "TextForge" = some m.cls := hown
  have hP : va_P (dC, dI) vwCl [(tf, .inr (7, [.ref hf, .ref hq, .ref hs, .ref hd, .ref hp, .ref hc, .long ln])), (hq, .inr (2, [.ref rq, .int (nI G.length)])), (rq, .inl (cB, 4195, .inl fq))] s.heap := hP
  have hK : va_K (dC, dI) vwCl [(cB, .byte)] s := hK
  have hD : va_D A [(tf, .inr (7, [.ref hf, .ref hq, .ref hs, .ref hd, .ref hp, .ref hc, .long ln])), (hq, .inr (2, [.ref rq, .int (nI G.length)])), (rq, .inl (cB, 4195, .inl fq))] := hD
  have hl : lv_has ls 2 [(0, .ref tf), (1, .int v)] := hl
  refine lv_aload_n hx hb d_Tf_encode_0 rfl (lv_at hl 0 rfl) ?_
  refine va_get (D := (dC, dI)) (ci := 7) (v := .ref hq) (C := "TextForge") (T := TX7) (N := 7) hx hb hg iwX7 hown hK hP 0 rfl rfl 1 (by decide) (hg _ kw_132) (fun _ h9 => h9) rfl d_Tf_encode_1 ?_
  refine lv_iconst (v := 0) hx hb d_Tf_encode_4 (by decide) ?_
  have hPc := hP.sub (ws' := [(hq, .inr (2, [.ref rq, .int (nI G.length)])), (rq, .inl (cB, 4195, .inl fq))]) [1, 2] rfl
  have hKc := hK.sub (tys' := [(cB, .byte)]) [0] rfl
  have hDc := hD.sub (ws' := [(hq, .inr (2, [.ref rq, .int (nI G.length)])), (rq, .inl (cB, 4195, .inl fq))]) [1, 2] (by decide) rfl
  have hFc := va_free (wc := [(hq, .inr (2, [.ref rq, .int (nI G.length)])), (rq, .inl (cB, 4195, .inl fq))]) hD hS hA [1, 2] rfl
  refine zz_callv (va_runV (As := [.int 0]) (rest := []) ⟨hx, hb, hml, hown, hg⟩ (c_By_cut l dC dI hq rq cB 4195 fq G 0 0 hLq hcq (by decide) rfl (by decide) s.heap.size) (cwV 1 hg (gi_V kw_173 kw_174 kw_175 kw_2 kw_176) rfl rfl rfl (by decide +kernel) ⟨Nat.le_of_ble_eq_true rfl, Nat.le_of_ble_eq_true rfl⟩) (zz_preV hPc hKc hDc _ (q0 := 0) (ci := 2) rfl rfl) rfl rfl hl.1 rfl (lv_room (Nat.le_of_ble_eq_true rfl)) d_Tf_encode_5 ⟨Nat.le_of_ble_eq_true rfl, Nat.le_of_ble_eq_true rfl⟩) hS hFc (fun u H1 k9 p9 d9 => va_join (wr := [(tf, .inr (7, [.ref hf, .ref hq, .ref hs, .ref hd, .ref hp, .ref hc, .long ln]))]) hP hD [1, 2] [0] rfl rfl (by decide) (by decide) k9 hFc p9 d9) (fun u H locs hw hP hD hK1 hS => ?_)
  obtain ⟨f9, rfl⟩ : ∃ z, z = u := ⟨_, rfl⟩
  try dsimp only at hw
  have hP : va_P (dC, dI) vwCl [(tf, .inr (7, [.ref hf, .ref hq, .ref hs, .ref hd, .ref hp, .ref hc, .long ln])), (hq, .inr (2, [.ref rq, .int (nI (List.take 0 G).length)])), (rq, .inl (cB, 4195, .inl f9))] H := hP
  have hD : va_D A [(tf, .inr (7, [.ref hf, .ref hq, .ref hs, .ref hd, .ref hp, .ref hc, .long ln])), (hq, .inr (2, [.ref rq, .int (nI (List.take 0 G).length)])), (rq, .inl (cB, 4195, .inl f9))] := hD
  rw [hw] at hP hD
  have hP : va_P (dC, dI) vwCl [(tf, .inr (7, [.ref hf, .ref hq, .ref hs, .ref hd, .ref hp, .ref hc, .long ln])), (hq, .inr (2, [.ref rq, .int (nI (List.take 0 G).length)])), (rq, .inl (cB, 4195, .inl fq))] H := hP
  have hD : va_D A [(tf, .inr (7, [.ref hf, .ref hq, .ref hs, .ref hd, .ref hp, .ref hc, .long ln])), (hq, .inr (2, [.ref rq, .int (nI (List.take 0 G).length)])), (rq, .inl (cB, 4195, .inl fq))] := hD
  refine lv_iload_n hx hb d_Tf_encode_8 rfl (lv_at hl 1 rfl) ?_
  refine lv_i2l hx hb d_Tf_encode_9 rfl ?_
  have hPc := hP.sub (ws' := []) [] rfl
  have hKc := hK.sub (tys' := []) [] rfl
  refine vp_callSi (W.runS (As := [.long v.toInt64]) (rest := []) ⟨hx, hb, hml, hown, hg⟩ (c_Ut_codeOf l dC dI v.toInt64 ) (va_cwS 1 hg (gi_S kw_479 kw_403 kw_21 kw_404) rfl rfl rfl (by decide +kernel) ⟨Nat.le_of_ble_eq_true rfl, Nat.le_of_ble_eq_true rfl⟩) (zz_prJS hPc hKc _) rfl rfl hl.1 rfl (lv_room (Nat.le_of_ble_eq_true rfl)) d_Tf_encode_10 ⟨Nat.le_of_ble_eq_true rfl, Nat.le_of_ble_eq_true rfl⟩) (fun r_2 hr_2 => ?_)
  rw [Int32.toInt_toInt64] at hr_2
  subst hr_2
  refine lv_aload_n hx hb d_Tf_encode_13 rfl (lv_at hl 0 rfl) ?_
  refine va_get (D := (dC, dI)) (ci := 7) (v := .ref hq) (C := "TextForge") (T := TX7) (N := 7) hx hb hg iwX7 hown hK hP 0 rfl rfl 1 (by decide) (hg _ kw_132) (fun _ h9 => h9) rfl d_Tf_encode_14 ?_
  have hPc := hP.sub (ws' := [(hq, .inr (2, [.ref rq, .int (nI (List.take 0 G).length)])), (rq, .inl (cB, 4195, .inl fq))]) [1, 2] rfl
  have hKc := hK.sub (tys' := [(cB, .byte)]) [0] rfl
  have hDc := hD.sub (ws' := [(hq, .inr (2, [.ref rq, .int (nI (List.take 0 G).length)])), (rq, .inl (cB, 4195, .inl fq))]) [1, 2] (by decide) rfl
  have hFc := va_free (wc := [(hq, .inr (2, [.ref rq, .int (nI (List.take 0 G).length)])), (rq, .inl (cB, 4195, .inl fq))]) hD hS hA [1, 2] rfl
  refine zz_callv (va_runS (As := [.int (nI (ut_cn v.toInt)), .ref hq]) (rest := []) ⟨hx, hb, hml, hown, hg⟩ (c_Ut_put l dC dI hq rq cB 4195 fq (List.take 0 G) (ut_cn v.toInt) (by_L_take hLq) (by rw [List.take_zero]; decide) (by decide) (ut_cn_le _) H.size) (va_cwS 2 hg (gi_S kw_480 kw_407 kw_21 kw_408) rfl rfl rfl (by decide +kernel) ⟨Nat.le_of_ble_eq_true rfl, Nat.le_of_ble_eq_true rfl⟩) (zz_preS hPc hKc hDc _) rfl rfl hl.1 rfl (lv_room (Nat.le_of_ble_eq_true rfl)) d_Tf_encode_17 ⟨Nat.le_of_ble_eq_true rfl, Nat.le_of_ble_eq_true rfl⟩) hS hFc (fun u H1 k9 p9 d9 => va_join (wr := [(tf, .inr (7, [.ref hf, .ref hq, .ref hs, .ref hd, .ref hp, .ref hc, .long ln]))]) hP hD [1, 2] [0] rfl rfl (by decide) (by decide) k9 hFc p9 d9) (fun u H locs hw hP hD hK1 hS => ?_)
  obtain ⟨u_3, rfl⟩ : ∃ z, z = u := ⟨_, rfl⟩
  try dsimp only at hw
  have hP : va_P (dC, dI) vwCl [(tf, .inr (7, [.ref hf, .ref hq, .ref hs, .ref hd, .ref hp, .ref hc, .long ln])), (hq, .inr (2, [.ref rq, .int (nI (by_ap 4195 (List.take 0 G) (ut_8 (ut_cn v.toInt))).length)])), (rq, .inl (cB, 4195, .inl u_3))] H := hP
  have hD : va_D A [(tf, .inr (7, [.ref hf, .ref hq, .ref hs, .ref hd, .ref hp, .ref hc, .long ln])), (hq, .inr (2, [.ref rq, .int (nI (by_ap 4195 (List.take 0 G) (ut_8 (ut_cn v.toInt))).length)])), (rq, .inl (cB, 4195, .inl u_3))] := hD
  have hL_5 := hw
  refine lv_aload_n hx hb d_Tf_encode_20 rfl (lv_at hl 0 rfl) ?_
  have hPc := hP.sub (ws' := [(tf, .inr (7, [.ref hf, .ref hq, .ref hs, .ref hd, .ref hp, .ref hc, .long ln])), (hq, .inr (2, [.ref rq, .int (nI (by_ap 4195 (List.take 0 G) (ut_8 (ut_cn v.toInt))).length)])), (rq, .inl (cB, 4195, .inl u_3))]) [0, 1, 2] rfl
  have hKc := hK.sub (tys' := [(cB, .byte)]) [0] rfl
  have hDc := hD.sub (ws' := [(tf, .inr (7, [.ref hf, .ref hq, .ref hs, .ref hd, .ref hp, .ref hc, .long ln])), (hq, .inr (2, [.ref rq, .int (nI (by_ap 4195 (List.take 0 G) (ut_8 (ut_cn v.toInt))).length)])), (rq, .inl (cB, 4195, .inl u_3))]) [0, 1, 2] (by decide) rfl
  have hFc := va_free (wc := [(tf, .inr (7, [.ref hf, .ref hq, .ref hs, .ref hd, .ref hp, .ref hc, .long ln])), (hq, .inr (2, [.ref rq, .int (nI (by_ap 4195 (List.take 0 G) (ut_8 (ut_cn v.toInt))).length)])), (rq, .inl (cB, 4195, .inl u_3))]) hD hS hA [0, 1, 2] rfl
  refine zz_calli (va_runV (As := []) (rest := []) ⟨hx, hb, hml, hown, hg⟩ (c_Tf_keptOfResult l dC dI tf hf hq hs hd hp hc ln rq cB u_3 (by_ap 4195 (List.take 0 G) (ut_8 (ut_cn v.toInt))) hL_5 (by_ap_len _ _ _) H.size) (cwV 0 hg (gi_V kw_452 kw_454 sw_4 kw_1 kw_455) rfl rfl rfl (by decide +kernel) ⟨Nat.le_of_ble_eq_true rfl, Nat.le_of_ble_eq_true rfl⟩) (zz_preV hPc hKc hDc _ (q0 := 0) (ci := 7) rfl rfl) rfl rfl hl.1 rfl (lv_room (Nat.le_of_ble_eq_true rfl)) d_Tf_encode_21 ⟨Nat.le_of_ble_eq_true rfl, Nat.le_of_ble_eq_true rfl⟩) hS hFc (fun u H1 k9 p9 d9 => va_join (wr := []) hP hD [0, 1, 2] [] rfl rfl (by decide) (by decide) k9 hFc p9 d9) (fun r_6 u H locs hw hP hD hK1 hS => ?_)
  obtain ⟨f8, rfl⟩ : ∃ z, z = u := ⟨_, rfl⟩
  try dsimp only at hw
  have hP : va_P (dC, dI) vwCl [(tf, .inr (7, [.ref hf, .ref hq, .ref hs, .ref hd, .ref hp, .ref hc, .long ln])), (hq, .inr (2, [.ref rq, .int (nI (List.take 4096 (by_ap 4195 (List.take 0 G) (ut_8 (ut_cn v.toInt)))).length)])), (rq, .inl (cB, 4195, .inl f8))] H := hP
  have hD : va_D A [(tf, .inr (7, [.ref hf, .ref hq, .ref hs, .ref hd, .ref hp, .ref hc, .long ln])), (hq, .inr (2, [.ref rq, .int (nI (List.take 4096 (by_ap 4195 (List.take 0 G) (ut_8 (ut_cn v.toInt)))).length)])), (rq, .inl (cB, 4195, .inl f8))] := hD
  obtain ⟨hkr, hkf⟩ := hw
  rw [hkf] at hP hD
  have hP : va_P (dC, dI) vwCl [(tf, .inr (7, [.ref hf, .ref hq, .ref hs, .ref hd, .ref hp, .ref hc, .long ln])), (hq, .inr (2, [.ref rq, .int (nI (List.take 4096 (by_ap 4195 (List.take 0 G) (ut_8 (ut_cn v.toInt)))).length)])), (rq, .inl (cB, 4195, .inl u_3))] H := hP
  have hD : va_D A [(tf, .inr (7, [.ref hf, .ref hq, .ref hs, .ref hd, .ref hp, .ref hc, .long ln])), (hq, .inr (2, [.ref rq, .int (nI (List.take 4096 (by_ap 4195 (List.take 0 G) (ut_8 (ut_cn v.toInt)))).length)])), (rq, .inl (cB, 4195, .inl u_3))] := hD
  have hP9 := hP.sub (ws' := [(tf, .inr (7, [.ref hf, .ref hq, .ref hs, .ref hd, .ref hp, .ref hc, .long ln])), (hq, .inr (2, [.ref rq, .int (nI (List.take 4096 (by_ap 4195 (List.take 0 G) (ut_8 (ut_cn v.toInt)))).length)])), (rq, .inl (cB, 4195, .inl u_3))]) [0, 1, 2] rfl
  have hD9 := hD.sub (ws' := [(tf, .inr (7, [.ref hf, .ref hq, .ref hs, .ref hd, .ref hp, .ref hc, .long ln])), (hq, .inr (2, [.ref rq, .int (nI (List.take 4096 (by_ap 4195 (List.take 0 G) (ut_8 (ut_cn v.toInt)))).length)])), (rq, .inl (cB, 4195, .inl u_3))]) [0, 1, 2] (by decide) rfl
  have hK9 := hK.sub (tys' := [(cB, .byte)]) [0] rfl
  rw [kp_e] at hP9 hD9
  exact zz_iret hx hb hr hlocks d_Tf_encode_24 hS (by first | exact Nat.le_refl _ | decide | omega | (dsimp only; omega)) (by first | exact Nat.le_refl _ | decide | omega | (dsimp only; omega)) u_3 ⟨(by rw [hkr, kp_e]), (by rw [← kp_e (G := G)]; exact by_L_take hL_5)⟩ hP9 hK9 hD9
abbrev y_Tf_quote : MethodName := ⟨"TextForge", "quote", "()I"⟩
abbrev w_Tf_quote : List Cond := Cond.code y_Tf_quote prog_1_method_11_code 1 (some .int) :: gw
theorem d_Tf_quote_0 : decode prog_1_method_11_code 0 = .ok (.aload_n 0, 1) := by decide +kernel
theorem d_Tf_quote_1 : decode prog_1_method_11_code 1 = .ok (.getfield 18, 3) := by decide +kernel
theorem d_Tf_quote_4 : decode prog_1_method_11_code 4 = .ok (.iconst 0, 1) := by decide +kernel
theorem d_Tf_quote_5 : decode prog_1_method_11_code 5 = .ok (.invokevirtual 60, 3) := by decide +kernel
theorem d_Tf_quote_8 : decode prog_1_method_11_code 8 = .ok (.aload_n 0, 1) := by decide +kernel
theorem d_Tf_quote_9 : decode prog_1_method_11_code 9 = .ok (.getfield 14, 3) := by decide +kernel
theorem d_Tf_quote_12 : decode prog_1_method_11_code 12 = .ok (.aload_n 0, 1) := by decide +kernel
theorem d_Tf_quote_13 : decode prog_1_method_11_code 13 = .ok (.getfield 18, 3) := by decide +kernel
theorem d_Tf_quote_16 : decode prog_1_method_11_code 16 = .ok (.invokestatic 130, 3) := by decide +kernel
theorem d_Tf_quote_19 : decode prog_1_method_11_code 19 = .ok (.aload_n 0, 1) := by decide +kernel
theorem d_Tf_quote_20 : decode prog_1_method_11_code 20 = .ok (.getfield 14, 3) := by decide +kernel
theorem d_Tf_quote_23 : decode prog_1_method_11_code 23 = .ok (.iconst 0, 1) := by decide +kernel
theorem d_Tf_quote_24 : decode prog_1_method_11_code 24 = .ok (.invokevirtual 60, 3) := by decide +kernel
theorem d_Tf_quote_27 : decode prog_1_method_11_code 27 = .ok (.aload_n 0, 1) := by decide +kernel
theorem d_Tf_quote_28 : decode prog_1_method_11_code 28 = .ok (.invokevirtual 117, 3) := by decide +kernel
theorem d_Tf_quote_31 : decode prog_1_method_11_code 31 = .ok (.ireturn, 1) := by decide +kernel
set_option maxHeartbeats 4000000 in
set_option maxRecDepth 100000 in
theorem c_Tf_quote (l : Launch) (dC : Nat → ClassId) (dI : Nat → Nat → Nat) (ad : Nat → Nat) (tf hf hq hs hd hp hc : Nat) (ln : Int64) (rq : Nat) (cB : ClassId) (fq : Nat → Int32) (G : List Nat) (rf : Nat) (ff : Nat → Int32) (F : List Nat) (hLq : by_L G fq) (hcq : G.length ≤ 4195) (hLf : by_L F ff) (hcf : F.length ≤ 4096) : yM_i (S := Nat → Int32) ad l y_Tf_quote w_Tf_quote { frames := 6, cells := 0, slots := 0, locals := 131 } (dC, dI) vwCl [.ref tf] [(tf, .inr (7, [.ref hf, .ref hq, .ref hs, .ref hd, .ref hp, .ref hc, .long ln])), (hq, .inr (2, [.ref rq, .int (nI G.length)])), (rq, .inl (cB, 4195, .inl fq)), (hf, .inr (2, [.ref rf, .int (nI F.length)])), (rf, .inl (cB, 4096, .inl ff))] [(cB, .byte)] (fun (r : Int32) (u : Nat → Int32) => r = nI (List.take 4096 (qu_t F)).length ∧ by_L (List.take 4096 (qu_t F)) u) (fun u => [(tf, .inr (7, [.ref hf, .ref hq, .ref hs, .ref hd, .ref hp, .ref hc, .long ln])), (hq, .inr (2, [.ref rq, .int (nI (List.take 4096 (qu_t F)).length)])), (rq, .inl (cB, 4195, .inl u)), (hf, .inr (2, [.ref rf, .int (nI (List.take 0 F).length)])), (rf, .inl (cB, 4096, .inl ff))]) (fun u => [(cB, .byte)]) 0 0 := by
  refine zy_enteri (cc := prog_1_method_11_code) (nL := 1) (ret := (some .int)) (by decide) rfl (Nat.le_of_ble_eq_true rfl) ?_
  intro p e s m below meth c A ls C0 hA hS hP hK hD hl hX
  obtain ⟨hx, hb, hml, hown, hg, hr, hlocks, hin⟩ := C0
  have hown : s.vm.findClass "TextForge" = some m.cls := hown
  have hP : va_P (dC, dI) vwCl [(tf, .inr (7, [.ref hf, .ref hq, .ref hs, .ref hd, .ref hp, .ref hc, .long ln])), (hq, .inr (2, [.ref rq, .int (nI G.length)])), (rq, .inl (cB, 4195, .inl fq)), (hf, .inr (2, [.ref rf, .int (nI F.length)])), (rf, .inl (cB, 4096, .inl ff))] s.heap := hP
  have hK : va_K (dC, dI) vwCl [(cB, .byte)] s := hK
  have hD : va_D A [(tf, .inr (7, [.ref hf, .ref hq, .ref hs, .ref hd, .ref hp, .ref hc, .long ln])), (hq, .inr (2, [.ref rq, .int (nI G.length)])), (rq, .inl (cB, 4195, .inl fq)), (hf, .inr (2, [.ref rf, .int (nI F.length)])), (rf, .inl (cB, 4096, .inl ff))] := hD
  have hl : lv_has ls 1 [(0, .ref tf)] := hl
  refine lv_aload_n hx hb d_Tf_quote_0 rfl (lv_at hl 0 rfl) ?_
  refine va_get (D := (dC, dI)) (ci := 7) (v := .ref hq) (C := "TextForge") (T := TX7) (N := 7) hx hb hg iwX7 hown hK hP 0 rfl rfl 1 (by decide) (hg _ kw_132) (fun _ h9 => h9) rfl d_Tf_quote_1 ?_
  refine lv_iconst (v := 0) hx hb d_Tf_quote_4 (by decide) ?_
  have hPc := hP.sub (ws' := [(hq, .inr (2, [.ref rq, .int (nI G.length)])), (rq, .inl (cB, 4195, .inl fq))]) [1, 2] rfl
  have hKc := hK.sub (tys' := [(cB, .byte)]) [0] rfl
  have hDc := hD.sub (ws' := [(hq, .inr (2, [.ref rq, .int (nI G.length)])), (rq, .inl (cB, 4195, .inl fq))]) [1, 2] (by decide) rfl
  have hFc := va_free (wc := [(hq, .inr (2, [.ref rq, .int (nI G.length)])), (rq, .inl (cB, 4195, .inl fq))]) hD hS hA [1, 2] rfl
  refine zz_callv (va_runV (As := [.int 0]) (rest := []) ⟨hx, hb, hml, hown, hg⟩ (c_By_cut l dC dI hq rq cB 4195 fq G 0 0 hLq hcq (by decide) rfl (by decide) s.heap.size) (cwV 1 hg (gi_V kw_173 kw_174 kw_175 kw_2 kw_176) rfl rfl rfl (by decide +kernel) ⟨Nat.le_of_ble_eq_true rfl, Nat.le_of_ble_eq_true rfl⟩) (zz_preV hPc hKc hDc _ (q0 := 0) (ci := 2) rfl rfl) rfl rfl hl.1 rfl (lv_room (Nat.le_of_ble_eq_true rfl)) d_Tf_quote_5 ⟨Nat.le_of_ble_eq_true rfl, Nat.le_of_ble_eq_true rfl⟩) hS hFc (fun u H1 k9 p9 d9 => va_join (wr := [(tf, .inr (7, [.ref hf, .ref hq, .ref hs, .ref hd, .ref hp, .ref hc, .long ln])), (hf, .inr (2, [.ref rf, .int (nI F.length)])), (rf, .inl (cB, 4096, .inl ff))]) hP hD [1, 2] [0, 3, 4] rfl rfl (by decide) (by decide) k9 hFc p9 d9) (fun u H locs hw hP hD hK1 hS => ?_)
  obtain ⟨f9, rfl⟩ : ∃ z, z = u := ⟨_, rfl⟩
  try dsimp only at hw
  have hP : va_P (dC, dI) vwCl [(tf, .inr (7, [.ref hf, .ref hq, .ref hs, .ref hd, .ref hp, .ref hc, .long ln])), (hf, .inr (2, [.ref rf, .int (nI F.length)])), (rf, .inl (cB, 4096, .inl ff)), (hq, .inr (2, [.ref rq, .int (nI (List.take 0 G).length)])), (rq, .inl (cB, 4195, .inl f9))] H := hP
  have hD : va_D A [(tf, .inr (7, [.ref hf, .ref hq, .ref hs, .ref hd, .ref hp, .ref hc, .long ln])), (hf, .inr (2, [.ref rf, .int (nI F.length)])), (rf, .inl (cB, 4096, .inl ff)), (hq, .inr (2, [.ref rq, .int (nI (List.take 0 G).length)])), (rq, .inl (cB, 4195, .inl f9))] := hD
  rw [hw] at hP hD
  have hP : va_P (dC, dI) vwCl [(tf, .inr (7, [.ref hf, .ref hq, .ref hs, .ref hd, .ref hp, .ref hc, .long ln])), (hf, .inr (2, [.ref rf, .int (nI F.length)])), (rf, .inl (cB, 4096, .inl ff)), (hq, .inr (2, [.ref rq, .int (nI (List.take 0 G).length)])), (rq, .inl (cB, 4195, .inl fq))] H := hP
  have hD : va_D A [(tf, .inr (7, [.ref hf, .ref hq, .ref hs, .ref hd, .ref hp, .ref hc, .long ln])), (hf, .inr (2, [.ref rf, .int (nI F.length)])), (rf, .inl (cB, 4096, .inl ff)), (hq, .inr (2, [.ref rq, .int (nI (List.take 0 G).length)])), (rq, .inl (cB, 4195, .inl fq))] := hD
  refine lv_aload_n hx hb d_Tf_quote_8 rfl (lv_at hl 0 rfl) ?_
  refine va_get (D := (dC, dI)) (ci := 7) (v := .ref hf) (C := "TextForge") (T := TX7) (N := 7) hx hb hg iwX7 hown hK hP 0 rfl rfl 0 (by decide) (hg _ kw_131) (fun _ h9 => h9) rfl d_Tf_quote_9 ?_
  refine lv_aload_n hx hb d_Tf_quote_12 rfl (lv_at hl 0 rfl) ?_
  refine va_get (D := (dC, dI)) (ci := 7) (v := .ref hq) (C := "TextForge") (T := TX7) (N := 7) hx hb hg iwX7 hown hK hP 0 rfl rfl 1 (by decide) (hg _ kw_132) (fun _ h9 => h9) rfl d_Tf_quote_13 ?_
  have hPc := hP.sub (ws' := [(hf, .inr (2, [.ref rf, .int (nI F.length)])), (rf, .inl (cB, 4096, .inl ff)), (hq, .inr (2, [.ref rq, .int (nI (List.take 0 G).length)])), (rq, .inl (cB, 4195, .inl fq))]) [1, 2, 3, 4] rfl
  have hKc := hK.sub (tys' := [(cB, .byte), (cB, .byte)]) [0, 0] rfl
  have hDc := hD.sub (ws' := [(hf, .inr (2, [.ref rf, .int (nI F.length)])), (rf, .inl (cB, 4096, .inl ff)), (hq, .inr (2, [.ref rq, .int (nI (List.take 0 G).length)])), (rq, .inl (cB, 4195, .inl fq))]) [1, 2, 3, 4] (by decide) rfl
  have hFc := va_free (wc := [(hf, .inr (2, [.ref rf, .int (nI F.length)])), (rf, .inl (cB, 4096, .inl ff)), (hq, .inr (2, [.ref rq, .int (nI (List.take 0 G).length)])), (rq, .inl (cB, 4195, .inl fq))]) hD hS hA [1, 2, 3, 4] rfl
  refine zz_callv (va_runS (As := [.ref hf, .ref hq]) (rest := []) ⟨hx, hb, hml, hown, hg⟩ (c_Qu_putText l dC dI ad hf rf cB 4096 ff F hq rq cB 4195 fq (List.take 0 G) hLf hcf (by decide) (by_L_take hLq) (by rw [List.take_zero]; decide) (by decide) H.size) (va_cwS 2 hg (gi_S kw_470 kw_356 kw_20 kw_357) rfl rfl rfl (by decide +kernel) ⟨Nat.le_of_ble_eq_true rfl, Nat.le_of_ble_eq_true rfl⟩) (zy_preS hX hS hFc hPc hKc hDc _) rfl rfl hl.1 rfl (lv_room (Nat.le_of_ble_eq_true rfl)) d_Tf_quote_16 ⟨Nat.le_of_ble_eq_true rfl, Nat.le_of_ble_eq_true rfl⟩) hS hFc (fun u H1 k9 p9 d9 => va_join (wr := [(tf, .inr (7, [.ref hf, .ref hq, .ref hs, .ref hd, .ref hp, .ref hc, .long ln]))]) hP hD [1, 2, 3, 4] [0] rfl rfl (by decide) (by decide) k9 hFc p9 d9) (fun u H locs hw hP hD hK1 hS => ?_)
  obtain ⟨f7, rfl⟩ : ∃ z, z = u := ⟨_, rfl⟩
  try dsimp only at hw
  have hP : va_P (dC, dI) vwCl [(tf, .inr (7, [.ref hf, .ref hq, .ref hs, .ref hd, .ref hp, .ref hc, .long ln])), (hf, .inr (2, [.ref rf, .int (nI F.length)])), (rf, .inl (cB, 4096, .inl ff)), (hq, .inr (2, [.ref rq, .int (nI (by_ap 4195 (List.take 0 G) (qu_t F)).length)])), (rq, .inl (cB, 4195, .inl f7))] H := hP
  have hD : va_D A [(tf, .inr (7, [.ref hf, .ref hq, .ref hs, .ref hd, .ref hp, .ref hc, .long ln])), (hf, .inr (2, [.ref rf, .int (nI F.length)])), (rf, .inl (cB, 4096, .inl ff)), (hq, .inr (2, [.ref rq, .int (nI (by_ap 4195 (List.take 0 G) (qu_t F)).length)])), (rq, .inl (cB, 4195, .inl f7))] := hD
  have hLz := hw
  refine lv_aload_n hx hb d_Tf_quote_19 rfl (lv_at hl 0 rfl) ?_
  refine va_get (D := (dC, dI)) (ci := 7) (v := .ref hf) (C := "TextForge") (T := TX7) (N := 7) hx hb hg iwX7 hown hK hP 0 rfl rfl 0 (by decide) (hg _ kw_131) (fun _ h9 => h9) rfl d_Tf_quote_20 ?_
  refine lv_iconst (v := 0) hx hb d_Tf_quote_23 (by decide) ?_
  have hPc := hP.sub (ws' := [(hf, .inr (2, [.ref rf, .int (nI F.length)])), (rf, .inl (cB, 4096, .inl ff))]) [1, 2] rfl
  have hKc := hK.sub (tys' := [(cB, .byte)]) [0] rfl
  have hDc := hD.sub (ws' := [(hf, .inr (2, [.ref rf, .int (nI F.length)])), (rf, .inl (cB, 4096, .inl ff))]) [1, 2] (by decide) rfl
  have hFc := va_free (wc := [(hf, .inr (2, [.ref rf, .int (nI F.length)])), (rf, .inl (cB, 4096, .inl ff))]) hD hS hA [1, 2] rfl
  refine zz_callv (va_runV (As := [.int 0]) (rest := []) ⟨hx, hb, hml, hown, hg⟩ (c_By_cut l dC dI hf rf cB 4096 ff F 0 0 hLf hcf (by decide) rfl (by decide) H.size) (cwV 1 hg (gi_V kw_173 kw_174 kw_175 kw_2 kw_176) rfl rfl rfl (by decide +kernel) ⟨Nat.le_of_ble_eq_true rfl, Nat.le_of_ble_eq_true rfl⟩) (zz_preV hPc hKc hDc _ (q0 := 0) (ci := 2) rfl rfl) rfl rfl hl.1 rfl (lv_room (Nat.le_of_ble_eq_true rfl)) d_Tf_quote_24 ⟨Nat.le_of_ble_eq_true rfl, Nat.le_of_ble_eq_true rfl⟩) hS hFc (fun u H1 k9 p9 d9 => va_join (wr := [(tf, .inr (7, [.ref hf, .ref hq, .ref hs, .ref hd, .ref hp, .ref hc, .long ln])), (hq, .inr (2, [.ref rq, .int (nI (by_ap 4195 (List.take 0 G) (qu_t F)).length)])), (rq, .inl (cB, 4195, .inl f7))]) hP hD [1, 2] [0, 3, 4] rfl rfl (by decide) (by decide) k9 hFc p9 d9) (fun u H locs hw hP hD hK1 hS => ?_)
  obtain ⟨f6, rfl⟩ : ∃ z, z = u := ⟨_, rfl⟩
  try dsimp only at hw
  have hP : va_P (dC, dI) vwCl [(tf, .inr (7, [.ref hf, .ref hq, .ref hs, .ref hd, .ref hp, .ref hc, .long ln])), (hq, .inr (2, [.ref rq, .int (nI (by_ap 4195 (List.take 0 G) (qu_t F)).length)])), (rq, .inl (cB, 4195, .inl f7)), (hf, .inr (2, [.ref rf, .int (nI (List.take 0 F).length)])), (rf, .inl (cB, 4096, .inl f6))] H := hP
  have hD : va_D A [(tf, .inr (7, [.ref hf, .ref hq, .ref hs, .ref hd, .ref hp, .ref hc, .long ln])), (hq, .inr (2, [.ref rq, .int (nI (by_ap 4195 (List.take 0 G) (qu_t F)).length)])), (rq, .inl (cB, 4195, .inl f7)), (hf, .inr (2, [.ref rf, .int (nI (List.take 0 F).length)])), (rf, .inl (cB, 4096, .inl f6))] := hD
  rw [hw] at hP hD
  have hP : va_P (dC, dI) vwCl [(tf, .inr (7, [.ref hf, .ref hq, .ref hs, .ref hd, .ref hp, .ref hc, .long ln])), (hq, .inr (2, [.ref rq, .int (nI (by_ap 4195 (List.take 0 G) (qu_t F)).length)])), (rq, .inl (cB, 4195, .inl f7)), (hf, .inr (2, [.ref rf, .int (nI (List.take 0 F).length)])), (rf, .inl (cB, 4096, .inl ff))] H := hP
  have hD : va_D A [(tf, .inr (7, [.ref hf, .ref hq, .ref hs, .ref hd, .ref hp, .ref hc, .long ln])), (hq, .inr (2, [.ref rq, .int (nI (by_ap 4195 (List.take 0 G) (qu_t F)).length)])), (rq, .inl (cB, 4195, .inl f7)), (hf, .inr (2, [.ref rf, .int (nI (List.take 0 F).length)])), (rf, .inl (cB, 4096, .inl ff))] := hD
  refine lv_aload_n hx hb d_Tf_quote_27 rfl (lv_at hl 0 rfl) ?_
  have hPc := hP.sub (ws' := [(tf, .inr (7, [.ref hf, .ref hq, .ref hs, .ref hd, .ref hp, .ref hc, .long ln])), (hq, .inr (2, [.ref rq, .int (nI (by_ap 4195 (List.take 0 G) (qu_t F)).length)])), (rq, .inl (cB, 4195, .inl f7))]) [0, 1, 2] rfl
  have hKc := hK.sub (tys' := [(cB, .byte)]) [0] rfl
  have hDc := hD.sub (ws' := [(tf, .inr (7, [.ref hf, .ref hq, .ref hs, .ref hd, .ref hp, .ref hc, .long ln])), (hq, .inr (2, [.ref rq, .int (nI (by_ap 4195 (List.take 0 G) (qu_t F)).length)])), (rq, .inl (cB, 4195, .inl f7))]) [0, 1, 2] (by decide) rfl
  have hFc := va_free (wc := [(tf, .inr (7, [.ref hf, .ref hq, .ref hs, .ref hd, .ref hp, .ref hc, .long ln])), (hq, .inr (2, [.ref rq, .int (nI (by_ap 4195 (List.take 0 G) (qu_t F)).length)])), (rq, .inl (cB, 4195, .inl f7))]) hD hS hA [0, 1, 2] rfl
  refine zz_calli (va_runV (As := []) (rest := []) ⟨hx, hb, hml, hown, hg⟩ (c_Tf_keptOfResult l dC dI tf hf hq hs hd hp hc ln rq cB f7 (by_ap 4195 (List.take 0 G) (qu_t F)) hLz (by_ap_len _ _ _) H.size) (cwV 0 hg (gi_V kw_452 kw_454 sw_4 kw_1 kw_455) rfl rfl rfl (by decide +kernel) ⟨Nat.le_of_ble_eq_true rfl, Nat.le_of_ble_eq_true rfl⟩) (zz_preV hPc hKc hDc _ (q0 := 0) (ci := 7) rfl rfl) rfl rfl hl.1 rfl (lv_room (Nat.le_of_ble_eq_true rfl)) d_Tf_quote_28 ⟨Nat.le_of_ble_eq_true rfl, Nat.le_of_ble_eq_true rfl⟩) hS hFc (fun u H1 k9 p9 d9 => va_join (wr := [(hf, .inr (2, [.ref rf, .int (nI (List.take 0 F).length)])), (rf, .inl (cB, 4096, .inl ff))]) hP hD [0, 1, 2] [3, 4] rfl rfl (by decide) (by decide) k9 hFc p9 d9) (fun r_4 u H locs hw hP hD hK1 hS => ?_)
  obtain ⟨f8, rfl⟩ : ∃ z, z = u := ⟨_, rfl⟩
  try dsimp only at hw
  have hP : va_P (dC, dI) vwCl [(hf, .inr (2, [.ref rf, .int (nI (List.take 0 F).length)])), (rf, .inl (cB, 4096, .inl ff)), (tf, .inr (7, [.ref hf, .ref hq, .ref hs, .ref hd, .ref hp, .ref hc, .long ln])), (hq, .inr (2, [.ref rq, .int (nI (List.take 4096 (by_ap 4195 (List.take 0 G) (qu_t F))).length)])), (rq, .inl (cB, 4195, .inl f8))] H := hP
  have hD : va_D A [(hf, .inr (2, [.ref rf, .int (nI (List.take 0 F).length)])), (rf, .inl (cB, 4096, .inl ff)), (tf, .inr (7, [.ref hf, .ref hq, .ref hs, .ref hd, .ref hp, .ref hc, .long ln])), (hq, .inr (2, [.ref rq, .int (nI (List.take 4096 (by_ap 4195 (List.take 0 G) (qu_t F))).length)])), (rq, .inl (cB, 4195, .inl f8))] := hD
  obtain ⟨hkr, hkf⟩ := hw
  rw [hkf] at hP hD
  have hP : va_P (dC, dI) vwCl [(hf, .inr (2, [.ref rf, .int (nI (List.take 0 F).length)])), (rf, .inl (cB, 4096, .inl ff)), (tf, .inr (7, [.ref hf, .ref hq, .ref hs, .ref hd, .ref hp, .ref hc, .long ln])), (hq, .inr (2, [.ref rq, .int (nI (List.take 4096 (by_ap 4195 (List.take 0 G) (qu_t F))).length)])), (rq, .inl (cB, 4195, .inl f7))] H := hP
  have hD : va_D A [(hf, .inr (2, [.ref rf, .int (nI (List.take 0 F).length)])), (rf, .inl (cB, 4096, .inl ff)), (tf, .inr (7, [.ref hf, .ref hq, .ref hs, .ref hd, .ref hp, .ref hc, .long ln])), (hq, .inr (2, [.ref rq, .int (nI (List.take 4096 (by_ap 4195 (List.take 0 G) (qu_t F))).length)])), (rq, .inl (cB, 4195, .inl f7))] := hD
  have hP9 := hP.sub (ws' := [(tf, .inr (7, [.ref hf, .ref hq, .ref hs, .ref hd, .ref hp, .ref hc, .long ln])), (hq, .inr (2, [.ref rq, .int (nI (List.take 4096 (by_ap 4195 (List.take 0 G) (qu_t F))).length)])), (rq, .inl (cB, 4195, .inl f7)), (hf, .inr (2, [.ref rf, .int (nI (List.take 0 F).length)])), (rf, .inl (cB, 4096, .inl ff))]) [2, 3, 4, 0, 1] rfl
  have hD9 := hD.sub (ws' := [(tf, .inr (7, [.ref hf, .ref hq, .ref hs, .ref hd, .ref hp, .ref hc, .long ln])), (hq, .inr (2, [.ref rq, .int (nI (List.take 4096 (by_ap 4195 (List.take 0 G) (qu_t F))).length)])), (rq, .inl (cB, 4195, .inl f7)), (hf, .inr (2, [.ref rf, .int (nI (List.take 0 F).length)])), (rf, .inl (cB, 4096, .inl ff))]) [2, 3, 4, 0, 1] (by decide) rfl
  have hK9 := hK.sub (tys' := [(cB, .byte)]) [0] rfl
  rw [kp_e] at hP9 hD9
  exact zz_iret hx hb hr hlocks d_Tf_quote_31 hS (by first | exact Nat.le_refl _ | decide | omega | (dsimp only; omega)) (by first | exact Nat.le_refl _ | decide | omega | (dsimp only; omega)) f7 ⟨(by rw [hkr, kp_e]), (by rw [← kp_e (G := G)]; exact by_L_take hLz)⟩ hP9 hK9 hD9
abbrev y_Tf_decode : MethodName := ⟨"TextForge", "decode", "()I"⟩
abbrev w_Tf_decode : List Cond := Cond.code y_Tf_decode prog_1_method_15_code 1 (some .int) :: gw
theorem d_Tf_decode_0 : decode prog_1_method_15_code 0 = .ok (.aload_n 0, 1) := by decide +kernel
theorem d_Tf_decode_1 : decode prog_1_method_15_code 1 = .ok (.getfield 45, 3) := by decide +kernel
theorem d_Tf_decode_4 : decode prog_1_method_15_code 4 = .ok (.aload_n 0, 1) := by decide +kernel
theorem d_Tf_decode_5 : decode prog_1_method_15_code 5 = .ok (.getfield 14, 3) := by decide +kernel
theorem d_Tf_decode_8 : decode prog_1_method_15_code 8 = .ok (.invokevirtual 152, 3) := by decide +kernel
theorem d_Tf_decode_11 : decode prog_1_method_15_code 11 = .ok (.aload_n 0, 1) := by decide +kernel
theorem d_Tf_decode_12 : decode prog_1_method_15_code 12 = .ok (.getfield 14, 3) := by decide +kernel
theorem d_Tf_decode_15 : decode prog_1_method_15_code 15 = .ok (.iconst 0, 1) := by decide +kernel
theorem d_Tf_decode_16 : decode prog_1_method_15_code 16 = .ok (.invokevirtual 60, 3) := by decide +kernel
theorem d_Tf_decode_19 : decode prog_1_method_15_code 19 = .ok (.aload_n 0, 1) := by decide +kernel
theorem d_Tf_decode_20 : decode prog_1_method_15_code 20 = .ok (.getfield 45, 3) := by decide +kernel
theorem d_Tf_decode_23 : decode prog_1_method_15_code 23 = .ok (.invokevirtual 155, 3) := by decide +kernel
theorem d_Tf_decode_26 : decode prog_1_method_15_code 26 = .ok (.ireturn, 1) := by decide +kernel
set_option maxHeartbeats 4000000 in
set_option maxRecDepth 100000 in
theorem c_Tf_decode (l : Launch) (dC : Nat → ClassId) (dI : Nat → Nat → Nat) (tf hf hq hs hd hp hc : Nat) (ln : Int64) (rv rp : Nat) (cI : ClassId) (nv : Nat) (fv fp : Nat → Int32) (n0 : Int32) (cB : ClassId) (rf : Nat) (ff : Nat → Int32) (F : List Nat) (hLf : by_L F ff) (hcf : F.length ≤ 4096) (hnv : nv < 1000000) : zM_i (S := Nat × Nat × Nat × (Nat → Int32) × (Nat → Int32)) l y_Tf_decode w_Tf_decode { frames := 4, cells := 2, slots := (F.length + F.length), locals := 83 } (dC, dI) vwCl [.ref tf] [(tf, .inr (7, [.ref hf, .ref hq, .ref hs, .ref hd, .ref hp, .ref hc, .long ln])), (hc, .inr (3, [.ref rv, .ref rp, .int n0])), (rv, .inl (cI, nv, .inl fv)), (rp, .inl (cI, nv, .inl fp)), (hf, .inr (2, [.ref rf, .int (nI F.length)])), (rf, .inl (cB, 4096, .inl ff))] [(cI, .int), (cB, .byte)] (fun (r : Int32) (u : Nat × Nat × Nat × (Nat → Int32) × (Nat → Int32)) => match u with | (rv1, rp1, nv1, fv1, fp1) => r = nI (cd_l F).length ∧ cd_P F nv1 fv1 fp1) (fun u => match u with | (rv1, rp1, nv1, fv1, fp1) => [(tf, .inr (7, [.ref hf, .ref hq, .ref hs, .ref hd, .ref hp, .ref hc, .long ln])), (hc, .inr (3, [.ref rv1, .ref rp1, .int (nI (cd_l F).length)])), (rv1, .inl (cI, nv1, .inl fv1)), (rp1, .inl (cI, nv1, .inl fp1)), (hf, .inr (2, [.ref rf, .int (nI (List.take 0 F).length)])), (rf, .inl (cB, 4096, .inl ff))]) (fun u => match u with | (rv1, rp1, nv1, fv1, fp1) => [(cI, .int), (cB, .byte)]) 2 (F.length + F.length) := by
  refine zz_enteri (cc := prog_1_method_15_code) (nL := 1) (ret := (some .int)) (by decide) rfl (Nat.le_of_ble_eq_true rfl) ?_
  intro p e s m below meth c A ls C0 hA hS hP hK hD hl
  obtain ⟨hx, hb, hml, hown, hg, hr, hlocks, hin⟩ := C0
  have hown : s.vm.findClass "TextForge" = some m.cls := hown
  have hP : va_P (dC, dI) vwCl [(tf, .inr (7, [.ref hf, .ref hq, .ref hs, .ref hd, .ref hp, .ref hc, .long ln])), (hc, .inr (3, [.ref rv, .ref rp, .int n0])), (rv, .inl (cI, nv, .inl fv)), (rp, .inl (cI, nv, .inl fp)), (hf, .inr (2, [.ref rf, .int (nI F.length)])), (rf, .inl (cB, 4096, .inl ff))] s.heap := hP
  have hK : va_K (dC, dI) vwCl [(cI, .int), (cB, .byte)] s := hK
  have hD : va_D A [(tf, .inr (7, [.ref hf, .ref hq, .ref hs, .ref hd, .ref hp, .ref hc, .long ln])), (hc, .inr (3, [.ref rv, .ref rp, .int n0])), (rv, .inl (cI, nv, .inl fv)), (rp, .inl (cI, nv, .inl fp)), (hf, .inr (2, [.ref rf, .int (nI F.length)])), (rf, .inl (cB, 4096, .inl ff))] := hD
  have hl : lv_has ls 1 [(0, .ref tf)] := hl
  refine lv_aload_n hx hb d_Tf_decode_0 rfl (lv_at hl 0 rfl) ?_
  refine va_get (D := (dC, dI)) (ci := 7) (v := .ref hc) (C := "TextForge") (T := TX7) (N := 7) hx hb hg iwX7 hown hK hP 0 rfl rfl 5 (by decide) (hg _ kw_136) (fun _ h9 => h9) rfl d_Tf_decode_1 ?_
  refine lv_aload_n hx hb d_Tf_decode_4 rfl (lv_at hl 0 rfl) ?_
  refine va_get (D := (dC, dI)) (ci := 7) (v := .ref hf) (C := "TextForge") (T := TX7) (N := 7) hx hb hg iwX7 hown hK hP 0 rfl rfl 0 (by decide) (hg _ kw_131) (fun _ h9 => h9) rfl d_Tf_decode_5 ?_
  have hPc := hP.sub (ws' := [(hc, .inr (3, [.ref rv, .ref rp, .int n0])), (rv, .inl (cI, nv, .inl fv)), (rp, .inl (cI, nv, .inl fp)), (hf, .inr (2, [.ref rf, .int (nI F.length)])), (rf, .inl (cB, 4096, .inl ff))]) [1, 2, 3, 4, 5] rfl
  have hKc := hK.sub (tys' := [(cI, .int), (cI, .int), (cB, .byte)]) [0, 0, 1] rfl
  have hDc := hD.sub (ws' := [(hc, .inr (3, [.ref rv, .ref rp, .int n0])), (rv, .inl (cI, nv, .inl fv)), (rp, .inl (cI, nv, .inl fp)), (hf, .inr (2, [.ref rf, .int (nI F.length)])), (rf, .inl (cB, 4096, .inl ff))]) [1, 2, 3, 4, 5] (by decide) rfl
  have hFc := va_free (wc := [(hc, .inr (3, [.ref rv, .ref rp, .int n0])), (rv, .inl (cI, nv, .inl fv)), (rp, .inl (cI, nv, .inl fp)), (hf, .inr (2, [.ref rf, .int (nI F.length)])), (rf, .inl (cB, 4096, .inl ff))]) hD hS hA [1, 2, 3, 4, 5] rfl
  refine zz_callv (va_runV (As := [.ref hf]) (rest := []) ⟨hx, hb, hml, hown, hg⟩ (c_Cd_take l dC dI hc rv rp cI cI nv fv fp n0 hf rf cB 4096 ff F hnv hLf hcf (by decide) s.heap.size) (cwV 1 hg (gi_V kw_485 kw_486 kw_487 kw_8 kw_488) rfl rfl rfl (by decide +kernel) ⟨Nat.le_of_ble_eq_true rfl, Nat.le_of_ble_eq_true rfl⟩) (zz_preV hPc hKc hDc _ (q0 := 0) (ci := 3) rfl rfl) rfl rfl hl.1 rfl (lv_room (Nat.le_of_ble_eq_true rfl)) d_Tf_decode_8 ⟨(by dsimp only; omega), (by dsimp only; omega)⟩) hS hFc (fun u H1 k9 p9 d9 => va_join (wr := [(tf, .inr (7, [.ref hf, .ref hq, .ref hs, .ref hd, .ref hp, .ref hc, .long ln]))]) hP hD [1, 2, 3, 4, 5] [0] rfl rfl (by decide) (by decide) k9 hFc p9 d9) (fun u H locs hw hP hD hK1 hS => ?_)
  obtain ⟨rv1, rp1, cV1, cP1, nv1, fv1, fp1⟩ := u
  try dsimp only at hw
  have hK : va_K (dC, dI) vwCl [(cI, .int), (cB, .byte), (cV1, .int), (cP1, .int), (cB, .byte)] s := hK.app hK1
  have hP : va_P (dC, dI) vwCl [(tf, .inr (7, [.ref hf, .ref hq, .ref hs, .ref hd, .ref hp, .ref hc, .long ln])), (hc, .inr (3, [.ref rv1, .ref rp1, .int (nI (cd_l F).length)])), (rv1, .inl (cV1, nv1, .inl fv1)), (rp1, .inl (cP1, nv1, .inl fp1)), (hf, .inr (2, [.ref rf, .int (nI F.length)])), (rf, .inl (cB, 4096, .inl ff))] H := hP
  have hD : va_D A [(tf, .inr (7, [.ref hf, .ref hq, .ref hs, .ref hd, .ref hp, .ref hc, .long ln])), (hc, .inr (3, [.ref rv1, .ref rp1, .int (nI (cd_l F).length)])), (rv1, .inl (cV1, nv1, .inl fv1)), (rp1, .inl (cP1, nv1, .inl fp1)), (hf, .inr (2, [.ref rf, .int (nI F.length)])), (rf, .inl (cB, 4096, .inl ff))] := hD
  have hcd := hw
  rw [(va_Ksm hK 2 0 rfl rfl : cV1 = cI), (va_Ksm hK 3 0 rfl rfl : cP1 = cI)] at hP hD
  have hP : va_P (dC, dI) vwCl [(tf, .inr (7, [.ref hf, .ref hq, .ref hs, .ref hd, .ref hp, .ref hc, .long ln])), (hc, .inr (3, [.ref rv1, .ref rp1, .int (nI (cd_l F).length)])), (rv1, .inl (cI, nv1, .inl fv1)), (rp1, .inl (cI, nv1, .inl fp1)), (hf, .inr (2, [.ref rf, .int (nI F.length)])), (rf, .inl (cB, 4096, .inl ff))] H := hP
  have hD : va_D A [(tf, .inr (7, [.ref hf, .ref hq, .ref hs, .ref hd, .ref hp, .ref hc, .long ln])), (hc, .inr (3, [.ref rv1, .ref rp1, .int (nI (cd_l F).length)])), (rv1, .inl (cI, nv1, .inl fv1)), (rp1, .inl (cI, nv1, .inl fp1)), (hf, .inr (2, [.ref rf, .int (nI F.length)])), (rf, .inl (cB, 4096, .inl ff))] := hD
  refine lv_aload_n hx hb d_Tf_decode_11 rfl (lv_at hl 0 rfl) ?_
  refine va_get (D := (dC, dI)) (ci := 7) (v := .ref hf) (C := "TextForge") (T := TX7) (N := 7) hx hb hg iwX7 hown hK hP 0 rfl rfl 0 (by decide) (hg _ kw_131) (fun _ h9 => h9) rfl d_Tf_decode_12 ?_
  refine lv_iconst (v := 0) hx hb d_Tf_decode_15 (by decide) ?_
  have hPc := hP.sub (ws' := [(hf, .inr (2, [.ref rf, .int (nI F.length)])), (rf, .inl (cB, 4096, .inl ff))]) [4, 5] rfl
  have hKc := hK.sub (tys' := [(cB, .byte)]) [1] rfl
  have hDc := hD.sub (ws' := [(hf, .inr (2, [.ref rf, .int (nI F.length)])), (rf, .inl (cB, 4096, .inl ff))]) [4, 5] (by decide) rfl
  have hFc := va_free (wc := [(hf, .inr (2, [.ref rf, .int (nI F.length)])), (rf, .inl (cB, 4096, .inl ff))]) hD hS hA [4, 5] rfl
  refine zz_callv (va_runV (As := [.int 0]) (rest := []) ⟨hx, hb, hml, hown, hg⟩ (c_By_cut l dC dI hf rf cB 4096 ff F 0 0 hLf hcf (by decide) rfl (by decide) H.size) (cwV 1 hg (gi_V kw_173 kw_174 kw_175 kw_2 kw_176) rfl rfl rfl (by decide +kernel) ⟨Nat.le_of_ble_eq_true rfl, Nat.le_of_ble_eq_true rfl⟩) (zz_preV hPc hKc hDc _ (q0 := 0) (ci := 2) rfl rfl) rfl rfl hl.1 rfl (lv_room (Nat.le_of_ble_eq_true rfl)) d_Tf_decode_16 ⟨(by dsimp only; omega), (by dsimp only; omega)⟩) hS hFc (fun u H1 k9 p9 d9 => va_join (wr := [(tf, .inr (7, [.ref hf, .ref hq, .ref hs, .ref hd, .ref hp, .ref hc, .long ln])), (hc, .inr (3, [.ref rv1, .ref rp1, .int (nI (cd_l F).length)])), (rv1, .inl (cI, nv1, .inl fv1)), (rp1, .inl (cI, nv1, .inl fp1))]) hP hD [4, 5] [0, 1, 2, 3] rfl rfl (by decide) (by decide) k9 hFc p9 d9) (fun u H locs hw hP hD hK1 hS => ?_)
  obtain ⟨f6, rfl⟩ : ∃ z, z = u := ⟨_, rfl⟩
  try dsimp only at hw
  have hP : va_P (dC, dI) vwCl [(tf, .inr (7, [.ref hf, .ref hq, .ref hs, .ref hd, .ref hp, .ref hc, .long ln])), (hc, .inr (3, [.ref rv1, .ref rp1, .int (nI (cd_l F).length)])), (rv1, .inl (cI, nv1, .inl fv1)), (rp1, .inl (cI, nv1, .inl fp1)), (hf, .inr (2, [.ref rf, .int (nI (List.take 0 F).length)])), (rf, .inl (cB, 4096, .inl f6))] H := hP
  have hD : va_D A [(tf, .inr (7, [.ref hf, .ref hq, .ref hs, .ref hd, .ref hp, .ref hc, .long ln])), (hc, .inr (3, [.ref rv1, .ref rp1, .int (nI (cd_l F).length)])), (rv1, .inl (cI, nv1, .inl fv1)), (rp1, .inl (cI, nv1, .inl fp1)), (hf, .inr (2, [.ref rf, .int (nI (List.take 0 F).length)])), (rf, .inl (cB, 4096, .inl f6))] := hD
  rw [hw] at hP hD
  have hP : va_P (dC, dI) vwCl [(tf, .inr (7, [.ref hf, .ref hq, .ref hs, .ref hd, .ref hp, .ref hc, .long ln])), (hc, .inr (3, [.ref rv1, .ref rp1, .int (nI (cd_l F).length)])), (rv1, .inl (cI, nv1, .inl fv1)), (rp1, .inl (cI, nv1, .inl fp1)), (hf, .inr (2, [.ref rf, .int (nI (List.take 0 F).length)])), (rf, .inl (cB, 4096, .inl ff))] H := hP
  have hD : va_D A [(tf, .inr (7, [.ref hf, .ref hq, .ref hs, .ref hd, .ref hp, .ref hc, .long ln])), (hc, .inr (3, [.ref rv1, .ref rp1, .int (nI (cd_l F).length)])), (rv1, .inl (cI, nv1, .inl fv1)), (rp1, .inl (cI, nv1, .inl fp1)), (hf, .inr (2, [.ref rf, .int (nI (List.take 0 F).length)])), (rf, .inl (cB, 4096, .inl ff))] := hD
  refine lv_aload_n hx hb d_Tf_decode_19 rfl (lv_at hl 0 rfl) ?_
  refine va_get (D := (dC, dI)) (ci := 7) (v := .ref hc) (C := "TextForge") (T := TX7) (N := 7) hx hb hg iwX7 hown hK hP 0 rfl rfl 5 (by decide) (hg _ kw_136) (fun _ h9 => h9) rfl d_Tf_decode_20 ?_
  have hPc := hP.sub (ws' := [(hc, .inr (3, [.ref rv1, .ref rp1, .int (nI (cd_l F).length)]))]) [1] rfl
  have hKc := hK.sub (tys' := []) [] rfl
  refine vp_callSi (W.runV (As := []) (rest := []) ⟨hx, hb, hml, hown, hg⟩ (c_Cd_count l dC dI hc (.ref rv1) (.ref rp1) (nI (cd_l F).length) ) (cwV 0 hg (gi_V kw_504 kw_505 kw_506 kw_8 kw_507) rfl rfl rfl (by decide +kernel) ⟨Nat.le_of_ble_eq_true rfl, Nat.le_of_ble_eq_true rfl⟩) (zz_prJV hPc hKc _ (q0 := 0) (ci := 3) rfl rfl) rfl rfl hl.1 rfl (lv_room (Nat.le_of_ble_eq_true rfl)) d_Tf_decode_23 ⟨(by dsimp only; omega), (by dsimp only; omega)⟩) (fun r_3 hr_3 => ?_)
  subst hr_3
  have hP9 := hP.sub (ws' := [(tf, .inr (7, [.ref hf, .ref hq, .ref hs, .ref hd, .ref hp, .ref hc, .long ln])), (hc, .inr (3, [.ref rv1, .ref rp1, .int (nI (cd_l F).length)])), (rv1, .inl (cI, nv1, .inl fv1)), (rp1, .inl (cI, nv1, .inl fp1)), (hf, .inr (2, [.ref rf, .int (nI (List.take 0 F).length)])), (rf, .inl (cB, 4096, .inl ff))]) [0, 1, 2, 3, 4, 5] rfl
  have hD9 := hD.sub (ws' := [(tf, .inr (7, [.ref hf, .ref hq, .ref hs, .ref hd, .ref hp, .ref hc, .long ln])), (hc, .inr (3, [.ref rv1, .ref rp1, .int (nI (cd_l F).length)])), (rv1, .inl (cI, nv1, .inl fv1)), (rp1, .inl (cI, nv1, .inl fp1)), (hf, .inr (2, [.ref rf, .int (nI (List.take 0 F).length)])), (rf, .inl (cB, 4096, .inl ff))]) [0, 1, 2, 3, 4, 5] (by decide) rfl
  have hK9 := hK.sub (tys' := [(cI, .int), (cB, .byte)]) [0, 1] rfl
  exact zz_iret hx hb hr hlocks d_Tf_decode_26 hS (by first | exact Nat.le_refl _ | decide | omega | (dsimp only; omega)) (by first | exact Nat.le_refl _ | decide | omega | (dsimp only; omega)) (rv1, rp1, nv1, fv1, fp1) ⟨rfl, hcd⟩ hP9 hK9 hD9
