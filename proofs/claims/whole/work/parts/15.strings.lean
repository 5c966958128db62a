/-! STRINGS -/
theorem kx_all0 : ∀ i, i < kxN → ((kxB i).length < 100 ∧ ∀ x ∈ kxB i, x < 256) := by decide +kernel
theorem kx_len (i : Nat) (hi : i < kxN) : (kxB i).length < 2 ^ 31 := Nat.lt_trans (kx_all0 i hi).1 (by decide)
theorem kx_bd {i k : Nat} (hi : i < kxN) (hk : k < (kxB i).length) : (kxB i).getD k 0 < 256 := by
  rw [List.getD_eq_getElem?_getD, List.getElem?_eq_getElem hk]
  exact (kx_all0 i hi).2 _ (List.getElem_mem hk)
theorem kx_nc (x : Int32) : narrow .char (.int ((x &&& 255).toUInt32 % 65536).toInt32) = .int ((x &&& 255).toUInt32 % 65536).toInt32 := pk_nc _
theorem kx_ch {i k : Nat} (hi : i < kxN) (hk : k < (kxB i).length) : ((sb_b ((kxB i).getD (nI k).toNatClampNeg 0) &&& 255).toUInt32 % 65536).toInt32 = nI ((kxB i).getD k 0) := by
  rw [nI_clamp (by have := kx_len i hi; omega), (sb_byte _ (kx_bd hi hk)).1, (sb_byte _ (kx_bd hi hk)).2.1]
theorem kx_n9 {i k : Nat} (hi : i < kxN) (hk : k < (kxB i).length) : narrow .char (.int (nI ((kxB i).getD k 0))) = .int (nI ((kxB i).getD k 0)) := (pk_charN (by have := kx_bd hi hk; omega)).1
theorem kx_all {i : Nat} : by_sg (kxB i) 0 (kxB i).length = kxB i := by unfold by_sg; rw [List.drop_zero, List.take_length]
theorem kx_sg {cap i j : Nat} {L : List Nat} (hi : i < kxN) (hj : j < (kxB i).length) : by_ap cap (by_ap cap L (by_sg (kxB i) 0 j)) [by_b (nI ((kxB i).getD j 0))] = by_ap cap L (by_sg (kxB i) 0 (j + 1)) := by
  rw [by_ap_ap, by_b_n (kx_bd hi hj), by_sg_s (by omega), Nat.zero_add]
abbrev y_Pc_checkIndex : MethodName := ⟨"jdk/internal/util/Preconditions", "checkIndex", "(IILjava/util/function/BiFunction;)I"⟩
abbrev w_Pc_checkIndex : List Cond := Cond.code y_Pc_checkIndex prog_23_method_11_code 3 (some .int) :: gw
theorem d_Pc_checkIndex_0 : decode prog_23_method_11_code 0 = .ok (.iload_n 0, 1) := by decide +kernel
theorem d_Pc_checkIndex_1 : decode prog_23_method_11_code 1 = .ok (.ifCond .lt 8, 3) := by decide +kernel
theorem d_Pc_checkIndex_4 : decode prog_23_method_11_code 4 = .ok (.iload_n 0, 1) := by decide +kernel
theorem d_Pc_checkIndex_5 : decode prog_23_method_11_code 5 = .ok (.iload_n 1, 1) := by decide +kernel
theorem d_Pc_checkIndex_6 : decode prog_23_method_11_code 6 = .ok (.if_icmp .lt 10, 3) := by decide +kernel
theorem d_Pc_checkIndex_9 : decode prog_23_method_11_code 9 = .ok (.aload_n 2, 1) := by decide +kernel
theorem d_Pc_checkIndex_10 : decode prog_23_method_11_code 10 = .ok (.iload_n 0, 1) := by decide +kernel
theorem d_Pc_checkIndex_11 : decode prog_23_method_11_code 11 = .ok (.iload_n 1, 1) := by decide +kernel
theorem d_Pc_checkIndex_12 : decode prog_23_method_11_code 12 = .ok (.invokestatic 95, 3) := by decide +kernel
theorem d_Pc_checkIndex_15 : decode prog_23_method_11_code 15 = .ok (.athrow, 1) := by decide +kernel
theorem d_Pc_checkIndex_16 : decode prog_23_method_11_code 16 = .ok (.iload_n 0, 1) := by decide +kernel
theorem d_Pc_checkIndex_17 : decode prog_23_method_11_code 17 = .ok (.ireturn, 1) := by decide +kernel
set_option maxHeartbeats 4000000 in
set_option maxRecDepth 100000 in
theorem c_Pc_checkN (l : Launch) (dC : Nat → ClassId) (dI : Nat → Nat → Nat) (a b : Nat) (hab : a < b) (hb2 : b < 2 ^ 31) : zR_i l y_Pc_checkIndex w_Pc_checkIndex { frames := 0, cells := 0, slots := 0, locals := 0 } (dC, dI) vwCl [.int (nI a), .int (nI b), .null] [] [] (fun r : Int32 => True) := by
  refine zz_enterR (cc := prog_23_method_11_code) (nL := 3) (ret := (some .int)) (by decide) rfl (Nat.le_of_ble_eq_true rfl) ?_
  intro p e s m below meth c ls C0 hP hK hl
  obtain ⟨hx, hb, hml, hown, hg, hr, hlocks, hin⟩ := C0
  have hS : va_S (fun _ => False) s.heap s.heap [] := va_S.rf
  have hown : s.vm.findClass "jdk/internal/util/Preconditions" = some m.cls := hown
  have hP : va_P (dC, dI) vwCl [] s.heap := hP
  have hK : va_K (dC, dI) vwCl [] s := hK
  have hl : lv_has ls 3 [(0, .int (nI a)), (1, .int (nI b)), (2, .null)] := hl
  refine lv_iload_n hx hb d_Pc_checkIndex_0 rfl (lv_at hl 0 rfl) ?_
  refine lv_if_lt (tgt := 9) hx hb d_Pc_checkIndex_1 (by decide) (fun c9 => by first | exact absurd c9 (nI_pos (by omega)) | exact absurd (nI_pos (by omega)) c9) (fun _ => ?_)
  refine lv_iload_n hx hb d_Pc_checkIndex_4 rfl (lv_at hl 0 rfl) ?_
  refine lv_iload_n hx hb d_Pc_checkIndex_5 rfl (lv_at hl 1 rfl) ?_
  refine lv_icmp_lt (tgt := 16) hx hb d_Pc_checkIndex_6 (by decide) (fun _ => ?_) (fun c9 => by first | exact absurd c9 (nI_lt hab hb2) | exact absurd (nI_lt hab hb2) c9)
  refine lv_iload_n hx hb d_Pc_checkIndex_16 rfl (lv_at hl 0 rfl) ?_
  exact zz_iretR hx hb hr hlocks d_Pc_checkIndex_17 trivial
set_option maxHeartbeats 4000000 in
set_option maxRecDepth 100000 in
theorem c_Pc_checkR (l : Launch) (dC : Nat → ClassId) (dI : Nat → Nat → Nat) (a b t : Nat) (hab : a < b) (hb2 : b < 2 ^ 31) : zR_i l y_Pc_checkIndex w_Pc_checkIndex { frames := 0, cells := 0, slots := 0, locals := 0 } (dC, dI) vwCl [.int (nI a), .int (nI b), .ref t] [] [] (fun r : Int32 => True) := by
  refine zz_enterR (cc := prog_23_method_11_code) (nL := 3) (ret := (some .int)) (by decide) rfl (Nat.le_of_ble_eq_true rfl) ?_
  intro p e s m below meth c ls C0 hP hK hl
  obtain ⟨hx, hb, hml, hown, hg, hr, hlocks, hin⟩ := C0
  have hS : va_S (fun _ => False) s.heap s.heap [] := va_S.rf
  have hown : s.vm.findClass "jdk/internal/util/Preconditions" = some m.cls := hown
  have hP : va_P (dC, dI) vwCl [] s.heap := hP
  have hK : va_K (dC, dI) vwCl [] s := hK
  have hl : lv_has ls 3 [(0, .int (nI a)), (1, .int (nI b)), (2, .ref t)] := hl
  refine lv_iload_n hx hb d_Pc_checkIndex_0 rfl (lv_at hl 0 rfl) ?_
  refine lv_if_lt (tgt := 9) hx hb d_Pc_checkIndex_1 (by decide) (fun c9 => by first | exact absurd c9 (nI_pos (by omega)) | exact absurd (nI_pos (by omega)) c9) (fun _ => ?_)
  refine lv_iload_n hx hb d_Pc_checkIndex_4 rfl (lv_at hl 0 rfl) ?_
  refine lv_iload_n hx hb d_Pc_checkIndex_5 rfl (lv_at hl 1 rfl) ?_
  refine lv_icmp_lt (tgt := 16) hx hb d_Pc_checkIndex_6 (by decide) (fun _ => ?_) (fun c9 => by first | exact absurd c9 (nI_lt hab hb2) | exact absurd (nI_lt hab hb2) c9)
  refine lv_iload_n hx hb d_Pc_checkIndex_16 rfl (lv_at hl 0 rfl) ?_
  exact zz_iretR hx hb hr hlocks d_Pc_checkIndex_17 trivial
abbrev y_St_checkIndex : MethodName := ⟨"java/lang/String", "checkIndex", "(II)V"⟩
abbrev w_St_checkIndex : List Cond := Cond.code y_St_checkIndex prog_18_method_155_code 2 none :: gw
theorem d_St_checkIndex_0 : decode prog_18_method_155_code 0 = .ok (.iload_n 0, 1) := by decide +kernel
theorem d_St_checkIndex_1 : decode prog_18_method_155_code 1 = .ok (.iload_n 1, 1) := by decide +kernel
theorem d_St_checkIndex_2 : decode prog_18_method_155_code 2 = .ok (.getstatic 1053, 3) := by decide +kernel
theorem d_St_checkIndex_5 : decode prog_18_method_155_code 5 = .ok (.invokestatic 1059, 3) := by decide +kernel
theorem d_St_checkIndex_8 : decode prog_18_method_155_code 8 = .ok (.pop, 1) := by decide +kernel
theorem d_St_checkIndex_9 : decode prog_18_method_155_code 9 = .ok (.return_, 1) := by decide +kernel
set_option maxHeartbeats 4000000 in
set_option maxRecDepth 100000 in
theorem c_St_checkIndex (l : Launch) (dC : Nat → ClassId) (dI : Nat → Nat → Nat) (ad : Nat → Nat) (a b : Nat) (hab : a < b) (hb2 : b < 2 ^ 31) : yR_v ad l y_St_checkIndex w_St_checkIndex { frames := 1, cells := 0, slots := 0, locals := 22 } (dC, dI) vwCl [.int (nI a), .int (nI b)] [] [] (fun r : Unit => True) := by
  refine zy_enterR (cc := prog_18_method_155_code) (nL := 2) (ret := none) (by decide) rfl (Nat.le_of_ble_eq_true rfl) ?_
  intro p e s m below meth c ls C0 hP hK hl hX
  obtain ⟨hx, hb, hml, hown, hg, hr, hlocks, hin⟩ := C0
  have hS : va_S (fun _ => False) s.heap s.heap [] := va_S.rf
  have hown : s.vm.findClass "java/lang/String" = some m.cls := hown
  have hP : va_P (dC, dI) vwCl [] s.heap := hP
  have hK : va_K (dC, dI) vwCl [] s := hK
  have hl : lv_has ls 2 [(0, .int (nI a)), (1, .int (nI b))] := hl
  refine lv_iload_n hx hb d_St_checkIndex_0 rfl (lv_at hl 0 rfl) ?_
  refine lv_iload_n hx hb d_St_checkIndex_1 rfl (lv_at hl 1 rfl) ?_
  rcases hX.2.2.1 with hz | ⟨t, hz⟩
  · skip
    refine va_gets hx hb hz hS hown (hg _ kw_328) (fun _ h => h) d_St_checkIndex_2 ?_
    have hPc := hP.sub (ws' := []) [] rfl
    have hKc := hK.sub (tys' := []) [] rfl
    refine vp_callSi (W.runS (As := [.int (nI a), .int (nI b), .null]) (rest := []) ⟨hx, hb, hml, hown, hg⟩ (c_Pc_checkN l dC dI a b hab hb2) (va_cwS 3 hg (gi_S kw_330 kw_331 kw_18 kw_332) rfl rfl rfl (by decide +kernel) ⟨Nat.le_of_ble_eq_true rfl, Nat.le_of_ble_eq_true rfl⟩) (zz_prJS hPc hKc _) rfl rfl hl.1 rfl (lv_room (Nat.le_of_ble_eq_true rfl)) d_St_checkIndex_5 ⟨Nat.le_of_ble_eq_true rfl, Nat.le_of_ble_eq_true rfl⟩) (fun r_1 hr_1 => ?_)
    refine lv_pop hx hb d_St_checkIndex_8 rfl ?_
    exact zz_vretR hx hb hr hlocks d_St_checkIndex_9 trivial
  · skip
    refine va_gets hx hb hz hS hown (hg _ kw_328) (fun _ h => h) d_St_checkIndex_2 ?_
    have hPc := hP.sub (ws' := []) [] rfl
    have hKc := hK.sub (tys' := []) [] rfl
    refine vp_callSi (W.runS (As := [.int (nI a), .int (nI b), .ref t]) (rest := []) ⟨hx, hb, hml, hown, hg⟩ (c_Pc_checkR l dC dI a b t hab hb2) (va_cwS 3 hg (gi_S kw_330 kw_331 kw_18 kw_332) rfl rfl rfl (by decide +kernel) ⟨Nat.le_of_ble_eq_true rfl, Nat.le_of_ble_eq_true rfl⟩) (zz_prJS hPc hKc _) rfl rfl hl.1 rfl (lv_room (Nat.le_of_ble_eq_true rfl)) d_St_checkIndex_5 ⟨Nat.le_of_ble_eq_true rfl, Nat.le_of_ble_eq_true rfl⟩) (fun r_2 hr_2 => ?_)
    refine lv_pop hx hb d_St_checkIndex_8 rfl ?_
    exact zz_vretR hx hb hr hlocks d_St_checkIndex_9 trivial
abbrev y_St_coder : MethodName := ⟨"java/lang/String", "coder", "()B"⟩
abbrev w_St_coder : List Cond := Cond.code y_St_coder prog_18_method_152_code 1 (some .byte) :: gw
theorem d_St_coder_0 : decode prog_18_method_152_code 0 = .ok (.getstatic 38, 3) := by decide +kernel
theorem d_St_coder_3 : decode prog_18_method_152_code 3 = .ok (.ifCond .eq 10, 3) := by decide +kernel
theorem d_St_coder_6 : decode prog_18_method_152_code 6 = .ok (.aload_n 0, 1) := by decide +kernel
theorem d_St_coder_7 : decode prog_18_method_152_code 7 = .ok (.getfield 15, 3) := by decide +kernel
theorem d_St_coder_10 : decode prog_18_method_152_code 10 = .ok (.goto 4, 3) := by decide +kernel
theorem d_St_coder_13 : decode prog_18_method_152_code 13 = .ok (.iconst 1, 1) := by decide +kernel
theorem d_St_coder_14 : decode prog_18_method_152_code 14 = .ok (.ireturn, 1) := by decide +kernel
set_option maxHeartbeats 4000000 in
set_option maxRecDepth 100000 in
theorem c_St_coder (l : Launch) (dC : Nat → ClassId) (dI : Nat → Nat → Nat) (ad : Nat → Nat) (i : Nat) (hi : i < kxN) : yR_i ad l y_St_coder w_St_coder { frames := 0, cells := 0, slots := 0, locals := 0 } (dC, dI) vwCl [.ref (ad i)] [] [] (fun r : Int32 => r = 0) := by
  refine zy_enterR (cc := prog_18_method_152_code) (nL := 1) (ret := (some .byte)) (by decide) rfl (Nat.le_of_ble_eq_true rfl) ?_
  intro p e s m below meth c ls C0 hP hK hl hX
  obtain ⟨hx, hb, hml, hown, hg, hr, hlocks, hin⟩ := C0
  have hS : va_S (fun _ => False) s.heap s.heap [] := va_S.rf
  have hown : s.vm.findClass "java/lang/String" = some m.cls := hown
  have hP : va_P (dC, dI) vwCl [] s.heap := hP
  have hK : va_K (dC, dI) vwCl [] s := hK
  have hl : lv_has ls 1 [(0, .ref (ad i))] := hl
  refine va_gets hx hb hX.1 hS hown (hg _ kw_312) (fun _ h => h) d_St_coder_0 ?_
  refine lv_if_eq (tgt := 13) hx hb d_St_coder_3 (by decide) (fun c9 => by first | exact absurd c9 (by decide) | exact absurd (by decide) c9) (fun _ => ?_)
  refine lv_aload_n hx hb d_St_coder_6 rfl (lv_at hl 0 rfl) ?_
  refine vk_getf hx hb (hX.2.1 i hi).2.2.1 hS hown (hg _ kw_974) (fun _ h => h) d_St_coder_7 ?_
  refine lv_goto (tgt := 14) hx hb d_St_coder_10 (by decide) ?_
  exact zz_zretR hx hb hr hlocks d_St_coder_14 rfl rfl
abbrev y_St_isLatin1 : MethodName := ⟨"java/lang/String", "isLatin1", "()Z"⟩
abbrev w_St_isLatin1 : List Cond := Cond.code y_St_isLatin1 prog_18_method_154_code 1 (some .boolean) :: gw
theorem d_St_isLatin1_0 : decode prog_18_method_154_code 0 = .ok (.getstatic 38, 3) := by decide +kernel
theorem d_St_isLatin1_3 : decode prog_18_method_154_code 3 = .ok (.ifCond .eq 14, 3) := by decide +kernel
theorem d_St_isLatin1_6 : decode prog_18_method_154_code 6 = .ok (.aload_n 0, 1) := by decide +kernel
theorem d_St_isLatin1_7 : decode prog_18_method_154_code 7 = .ok (.getfield 15, 3) := by decide +kernel
theorem d_St_isLatin1_10 : decode prog_18_method_154_code 10 = .ok (.ifCond .ne 7, 3) := by decide +kernel
theorem d_St_isLatin1_13 : decode prog_18_method_154_code 13 = .ok (.iconst 1, 1) := by decide +kernel
theorem d_St_isLatin1_14 : decode prog_18_method_154_code 14 = .ok (.goto 4, 3) := by decide +kernel
theorem d_St_isLatin1_17 : decode prog_18_method_154_code 17 = .ok (.iconst 0, 1) := by decide +kernel
theorem d_St_isLatin1_18 : decode prog_18_method_154_code 18 = .ok (.ireturn, 1) := by decide +kernel
set_option maxHeartbeats 4000000 in
set_option maxRecDepth 100000 in
theorem c_St_isLatin1 (l : Launch) (dC : Nat → ClassId) (dI : Nat → Nat → Nat) (ad : Nat → Nat) (i : Nat) (hi : i < kxN) : yR_i ad l y_St_isLatin1 w_St_isLatin1 { frames := 0, cells := 0, slots := 0, locals := 0 } (dC, dI) vwCl [.ref (ad i)] [] [] (fun r : Int32 => r = 1) := by
  refine zy_enterR (cc := prog_18_method_154_code) (nL := 1) (ret := (some .boolean)) (by decide) rfl (Nat.le_of_ble_eq_true rfl) ?_
  intro p e s m below meth c ls C0 hP hK hl hX
  obtain ⟨hx, hb, hml, hown, hg, hr, hlocks, hin⟩ := C0
  have hS : va_S (fun _ => False) s.heap s.heap [] := va_S.rf
  have hown : s.vm.findClass "java/lang/String" = some m.cls := hown
  have hP : va_P (dC, dI) vwCl [] s.heap := hP
  have hK : va_K (dC, dI) vwCl [] s := hK
  have hl : lv_has ls 1 [(0, .ref (ad i))] := hl
  refine va_gets hx hb hX.1 hS hown (hg _ kw_312) (fun _ h => h) d_St_isLatin1_0 ?_
  refine lv_if_eq (tgt := 17) hx hb d_St_isLatin1_3 (by decide) (fun c9 => by first | exact absurd c9 (by decide) | exact absurd (by decide) c9) (fun _ => ?_)
  refine lv_aload_n hx hb d_St_isLatin1_6 rfl (lv_at hl 0 rfl) ?_
  refine vk_getf hx hb (hX.2.1 i hi).2.2.1 hS hown (hg _ kw_974) (fun _ h => h) d_St_isLatin1_7 ?_
  refine lv_if_ne (tgt := 17) hx hb d_St_isLatin1_10 (by decide) (fun c9 => by first | exact absurd c9 (fun z => z rfl) | exact absurd (fun z => z rfl) c9) (fun _ => ?_)
  refine lv_iconst (v := 1) hx hb d_St_isLatin1_13 (by decide) ?_
  refine lv_goto (tgt := 18) hx hb d_St_isLatin1_14 (by decide) ?_
  exact zz_zretR hx hb hr hlocks d_St_isLatin1_18 rfl rfl
abbrev y_St_length : MethodName := ⟨"java/lang/String", "length", "()I"⟩
abbrev w_St_length : List Cond := Cond.code y_St_length prog_18_method_54_code 1 (some .int) :: gw
theorem d_St_length_0 : decode prog_18_method_54_code 0 = .ok (.aload_n 0, 1) := by decide +kernel
theorem d_St_length_1 : decode prog_18_method_54_code 1 = .ok (.getfield 9, 3) := by decide +kernel
theorem d_St_length_4 : decode prog_18_method_54_code 4 = .ok (.arraylength, 1) := by decide +kernel
theorem d_St_length_5 : decode prog_18_method_54_code 5 = .ok (.aload_n 0, 1) := by decide +kernel
theorem d_St_length_6 : decode prog_18_method_54_code 6 = .ok (.invokevirtual 335, 3) := by decide +kernel
theorem d_St_length_9 : decode prog_18_method_54_code 9 = .ok (.ishr, 1) := by decide +kernel
theorem d_St_length_10 : decode prog_18_method_54_code 10 = .ok (.ireturn, 1) := by decide +kernel
set_option maxHeartbeats 4000000 in
set_option maxRecDepth 100000 in
theorem c_St_length (l : Launch) (dC : Nat → ClassId) (dI : Nat → Nat → Nat) (ad : Nat → Nat) (i : Nat) (hi : i < kxN) : yR_i ad l y_St_length w_St_length { frames := 1, cells := 0, slots := 0, locals := 20 } (dC, dI) vwCl [.ref (ad i)] [] [] (fun r : Int32 => r = nI (kxB i).length) := by
  refine zy_enterR (cc := prog_18_method_54_code) (nL := 1) (ret := (some .int)) (by decide) rfl (Nat.le_of_ble_eq_true rfl) ?_
  intro p e s m below meth c ls C0 hP hK hl hX
  obtain ⟨hx, hb, hml, hown, hg, hr, hlocks, hin⟩ := C0
  have hS : va_S (fun _ => False) s.heap s.heap [] := va_S.rf
  have hown : s.vm.findClass "java/lang/String" = some m.cls := hown
  have hP : va_P (dC, dI) vwCl [] s.heap := hP
  have hK : va_K (dC, dI) vwCl [] s := hK
  have hl : lv_has ls 1 [(0, .ref (ad i))] := hl
  refine lv_aload_n hx hb d_St_length_0 rfl (lv_at hl 0 rfl) ?_
  refine vk_getf hx hb (hX.2.1 i hi).2.2.2.1 hS hown (hg _ kw_973) (fun _ h => h) d_St_length_1 ?_
  refine va_tlen (v := nI ((kxB i).length)) hx hb (hX.2.1 i hi).2.2.2.2 hS rfl d_St_length_4 ?_
  refine lv_aload_n hx hb d_St_length_5 rfl (lv_at hl 0 rfl) ?_
  have hPc := hP.sub (ws' := []) [] rfl
  have hKc := hK.sub (tys' := []) [] rfl
  refine vp_callSi (W.runV (As := []) (rest := [.int (nI ((kxB i).length))]) ⟨hx, hb, hml, hown, hg⟩ (c_St_coder l dC dI ad i hi) (cwV 0 hg (gi_V kw_308 kw_309 kw_310 kw_16 kw_311) rfl rfl rfl (by decide +kernel) ⟨Nat.le_of_ble_eq_true rfl, Nat.le_of_ble_eq_true rfl⟩) (zy_prSt hi hX hS hPc hKc _) rfl rfl hl.1 rfl (lv_room (Nat.le_of_ble_eq_true rfl)) d_St_length_6 ⟨Nat.le_of_ble_eq_true rfl, Nat.le_of_ble_eq_true rfl⟩) (fun r_1 hr_1 => ?_)
  subst hr_1
  refine lv_ishr hx hb d_St_length_9 ?_
  exact zz_iretR hx hb hr hlocks d_St_length_10 (sc_shr0 (kx_len i hi))
abbrev y_SL_charAt : MethodName := ⟨"java/lang/StringLatin1", "charAt", "([BI)C"⟩
abbrev w_SL_charAt : List Cond := Cond.code y_SL_charAt prog_19_method_2_code 2 (some .char) :: gw
theorem d_SL_charAt_0 : decode prog_19_method_2_code 0 = .ok (.iload_n 1, 1) := by decide +kernel
theorem d_SL_charAt_1 : decode prog_19_method_2_code 1 = .ok (.aload_n 0, 1) := by decide +kernel
theorem d_SL_charAt_2 : decode prog_19_method_2_code 2 = .ok (.arraylength, 1) := by decide +kernel
theorem d_SL_charAt_3 : decode prog_19_method_2_code 3 = .ok (.invokestatic 9, 3) := by decide +kernel
theorem d_SL_charAt_6 : decode prog_19_method_2_code 6 = .ok (.aload_n 0, 1) := by decide +kernel
theorem d_SL_charAt_7 : decode prog_19_method_2_code 7 = .ok (.iload_n 1, 1) := by decide +kernel
theorem d_SL_charAt_8 : decode prog_19_method_2_code 8 = .ok (.baload, 1) := by decide +kernel
theorem d_SL_charAt_9 : decode prog_19_method_2_code 9 = .ok (.sipush 255, 3) := by decide +kernel
theorem d_SL_charAt_12 : decode prog_19_method_2_code 12 = .ok (.iand, 1) := by decide +kernel
theorem d_SL_charAt_13 : decode prog_19_method_2_code 13 = .ok (.i2c, 1) := by decide +kernel
theorem d_SL_charAt_14 : decode prog_19_method_2_code 14 = .ok (.ireturn, 1) := by decide +kernel
set_option maxHeartbeats 4000000 in
set_option maxRecDepth 100000 in
theorem c_SL_charAt (l : Launch) (dC : Nat → ClassId) (dI : Nat → Nat → Nat) (ad : Nat → Nat) (i k : Nat) (hi : i < kxN) (hk : k < (kxB i).length) : yR_i ad l y_SL_charAt w_SL_charAt { frames := 2, cells := 0, slots := 0, locals := 43 } (dC, dI) vwCl [.ref (ad (kxN + i)), .int (nI k)] [] [] (fun r : Int32 => r = nI ((kxB i).getD k 0)) := by
  refine zy_enterR (cc := prog_19_method_2_code) (nL := 2) (ret := (some .char)) (by decide) rfl (Nat.le_of_ble_eq_true rfl) ?_
  intro p e s m below meth c ls C0 hP hK hl hX
  obtain ⟨hx, hb, hml, hown, hg, hr, hlocks, hin⟩ := C0
  have hS : va_S (fun _ => False) s.heap s.heap [] := va_S.rf
  have hown : s.vm.findClass "java/lang/StringLatin1" = some m.cls := hown
  have hP : va_P (dC, dI) vwCl [] s.heap := hP
  have hK : va_K (dC, dI) vwCl [] s := hK
  have hl : lv_has ls 2 [(0, .ref (ad (kxN + i))), (1, .int (nI k))] := hl
  refine lv_iload_n hx hb d_SL_charAt_0 rfl (lv_at hl 1 rfl) ?_
  refine lv_aload_n hx hb d_SL_charAt_1 rfl (lv_at hl 0 rfl) ?_
  refine va_tlen (v := nI ((kxB i).length)) hx hb (hX.2.1 i hi).2.2.2.2 hS rfl d_SL_charAt_2 ?_
  have hPc := hP.sub (ws' := []) [] rfl
  have hKc := hK.sub (tys' := []) [] rfl
  refine va_csv (W.runS (As := [.int (nI k), .int (nI ((kxB i).length))]) (rest := []) ⟨hx, hb, hml, hown, hg⟩ (c_St_checkIndex l dC dI ad k ((kxB i).length) hk (kx_len i hi)) (va_cwS 2 hg (gi_S kw_325 kw_326 kw_16 kw_327) rfl rfl rfl (by decide +kernel) ⟨Nat.le_of_ble_eq_true rfl, Nat.le_of_ble_eq_true rfl⟩) (zy_prJS hX hS hPc hKc _) rfl rfl hl.1 rfl (lv_room (Nat.le_of_ble_eq_true rfl)) d_SL_charAt_3 ⟨Nat.le_of_ble_eq_true rfl, Nat.le_of_ble_eq_true rfl⟩) (fun hr_1 => ?_)
  refine lv_aload_n hx hb d_SL_charAt_6 rfl (lv_at hl 0 rfl) ?_
  refine lv_iload_n hx hb d_SL_charAt_7 rfl (lv_at hl 1 rfl) ?_
  refine va_tb (v := .int (sb_b ((kxB i).getD (nI k).toNatClampNeg 0))) hx hb (hX.2.1 i hi).2.2.2.2 hS (vp_in_nI hk (kx_len i hi)) rfl d_SL_charAt_8 ?_
  refine lv_sipush (v := 255) hx hb d_SL_charAt_9 (by decide) ?_
  refine lv_iand hx hb d_SL_charAt_12 ?_
  refine lv_i2c hx hb d_SL_charAt_13 rfl ?_
  exact zz_zretR hx hb hr hlocks d_SL_charAt_14 (kx_nc _) (kx_ch hi hk)
abbrev y_St_charAt : MethodName := ⟨"java/lang/String", "charAt", "(I)C"⟩
abbrev w_St_charAt : List Cond := Cond.code y_St_charAt prog_18_method_56_code 2 (some .char) :: gw
theorem d_St_charAt_0 : decode prog_18_method_56_code 0 = .ok (.aload_n 0, 1) := by decide +kernel
theorem d_St_charAt_1 : decode prog_18_method_56_code 1 = .ok (.invokevirtual 492, 3) := by decide +kernel
theorem d_St_charAt_4 : decode prog_18_method_56_code 4 = .ok (.ifCond .eq 12, 3) := by decide +kernel
theorem d_St_charAt_7 : decode prog_18_method_56_code 7 = .ok (.aload_n 0, 1) := by decide +kernel
theorem d_St_charAt_8 : decode prog_18_method_56_code 8 = .ok (.getfield 9, 3) := by decide +kernel
theorem d_St_charAt_11 : decode prog_18_method_56_code 11 = .ok (.iload_n 1, 1) := by decide +kernel
theorem d_St_charAt_12 : decode prog_18_method_56_code 12 = .ok (.invokestatic 495, 3) := by decide +kernel
theorem d_St_charAt_15 : decode prog_18_method_56_code 15 = .ok (.ireturn, 1) := by decide +kernel
theorem d_St_charAt_16 : decode prog_18_method_56_code 16 = .ok (.aload_n 0, 1) := by decide +kernel
theorem d_St_charAt_17 : decode prog_18_method_56_code 17 = .ok (.getfield 9, 3) := by decide +kernel
theorem d_St_charAt_20 : decode prog_18_method_56_code 20 = .ok (.iload_n 1, 1) := by decide +kernel
theorem d_St_charAt_21 : decode prog_18_method_56_code 21 = .ok (.invokestatic 498, 3) := by decide +kernel
theorem d_St_charAt_24 : decode prog_18_method_56_code 24 = .ok (.ireturn, 1) := by decide +kernel
set_option maxHeartbeats 4000000 in
set_option maxRecDepth 100000 in
theorem c_St_charAt (l : Launch) (dC : Nat → ClassId) (dI : Nat → Nat → Nat) (ad : Nat → Nat) (i k : Nat) (hi : i < kxN) (hk : k < (kxB i).length) : yR_i ad l y_St_charAt w_St_charAt { frames := 3, cells := 0, slots := 0, locals := 64 } (dC, dI) vwCl [.ref (ad i), .int (nI k)] [] [] (fun r : Int32 => r = nI ((kxB i).getD k 0)) := by
  refine zy_enterR (cc := prog_18_method_56_code) (nL := 2) (ret := (some .char)) (by decide) rfl (Nat.le_of_ble_eq_true rfl) ?_
  intro p e s m below meth c ls C0 hP hK hl hX
  obtain ⟨hx, hb, hml, hown, hg, hr, hlocks, hin⟩ := C0
  have hS : va_S (fun _ => False) s.heap s.heap [] := va_S.rf
  have hown : s.vm.findClass "java/lang/String" = some m.cls := hown
  have hP : va_P (dC, dI) vwCl [] s.heap := hP
  have hK : va_K (dC, dI) vwCl [] s := hK
  have hl : lv_has ls 2 [(0, .ref (ad i)), (1, .int (nI k))] := hl
  refine lv_aload_n hx hb d_St_charAt_0 rfl (lv_at hl 0 rfl) ?_
  have hPc := hP.sub (ws' := []) [] rfl
  have hKc := hK.sub (tys' := []) [] rfl
  refine vp_callSi (W.runV (As := []) (rest := []) ⟨hx, hb, hml, hown, hg⟩ (c_St_isLatin1 l dC dI ad i hi) (cwV 0 hg (gi_V kw_318 kw_319 kw_320 kw_16 kw_321) rfl rfl rfl (by decide +kernel) ⟨Nat.le_of_ble_eq_true rfl, Nat.le_of_ble_eq_true rfl⟩) (zy_prSt hi hX hS hPc hKc _) rfl rfl hl.1 rfl (lv_room (Nat.le_of_ble_eq_true rfl)) d_St_charAt_1 ⟨Nat.le_of_ble_eq_true rfl, Nat.le_of_ble_eq_true rfl⟩) (fun r_1 hr_1 => ?_)
  subst hr_1
  refine lv_if_eq (tgt := 16) hx hb d_St_charAt_4 (by decide) (fun c9 => by first | exact absurd c9 (by decide) | exact absurd (by decide) c9) (fun _ => ?_)
  refine lv_aload_n hx hb d_St_charAt_7 rfl (lv_at hl 0 rfl) ?_
  refine vk_getf hx hb (hX.2.1 i hi).2.2.2.1 hS hown (hg _ kw_973) (fun _ h => h) d_St_charAt_8 ?_
  refine lv_iload_n hx hb d_St_charAt_11 rfl (lv_at hl 1 rfl) ?_
  have hPc := hP.sub (ws' := []) [] rfl
  have hKc := hK.sub (tys' := []) [] rfl
  refine vp_callSi (W.runS (As := [.ref (ad (kxN + i)), .int (nI k)]) (rest := []) ⟨hx, hb, hml, hown, hg⟩ (c_SL_charAt l dC dI ad i k hi hk) (va_cwS 2 hg (gi_S kw_322 kw_323 kw_17 kw_324) rfl rfl rfl (by decide +kernel) ⟨Nat.le_of_ble_eq_true rfl, Nat.le_of_ble_eq_true rfl⟩) (zy_prJS hX hS hPc hKc _) rfl rfl hl.1 rfl (lv_room (Nat.le_of_ble_eq_true rfl)) d_St_charAt_12 ⟨Nat.le_of_ble_eq_true rfl, Nat.le_of_ble_eq_true rfl⟩) (fun r_2 hr_2 => ?_)
  exact zz_zretR hx hb hr hlocks d_St_charAt_15 (by rw [hr_2]; exact kx_n9 hi hk) hr_2
abbrev y_By_addWord : MethodName := ⟨"TextForge$Bytes", "addWord", "(Ljava/lang/String;)V"⟩
abbrev w_By_addWord : List Cond := Cond.code y_By_addWord prog_4_method_6_code 3 none :: gw
theorem d_By_addWord_0 : decode prog_4_method_6_code 0 = .ok (.iconst 0, 1) := by decide +kernel
theorem d_By_addWord_1 : decode prog_4_method_6_code 1 = .ok (.istore_n 2, 1) := by decide +kernel
theorem d_By_addWord_2 : decode prog_4_method_6_code 2 = .ok (.iload_n 2, 1) := by decide +kernel
theorem d_By_addWord_3 : decode prog_4_method_6_code 3 = .ok (.aload_n 1, 1) := by decide +kernel
theorem d_By_addWord_4 : decode prog_4_method_6_code 4 = .ok (.invokevirtual 27, 3) := by decide +kernel
theorem d_By_addWord_7 : decode prog_4_method_6_code 7 = .ok (.if_icmp .ge 18, 3) := by decide +kernel
theorem d_By_addWord_10 : decode prog_4_method_6_code 10 = .ok (.aload_n 0, 1) := by decide +kernel
theorem d_By_addWord_11 : decode prog_4_method_6_code 11 = .ok (.aload_n 1, 1) := by decide +kernel
theorem d_By_addWord_12 : decode prog_4_method_6_code 12 = .ok (.iload_n 2, 1) := by decide +kernel
theorem d_By_addWord_13 : decode prog_4_method_6_code 13 = .ok (.invokevirtual 32, 3) := by decide +kernel
theorem d_By_addWord_16 : decode prog_4_method_6_code 16 = .ok (.invokevirtual 23, 3) := by decide +kernel
theorem d_By_addWord_19 : decode prog_4_method_6_code 19 = .ok (.iinc 2 1, 3) := by decide +kernel
theorem d_By_addWord_22 : decode prog_4_method_6_code 22 = .ok (.goto (-20), 3) := by decide +kernel
theorem d_By_addWord_25 : decode prog_4_method_6_code 25 = .ok (.return_, 1) := by decide +kernel
set_option maxHeartbeats 4000000 in
set_option maxRecDepth 100000 in
theorem c_By_addWord (l : Launch) (dC : Nat → ClassId) (dI : Nat → Nat → Nat) (ad : Nat → Nat) (h r : Nat) (cA : ClassId) (cap : Nat) (f : Nat → Int32) (L : List Nat) (i : Nat) (hL : by_L L f) (hc : L.length ≤ cap) (hk : cap < 2147483648) (hi : i < kxN) : yM_v (S := Nat → Int32) ad l y_By_addWord w_By_addWord { frames := 4, cells := 0, slots := 0, locals := 85 } (dC, dI) vwCl [.ref h, .ref (ad i)] [(h, .inr (2, [.ref r, .int (nI L.length)])), (r, .inl (cA, cap, .inl f))] [(cA, .byte)] (fun (u : Nat → Int32) => by_L (by_ap cap L (kxB i)) u) (fun u => [(h, .inr (2, [.ref r, .int (nI (by_ap cap L (kxB i)).length)])), (r, .inl (cA, cap, .inl u))]) (fun u => [(cA, .byte)]) 0 0 := by
  refine zy_enterv (cc := prog_4_method_6_code) (nL := 3) (ret := none) (by decide) rfl (Nat.le_of_ble_eq_true rfl) ?_
  intro p e s m below meth c A ls C0 hA hS hP hK hD hl hX
  obtain ⟨hx, hb, hml, hown, hg, hr, hlocks, hin⟩ := C0
  have hown : s.vm.findClass "TextForge$Bytes" = some m.cls := hown
  have hP : va_P (dC, dI) vwCl [(h, .inr (2, [.ref r, .int (nI L.length)])), (r, .inl (cA, cap, .inl f))] s.heap := hP
  have hK : va_K (dC, dI) vwCl [(cA, .byte)] s := hK
  have hD : va_D A [(h, .inr (2, [.ref r, .int (nI L.length)])), (r, .inl (cA, cap, .inl f))] := hD
  have hl : lv_has ls 3 [(0, .ref h), (1, .ref (ad i))] := hl
  refine lv_iconst (v := 0) hx hb d_By_addWord_0 (by decide) ?_
  refine lv_istore_n (lv' := [(2, .int 0), (0, .ref h), (1, .ref (ad i))]) hx hb d_By_addWord_1 rfl hl (by decide) rfl (fun ls hl => ?_)
  rw [show nI L.length = nI (by_ap cap L (by_sg (kxB i) 0 0)).length by rw [by_sg_0, by_ap_nil hc]] at hP hD
  have hlen := kx_len i hi
  refine zz_loop (fun (x : Nat × (Nat → Int32)) H locs ls => match x with | (j, g) => va_P (dC, dI) vwCl [(h, .inr (2, [.ref r, .int (nI (by_ap cap L (by_sg (kxB i) 0 j)).length)])), (r, .inl (cA, cap, .inl g))] H ∧ va_D A [(h, .inr (2, [.ref r, .int (nI (by_ap cap L (by_sg (kxB i) 0 j)).length)])), (r, .inl (cA, cap, .inl g))] ∧ va_S A s.heap H locs ∧ lv_has ls 3 [(0, .ref h), (1, .ref (ad i)), (2, .int (nI j))] ∧ by_L (by_ap cap L (by_sg (kxB i) 0 j)) g ∧ j ≤ (kxB i).length) (fun x => match x with | (j, g) => (kxB i).length - j) ?_ (0, f) ⟨hP.sub [0, 1] rfl, hD.sub [0, 1] (by decide) rfl, hS, lv_sub hl [1, 2, 0] rfl, (by rw [by_sg_0, by_ap_nil hc]; exact hL), (Nat.zero_le _)⟩
  intro x H locs ls hI ih_2
  obtain ⟨j, g⟩ := x
  try dsimp only at hI
  obtain ⟨hP, hD, hS, hl, hLj, hj⟩ := hI
  refine lv_iload_n hx hb d_By_addWord_2 rfl (lv_at hl 2 rfl) ?_
  refine lv_aload_n hx hb d_By_addWord_3 rfl (lv_at hl 1 rfl) ?_
  have hPc := hP.sub (ws' := []) [] rfl
  have hKc := hK.sub (tys' := []) [] rfl
  refine vp_callSi (W.runV (As := []) (rest := [.int (nI j)]) ⟨hx, hb, hml, hown, hg⟩ (c_St_length l dC dI ad i hi) (cwV 0 hg (gi_V kw_304 kw_305 kw_306 kw_16 kw_307) rfl rfl rfl (by decide +kernel) ⟨Nat.le_of_ble_eq_true rfl, Nat.le_of_ble_eq_true rfl⟩) (zy_prSt hi hX hS hPc hKc _) rfl rfl hl.1 rfl (lv_room (Nat.le_of_ble_eq_true rfl)) d_By_addWord_4 ⟨Nat.le_of_ble_eq_true rfl, Nat.le_of_ble_eq_true rfl⟩) (fun r_1 hr_1 => ?_)
  subst hr_1
  refine lv_icmp_ge (tgt := 25) hx hb d_By_addWord_7 (by decide) (fun c_7 => ?_) (fun c_7 => ?_)
  · skip
    have ej : j = (kxB i).length := by have := Nat.le_of_not_lt (fun z => nI_ge (a := j) (b := (kxB i).length) z hlen c_7); omega
    have hP9 := hP.sub (ws' := [(h, .inr (2, [.ref r, .int (nI (by_ap cap L (by_sg (kxB i) 0 j)).length)])), (r, .inl (cA, cap, .inl g))]) [0, 1] rfl
    have hD9 := hD.sub (ws' := [(h, .inr (2, [.ref r, .int (nI (by_ap cap L (by_sg (kxB i) 0 j)).length)])), (r, .inl (cA, cap, .inl g))]) [0, 1] (by decide) rfl
    have hK9 := hK.sub (tys' := [(cA, .byte)]) [0] rfl
    rw [ej] at hP9 hD9
    rw [kx_all] at hP9 hD9
    exact zz_vret hx hb hr hlocks d_By_addWord_25 hS (by first | exact Nat.le_refl _ | decide | omega | (dsimp only; omega)) (by first | exact Nat.le_refl _ | decide | omega | (dsimp only; omega)) g (by rw [ej, kx_all] at hLj; exact hLj) hP9 hK9 hD9
  · skip
    have hj2 : j < (kxB i).length := Nat.lt_of_not_le (fun z => c_7 (nI_le z (by omega)))
    refine lv_aload_n hx hb d_By_addWord_10 rfl (lv_at hl 0 rfl) ?_
    refine lv_aload_n hx hb d_By_addWord_11 rfl (lv_at hl 1 rfl) ?_
    refine lv_iload_n hx hb d_By_addWord_12 rfl (lv_at hl 2 rfl) ?_
    have hPc := hP.sub (ws' := []) [] rfl
    have hKc := hK.sub (tys' := []) [] rfl
    refine vp_callSi (W.runV (As := [.int (nI j)]) (rest := [.ref h]) ⟨hx, hb, hml, hown, hg⟩ (c_St_charAt l dC dI ad i j hi hj2) (cwV 1 hg (gi_V kw_314 kw_315 kw_316 kw_16 kw_317) rfl rfl rfl (by decide +kernel) ⟨Nat.le_of_ble_eq_true rfl, Nat.le_of_ble_eq_true rfl⟩) (zy_prSt hi hX hS hPc hKc _) rfl rfl hl.1 rfl (lv_room (Nat.le_of_ble_eq_true rfl)) d_By_addWord_13 ⟨Nat.le_of_ble_eq_true rfl, Nat.le_of_ble_eq_true rfl⟩) (fun r_2 hr_2 => ?_)
    subst hr_2
    have hPc := hP.sub (ws' := [(h, .inr (2, [.ref r, .int (nI (by_ap cap L (by_sg (kxB i) 0 j)).length)])), (r, .inl (cA, cap, .inl g))]) [0, 1] rfl
    have hKc := hK.sub (tys' := [(cA, .byte)]) [0] rfl
    have hDc := hD.sub (ws' := [(h, .inr (2, [.ref r, .int (nI (by_ap cap L (by_sg (kxB i) 0 j)).length)])), (r, .inl (cA, cap, .inl g))]) [0, 1] (by decide) rfl
    have hFc := va_free (wc := [(h, .inr (2, [.ref r, .int (nI (by_ap cap L (by_sg (kxB i) 0 j)).length)])), (r, .inl (cA, cap, .inl g))]) hD hS hA [0, 1] rfl
    refine zz_callv (va_runV (As := [.int (nI ((kxB i).getD j 0))]) (rest := []) ⟨hx, hb, hml, hown, hg⟩ (c_By_add l dC dI h r cA cap g (by_ap cap L (by_sg (kxB i) 0 j)) (nI ((kxB i).getD j 0)) hLj (by_ap_len _ _ _) hk  H.size) (cwV 1 hg (gi_V kw_165 kw_166 kw_167 kw_2 kw_168) rfl rfl rfl (by decide +kernel) ⟨Nat.le_of_ble_eq_true rfl, Nat.le_of_ble_eq_true rfl⟩) (zz_preV hPc hKc hDc _ (q0 := 0) (ci := 2) rfl rfl) rfl rfl hl.1 rfl (lv_room (Nat.le_of_ble_eq_true rfl)) d_By_addWord_16 ⟨Nat.le_of_ble_eq_true rfl, Nat.le_of_ble_eq_true rfl⟩) hS hFc (fun u H1 k9 p9 d9 => va_join (wr := []) hP hD [0, 1] [] rfl rfl (by decide) (by decide) k9 hFc p9 d9) (fun u H locs hw hP hD hK1 hS => ?_)
    obtain ⟨u_3, rfl⟩ : ∃ z, z = u := ⟨_, rfl⟩
    try dsimp only at hw
    have hP : va_P (dC, dI) vwCl [(h, .inr (2, [.ref r, .int (nI (by_ap cap (by_ap cap L (by_sg (kxB i) 0 j)) [by_b (nI ((kxB i).getD j 0))]).length)])), (r, .inl (cA, cap, .inl u_3))] H := hP
    have hD : va_D A [(h, .inr (2, [.ref r, .int (nI (by_ap cap (by_ap cap L (by_sg (kxB i) 0 j)) [by_b (nI ((kxB i).getD j 0))]).length)])), (r, .inl (cA, cap, .inl u_3))] := hD
    have hL_5 := hw
    refine lv_iinc (v := (nI j) + 1) (lv' := [(2, .int ((nI j) + 1)), (0, .ref h), (1, .ref (ad i))]) hx hb d_By_addWord_19 hl (k := 2) rfl rfl (by decide) rfl (fun ls hl => ?_)
    refine lv_goto (tgt := 2) hx hb d_By_addWord_22 (by decide) ?_
    rw [kx_sg hi (by omega)] at hP hD
    rw [nI_1] at hl
    exact ih_2 (j + 1, u_3) H locs ls ⟨hP.sub [0, 1] rfl, hD.sub [0, 1] (by decide) rfl, hS, lv_sub hl [1, 2, 0] rfl, (by rw [kx_sg hi (by omega)] at hL_5; exact hL_5), (by omega)⟩ (by dsimp only; omega)
