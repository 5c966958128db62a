/-! BYTES, further contracts -/
def by_sg (L : List Nat) (a n : Nat) : List Nat := (L.drop a).take n
theorem by_sg_0 {L : List Nat} {a : Nat} : by_sg L a 0 = [] := rfl
theorem by_b_n {n : Nat} (h : n < 256) : by_b (nI n) = n := by
  unfold by_b; rw [pk_tn (by omega)]; exact Nat.mod_eq_of_lt h
theorem by_sg_s {L : List Nat} {a j : Nat} (h : a + j < L.length) : by_sg L a (j + 1) = by_sg L a j ++ [L.getD (a + j) 0] := by
  unfold by_sg
  rw [List.take_succ, List.getElem?_drop, List.getD_eq_getElem?_getD, List.getElem?_eq_getElem h]
  rfl
theorem by_sg_e {cap : Nat} {L L2 : List Nat} {f2 : Nat → Int32} {a j : Nat} (h : a + j < L2.length ∧ L2.length < 2147483648) (hL2 : by_L L2 f2) : by_ap cap (by_ap cap L (by_sg L2 a j)) [by_b (by_at L2 (nI (a + j)))] = by_ap cap L (by_sg L2 a (j + 1)) := by
  rw [by_ap_ap, by_at_in h.1 h.2, by_b_n (hL2 _ h.1).1, by_sg_s h.1]
theorem by_mx (k : Nat) (h : k < 2147483648) : (if (0 : Int32) < nI k then nI k else 0) = nI k := by
  rcases Nat.eq_zero_or_pos k with q | q
  · subst q; rfl
  · exact if_pos (nI_lt (a := 0) q h)
theorem by_cp {L : List Nat} : by_ap L.length [] (by_sg L 0 L.length) = L := by
  unfold by_ap by_sg
  rw [List.nil_append, List.drop_zero, List.take_length, List.take_length]
abbrev y_By_addPart : MethodName := ⟨"TextForge$Bytes", "addPart", "(LTextForge$Bytes;II)V"⟩
abbrev w_By_addPart : List Cond := Cond.code y_By_addPart prog_4_method_7_code 5 none :: gw
theorem d_By_addPart_0 : decode prog_4_method_7_code 0 = .ok (.iload_n 2, 1) := by decide +kernel
theorem d_By_addPart_1 : decode prog_4_method_7_code 1 = .ok (.istore 4, 2) := by decide +kernel
theorem d_By_addPart_3 : decode prog_4_method_7_code 3 = .ok (.iload 4, 2) := by decide +kernel
theorem d_By_addPart_5 : decode prog_4_method_7_code 5 = .ok (.iload_n 3, 1) := by decide +kernel
theorem d_By_addPart_6 : decode prog_4_method_7_code 6 = .ok (.if_icmp .ge 19, 3) := by decide +kernel
theorem d_By_addPart_9 : decode prog_4_method_7_code 9 = .ok (.aload_n 0, 1) := by decide +kernel
theorem d_By_addPart_10 : decode prog_4_method_7_code 10 = .ok (.aload_n 1, 1) := by decide +kernel
theorem d_By_addPart_11 : decode prog_4_method_7_code 11 = .ok (.iload 4, 2) := by decide +kernel
theorem d_By_addPart_13 : decode prog_4_method_7_code 13 = .ok (.invokevirtual 36, 3) := by decide +kernel
theorem d_By_addPart_16 : decode prog_4_method_7_code 16 = .ok (.invokevirtual 23, 3) := by decide +kernel
theorem d_By_addPart_19 : decode prog_4_method_7_code 19 = .ok (.iinc 4 1, 3) := by decide +kernel
theorem d_By_addPart_22 : decode prog_4_method_7_code 22 = .ok (.goto (-19), 3) := by decide +kernel
theorem d_By_addPart_25 : decode prog_4_method_7_code 25 = .ok (.return_, 1) := by decide +kernel
set_option maxHeartbeats 4000000 in
set_option maxRecDepth 100000 in
theorem c_By_addPart (l : Launch) (dC : Nat → ClassId) (dI : Nat → Nat → Nat) (h r : Nat) (cA : ClassId) (cap : Nat) (f : Nat → Int32) (L : List Nat) (h2 r2 : Nat) (cA2 : ClassId) (cap2 : Nat) (f2 : Nat → Int32) (L2 : List Nat) (a n : Nat) (x y : Int32) (hL : by_L L f) (hc : L.length ≤ cap) (hk : cap < 2147483648) (hL2 : by_L L2 f2) (hc2 : L2.length ≤ cap2) (hk2 : cap2 < 2147483648) (hx0 : x = nI a) (hy0 : y = nI (a + n)) (ha : a + n ≤ L2.length) : zM_v (S := Nat → Int32) l y_By_addPart w_By_addPart { frames := 1, cells := 0, slots := 0, locals := 21 } (dC, dI) vwCl [.ref h, .ref h2, .int x, .int y] [(h, .inr (2, [.ref r, .int (nI L.length)])), (r, .inl (cA, cap, .inl f)), (h2, .inr (2, [.ref r2, .int (nI L2.length)])), (r2, .inl (cA2, cap2, .inl f2))] [(cA, .byte), (cA2, .byte)] (fun (u : Nat → Int32) => by_L (by_ap cap L (by_sg L2 a n)) u) (fun u => [(h, .inr (2, [.ref r, .int (nI (by_ap cap L (by_sg L2 a n)).length)])), (r, .inl (cA, cap, .inl u)), (h2, .inr (2, [.ref r2, .int (nI L2.length)])), (r2, .inl (cA2, cap2, .inl f2))]) (fun u => [(cA, .byte), (cA2, .byte)]) 0 0 := by
  refine zz_enterv (cc := prog_4_method_7_code) (nL := 5) (ret := none) (by decide) rfl (Nat.le_of_ble_eq_true rfl) ?_
  intro p e s m below meth c A ls C0 hA hS hP hK hD hl
  obtain ⟨hx, hb, hml, hown, hg, hr, hlocks, hin⟩ := C0
  have hown : s.vm.findClass "TextForge$Bytes" = some m.cls := hown
  have hP : va_P (dC, dI) vwCl [(h, .inr (2, [.ref r, .int (nI L.length)])), (r, .inl (cA, cap, .inl f)), (h2, .inr (2, [.ref r2, .int (nI L2.length)])), (r2, .inl (cA2, cap2, .inl f2))] s.heap := hP
  have hK : va_K (dC, dI) vwCl [(cA, .byte), (cA2, .byte)] s := hK
  have hD : va_D A [(h, .inr (2, [.ref r, .int (nI L.length)])), (r, .inl (cA, cap, .inl f)), (h2, .inr (2, [.ref r2, .int (nI L2.length)])), (r2, .inl (cA2, cap2, .inl f2))] := hD
  have hl : lv_has ls 5 [(0, .ref h), (1, .ref h2), (2, .int x), (3, .int y)] := hl
  subst hx0
  subst hy0
  have hl : lv_has ls 5 [(0, .ref h), (1, .ref h2), (2, .int (nI a)), (3, .int (nI (a + n)))] := hl
  refine lv_iload_n hx hb d_By_addPart_0 rfl (lv_at hl 2 rfl) ?_
  refine lv_istore (lv' := [(4, .int (nI a)), (0, .ref h), (1, .ref h2), (2, .int (nI a)), (3, .int (nI (a + n)))]) hx hb d_By_addPart_1 hl (by decide) rfl (fun ls hl => ?_)
  rw [show nI L.length = nI (by_ap cap L (by_sg L2 a 0)).length by rw [by_sg_0, by_ap_nil hc]] at hP hD
  refine zz_loop (fun (x : Nat × (Nat → Int32)) H locs ls => match x with | (j, g) => va_P (dC, dI) vwCl [(h, .inr (2, [.ref r, .int (nI (by_ap cap L (by_sg L2 a j)).length)])), (r, .inl (cA, cap, .inl g)), (h2, .inr (2, [.ref r2, .int (nI L2.length)])), (r2, .inl (cA2, cap2, .inl f2))] H ∧ va_D A [(h, .inr (2, [.ref r, .int (nI (by_ap cap L (by_sg L2 a j)).length)])), (r, .inl (cA, cap, .inl g)), (h2, .inr (2, [.ref r2, .int (nI L2.length)])), (r2, .inl (cA2, cap2, .inl f2))] ∧ va_S A s.heap H locs ∧ lv_has ls 5 [(0, .ref h), (1, .ref h2), (2, .int (nI a)), (3, .int (nI (a + n))), (4, .int (nI (a + j)))] ∧ by_L (by_ap cap L (by_sg L2 a j)) g ∧ j ≤ n) (fun x => match x with | (j, g) => n - j) ?_ (0, f) ⟨hP.sub [0, 1, 2, 3] rfl, hD.sub [0, 1, 2, 3] (by decide) rfl, hS, lv_sub hl [1, 2, 3, 4, 0] rfl, (by rw [by_sg_0, by_ap_nil hc]; exact hL), (Nat.zero_le _)⟩
  intro x H locs ls hI ih_3
  obtain ⟨j, g⟩ := x
  try dsimp only at hI
  obtain ⟨hP, hD, hS, hl, hLj, hj⟩ := hI
  refine lv_iload hx hb d_By_addPart_3 (lv_at hl 4 rfl) ?_
  refine lv_iload_n hx hb d_By_addPart_5 rfl (lv_at hl 3 rfl) ?_
  refine lv_icmp_ge (tgt := 25) hx hb d_By_addPart_6 (by decide) (fun c_6 => ?_) (fun c_6 => ?_)
  · skip
    have ej : j = n := by have := Nat.le_of_not_lt (fun q => nI_ge (a := a + j) (b := a + n) (by omega) (by omega) c_6); omega
    have hP9 := hP.sub (ws' := [(h, .inr (2, [.ref r, .int (nI (by_ap cap L (by_sg L2 a j)).length)])), (r, .inl (cA, cap, .inl g)), (h2, .inr (2, [.ref r2, .int (nI L2.length)])), (r2, .inl (cA2, cap2, .inl f2))]) [0, 1, 2, 3] rfl
    have hD9 := hD.sub (ws' := [(h, .inr (2, [.ref r, .int (nI (by_ap cap L (by_sg L2 a j)).length)])), (r, .inl (cA, cap, .inl g)), (h2, .inr (2, [.ref r2, .int (nI L2.length)])), (r2, .inl (cA2, cap2, .inl f2))]) [0, 1, 2, 3] (by decide) rfl
    have hK9 := hK.sub (tys' := [(cA, .byte), (cA2, .byte)]) [0, 1] rfl
    rw [ej] at hP9 hD9
    exact zz_vret hx hb hr hlocks d_By_addPart_25 hS (by first | exact Nat.le_refl _ | decide | omega | (dsimp only; omega)) (by first | exact Nat.le_refl _ | decide | omega | (dsimp only; omega)) g (by rw [← ej]; exact hLj) hP9 hK9 hD9
  · skip
    have hj2 : j < n := by have := Nat.lt_of_not_le (fun q => c_6 (nI_le (a := a + n) (b := a + j) q (by omega))); omega
    refine lv_aload_n hx hb d_By_addPart_9 rfl (lv_at hl 0 rfl) ?_
    refine lv_aload_n hx hb d_By_addPart_10 rfl (lv_at hl 1 rfl) ?_
    refine lv_iload hx hb d_By_addPart_11 (lv_at hl 4 rfl) ?_
    have hPc := hP.sub (ws' := [(h2, .inr (2, [.ref r2, .int (nI L2.length)])), (r2, .inl (cA2, cap2, .inl f2))]) [2, 3] rfl
    have hKc := hK.sub (tys' := [(cA2, .byte)]) [1] rfl
    refine vp_callSi (W.runV (As := [.int (nI (a + j))]) (rest := [.ref h]) ⟨hx, hb, hml, hown, hg⟩ (c_By_at l dC dI h2 r2 cA2 cap2 f2 L2 (nI (a + j)) hL2 hc2 hk2) (cwV 1 hg (gi_V kw_243 kw_194 kw_195 kw_2 kw_196) rfl rfl rfl (by decide +kernel) ⟨Nat.le_of_ble_eq_true rfl, Nat.le_of_ble_eq_true rfl⟩) (zz_prJV hPc hKc _ (q0 := 0) (ci := 2) rfl rfl) rfl rfl hl.1 rfl (lv_room (Nat.le_of_ble_eq_true rfl)) d_By_addPart_13 ⟨Nat.le_of_ble_eq_true rfl, Nat.le_of_ble_eq_true rfl⟩) (fun r_9 hr_9 => ?_)
    have hPc := hP.sub (ws' := [(h, .inr (2, [.ref r, .int (nI (by_ap cap L (by_sg L2 a j)).length)])), (r, .inl (cA, cap, .inl g))]) [0, 1] rfl
    have hKc := hK.sub (tys' := [(cA, .byte)]) [0] rfl
    have hDc := hD.sub (ws' := [(h, .inr (2, [.ref r, .int (nI (by_ap cap L (by_sg L2 a j)).length)])), (r, .inl (cA, cap, .inl g))]) [0, 1] (by decide) rfl
    have hFc := va_free (wc := [(h, .inr (2, [.ref r, .int (nI (by_ap cap L (by_sg L2 a j)).length)])), (r, .inl (cA, cap, .inl g))]) hD hS hA [0, 1] rfl
    refine zz_callv (va_runV (As := [.int r_9]) (rest := []) ⟨hx, hb, hml, hown, hg⟩ (c_By_add l dC dI h r cA cap g (by_ap cap L (by_sg L2 a j)) r_9 hLj (by_ap_len _ _ _) hk  H.size) (cwV 1 hg (gi_V kw_165 kw_166 kw_167 kw_2 kw_168) rfl rfl rfl (by decide +kernel) ⟨Nat.le_of_ble_eq_true rfl, Nat.le_of_ble_eq_true rfl⟩) (zz_preV hPc hKc hDc _ (q0 := 0) (ci := 2) rfl rfl) rfl rfl hl.1 rfl (lv_room (Nat.le_of_ble_eq_true rfl)) d_By_addPart_16 ⟨Nat.le_of_ble_eq_true rfl, Nat.le_of_ble_eq_true rfl⟩) hS hFc (fun u H1 k9 p9 d9 => va_join (wr := [(h2, .inr (2, [.ref r2, .int (nI L2.length)])), (r2, .inl (cA2, cap2, .inl f2))]) hP hD [0, 1] [2, 3] rfl rfl (by decide) (by decide) k9 hFc p9 d9) (fun u H locs hw hP hD hK1 hS => ?_)
    obtain ⟨u_1, rfl⟩ : ∃ z, z = u := ⟨_, rfl⟩
    try dsimp only at hw
    have hP : va_P (dC, dI) vwCl [(h2, .inr (2, [.ref r2, .int (nI L2.length)])), (r2, .inl (cA2, cap2, .inl f2)), (h, .inr (2, [.ref r, .int (nI (by_ap cap (by_ap cap L (by_sg L2 a j)) [by_b r_9]).length)])), (r, .inl (cA, cap, .inl u_1))] H := hP
    have hD : va_D A [(h2, .inr (2, [.ref r2, .int (nI L2.length)])), (r2, .inl (cA2, cap2, .inl f2)), (h, .inr (2, [.ref r, .int (nI (by_ap cap (by_ap cap L (by_sg L2 a j)) [by_b r_9]).length)])), (r, .inl (cA, cap, .inl u_1))] := hD
    have hL_3 := hw
    refine lv_iinc (v := (nI (a + j)) + 1) (lv' := [(4, .int ((nI (a + j)) + 1)), (0, .ref h), (1, .ref h2), (2, .int (nI a)), (3, .int (nI (a + n)))]) hx hb d_By_addPart_19 hl (k := 4) rfl rfl (by decide) rfl (fun ls hl => ?_)
    refine lv_goto (tgt := 3) hx hb d_By_addPart_22 (by decide) ?_
    rw [hr_9] at hP hD
    rw [by_sg_e (by omega) hL2] at hP hD
    rw [nI_1, Nat.add_assoc] at hl
    exact ih_3 (j + 1, u_1) H locs ls ⟨hP.sub [2, 3, 0, 1] rfl, hD.sub [2, 3, 0, 1] (by decide) rfl, hS, lv_sub hl [1, 2, 3, 4, 0] rfl, (by rw [hr_9, by_sg_e (by omega) hL2] at hL_3; exact hL_3), (by omega)⟩ (by dsimp only; omega)
abbrev y_By_init : MethodName := ⟨"TextForge$Bytes", "<init>", "(I)V"⟩
abbrev w_By_init : List Cond := Cond.code y_By_init prog_4_method_1_code 2 none :: gw
theorem d_By_init_0 : decode prog_4_method_1_code 0 = .ok (.aload_n 0, 1) := by decide +kernel
theorem d_By_init_1 : decode prog_4_method_1_code 1 = .ok (.invokespecial 1, 3) := by decide +kernel
theorem d_By_init_4 : decode prog_4_method_1_code 4 = .ok (.aload_n 0, 1) := by decide +kernel
theorem d_By_init_5 : decode prog_4_method_1_code 5 = .ok (.iconst 0, 1) := by decide +kernel
theorem d_By_init_6 : decode prog_4_method_1_code 6 = .ok (.putfield 7, 3) := by decide +kernel
theorem d_By_init_9 : decode prog_4_method_1_code 9 = .ok (.aload_n 0, 1) := by decide +kernel
theorem d_By_init_10 : decode prog_4_method_1_code 10 = .ok (.iconst 0, 1) := by decide +kernel
theorem d_By_init_11 : decode prog_4_method_1_code 11 = .ok (.iload_n 1, 1) := by decide +kernel
theorem d_By_init_12 : decode prog_4_method_1_code 12 = .ok (.invokestatic 13, 3) := by decide +kernel
theorem d_By_init_15 : decode prog_4_method_1_code 15 = .ok (.newarray .byte, 2) := by decide +kernel
theorem d_By_init_17 : decode prog_4_method_1_code 17 = .ok (.putfield 19, 3) := by decide +kernel
theorem d_By_init_20 : decode prog_4_method_1_code 20 = .ok (.return_, 1) := by decide +kernel
set_option maxHeartbeats 4000000 in
set_option maxRecDepth 100000 in
theorem c_By_init (l : Launch) (dC : Nat → ClassId) (dI : Nat → Nat → Nat) (h k : Nat) (v : Int32) (x : Value) (hv : v = nI k) (hk : k < 100000) : zM_v (S := Nat × ClassId) l y_By_init w_By_init { frames := 1, cells := 1, slots := k, locals := 21 } (dC, dI) vwCl [.ref h, .int v] [(h, .inr (2, [x, .int 0]))] [] (fun (u : Nat × ClassId) => match u with | (r, cA) => True) (fun u => match u with | (r, cA) => [(h, .inr (2, [.ref r, .int (nI ([] : List Nat).length)])), (r, .inl (cA, k, .inl (fun _ => 0)))]) (fun u => match u with | (r, cA) => [(cA, .byte)]) 1 k := by
  refine zz_enterv (cc := prog_4_method_1_code) (nL := 2) (ret := none) (by decide) rfl (Nat.le_of_ble_eq_true rfl) ?_
  intro p e s m below meth c A ls C0 hA hS hP hK hD hl
  obtain ⟨hx, hb, hml, hown, hg, hr, hlocks, hin⟩ := C0
  have hown : s.vm.findClass "TextForge$Bytes" = some m.cls := hown
  have hP : va_P (dC, dI) vwCl [(h, .inr (2, [x, .int 0]))] s.heap := hP
  have hK : va_K (dC, dI) vwCl [] s := hK
  have hD : va_D A [(h, .inr (2, [x, .int 0]))] := hD
  have hl : lv_has ls 2 [(0, .ref h), (1, .int v)] := hl
  subst hv
  have hl : lv_has ls 2 [(0, .ref h), (1, .int (nI k))] := hl
  refine lv_aload_n hx hb d_By_init_0 rfl (lv_at hl 0 rfl) ?_
  refine W.objInit hx hb hown (hg _ kw_36) (hg _ kw_29) (hg _ kw_30) rfl (by rw [hml]; exact hl.1) rfl d_By_init_1 (Nat.le_of_ble_eq_true rfl) (Nat.le_of_ble_eq_true rfl) ?_
  refine W.eq (g2 := F0 m 4 ls []) rfl ?_
  refine lv_aload_n hx hb d_By_init_4 rfl (lv_at hl 0 rfl) ?_
  refine lv_iconst (v := 0) hx hb d_By_init_5 (by decide) ?_
  refine va_put (D := (dC, dI)) (ci := 2) (v := .int 0) (ty := .int) (C := "TextForge$Bytes") (T := TX2) (N := 2) hx hb hg iwX2 tyX2 tyX2_ok nmX2 hown hK hP hD hS 0 rfl rfl 1 (by decide) (hg _ kw_41) (fun _ h9 => h9) rfl (by decide +kernel) rfl rfl (Nat.le_of_ble_eq_true rfl) d_By_init_6 (fun H locs hP hD hS => ?_)
  have hP : va_P (dC, dI) vwCl [(h, .inr (2, [x, .int 0]))] H := hP
  have hD : va_D A [(h, .inr (2, [x, .int 0]))] := hD
  refine lv_aload_n hx hb d_By_init_9 rfl (lv_at hl 0 rfl) ?_
  refine lv_iconst (v := 0) hx hb d_By_init_10 (by decide) ?_
  refine lv_iload_n hx hb d_By_init_11 rfl (lv_at hl 1 rfl) ?_
  refine va_mmax hx hb (by rw [hml]; exact hl.1.symm) hown (hg _ kw_37) (hg _ kw_38) (hg _ kw_3) (hg _ kw_39) (Nat.le_of_ble_eq_true rfl) (Nat.le_of_ble_eq_true rfl) (by first | exact Nat.zero_le _ | decide | omega | (dsimp only; omega)) (by first | exact Nat.zero_le _ | decide | omega | (dsimp only; omega)) d_By_init_12 ?_
  have e9 : (if (0 : Int32) < nI k then nI k else 0) = nI k := by_mx k (by omega)
  rw [e9]
  refine va_newa (atype := .byte) (a0 := (k, .inl (fun _ => 0))) hx hb (hg _ kw_47) rfl hK hP hD hS hA (fun _ => rfl) (nI_pos (by omega)) (nI_clamp (by omega)) (by show k * 1 ≤ _; omega) (by first | exact Nat.le_refl _ | decide | omega | (dsimp only; omega)) (by first | exact Nat.le_refl _ | decide | omega | (dsimp only; omega)) d_By_init_15 (fun q_1 cA_2 H hK hP hD hS => ?_)
  have hK : va_K (dC, dI) vwCl [(cA_2, .byte)] s := hK
  have hP : va_P (dC, dI) vwCl [(h, .inr (2, [x, .int 0])), (q_1, .inl (cA_2, k, .inl (fun _ => 0)))] H := hP
  have hD : va_D A [(h, .inr (2, [x, .int 0])), (q_1, .inl (cA_2, k, .inl (fun _ => 0)))] := hD
  refine va_putF (D := (dC, dI)) (ci := 2) (v := .ref q_1) (ty := .array .byte) (C := "TextForge$Bytes") (T := TX2) (N := 2) hx hb hg iwX2 tyX2 tyX2_ok nmX2 hown hK hP hD hS 0 rfl rfl 0 (by decide) (hg _ kw_40) (fun _ h9 => h9) rfl hin rfl (by decide +kernel) rfl rfl (Nat.le_of_ble_eq_true rfl) d_By_init_17 (fun H locs hP hD hS => ?_)
  have hP : va_P (dC, dI) vwCl [(h, .inr (2, [.ref q_1, .int 0])), (q_1, .inl (cA_2, k, .inl (fun _ => 0)))] H := hP
  have hD : va_D A [(h, .inr (2, [.ref q_1, .int 0])), (q_1, .inl (cA_2, k, .inl (fun _ => 0)))] := hD
  have hP9 := hP.sub (ws' := [(h, .inr (2, [.ref q_1, .int 0])), (q_1, .inl (cA_2, k, .inl (fun _ => 0)))]) [0, 1] rfl
  have hD9 := hD.sub (ws' := [(h, .inr (2, [.ref q_1, .int 0])), (q_1, .inl (cA_2, k, .inl (fun _ => 0)))]) [0, 1] (by decide) rfl
  have hK9 := hK.sub (tys' := [(cA_2, .byte)]) [0] rfl
  exact zz_vret hx hb hr hlocks d_By_init_20 hS (by first | exact Nat.le_refl _ | decide | omega | (dsimp only; omega)) (by first | exact Nat.le_refl _ | decide | omega | (dsimp only; omega)) (q_1, cA_2) trivial hP9 hK9 hD9
abbrev y_By_copy : MethodName := ⟨"TextForge$Bytes", "copy", "()LTextForge$Bytes;"⟩
abbrev w_By_copy : List Cond := Cond.code y_By_copy prog_4_method_10_code 2 (some (.object "TextForge$Bytes")) :: gw
theorem d_By_copy_0 : decode prog_4_method_10_code 0 = .ok (.new 8, 3) := by decide +kernel
theorem d_By_copy_3 : decode prog_4_method_10_code 3 = .ok (.dup, 1) := by decide +kernel
theorem d_By_copy_4 : decode prog_4_method_10_code 4 = .ok (.aload_n 0, 1) := by decide +kernel
theorem d_By_copy_5 : decode prog_4_method_10_code 5 = .ok (.getfield 7, 3) := by decide +kernel
theorem d_By_copy_8 : decode prog_4_method_10_code 8 = .ok (.invokespecial 40, 3) := by decide +kernel
theorem d_By_copy_11 : decode prog_4_method_10_code 11 = .ok (.astore_n 1, 1) := by decide +kernel
theorem d_By_copy_12 : decode prog_4_method_10_code 12 = .ok (.aload_n 1, 1) := by decide +kernel
theorem d_By_copy_13 : decode prog_4_method_10_code 13 = .ok (.aload_n 0, 1) := by decide +kernel
theorem d_By_copy_14 : decode prog_4_method_10_code 14 = .ok (.iconst 0, 1) := by decide +kernel
theorem d_By_copy_15 : decode prog_4_method_10_code 15 = .ok (.aload_n 0, 1) := by decide +kernel
theorem d_By_copy_16 : decode prog_4_method_10_code 16 = .ok (.getfield 7, 3) := by decide +kernel
theorem d_By_copy_19 : decode prog_4_method_10_code 19 = .ok (.invokevirtual 42, 3) := by decide +kernel
theorem d_By_copy_22 : decode prog_4_method_10_code 22 = .ok (.aload_n 1, 1) := by decide +kernel
theorem d_By_copy_23 : decode prog_4_method_10_code 23 = .ok (.areturn, 1) := by decide +kernel
set_option maxHeartbeats 4000000 in
set_option maxRecDepth 100000 in
theorem c_By_copy (l : Launch) (dC : Nat → ClassId) (dI : Nat → Nat → Nat) (h r : Nat) (cA : ClassId) (cap : Nat) (f : Nat → Int32) (L : List Nat) (hL : by_L L f) (hc : L.length ≤ cap) (hk : cap < 2147483648) (hs : L.length < 100000) : zM_r (S := Nat × ClassId × (Nat → Int32)) l y_By_copy w_By_copy { frames := 2, cells := 2, slots := (2 + L.length), locals := 45 } (dC, dI) vwCl [.ref h] [(h, .inr (2, [.ref r, .int (nI L.length)])), (r, .inl (cA, cap, .inl f))] [(cA, .byte)] (fun (u : Nat × ClassId × (Nat → Int32)) => match u with | (r2, cA2, f2) => by_L L f2) (fun u a => match u with | (r2, cA2, f2) => [(h, .inr (2, [.ref r, .int (nI L.length)])), (r, .inl (cA, cap, .inl f)), (a, .inr (2, [.ref r2, .int (nI L.length)])), (r2, .inl (cA2, L.length, .inl f2))]) (fun u => match u with | (r2, cA2, f2) => [(cA, .byte), (cA2, .byte)]) 2 (2 + L.length) := by
  refine zz_enterr (cc := prog_4_method_10_code) (nL := 2) (ret := (some (.object "TextForge$Bytes"))) (by decide) rfl (Nat.le_of_ble_eq_true rfl) ?_
  intro p e s m below meth c A ls C0 hA hS hP hK hD hl
  obtain ⟨hx, hb, hml, hown, hg, hr, hlocks, hin⟩ := C0
  have hown : s.vm.findClass "TextForge$Bytes" = some m.cls := hown
  have hP : va_P (dC, dI) vwCl [(h, .inr (2, [.ref r, .int (nI L.length)])), (r, .inl (cA, cap, .inl f))] s.heap := hP
  have hK : va_K (dC, dI) vwCl [(cA, .byte)] s := hK
  have hD : va_D A [(h, .inr (2, [.ref r, .int (nI L.length)])), (r, .inl (cA, cap, .inl f))] := hD
  have hl : lv_has ls 2 [(0, .ref h)] := hl
  refine va_new (ci := 2) (fs := [.null, .int 0]) (C := "TextForge$Bytes") (T := TX2) (N := 2) hx hb hg iwX2 tyX2 tyX2_ok hown (hg _ kw_633) (hg _ kw_32) (hg _ kw_2) hK hP hD hS hA rfl (fun j hj => by rcases (show j = 0 ∨ j = 1 by omega) with rfl | rfl <;> rfl) (by first | exact Nat.le_refl _ | decide | omega | (dsimp only; omega)) (by show 0 + 2 ≤ 2 + L.length; omega) d_By_copy_0 (fun q_1 H hP hD hS => ?_)
  have hP : va_P (dC, dI) vwCl [(h, .inr (2, [.ref r, .int (nI L.length)])), (r, .inl (cA, cap, .inl f)), (q_1, .inr (2, [.null, .int 0]))] H := hP
  have hD : va_D A [(h, .inr (2, [.ref r, .int (nI L.length)])), (r, .inl (cA, cap, .inl f)), (q_1, .inr (2, [.null, .int 0]))] := hD
  refine lv_dup hx hb d_By_copy_3 rfl ?_
  refine lv_aload_n hx hb d_By_copy_4 rfl (lv_at hl 0 rfl) ?_
  refine va_get (D := (dC, dI)) (ci := 2) (v := .int (nI L.length)) (C := "TextForge$Bytes") (T := TX2) (N := 2) hx hb hg iwX2 hown hK hP 0 rfl rfl 1 (by decide) (hg _ kw_41) (fun _ h9 => h9) rfl d_By_copy_5 ?_
  have hPc := hP.sub (ws' := [(q_1, .inr (2, [.null, .int 0]))]) [2] rfl
  have hKc := hK.sub (tys' := []) [] rfl
  have hDc := hD.sub (ws' := [(q_1, .inr (2, [.null, .int 0]))]) [2] (by decide) rfl
  have hFc := va_free (wc := [(q_1, .inr (2, [.null, .int 0]))]) hD hS hA [2] rfl
  refine zz_callv (va_runI (As := [.int (nI L.length)]) (rest := [.ref q_1]) ⟨hx, hb, hml, hown, hg⟩ (c_By_init l dC dI q_1 L.length (nI L.length) .null rfl hs H.size) (cwI 1 hg (gi_0 kw_35) rfl rfl rfl (hg _ kw_2) (hg _ kw_634) (hg _ kw_34) rfl (by decide +kernel) ⟨Nat.le_of_ble_eq_true rfl, Nat.le_of_ble_eq_true rfl⟩) (zz_preS hPc hKc hDc _) rfl rfl hl.1 rfl (lv_room (Nat.le_of_ble_eq_true rfl)) d_By_copy_8 ⟨Nat.le_of_ble_eq_true rfl, (by show 0 + 2 + L.length ≤ 2 + L.length; omega)⟩) hS hFc (fun u H1 k9 p9 d9 => va_join (wr := [(h, .inr (2, [.ref r, .int (nI L.length)])), (r, .inl (cA, cap, .inl f))]) hP hD [2] [0, 1] rfl rfl (by decide) (by decide) k9 hFc p9 d9) (fun u H locs hw hP hD hK1 hS => ?_)
  obtain ⟨r2, cA2⟩ := u
  try dsimp only at hw
  have hK : va_K (dC, dI) vwCl [(cA, .byte), (cA2, .byte)] s := hK.app hK1
  have hP : va_P (dC, dI) vwCl [(h, .inr (2, [.ref r, .int (nI L.length)])), (r, .inl (cA, cap, .inl f)), (q_1, .inr (2, [.ref r2, .int (nI ([] : List Nat).length)])), (r2, .inl (cA2, L.length, .inl (fun _ => 0)))] H := hP
  have hD : va_D A [(h, .inr (2, [.ref r, .int (nI L.length)])), (r, .inl (cA, cap, .inl f)), (q_1, .inr (2, [.ref r2, .int (nI ([] : List Nat).length)])), (r2, .inl (cA2, L.length, .inl (fun _ => 0)))] := hD
  refine lv_astore_n (lv' := [(1, .ref q_1), (0, .ref h)]) hx hb d_By_copy_11 rfl hl (by decide) rfl (fun ls hl => ?_)
  refine lv_aload_n hx hb d_By_copy_12 rfl (lv_at hl 0 rfl) ?_
  refine lv_aload_n hx hb d_By_copy_13 rfl (lv_at hl 1 rfl) ?_
  refine lv_iconst (v := 0) hx hb d_By_copy_14 (by decide) ?_
  refine lv_aload_n hx hb d_By_copy_15 rfl (lv_at hl 1 rfl) ?_
  refine va_get (D := (dC, dI)) (ci := 2) (v := .int (nI L.length)) (C := "TextForge$Bytes") (T := TX2) (N := 2) hx hb hg iwX2 hown hK hP 0 rfl rfl 1 (by decide) (hg _ kw_41) (fun _ h9 => h9) rfl d_By_copy_16 ?_
  have hPc := hP.sub (ws' := [(q_1, .inr (2, [.ref r2, .int (nI ([] : List Nat).length)])), (r2, .inl (cA2, L.length, .inl (fun _ => 0))), (h, .inr (2, [.ref r, .int (nI L.length)])), (r, .inl (cA, cap, .inl f))]) [2, 3, 0, 1] rfl
  have hKc := hK.sub (tys' := [(cA2, .byte), (cA, .byte)]) [1, 0] rfl
  have hDc := hD.sub (ws' := [(q_1, .inr (2, [.ref r2, .int (nI ([] : List Nat).length)])), (r2, .inl (cA2, L.length, .inl (fun _ => 0))), (h, .inr (2, [.ref r, .int (nI L.length)])), (r, .inl (cA, cap, .inl f))]) [2, 3, 0, 1] (by decide) rfl
  have hFc := va_free (wc := [(q_1, .inr (2, [.ref r2, .int (nI ([] : List Nat).length)])), (r2, .inl (cA2, L.length, .inl (fun _ => 0))), (h, .inr (2, [.ref r, .int (nI L.length)])), (r, .inl (cA, cap, .inl f))]) hD hS hA [2, 3, 0, 1] rfl
  refine zz_callv (va_runV (As := [.ref h, .int 0, .int (nI L.length)]) (rest := []) ⟨hx, hb, hml, hown, hg⟩ (c_By_addPart l dC dI q_1 r2 cA2 L.length (fun _ => 0) ([] : List Nat) h r cA cap f L 0 L.length 0 (nI L.length) (by_nil _) (Nat.zero_le _) (by omega) hL hc hk rfl (by rw [Nat.zero_add]) (by omega) H.size) (cwV 3 hg (gi_V kw_635 kw_240 kw_241 kw_2 kw_242) rfl rfl rfl (by decide +kernel) ⟨Nat.le_of_ble_eq_true rfl, Nat.le_of_ble_eq_true rfl⟩) (zz_preV hPc hKc hDc _ (q0 := 0) (ci := 2) rfl rfl) rfl rfl hl.1 rfl (lv_room (Nat.le_of_ble_eq_true rfl)) d_By_copy_19 ⟨Nat.le_of_ble_eq_true rfl, (by show 0 + 2 + L.length + 0 ≤ 2 + L.length; omega)⟩) hS hFc (fun u H1 k9 p9 d9 => va_join (wr := []) hP hD [2, 3, 0, 1] [] rfl rfl (by decide) (by decide) k9 hFc p9 d9) (fun u H locs hw hP hD hK1 hS => ?_)
  obtain ⟨u_3, rfl⟩ : ∃ z, z = u := ⟨_, rfl⟩
  try dsimp only at hw
  have hP : va_P (dC, dI) vwCl [(q_1, .inr (2, [.ref r2, .int (nI (by_ap L.length ([] : List Nat) (by_sg L 0 L.length)).length)])), (r2, .inl (cA2, L.length, .inl u_3)), (h, .inr (2, [.ref r, .int (nI L.length)])), (r, .inl (cA, cap, .inl f))] H := hP
  have hD : va_D A [(q_1, .inr (2, [.ref r2, .int (nI (by_ap L.length ([] : List Nat) (by_sg L 0 L.length)).length)])), (r2, .inl (cA2, L.length, .inl u_3)), (h, .inr (2, [.ref r, .int (nI L.length)])), (r, .inl (cA, cap, .inl f))] := hD
  have hL9 := hw
  refine lv_aload_n hx hb d_By_copy_22 rfl (lv_at hl 0 rfl) ?_
  have hP9 := hP.sub (ws' := [(h, .inr (2, [.ref r, .int (nI L.length)])), (r, .inl (cA, cap, .inl f)), (q_1, .inr (2, [.ref r2, .int (nI (by_ap L.length ([] : List Nat) (by_sg L 0 L.length)).length)])), (r2, .inl (cA2, L.length, .inl u_3))]) [2, 3, 0, 1] rfl
  have hD9 := hD.sub (ws' := [(h, .inr (2, [.ref r, .int (nI L.length)])), (r, .inl (cA, cap, .inl f)), (q_1, .inr (2, [.ref r2, .int (nI (by_ap L.length ([] : List Nat) (by_sg L 0 L.length)).length)])), (r2, .inl (cA2, L.length, .inl u_3))]) [2, 3, 0, 1] (by decide) rfl
  have hK9 := hK.sub (tys' := [(cA, .byte), (cA2, .byte)]) [0, 1] rfl
  rw [by_cp] at hP9 hD9
  exact zz_rret hx hb hr hlocks d_By_copy_23 hS (by first | exact Nat.le_refl _ | decide | omega | (dsimp only; omega)) (by first | exact Nat.le_refl _ | decide | omega | (dsimp only; omega)) (r2, cA2, u_3) (by rw [by_cp] at hL9; exact hL9) hP9 hK9 hD9
