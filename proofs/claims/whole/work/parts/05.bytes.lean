def by_4 (v : Int32) : List Nat := [by_b (v.toUInt32 >>> ((24 : Int32).toUInt32 &&& Int32.toUInt32 31)).toInt32, by_b (v.toUInt32 >>> ((16 : Int32).toUInt32 &&& Int32.toUInt32 31)).toInt32, by_b (v.toUInt32 >>> ((8 : Int32).toUInt32 &&& Int32.toUInt32 31)).toInt32, by_b v]
theorem by_4_eq {cap : Nat} {L : List Nat} {v : Int32} : by_ap cap (by_ap cap (by_ap cap (by_ap cap L [by_b (v.toUInt32 >>> ((24 : Int32).toUInt32 &&& Int32.toUInt32 31)).toInt32]) [by_b (v.toUInt32 >>> ((16 : Int32).toUInt32 &&& Int32.toUInt32 31)).toInt32]) [by_b (v.toUInt32 >>> ((8 : Int32).toUInt32 &&& Int32.toUInt32 31)).toInt32]) [by_b v] = by_ap cap L (by_4 v) := by
  rw [by_ap_ap, by_ap_ap, by_ap_ap]; rfl
theorem by_rep_s {cap : Nat} {L : List Nat} {j b : Nat} {f : Nat → Int32} (h : by_L (by_ap cap (by_ap cap L (List.replicate j b)) [b]) f) : by_L (by_ap cap L (List.replicate (j + 1) b)) f := by
  rw [by_ap_ap, ← List.replicate_succ'] at h; exact h
theorem by_rep_e {cap : Nat} {L : List Nat} {j b : Nat} : by_ap cap (by_ap cap L (List.replicate j b)) [b] = by_ap cap L (List.replicate (j + 1) b) := by
  rw [by_ap_ap, ← List.replicate_succ']
theorem by_tm_out {j : Nat} {t : Int32} (hj : j ≤ t.toNatClampNeg) (c : t ≤ nI j) : j = t.toNatClampNeg := by
  have h2 : t.toInt < 2147483648 := t.toInt_lt
  have e : t.toNatClampNeg = t.toInt.toNat := rfl
  rw [Int32.le_iff_toInt_le, nI_toInt (by omega)] at c
  omega
theorem by_tm_in {j : Nat} {t : Int32} (hj : j ≤ t.toNatClampNeg) (c : ¬ t ≤ nI j) : j < t.toNatClampNeg := by
  have e : t.toNatClampNeg = t.toInt.toNat := rfl
  have h2 : t.toInt < 2147483648 := t.toInt_lt
  rw [Int32.le_iff_toInt_le, nI_toInt (by omega)] at c
  omega
/-! BYTES: contracts (the walks by program: wip/gen/p_bytes.py) -/
theorem by_at_neg {L : List Nat} {x : Int32} (h : x < 0) : -1 = by_at L x := by
  unfold by_at
  rw [if_neg (fun q => by have := q.1; rw [Int32.le_iff_toInt_le] at this; rw [Int32.lt_iff_toInt_lt] at h; omega)]
theorem by_at_ge {L : List Nat} {x : Int32} (h : nI L.length ≤ x) : -1 = by_at L x := by
  unfold by_at
  rw [if_neg (fun q => by have := q.2; rw [Int32.lt_iff_toInt_lt] at this; rw [Int32.le_iff_toInt_le] at h; omega)]
theorem by_at_pos {L : List Nat} {f : Nat → Int32} {j : Nat} (hL : by_L L f) (hj : j < L.length) (hl : L.length < 2147483648) : f (nI j).toNatClampNeg &&& 255 = by_at L (nI j) := by
  rw [by_at_in hj hl, nI_clamp (by omega), (hL j hj).2]
  exact (sb_byte _ (hL j hj).1).1
theorem by_addp {L : List Nat} {f : Nat → Int32} {cap : Nat} {v : Int32} (hL : by_L L f) (hlt : L.length < cap) (hk : cap < 2147483648) : by_L (by_ap cap L [by_b v]) (upd f (nI L.length).toNatClampNeg (vp_nar .byte v.toInt8.toInt32)) := by
  rw [by_ap_lt hlt, nI_clamp (by omega)]
  exact by_push hL (by_b_lt v) (by_nar v)
theorem by_addn {L : List Nat} {cap : Nat} {v : Int32} (hlt : L.length < cap) : nI L.length + 1 = nI (by_ap cap L [by_b v]).length := by
  rw [by_ap_lt hlt, List.length_append, List.length_singleton, nI_1]
abbrev y_By_length : MethodName := ⟨"TextForge$Bytes", "length", "()I"⟩
abbrev w_By_length : List Cond := Cond.code y_By_length prog_4_method_2_code 1 (some .int) :: gw
theorem d_By_length_0 : decode prog_4_method_2_code 0 = .ok (.aload_n 0, 1) := by decide +kernel
theorem d_By_length_1 : decode prog_4_method_2_code 1 = .ok (.getfield 7, 3) := by decide +kernel
theorem d_By_length_4 : decode prog_4_method_2_code 4 = .ok (.ireturn, 1) := by decide +kernel
abbrev y_By_at : MethodName := ⟨"TextForge$Bytes", "at", "(I)I"⟩
abbrev w_By_at : List Cond := Cond.code y_By_at prog_4_method_3_code 2 (some .int) :: gw
theorem d_By_at_0 : decode prog_4_method_3_code 0 = .ok (.iload_n 1, 1) := by decide +kernel
theorem d_By_at_1 : decode prog_4_method_3_code 1 = .ok (.ifCond .lt 24, 3) := by decide +kernel
theorem d_By_at_4 : decode prog_4_method_3_code 4 = .ok (.iload_n 1, 1) := by decide +kernel
theorem d_By_at_5 : decode prog_4_method_3_code 5 = .ok (.aload_n 0, 1) := by decide +kernel
theorem d_By_at_6 : decode prog_4_method_3_code 6 = .ok (.getfield 7, 3) := by decide +kernel
theorem d_By_at_9 : decode prog_4_method_3_code 9 = .ok (.if_icmp .ge 16, 3) := by decide +kernel
theorem d_By_at_12 : decode prog_4_method_3_code 12 = .ok (.aload_n 0, 1) := by decide +kernel
theorem d_By_at_13 : decode prog_4_method_3_code 13 = .ok (.getfield 19, 3) := by decide +kernel
theorem d_By_at_16 : decode prog_4_method_3_code 16 = .ok (.iload_n 1, 1) := by decide +kernel
theorem d_By_at_17 : decode prog_4_method_3_code 17 = .ok (.baload, 1) := by decide +kernel
theorem d_By_at_18 : decode prog_4_method_3_code 18 = .ok (.sipush 255, 3) := by decide +kernel
theorem d_By_at_21 : decode prog_4_method_3_code 21 = .ok (.iand, 1) := by decide +kernel
theorem d_By_at_22 : decode prog_4_method_3_code 22 = .ok (.goto 4, 3) := by decide +kernel
theorem d_By_at_25 : decode prog_4_method_3_code 25 = .ok (.iconst (-1), 1) := by decide +kernel
theorem d_By_at_26 : decode prog_4_method_3_code 26 = .ok (.ireturn, 1) := by decide +kernel
abbrev y_By_add : MethodName := ⟨"TextForge$Bytes", "add", "(I)V"⟩
abbrev w_By_add : List Cond := Cond.code y_By_add prog_4_method_4_code 2 none :: gw
theorem d_By_add_0 : decode prog_4_method_4_code 0 = .ok (.aload_n 0, 1) := by decide +kernel
theorem d_By_add_1 : decode prog_4_method_4_code 1 = .ok (.getfield 7, 3) := by decide +kernel
theorem d_By_add_4 : decode prog_4_method_4_code 4 = .ok (.aload_n 0, 1) := by decide +kernel
theorem d_By_add_5 : decode prog_4_method_4_code 5 = .ok (.getfield 19, 3) := by decide +kernel
theorem d_By_add_8 : decode prog_4_method_4_code 8 = .ok (.arraylength, 1) := by decide +kernel
theorem d_By_add_9 : decode prog_4_method_4_code 9 = .ok (.if_icmp .ge 24, 3) := by decide +kernel
theorem d_By_add_12 : decode prog_4_method_4_code 12 = .ok (.aload_n 0, 1) := by decide +kernel
theorem d_By_add_13 : decode prog_4_method_4_code 13 = .ok (.getfield 19, 3) := by decide +kernel
theorem d_By_add_16 : decode prog_4_method_4_code 16 = .ok (.aload_n 0, 1) := by decide +kernel
theorem d_By_add_17 : decode prog_4_method_4_code 17 = .ok (.getfield 7, 3) := by decide +kernel
theorem d_By_add_20 : decode prog_4_method_4_code 20 = .ok (.iload_n 1, 1) := by decide +kernel
theorem d_By_add_21 : decode prog_4_method_4_code 21 = .ok (.i2b, 1) := by decide +kernel
theorem d_By_add_22 : decode prog_4_method_4_code 22 = .ok (.bastore, 1) := by decide +kernel
theorem d_By_add_23 : decode prog_4_method_4_code 23 = .ok (.aload_n 0, 1) := by decide +kernel
theorem d_By_add_24 : decode prog_4_method_4_code 24 = .ok (.dup, 1) := by decide +kernel
theorem d_By_add_25 : decode prog_4_method_4_code 25 = .ok (.getfield 7, 3) := by decide +kernel
theorem d_By_add_28 : decode prog_4_method_4_code 28 = .ok (.iconst 1, 1) := by decide +kernel
theorem d_By_add_29 : decode prog_4_method_4_code 29 = .ok (.iadd, 1) := by decide +kernel
theorem d_By_add_30 : decode prog_4_method_4_code 30 = .ok (.putfield 7, 3) := by decide +kernel
theorem d_By_add_33 : decode prog_4_method_4_code 33 = .ok (.return_, 1) := by decide +kernel
abbrev y_By_cut : MethodName := ⟨"TextForge$Bytes", "cut", "(I)V"⟩
abbrev w_By_cut : List Cond := Cond.code y_By_cut prog_4_method_9_code 2 none :: gw
theorem d_By_cut_0 : decode prog_4_method_9_code 0 = .ok (.iload_n 1, 1) := by decide +kernel
theorem d_By_cut_1 : decode prog_4_method_9_code 1 = .ok (.ifCond .lt 16, 3) := by decide +kernel
theorem d_By_cut_4 : decode prog_4_method_9_code 4 = .ok (.iload_n 1, 1) := by decide +kernel
theorem d_By_cut_5 : decode prog_4_method_9_code 5 = .ok (.aload_n 0, 1) := by decide +kernel
theorem d_By_cut_6 : decode prog_4_method_9_code 6 = .ok (.getfield 7, 3) := by decide +kernel
theorem d_By_cut_9 : decode prog_4_method_9_code 9 = .ok (.if_icmp .ge 8, 3) := by decide +kernel
theorem d_By_cut_12 : decode prog_4_method_9_code 12 = .ok (.aload_n 0, 1) := by decide +kernel
theorem d_By_cut_13 : decode prog_4_method_9_code 13 = .ok (.iload_n 1, 1) := by decide +kernel
theorem d_By_cut_14 : decode prog_4_method_9_code 14 = .ok (.putfield 7, 3) := by decide +kernel
theorem d_By_cut_17 : decode prog_4_method_9_code 17 = .ok (.return_, 1) := by decide +kernel
set_option maxHeartbeats 4000000 in
set_option maxRecDepth 100000 in
theorem c_By_length (l : Launch) (dC : Nat → ClassId) (dI : Nat → Nat → Nat) (h : Nat) (x : Value) (n : Int32)  : zR_i l y_By_length w_By_length { frames := 0, cells := 0, slots := 0, locals := 0 } (dC, dI) vwCl [.ref h] [(h, .inr (2, [x, .int n]))] [] (fun r : Int32 => r = n) := by
  refine zz_enterR (cc := prog_4_method_2_code) (nL := 1) (ret := (some .int)) (by decide) rfl (Nat.le_of_ble_eq_true rfl) ?_
  intro p e s m below meth c ls C0 hP hK hl
  obtain ⟨hx, hb, hml, hown, hg, hr, hlocks, hin⟩ := C0
  have hS : va_S (fun _ => False) s.heap s.heap [] := va_S.rf
  have hown : s.vm.findClass "TextForge$Bytes" = some m.cls := hown
  have hP : va_P (dC, dI) vwCl [(h, .inr (2, [x, .int n]))] s.heap := hP
  have hK : va_K (dC, dI) vwCl [] s := hK
  have hl : lv_has ls 1 [(0, .ref h)] := hl
  refine lv_aload_n hx hb d_By_length_0 rfl (lv_at hl 0 rfl) ?_
  refine va_get (D := (dC, dI)) (ci := 2) (v := .int n) (C := "TextForge$Bytes") (T := TX2) (N := 2) hx hb hg iwX2 hown hK hP 0 rfl rfl 1 (by decide) (hg _ kw_41) (fun _ h9 => h9) rfl d_By_length_1 ?_
  exact zz_iretR hx hb hr hlocks d_By_length_4 rfl
set_option maxHeartbeats 4000000 in
set_option maxRecDepth 100000 in
theorem c_By_at (l : Launch) (dC : Nat → ClassId) (dI : Nat → Nat → Nat) (h r : Nat) (cA : ClassId) (cap : Nat) (f : Nat → Int32) (L : List Nat) (v : Int32) (hL : by_L L f) (hc : L.length ≤ cap) (hk : cap < 2147483648) : zR_i l y_By_at w_By_at { frames := 0, cells := 0, slots := 0, locals := 0 } (dC, dI) vwCl [.ref h, .int v] [(h, .inr (2, [.ref r, .int (nI L.length)])), (r, .inl (cA, cap, .inl f))] [(cA, .byte)] (fun r : Int32 => r = by_at L v) := by
  refine zz_enterR (cc := prog_4_method_3_code) (nL := 2) (ret := (some .int)) (by decide) rfl (Nat.le_of_ble_eq_true rfl) ?_
  intro p e s m below meth c ls C0 hP hK hl
  obtain ⟨hx, hb, hml, hown, hg, hr, hlocks, hin⟩ := C0
  have hS : va_S (fun _ => False) s.heap s.heap [] := va_S.rf
  have hown : s.vm.findClass "TextForge$Bytes" = some m.cls := hown
  have hP : va_P (dC, dI) vwCl [(h, .inr (2, [.ref r, .int (nI L.length)])), (r, .inl (cA, cap, .inl f))] s.heap := hP
  have hK : va_K (dC, dI) vwCl [(cA, .byte)] s := hK
  have hl : lv_has ls 2 [(0, .ref h), (1, .int v)] := hl
  refine lv_iload_n hx hb d_By_at_0 rfl (lv_at hl 1 rfl) ?_
  refine lv_if_lt (tgt := 25) hx hb d_By_at_1 (by decide) (fun c_1 => ?_) (fun c_1 => ?_)
  · skip
    refine lv_iconst (v := (-1)) hx hb d_By_at_25 (by decide) ?_
    exact zz_iretR hx hb hr hlocks d_By_at_26 (by_at_neg c_1)
  · skip
    refine lv_iload_n hx hb d_By_at_4 rfl (lv_at hl 1 rfl) ?_
    refine lv_aload_n hx hb d_By_at_5 rfl (lv_at hl 0 rfl) ?_
    refine va_get (D := (dC, dI)) (ci := 2) (v := .int (nI L.length)) (C := "TextForge$Bytes") (T := TX2) (N := 2) hx hb hg iwX2 hown hK hP 0 rfl rfl 1 (by decide) (hg _ kw_41) (fun _ h9 => h9) rfl d_By_at_6 ?_
    refine lv_icmp_ge (tgt := 25) hx hb d_By_at_9 (by decide) (fun c_9 => ?_) (fun c_9 => ?_)
    · skip
      refine lv_iconst (v := (-1)) hx hb d_By_at_25 (by decide) ?_
      exact zz_iretR hx hb hr hlocks d_By_at_26 (by_at_ge c_9)
    · skip
      obtain ⟨j, hj, rfl, -⟩ := pk_mu c_1 c_9 (by omega)
      have hl : lv_has ls 2 [(0, .ref h), (1, .int (nI j))] := hl
      have hi9 : vp_in (nI j) cap := vp_in_nI (by omega) (by omega)
      refine lv_aload_n hx hb d_By_at_12 rfl (lv_at hl 0 rfl) ?_
      refine va_get (D := (dC, dI)) (ci := 2) (v := .ref r) (C := "TextForge$Bytes") (T := TX2) (N := 2) hx hb hg iwX2 hown hK hP 0 rfl rfl 0 (by decide) (hg _ kw_40) (fun _ h9 => h9) rfl d_By_at_13 ?_
      refine lv_iload_n hx hb d_By_at_16 rfl (lv_at hl 1 rfl) ?_
      refine va_bald hx hb hK hP 1 0 rfl rfl hi9 d_By_at_17 ?_
      refine lv_sipush (v := 255) hx hb d_By_at_18 (by decide) ?_
      refine lv_iand hx hb d_By_at_21 ?_
      refine lv_goto (tgt := 26) hx hb d_By_at_22 (by decide) ?_
      exact zz_iretR hx hb hr hlocks d_By_at_26 (by_at_pos hL hj (by omega))
set_option maxHeartbeats 4000000 in
set_option maxRecDepth 100000 in
theorem c_By_add (l : Launch) (dC : Nat → ClassId) (dI : Nat → Nat → Nat) (h r : Nat) (cA : ClassId) (cap : Nat) (f : Nat → Int32) (L : List Nat) (v : Int32) (hL : by_L L f) (hc : L.length ≤ cap) (hk : cap < 2147483648) : zM_v (S := Nat → Int32) l y_By_add w_By_add { frames := 0, cells := 0, slots := 0, locals := 0 } (dC, dI) vwCl [.ref h, .int v] [(h, .inr (2, [.ref r, .int (nI L.length)])), (r, .inl (cA, cap, .inl f))] [(cA, .byte)] (fun (u : Nat → Int32) => by_L (by_ap cap L [by_b v]) u) (fun u => [(h, .inr (2, [.ref r, .int (nI (by_ap cap L [by_b v]).length)])), (r, .inl (cA, cap, .inl u))]) (fun u => [(cA, .byte)]) 0 0 := by
  refine zz_enterv (cc := prog_4_method_4_code) (nL := 2) (ret := none) (by decide) rfl (Nat.le_of_ble_eq_true rfl) ?_
  intro p e s m below meth c A ls C0 hA hS hP hK hD hl
  obtain ⟨hx, hb, hml, hown, hg, hr, hlocks, hin⟩ := C0
  have hown : s.vm.findClass "TextForge$Bytes" = some m.cls := hown
  have hP : va_P (dC, dI) vwCl [(h, .inr (2, [.ref r, .int (nI L.length)])), (r, .inl (cA, cap, .inl f))] s.heap := hP
  have hK : va_K (dC, dI) vwCl [(cA, .byte)] s := hK
  have hD : va_D A [(h, .inr (2, [.ref r, .int (nI L.length)])), (r, .inl (cA, cap, .inl f))] := hD
  have hl : lv_has ls 2 [(0, .ref h), (1, .int v)] := hl
  refine lv_aload_n hx hb d_By_add_0 rfl (lv_at hl 0 rfl) ?_
  refine va_get (D := (dC, dI)) (ci := 2) (v := .int (nI L.length)) (C := "TextForge$Bytes") (T := TX2) (N := 2) hx hb hg iwX2 hown hK hP 0 rfl rfl 1 (by decide) (hg _ kw_41) (fun _ h9 => h9) rfl d_By_add_1 ?_
  refine lv_aload_n hx hb d_By_add_4 rfl (lv_at hl 0 rfl) ?_
  refine va_get (D := (dC, dI)) (ci := 2) (v := .ref r) (C := "TextForge$Bytes") (T := TX2) (N := 2) hx hb hg iwX2 hown hK hP 0 rfl rfl 0 (by decide) (hg _ kw_40) (fun _ h9 => h9) rfl d_By_add_5 ?_
  refine va_alen (v := nI cap) hx hb hK hP 1 0 rfl rfl rfl d_By_add_8 ?_
  refine lv_icmp_ge (tgt := 33) hx hb d_By_add_9 (by decide) (fun c_9 => ?_) (fun c_9 => ?_)
  · skip
    have hn : ¬ L.length < cap := fun q => nI_ge q (by omega) c_9
    have hP9 := hP.sub (ws' := [(h, .inr (2, [.ref r, .int (nI L.length)])), (r, .inl (cA, cap, .inl f))]) [0, 1] rfl
    have hD9 := hD.sub (ws' := [(h, .inr (2, [.ref r, .int (nI L.length)])), (r, .inl (cA, cap, .inl f))]) [0, 1] (by decide) rfl
    have hK9 := hK.sub (tys' := [(cA, .byte)]) [0] rfl
    rw [show nI L.length = nI (by_ap cap L [by_b v]).length by rw [by_ap_full hc hn]] at hP9 hD9
    exact zz_vret hx hb hr hlocks d_By_add_33 hS (by first | exact Nat.le_refl _ | decide | omega | (dsimp only; omega)) (by first | exact Nat.le_refl _ | decide | omega | (dsimp only; omega)) f (by rw [by_ap_full hc hn]; exact hL) hP9 hK9 hD9
  · skip
    have hlt : L.length < cap := Nat.lt_of_not_le (fun q => c_9 (nI_le q (by omega)))
    have hi9 : vp_in (nI L.length) cap := vp_in_nI hlt (by omega)
    refine lv_aload_n hx hb d_By_add_12 rfl (lv_at hl 0 rfl) ?_
    refine va_get (D := (dC, dI)) (ci := 2) (v := .ref r) (C := "TextForge$Bytes") (T := TX2) (N := 2) hx hb hg iwX2 hown hK hP 0 rfl rfl 0 (by decide) (hg _ kw_40) (fun _ h9 => h9) rfl d_By_add_13 ?_
    refine lv_aload_n hx hb d_By_add_16 rfl (lv_at hl 0 rfl) ?_
    refine va_get (D := (dC, dI)) (ci := 2) (v := .int (nI L.length)) (C := "TextForge$Bytes") (T := TX2) (N := 2) hx hb hg iwX2 hown hK hP 0 rfl rfl 1 (by decide) (hg _ kw_41) (fun _ h9 => h9) rfl d_By_add_17 ?_
    refine lv_iload_n hx hb d_By_add_20 rfl (lv_at hl 1 rfl) ?_
    refine lv_i2b hx hb d_By_add_21 rfl ?_
    refine va_bast hx hb hK hP hD hS 1 0 rfl rfl hi9 d_By_add_22 (fun H locs hP hD hS => ?_)
    have hP : va_P (dC, dI) vwCl [(h, .inr (2, [.ref r, .int (nI L.length)])), (r, .inl (cA, cap, .inl (upd f (nI L.length).toNatClampNeg (vp_nar .byte v.toInt8.toInt32))))] H := hP
    have hD : va_D A [(h, .inr (2, [.ref r, .int (nI L.length)])), (r, .inl (cA, cap, .inl (upd f (nI L.length).toNatClampNeg (vp_nar .byte v.toInt8.toInt32))))] := hD
    refine lv_aload_n hx hb d_By_add_23 rfl (lv_at hl 0 rfl) ?_
    refine lv_dup hx hb d_By_add_24 rfl ?_
    refine va_get (D := (dC, dI)) (ci := 2) (v := .int (nI L.length)) (C := "TextForge$Bytes") (T := TX2) (N := 2) hx hb hg iwX2 hown hK hP 0 rfl rfl 1 (by decide) (hg _ kw_41) (fun _ h9 => h9) rfl d_By_add_25 ?_
    refine lv_iconst (v := 1) hx hb d_By_add_28 (by decide) ?_
    refine lv_iadd hx hb d_By_add_29 ?_
    refine va_put (D := (dC, dI)) (ci := 2) (v := .int ((nI L.length) + 1)) (ty := .int) (C := "TextForge$Bytes") (T := TX2) (N := 2) hx hb hg iwX2 tyX2 tyX2_ok nmX2 hown hK hP hD hS 0 rfl rfl 1 (by decide) (hg _ kw_41) (fun _ h9 => h9) rfl (by decide +kernel) rfl rfl (Nat.le_of_ble_eq_true rfl) d_By_add_30 (fun H locs hP hD hS => ?_)
    have hP : va_P (dC, dI) vwCl [(h, .inr (2, [.ref r, .int ((nI L.length) + 1)])), (r, .inl (cA, cap, .inl (upd f (nI L.length).toNatClampNeg (vp_nar .byte v.toInt8.toInt32))))] H := hP
    have hD : va_D A [(h, .inr (2, [.ref r, .int ((nI L.length) + 1)])), (r, .inl (cA, cap, .inl (upd f (nI L.length).toNatClampNeg (vp_nar .byte v.toInt8.toInt32))))] := hD
    have hP9 := hP.sub (ws' := [(h, .inr (2, [.ref r, .int ((nI L.length) + 1)])), (r, .inl (cA, cap, .inl (upd f (nI L.length).toNatClampNeg (vp_nar .byte v.toInt8.toInt32))))]) [0, 1] rfl
    have hD9 := hD.sub (ws' := [(h, .inr (2, [.ref r, .int ((nI L.length) + 1)])), (r, .inl (cA, cap, .inl (upd f (nI L.length).toNatClampNeg (vp_nar .byte v.toInt8.toInt32))))]) [0, 1] (by decide) rfl
    have hK9 := hK.sub (tys' := [(cA, .byte)]) [0] rfl
    rw [by_addn (v := v) hlt] at hP9 hD9
    exact zz_vret hx hb hr hlocks d_By_add_33 hS (by first | exact Nat.le_refl _ | decide | omega | (dsimp only; omega)) (by first | exact Nat.le_refl _ | decide | omega | (dsimp only; omega)) (upd f (nI L.length).toNatClampNeg (vp_nar .byte v.toInt8.toInt32)) (by_addp hL hlt hk) hP9 hK9 hD9
set_option maxHeartbeats 4000000 in
set_option maxRecDepth 100000 in
theorem c_By_cut (l : Launch) (dC : Nat → ClassId) (dI : Nat → Nat → Nat) (h r : Nat) (cA : ClassId) (cap : Nat) (f : Nat → Int32) (L : List Nat) (k : Nat) (v : Int32) (hL : by_L L f) (hc : L.length ≤ cap) (hk : cap < 2147483648) (hv : v = nI k) (hn : k < 2147483648) : zM_v (S := Nat → Int32) l y_By_cut w_By_cut { frames := 0, cells := 0, slots := 0, locals := 0 } (dC, dI) vwCl [.ref h, .int v] [(h, .inr (2, [.ref r, .int (nI L.length)])), (r, .inl (cA, cap, .inl f))] [(cA, .byte)] (fun (u : Nat → Int32) => u = f) (fun u => [(h, .inr (2, [.ref r, .int (nI (List.take k L).length)])), (r, .inl (cA, cap, .inl u))]) (fun u => [(cA, .byte)]) 0 0 := by
  refine zz_enterv (cc := prog_4_method_9_code) (nL := 2) (ret := none) (by decide) rfl (Nat.le_of_ble_eq_true rfl) ?_
  intro p e s m below meth c A ls C0 hA hS hP hK hD hl
  obtain ⟨hx, hb, hml, hown, hg, hr, hlocks, hin⟩ := C0
  have hown : s.vm.findClass "TextForge$Bytes" = some m.cls := hown
  have hP : va_P (dC, dI) vwCl [(h, .inr (2, [.ref r, .int (nI L.length)])), (r, .inl (cA, cap, .inl f))] s.heap := hP
  have hK : va_K (dC, dI) vwCl [(cA, .byte)] s := hK
  have hD : va_D A [(h, .inr (2, [.ref r, .int (nI L.length)])), (r, .inl (cA, cap, .inl f))] := hD
  have hl : lv_has ls 2 [(0, .ref h), (1, .int v)] := hl
  subst hv
  have hl : lv_has ls 2 [(0, .ref h), (1, .int (nI k))] := hl
  refine lv_iload_n hx hb d_By_cut_0 rfl (lv_at hl 1 rfl) ?_
  refine lv_if_lt (tgt := 17) hx hb d_By_cut_1 (by decide) (fun c9 => by first | exact absurd c9 (nI_pos (by omega)) | exact absurd (nI_pos (by omega)) c9) (fun _ => ?_)
  refine lv_iload_n hx hb d_By_cut_4 rfl (lv_at hl 1 rfl) ?_
  refine lv_aload_n hx hb d_By_cut_5 rfl (lv_at hl 0 rfl) ?_
  refine va_get (D := (dC, dI)) (ci := 2) (v := .int (nI L.length)) (C := "TextForge$Bytes") (T := TX2) (N := 2) hx hb hg iwX2 hown hK hP 0 rfl rfl 1 (by decide) (hg _ kw_41) (fun _ h9 => h9) rfl d_By_cut_6 ?_
  refine lv_icmp_ge (tgt := 17) hx hb d_By_cut_9 (by decide) (fun c_9 => ?_) (fun c_9 => ?_)
  · skip
    have hn2 : L.length ≤ k := Nat.le_of_not_lt (fun q => nI_ge q (by omega) c_9)
    have hP9 := hP.sub (ws' := [(h, .inr (2, [.ref r, .int (nI L.length)])), (r, .inl (cA, cap, .inl f))]) [0, 1] rfl
    have hD9 := hD.sub (ws' := [(h, .inr (2, [.ref r, .int (nI L.length)])), (r, .inl (cA, cap, .inl f))]) [0, 1] (by decide) rfl
    have hK9 := hK.sub (tys' := [(cA, .byte)]) [0] rfl
    rw [show nI L.length = nI (List.take k L).length by rw [List.take_of_length_le hn2]] at hP9 hD9
    exact zz_vret hx hb hr hlocks d_By_cut_17 hS (by first | exact Nat.le_refl _ | decide | omega | (dsimp only; omega)) (by first | exact Nat.le_refl _ | decide | omega | (dsimp only; omega)) f rfl hP9 hK9 hD9
  · skip
    have hn2 : k < L.length := Nat.lt_of_not_le (fun q => c_9 (nI_le q (by omega)))
    refine lv_aload_n hx hb d_By_cut_12 rfl (lv_at hl 0 rfl) ?_
    refine lv_iload_n hx hb d_By_cut_13 rfl (lv_at hl 1 rfl) ?_
    refine va_put (D := (dC, dI)) (ci := 2) (v := .int (nI k)) (ty := .int) (C := "TextForge$Bytes") (T := TX2) (N := 2) hx hb hg iwX2 tyX2 tyX2_ok nmX2 hown hK hP hD hS 0 rfl rfl 1 (by decide) (hg _ kw_41) (fun _ h9 => h9) rfl (by decide +kernel) rfl rfl (Nat.le_of_ble_eq_true rfl) d_By_cut_14 (fun H locs hP hD hS => ?_)
    have hP : va_P (dC, dI) vwCl [(h, .inr (2, [.ref r, .int (nI k)])), (r, .inl (cA, cap, .inl f))] H := hP
    have hD : va_D A [(h, .inr (2, [.ref r, .int (nI k)])), (r, .inl (cA, cap, .inl f))] := hD
    have hP9 := hP.sub (ws' := [(h, .inr (2, [.ref r, .int (nI k)])), (r, .inl (cA, cap, .inl f))]) [0, 1] rfl
    have hD9 := hD.sub (ws' := [(h, .inr (2, [.ref r, .int (nI k)])), (r, .inl (cA, cap, .inl f))]) [0, 1] (by decide) rfl
    have hK9 := hK.sub (tys' := [(cA, .byte)]) [0] rfl
    rw [show nI k = nI (List.take k L).length by rw [List.length_take, Nat.min_eq_left (Nat.le_of_lt hn2)]] at hP9 hD9
    exact zz_vret hx hb hr hlocks d_By_cut_17 hS (by first | exact Nat.le_refl _ | decide | omega | (dsimp only; omega)) (by first | exact Nat.le_refl _ | decide | omega | (dsimp only; omega)) f rfl hP9 hK9 hD9
abbrev y_By_addFourBytes : MethodName := ⟨"TextForge$Bytes", "addFourBytes", "(I)V"⟩
abbrev w_By_addFourBytes : List Cond := Cond.code y_By_addFourBytes prog_4_method_5_code 2 none :: gw
theorem d_By_addFourBytes_0 : decode prog_4_method_5_code 0 = .ok (.aload_n 0, 1) := by decide +kernel
theorem d_By_addFourBytes_1 : decode prog_4_method_5_code 1 = .ok (.iload_n 1, 1) := by decide +kernel
theorem d_By_addFourBytes_2 : decode prog_4_method_5_code 2 = .ok (.bipush 24, 2) := by decide +kernel
theorem d_By_addFourBytes_4 : decode prog_4_method_5_code 4 = .ok (.iushr, 1) := by decide +kernel
theorem d_By_addFourBytes_5 : decode prog_4_method_5_code 5 = .ok (.invokevirtual 23, 3) := by decide +kernel
theorem d_By_addFourBytes_8 : decode prog_4_method_5_code 8 = .ok (.aload_n 0, 1) := by decide +kernel
theorem d_By_addFourBytes_9 : decode prog_4_method_5_code 9 = .ok (.iload_n 1, 1) := by decide +kernel
theorem d_By_addFourBytes_10 : decode prog_4_method_5_code 10 = .ok (.bipush 16, 2) := by decide +kernel
theorem d_By_addFourBytes_12 : decode prog_4_method_5_code 12 = .ok (.iushr, 1) := by decide +kernel
theorem d_By_addFourBytes_13 : decode prog_4_method_5_code 13 = .ok (.invokevirtual 23, 3) := by decide +kernel
theorem d_By_addFourBytes_16 : decode prog_4_method_5_code 16 = .ok (.aload_n 0, 1) := by decide +kernel
theorem d_By_addFourBytes_17 : decode prog_4_method_5_code 17 = .ok (.iload_n 1, 1) := by decide +kernel
theorem d_By_addFourBytes_18 : decode prog_4_method_5_code 18 = .ok (.bipush 8, 2) := by decide +kernel
theorem d_By_addFourBytes_20 : decode prog_4_method_5_code 20 = .ok (.iushr, 1) := by decide +kernel
theorem d_By_addFourBytes_21 : decode prog_4_method_5_code 21 = .ok (.invokevirtual 23, 3) := by decide +kernel
theorem d_By_addFourBytes_24 : decode prog_4_method_5_code 24 = .ok (.aload_n 0, 1) := by decide +kernel
theorem d_By_addFourBytes_25 : decode prog_4_method_5_code 25 = .ok (.iload_n 1, 1) := by decide +kernel
theorem d_By_addFourBytes_26 : decode prog_4_method_5_code 26 = .ok (.invokevirtual 23, 3) := by decide +kernel
theorem d_By_addFourBytes_29 : decode prog_4_method_5_code 29 = .ok (.return_, 1) := by decide +kernel
set_option maxHeartbeats 4000000 in
set_option maxRecDepth 100000 in
theorem c_By_addFourBytes (l : Launch) (dC : Nat → ClassId) (dI : Nat → Nat → Nat) (h r : Nat) (cA : ClassId) (cap : Nat) (f : Nat → Int32) (L : List Nat) (v : Int32) (hL : by_L L f) (hc : L.length ≤ cap) (hk : cap < 2147483648) : zM_v (S := Nat → Int32) l y_By_addFourBytes w_By_addFourBytes { frames := 1, cells := 0, slots := 0, locals := 21 } (dC, dI) vwCl [.ref h, .int v] [(h, .inr (2, [.ref r, .int (nI L.length)])), (r, .inl (cA, cap, .inl f))] [(cA, .byte)] (fun (u : Nat → Int32) => by_L (by_ap cap L (by_4 v)) u) (fun u => [(h, .inr (2, [.ref r, .int (nI (by_ap cap L (by_4 v)).length)])), (r, .inl (cA, cap, .inl u))]) (fun u => [(cA, .byte)]) 0 0 := by
  refine zz_enterv (cc := prog_4_method_5_code) (nL := 2) (ret := none) (by decide) rfl (Nat.le_of_ble_eq_true rfl) ?_
  intro p e s m below meth c A ls C0 hA hS hP hK hD hl
  obtain ⟨hx, hb, hml, hown, hg, hr, hlocks, hin⟩ := C0
  have hown : s.vm.findClass "TextForge$Bytes" = some m.cls := hown
  have hP : va_P (dC, dI) vwCl [(h, .inr (2, [.ref r, .int (nI L.length)])), (r, .inl (cA, cap, .inl f))] s.heap := hP
  have hK : va_K (dC, dI) vwCl [(cA, .byte)] s := hK
  have hD : va_D A [(h, .inr (2, [.ref r, .int (nI L.length)])), (r, .inl (cA, cap, .inl f))] := hD
  have hl : lv_has ls 2 [(0, .ref h), (1, .int v)] := hl
  refine lv_aload_n hx hb d_By_addFourBytes_0 rfl (lv_at hl 0 rfl) ?_
  refine lv_iload_n hx hb d_By_addFourBytes_1 rfl (lv_at hl 1 rfl) ?_
  refine lv_bipush (v := 24) hx hb d_By_addFourBytes_2 (by decide) ?_
  refine lv_iushr hx hb d_By_addFourBytes_4 rfl ?_
  have hPc := hP.sub (ws' := [(h, .inr (2, [.ref r, .int (nI L.length)])), (r, .inl (cA, cap, .inl f))]) [0, 1] rfl
  have hKc := hK.sub (tys' := [(cA, .byte)]) [0] rfl
  have hDc := hD.sub (ws' := [(h, .inr (2, [.ref r, .int (nI L.length)])), (r, .inl (cA, cap, .inl f))]) [0, 1] (by decide) rfl
  have hFc := va_free (wc := [(h, .inr (2, [.ref r, .int (nI L.length)])), (r, .inl (cA, cap, .inl f))]) hD hS hA [0, 1] rfl
  refine zz_callv (va_runV (As := [.int ((v.toUInt32 >>> ((24 : Int32).toUInt32 &&& Int32.toUInt32 31)).toInt32)]) (rest := []) ⟨hx, hb, hml, hown, hg⟩ (c_By_add l dC dI h r cA cap f L ((v.toUInt32 >>> ((24 : Int32).toUInt32 &&& Int32.toUInt32 31)).toInt32) hL hc hk  s.heap.size) (cwV 1 hg (gi_V kw_165 kw_166 kw_167 kw_2 kw_168) rfl rfl rfl (by decide +kernel) ⟨Nat.le_of_ble_eq_true rfl, Nat.le_of_ble_eq_true rfl⟩) (zz_preV hPc hKc hDc _ (q0 := 0) (ci := 2) rfl rfl) rfl rfl hl.1 rfl (lv_room (Nat.le_of_ble_eq_true rfl)) d_By_addFourBytes_5 ⟨Nat.le_of_ble_eq_true rfl, Nat.le_of_ble_eq_true rfl⟩) hS hFc (fun u H1 k9 p9 d9 => va_join (wr := []) hP hD [0, 1] [] rfl rfl (by decide) (by decide) k9 hFc p9 d9) (fun u H locs hw hP hD hK1 hS => ?_)
  obtain ⟨u_1, rfl⟩ : ∃ z, z = u := ⟨_, rfl⟩
  try dsimp only at hw
  have hP : va_P (dC, dI) vwCl [(h, .inr (2, [.ref r, .int (nI (by_ap cap L [by_b ((v.toUInt32 >>> ((24 : Int32).toUInt32 &&& Int32.toUInt32 31)).toInt32)]).length)])), (r, .inl (cA, cap, .inl u_1))] H := hP
  have hD : va_D A [(h, .inr (2, [.ref r, .int (nI (by_ap cap L [by_b ((v.toUInt32 >>> ((24 : Int32).toUInt32 &&& Int32.toUInt32 31)).toInt32)]).length)])), (r, .inl (cA, cap, .inl u_1))] := hD
  have hL_3 := hw
  refine lv_aload_n hx hb d_By_addFourBytes_8 rfl (lv_at hl 0 rfl) ?_
  refine lv_iload_n hx hb d_By_addFourBytes_9 rfl (lv_at hl 1 rfl) ?_
  refine lv_bipush (v := 16) hx hb d_By_addFourBytes_10 (by decide) ?_
  refine lv_iushr hx hb d_By_addFourBytes_12 rfl ?_
  have hPc := hP.sub (ws' := [(h, .inr (2, [.ref r, .int (nI (by_ap cap L [by_b ((v.toUInt32 >>> ((24 : Int32).toUInt32 &&& Int32.toUInt32 31)).toInt32)]).length)])), (r, .inl (cA, cap, .inl u_1))]) [0, 1] rfl
  have hKc := hK.sub (tys' := [(cA, .byte)]) [0] rfl
  have hDc := hD.sub (ws' := [(h, .inr (2, [.ref r, .int (nI (by_ap cap L [by_b ((v.toUInt32 >>> ((24 : Int32).toUInt32 &&& Int32.toUInt32 31)).toInt32)]).length)])), (r, .inl (cA, cap, .inl u_1))]) [0, 1] (by decide) rfl
  have hFc := va_free (wc := [(h, .inr (2, [.ref r, .int (nI (by_ap cap L [by_b ((v.toUInt32 >>> ((24 : Int32).toUInt32 &&& Int32.toUInt32 31)).toInt32)]).length)])), (r, .inl (cA, cap, .inl u_1))]) hD hS hA [0, 1] rfl
  refine zz_callv (va_runV (As := [.int ((v.toUInt32 >>> ((16 : Int32).toUInt32 &&& Int32.toUInt32 31)).toInt32)]) (rest := []) ⟨hx, hb, hml, hown, hg⟩ (c_By_add l dC dI h r cA cap u_1 (by_ap cap L [by_b ((v.toUInt32 >>> ((24 : Int32).toUInt32 &&& Int32.toUInt32 31)).toInt32)]) ((v.toUInt32 >>> ((16 : Int32).toUInt32 &&& Int32.toUInt32 31)).toInt32) hL_3 (by_ap_len _ _ _) hk  H.size) (cwV 1 hg (gi_V kw_165 kw_166 kw_167 kw_2 kw_168) rfl rfl rfl (by decide +kernel) ⟨Nat.le_of_ble_eq_true rfl, Nat.le_of_ble_eq_true rfl⟩) (zz_preV hPc hKc hDc _ (q0 := 0) (ci := 2) rfl rfl) rfl rfl hl.1 rfl (lv_room (Nat.le_of_ble_eq_true rfl)) d_By_addFourBytes_13 ⟨Nat.le_of_ble_eq_true rfl, Nat.le_of_ble_eq_true rfl⟩) hS hFc (fun u H1 k9 p9 d9 => va_join (wr := []) hP hD [0, 1] [] rfl rfl (by decide) (by decide) k9 hFc p9 d9) (fun u H locs hw hP hD hK1 hS => ?_)
  obtain ⟨u_4, rfl⟩ : ∃ z, z = u := ⟨_, rfl⟩
  try dsimp only at hw
  have hP : va_P (dC, dI) vwCl [(h, .inr (2, [.ref r, .int (nI (by_ap cap (by_ap cap L [by_b ((v.toUInt32 >>> ((24 : Int32).toUInt32 &&& Int32.toUInt32 31)).toInt32)]) [by_b ((v.toUInt32 >>> ((16 : Int32).toUInt32 &&& Int32.toUInt32 31)).toInt32)]).length)])), (r, .inl (cA, cap, .inl u_4))] H := hP
  have hD : va_D A [(h, .inr (2, [.ref r, .int (nI (by_ap cap (by_ap cap L [by_b ((v.toUInt32 >>> ((24 : Int32).toUInt32 &&& Int32.toUInt32 31)).toInt32)]) [by_b ((v.toUInt32 >>> ((16 : Int32).toUInt32 &&& Int32.toUInt32 31)).toInt32)]).length)])), (r, .inl (cA, cap, .inl u_4))] := hD
  have hL_6 := hw
  refine lv_aload_n hx hb d_By_addFourBytes_16 rfl (lv_at hl 0 rfl) ?_
  refine lv_iload_n hx hb d_By_addFourBytes_17 rfl (lv_at hl 1 rfl) ?_
  refine lv_bipush (v := 8) hx hb d_By_addFourBytes_18 (by decide) ?_
  refine lv_iushr hx hb d_By_addFourBytes_20 rfl ?_
  have hPc := hP.sub (ws' := [(h, .inr (2, [.ref r, .int (nI (by_ap cap (by_ap cap L [by_b ((v.toUInt32 >>> ((24 : Int32).toUInt32 &&& Int32.toUInt32 31)).toInt32)]) [by_b ((v.toUInt32 >>> ((16 : Int32).toUInt32 &&& Int32.toUInt32 31)).toInt32)]).length)])), (r, .inl (cA, cap, .inl u_4))]) [0, 1] rfl
  have hKc := hK.sub (tys' := [(cA, .byte)]) [0] rfl
  have hDc := hD.sub (ws' := [(h, .inr (2, [.ref r, .int (nI (by_ap cap (by_ap cap L [by_b ((v.toUInt32 >>> ((24 : Int32).toUInt32 &&& Int32.toUInt32 31)).toInt32)]) [by_b ((v.toUInt32 >>> ((16 : Int32).toUInt32 &&& Int32.toUInt32 31)).toInt32)]).length)])), (r, .inl (cA, cap, .inl u_4))]) [0, 1] (by decide) rfl
  have hFc := va_free (wc := [(h, .inr (2, [.ref r, .int (nI (by_ap cap (by_ap cap L [by_b ((v.toUInt32 >>> ((24 : Int32).toUInt32 &&& Int32.toUInt32 31)).toInt32)]) [by_b ((v.toUInt32 >>> ((16 : Int32).toUInt32 &&& Int32.toUInt32 31)).toInt32)]).length)])), (r, .inl (cA, cap, .inl u_4))]) hD hS hA [0, 1] rfl
  refine zz_callv (va_runV (As := [.int ((v.toUInt32 >>> ((8 : Int32).toUInt32 &&& Int32.toUInt32 31)).toInt32)]) (rest := []) ⟨hx, hb, hml, hown, hg⟩ (c_By_add l dC dI h r cA cap u_4 (by_ap cap (by_ap cap L [by_b ((v.toUInt32 >>> ((24 : Int32).toUInt32 &&& Int32.toUInt32 31)).toInt32)]) [by_b ((v.toUInt32 >>> ((16 : Int32).toUInt32 &&& Int32.toUInt32 31)).toInt32)]) ((v.toUInt32 >>> ((8 : Int32).toUInt32 &&& Int32.toUInt32 31)).toInt32) hL_6 (by_ap_len _ _ _) hk  H.size) (cwV 1 hg (gi_V kw_165 kw_166 kw_167 kw_2 kw_168) rfl rfl rfl (by decide +kernel) ⟨Nat.le_of_ble_eq_true rfl, Nat.le_of_ble_eq_true rfl⟩) (zz_preV hPc hKc hDc _ (q0 := 0) (ci := 2) rfl rfl) rfl rfl hl.1 rfl (lv_room (Nat.le_of_ble_eq_true rfl)) d_By_addFourBytes_21 ⟨Nat.le_of_ble_eq_true rfl, Nat.le_of_ble_eq_true rfl⟩) hS hFc (fun u H1 k9 p9 d9 => va_join (wr := []) hP hD [0, 1] [] rfl rfl (by decide) (by decide) k9 hFc p9 d9) (fun u H locs hw hP hD hK1 hS => ?_)
  obtain ⟨u_7, rfl⟩ : ∃ z, z = u := ⟨_, rfl⟩
  try dsimp only at hw
  have hP : va_P (dC, dI) vwCl [(h, .inr (2, [.ref r, .int (nI (by_ap cap (by_ap cap (by_ap cap L [by_b ((v.toUInt32 >>> ((24 : Int32).toUInt32 &&& Int32.toUInt32 31)).toInt32)]) [by_b ((v.toUInt32 >>> ((16 : Int32).toUInt32 &&& Int32.toUInt32 31)).toInt32)]) [by_b ((v.toUInt32 >>> ((8 : Int32).toUInt32 &&& Int32.toUInt32 31)).toInt32)]).length)])), (r, .inl (cA, cap, .inl u_7))] H := hP
  have hD : va_D A [(h, .inr (2, [.ref r, .int (nI (by_ap cap (by_ap cap (by_ap cap L [by_b ((v.toUInt32 >>> ((24 : Int32).toUInt32 &&& Int32.toUInt32 31)).toInt32)]) [by_b ((v.toUInt32 >>> ((16 : Int32).toUInt32 &&& Int32.toUInt32 31)).toInt32)]) [by_b ((v.toUInt32 >>> ((8 : Int32).toUInt32 &&& Int32.toUInt32 31)).toInt32)]).length)])), (r, .inl (cA, cap, .inl u_7))] := hD
  have hL_9 := hw
  refine lv_aload_n hx hb d_By_addFourBytes_24 rfl (lv_at hl 0 rfl) ?_
  refine lv_iload_n hx hb d_By_addFourBytes_25 rfl (lv_at hl 1 rfl) ?_
  have hPc := hP.sub (ws' := [(h, .inr (2, [.ref r, .int (nI (by_ap cap (by_ap cap (by_ap cap L [by_b ((v.toUInt32 >>> ((24 : Int32).toUInt32 &&& Int32.toUInt32 31)).toInt32)]) [by_b ((v.toUInt32 >>> ((16 : Int32).toUInt32 &&& Int32.toUInt32 31)).toInt32)]) [by_b ((v.toUInt32 >>> ((8 : Int32).toUInt32 &&& Int32.toUInt32 31)).toInt32)]).length)])), (r, .inl (cA, cap, .inl u_7))]) [0, 1] rfl
  have hKc := hK.sub (tys' := [(cA, .byte)]) [0] rfl
  have hDc := hD.sub (ws' := [(h, .inr (2, [.ref r, .int (nI (by_ap cap (by_ap cap (by_ap cap L [by_b ((v.toUInt32 >>> ((24 : Int32).toUInt32 &&& Int32.toUInt32 31)).toInt32)]) [by_b ((v.toUInt32 >>> ((16 : Int32).toUInt32 &&& Int32.toUInt32 31)).toInt32)]) [by_b ((v.toUInt32 >>> ((8 : Int32).toUInt32 &&& Int32.toUInt32 31)).toInt32)]).length)])), (r, .inl (cA, cap, .inl u_7))]) [0, 1] (by decide) rfl
  have hFc := va_free (wc := [(h, .inr (2, [.ref r, .int (nI (by_ap cap (by_ap cap (by_ap cap L [by_b ((v.toUInt32 >>> ((24 : Int32).toUInt32 &&& Int32.toUInt32 31)).toInt32)]) [by_b ((v.toUInt32 >>> ((16 : Int32).toUInt32 &&& Int32.toUInt32 31)).toInt32)]) [by_b ((v.toUInt32 >>> ((8 : Int32).toUInt32 &&& Int32.toUInt32 31)).toInt32)]).length)])), (r, .inl (cA, cap, .inl u_7))]) hD hS hA [0, 1] rfl
  refine zz_callv (va_runV (As := [.int v]) (rest := []) ⟨hx, hb, hml, hown, hg⟩ (c_By_add l dC dI h r cA cap u_7 (by_ap cap (by_ap cap (by_ap cap L [by_b ((v.toUInt32 >>> ((24 : Int32).toUInt32 &&& Int32.toUInt32 31)).toInt32)]) [by_b ((v.toUInt32 >>> ((16 : Int32).toUInt32 &&& Int32.toUInt32 31)).toInt32)]) [by_b ((v.toUInt32 >>> ((8 : Int32).toUInt32 &&& Int32.toUInt32 31)).toInt32)]) v hL_9 (by_ap_len _ _ _) hk  H.size) (cwV 1 hg (gi_V kw_165 kw_166 kw_167 kw_2 kw_168) rfl rfl rfl (by decide +kernel) ⟨Nat.le_of_ble_eq_true rfl, Nat.le_of_ble_eq_true rfl⟩) (zz_preV hPc hKc hDc _ (q0 := 0) (ci := 2) rfl rfl) rfl rfl hl.1 rfl (lv_room (Nat.le_of_ble_eq_true rfl)) d_By_addFourBytes_26 ⟨Nat.le_of_ble_eq_true rfl, Nat.le_of_ble_eq_true rfl⟩) hS hFc (fun u H1 k9 p9 d9 => va_join (wr := []) hP hD [0, 1] [] rfl rfl (by decide) (by decide) k9 hFc p9 d9) (fun u H locs hw hP hD hK1 hS => ?_)
  obtain ⟨u_10, rfl⟩ : ∃ z, z = u := ⟨_, rfl⟩
  try dsimp only at hw
  have hP : va_P (dC, dI) vwCl [(h, .inr (2, [.ref r, .int (nI (by_ap cap (by_ap cap (by_ap cap (by_ap cap L [by_b ((v.toUInt32 >>> ((24 : Int32).toUInt32 &&& Int32.toUInt32 31)).toInt32)]) [by_b ((v.toUInt32 >>> ((16 : Int32).toUInt32 &&& Int32.toUInt32 31)).toInt32)]) [by_b ((v.toUInt32 >>> ((8 : Int32).toUInt32 &&& Int32.toUInt32 31)).toInt32)]) [by_b v]).length)])), (r, .inl (cA, cap, .inl u_10))] H := hP
  have hD : va_D A [(h, .inr (2, [.ref r, .int (nI (by_ap cap (by_ap cap (by_ap cap (by_ap cap L [by_b ((v.toUInt32 >>> ((24 : Int32).toUInt32 &&& Int32.toUInt32 31)).toInt32)]) [by_b ((v.toUInt32 >>> ((16 : Int32).toUInt32 &&& Int32.toUInt32 31)).toInt32)]) [by_b ((v.toUInt32 >>> ((8 : Int32).toUInt32 &&& Int32.toUInt32 31)).toInt32)]) [by_b v]).length)])), (r, .inl (cA, cap, .inl u_10))] := hD
  have hL_12 := hw
  have hP9 := hP.sub (ws' := [(h, .inr (2, [.ref r, .int (nI (by_ap cap (by_ap cap (by_ap cap (by_ap cap L [by_b ((v.toUInt32 >>> ((24 : Int32).toUInt32 &&& Int32.toUInt32 31)).toInt32)]) [by_b ((v.toUInt32 >>> ((16 : Int32).toUInt32 &&& Int32.toUInt32 31)).toInt32)]) [by_b ((v.toUInt32 >>> ((8 : Int32).toUInt32 &&& Int32.toUInt32 31)).toInt32)]) [by_b v]).length)])), (r, .inl (cA, cap, .inl u_10))]) [0, 1] rfl
  have hD9 := hD.sub (ws' := [(h, .inr (2, [.ref r, .int (nI (by_ap cap (by_ap cap (by_ap cap (by_ap cap L [by_b ((v.toUInt32 >>> ((24 : Int32).toUInt32 &&& Int32.toUInt32 31)).toInt32)]) [by_b ((v.toUInt32 >>> ((16 : Int32).toUInt32 &&& Int32.toUInt32 31)).toInt32)]) [by_b ((v.toUInt32 >>> ((8 : Int32).toUInt32 &&& Int32.toUInt32 31)).toInt32)]) [by_b v]).length)])), (r, .inl (cA, cap, .inl u_10))]) [0, 1] (by decide) rfl
  have hK9 := hK.sub (tys' := [(cA, .byte)]) [0] rfl
  rw [by_4_eq] at hP9 hD9
  exact zz_vret hx hb hr hlocks d_By_addFourBytes_29 hS (by first | exact Nat.le_refl _ | decide | omega | (dsimp only; omega)) (by first | exact Nat.le_refl _ | decide | omega | (dsimp only; omega)) u_10 (by rw [by_4_eq] at hL_12; exact hL_12) hP9 hK9 hD9
abbrev y_By_addTimes : MethodName := ⟨"TextForge$Bytes", "addTimes", "(II)V"⟩
abbrev w_By_addTimes : List Cond := Cond.code y_By_addTimes prog_4_method_8_code 4 none :: gw
theorem d_By_addTimes_0 : decode prog_4_method_8_code 0 = .ok (.iconst 0, 1) := by decide +kernel
theorem d_By_addTimes_1 : decode prog_4_method_8_code 1 = .ok (.istore_n 3, 1) := by decide +kernel
theorem d_By_addTimes_2 : decode prog_4_method_8_code 2 = .ok (.iload_n 3, 1) := by decide +kernel
theorem d_By_addTimes_3 : decode prog_4_method_8_code 3 = .ok (.iload_n 2, 1) := by decide +kernel
theorem d_By_addTimes_4 : decode prog_4_method_8_code 4 = .ok (.if_icmp .ge 14, 3) := by decide +kernel
theorem d_By_addTimes_7 : decode prog_4_method_8_code 7 = .ok (.aload_n 0, 1) := by decide +kernel
theorem d_By_addTimes_8 : decode prog_4_method_8_code 8 = .ok (.iload_n 1, 1) := by decide +kernel
theorem d_By_addTimes_9 : decode prog_4_method_8_code 9 = .ok (.invokevirtual 23, 3) := by decide +kernel
theorem d_By_addTimes_12 : decode prog_4_method_8_code 12 = .ok (.iinc 3 1, 3) := by decide +kernel
theorem d_By_addTimes_15 : decode prog_4_method_8_code 15 = .ok (.goto (-13), 3) := by decide +kernel
theorem d_By_addTimes_18 : decode prog_4_method_8_code 18 = .ok (.return_, 1) := by decide +kernel
set_option maxHeartbeats 4000000 in
set_option maxRecDepth 100000 in
theorem c_By_addTimes (l : Launch) (dC : Nat → ClassId) (dI : Nat → Nat → Nat) (h r : Nat) (cA : ClassId) (cap : Nat) (f : Nat → Int32) (L : List Nat) (v t : Int32) (hL : by_L L f) (hc : L.length ≤ cap) (hk : cap < 2147483648) : zM_v (S := Nat → Int32) l y_By_addTimes w_By_addTimes { frames := 1, cells := 0, slots := 0, locals := 21 } (dC, dI) vwCl [.ref h, .int v, .int t] [(h, .inr (2, [.ref r, .int (nI L.length)])), (r, .inl (cA, cap, .inl f))] [(cA, .byte)] (fun (u : Nat → Int32) => by_L (by_ap cap L (List.replicate t.toNatClampNeg (by_b v))) u) (fun u => [(h, .inr (2, [.ref r, .int (nI (by_ap cap L (List.replicate t.toNatClampNeg (by_b v))).length)])), (r, .inl (cA, cap, .inl u))]) (fun u => [(cA, .byte)]) 0 0 := by
  refine zz_enterv (cc := prog_4_method_8_code) (nL := 4) (ret := none) (by decide) rfl (Nat.le_of_ble_eq_true rfl) ?_
  intro p e s m below meth c A ls C0 hA hS hP hK hD hl
  obtain ⟨hx, hb, hml, hown, hg, hr, hlocks, hin⟩ := C0
  have hown : s.vm.findClass "TextForge$Bytes" = some m.cls := hown
  have hP : va_P (dC, dI) vwCl [(h, .inr (2, [.ref r, .int (nI L.length)])), (r, .inl (cA, cap, .inl f))] s.heap := hP
  have hK : va_K (dC, dI) vwCl [(cA, .byte)] s := hK
  have hD : va_D A [(h, .inr (2, [.ref r, .int (nI L.length)])), (r, .inl (cA, cap, .inl f))] := hD
  have hl : lv_has ls 4 [(0, .ref h), (1, .int v), (2, .int t)] := hl
  refine lv_iconst (v := 0) hx hb d_By_addTimes_0 (by decide) ?_
  refine lv_istore_n (lv' := [(3, .int 0), (0, .ref h), (1, .int v), (2, .int t)]) hx hb d_By_addTimes_1 rfl hl (by decide) rfl (fun ls hl => ?_)
  rw [show nI L.length = nI (by_ap cap L (List.replicate 0 (by_b v))).length by rw [List.replicate_zero, by_ap_nil hc]] at hP hD
  refine zz_loop (fun (x : Nat × (Nat → Int32)) H locs ls => match x with | (j, g) => va_P (dC, dI) vwCl [(h, .inr (2, [.ref r, .int (nI (by_ap cap L (List.replicate j (by_b v))).length)])), (r, .inl (cA, cap, .inl g))] H ∧ va_D A [(h, .inr (2, [.ref r, .int (nI (by_ap cap L (List.replicate j (by_b v))).length)])), (r, .inl (cA, cap, .inl g))] ∧ va_S A s.heap H locs ∧ lv_has ls 4 [(0, .ref h), (1, .int v), (2, .int t), (3, .int (nI j))] ∧ by_L (by_ap cap L (List.replicate j (by_b v))) g ∧ j ≤ t.toNatClampNeg) (fun x => match x with | (j, g) => t.toNatClampNeg - j) ?_ (0, f) ⟨hP.sub [0, 1] rfl, hD.sub [0, 1] (by decide) rfl, hS, lv_sub hl [1, 2, 3, 0] rfl, (by rw [List.replicate_zero, by_ap_nil hc]; exact hL), (Nat.zero_le _)⟩
  intro x H locs ls hI ih_2
  obtain ⟨j, g⟩ := x
  try dsimp only at hI
  obtain ⟨hP, hD, hS, hl, hLj, hj⟩ := hI
  refine lv_iload_n hx hb d_By_addTimes_2 rfl (lv_at hl 3 rfl) ?_
  refine lv_iload_n hx hb d_By_addTimes_3 rfl (lv_at hl 2 rfl) ?_
  refine lv_icmp_ge (tgt := 18) hx hb d_By_addTimes_4 (by decide) (fun c_4 => ?_) (fun c_4 => ?_)
  · skip
    have ej : j = t.toNatClampNeg := by_tm_out hj c_4
    have hP9 := hP.sub (ws' := [(h, .inr (2, [.ref r, .int (nI (by_ap cap L (List.replicate j (by_b v))).length)])), (r, .inl (cA, cap, .inl g))]) [0, 1] rfl
    have hD9 := hD.sub (ws' := [(h, .inr (2, [.ref r, .int (nI (by_ap cap L (List.replicate j (by_b v))).length)])), (r, .inl (cA, cap, .inl g))]) [0, 1] (by decide) rfl
    have hK9 := hK.sub (tys' := [(cA, .byte)]) [0] rfl
    rw [ej] at hP9 hD9
    exact zz_vret hx hb hr hlocks d_By_addTimes_18 hS (by first | exact Nat.le_refl _ | decide | omega | (dsimp only; omega)) (by first | exact Nat.le_refl _ | decide | omega | (dsimp only; omega)) g (by rw [← ej]; exact hLj) hP9 hK9 hD9
  · skip
    have hj2 : j < t.toNatClampNeg := by_tm_in hj c_4
    refine lv_aload_n hx hb d_By_addTimes_7 rfl (lv_at hl 0 rfl) ?_
    refine lv_iload_n hx hb d_By_addTimes_8 rfl (lv_at hl 1 rfl) ?_
    have hPc := hP.sub (ws' := [(h, .inr (2, [.ref r, .int (nI (by_ap cap L (List.replicate j (by_b v))).length)])), (r, .inl (cA, cap, .inl g))]) [0, 1] rfl
    have hKc := hK.sub (tys' := [(cA, .byte)]) [0] rfl
    have hDc := hD.sub (ws' := [(h, .inr (2, [.ref r, .int (nI (by_ap cap L (List.replicate j (by_b v))).length)])), (r, .inl (cA, cap, .inl g))]) [0, 1] (by decide) rfl
    have hFc := va_free (wc := [(h, .inr (2, [.ref r, .int (nI (by_ap cap L (List.replicate j (by_b v))).length)])), (r, .inl (cA, cap, .inl g))]) hD hS hA [0, 1] rfl
    refine zz_callv (va_runV (As := [.int v]) (rest := []) ⟨hx, hb, hml, hown, hg⟩ (c_By_add l dC dI h r cA cap g (by_ap cap L (List.replicate j (by_b v))) v hLj (by_ap_len _ _ _) hk  H.size) (cwV 1 hg (gi_V kw_165 kw_166 kw_167 kw_2 kw_168) rfl rfl rfl (by decide +kernel) ⟨Nat.le_of_ble_eq_true rfl, Nat.le_of_ble_eq_true rfl⟩) (zz_preV hPc hKc hDc _ (q0 := 0) (ci := 2) rfl rfl) rfl rfl hl.1 rfl (lv_room (Nat.le_of_ble_eq_true rfl)) d_By_addTimes_9 ⟨Nat.le_of_ble_eq_true rfl, Nat.le_of_ble_eq_true rfl⟩) hS hFc (fun u H1 k9 p9 d9 => va_join (wr := []) hP hD [0, 1] [] rfl rfl (by decide) (by decide) k9 hFc p9 d9) (fun u H locs hw hP hD hK1 hS => ?_)
    obtain ⟨u_1, rfl⟩ : ∃ z, z = u := ⟨_, rfl⟩
    try dsimp only at hw
    have hP : va_P (dC, dI) vwCl [(h, .inr (2, [.ref r, .int (nI (by_ap cap (by_ap cap L (List.replicate j (by_b v))) [by_b v]).length)])), (r, .inl (cA, cap, .inl u_1))] H := hP
    have hD : va_D A [(h, .inr (2, [.ref r, .int (nI (by_ap cap (by_ap cap L (List.replicate j (by_b v))) [by_b v]).length)])), (r, .inl (cA, cap, .inl u_1))] := hD
    have hL_3 := hw
    refine lv_iinc (v := (nI j) + 1) (lv' := [(3, .int ((nI j) + 1)), (0, .ref h), (1, .int v), (2, .int t)]) hx hb d_By_addTimes_12 hl (k := 3) rfl rfl (by decide) rfl (fun ls hl => ?_)
    refine lv_goto (tgt := 2) hx hb d_By_addTimes_15 (by decide) ?_
    rw [by_rep_e] at hP hD
    rw [nI_1] at hl
    exact ih_2 (j + 1, u_1) H locs ls ⟨hP.sub [0, 1] rfl, hD.sub [0, 1] (by decide) rfl, hS, lv_sub hl [1, 2, 3, 0] rfl, (by_rep_s hL_3), (by omega)⟩ (by dsimp only; omega)
