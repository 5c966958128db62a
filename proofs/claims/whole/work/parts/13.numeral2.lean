/-! NUMERALS, further -/
theorem nu_m {n k : Nat} (hk : (((1 : Int32) <<< (nI k &&& 31)) - 1).toBitVec.toNat = 2 ^ k - 1 ∧ k ≤ 31) : (lN n).toInt32 &&& (((1 : Int32) <<< (nI k &&& 31)) - 1) = nI (n % 2 ^ k) := by
  rw [lN_i, pk_and (nI n) k hk.1]
  congr 1
  show (BitVec.ofNat 32 n).toNat % 2 ^ k = _
  rw [BitVec.toNat_ofNat]
  exact Nat.mod_mod_of_dvd _ (Nat.pow_dvd_pow 2 (by omega))
theorem nu_mn {L : List Nat} (h : L.length ≤ 64) : (if nI 64 < nI L.length then nI 64 else nI L.length) = nI L.length := if_neg (nI_nlt h (by decide))
theorem nu_rv {cap j : Nat} {L L2 : List Nat} {f2 : Nat → Int32} (hL2 : by_L L2 f2) (hj : j + 1 ≤ L2.length ∧ L2.length ≤ 64) : by_ap cap (by_ap cap L (List.drop (j + 1) L2).reverse) [by_b (f2 (nI j).toNatClampNeg)] = by_ap cap L (List.drop j L2).reverse := by
  have h := hL2 j (by omega)
  rw [by_ap_ap, nI_clamp (by omega), h.2, by_b_sb h.1, List.drop_eq_getElem_cons (i := j) (by omega), List.reverse_cons]
  congr 3
  rw [List.getD_eq_getElem?_getD, List.getElem?_eq_getElem (show j < L2.length by omega)]; rfl
abbrev y_Nu_setByBits : MethodName := ⟨"TextForge$Numeral", "setByBits", "(JII)V"⟩
abbrev w_Nu_setByBits : List Cond := Cond.code y_Nu_setByBits prog_7_method_5_code 7 none :: gw
theorem d_Nu_setByBits_0 : decode prog_7_method_5_code 0 = .ok (.lload_n 1, 1) := by decide +kernel
theorem d_Nu_setByBits_1 : decode prog_7_method_5_code 1 = .ok (.lstore 5, 2) := by decide +kernel
theorem d_Nu_setByBits_3 : decode prog_7_method_5_code 3 = .ok (.aload_n 0, 1) := by decide +kernel
theorem d_Nu_setByBits_4 : decode prog_7_method_5_code 4 = .ok (.iconst 0, 1) := by decide +kernel
theorem d_Nu_setByBits_5 : decode prog_7_method_5_code 5 = .ok (.putfield 13, 3) := by decide +kernel
theorem d_Nu_setByBits_8 : decode prog_7_method_5_code 8 = .ok (.aload_n 0, 1) := by decide +kernel
theorem d_Nu_setByBits_9 : decode prog_7_method_5_code 9 = .ok (.getfield 13, 3) := by decide +kernel
theorem d_Nu_setByBits_12 : decode prog_7_method_5_code 12 = .ok (.aload_n 0, 1) := by decide +kernel
theorem d_Nu_setByBits_13 : decode prog_7_method_5_code 13 = .ok (.getfield 7, 3) := by decide +kernel
theorem d_Nu_setByBits_16 : decode prog_7_method_5_code 16 = .ok (.arraylength, 1) := by decide +kernel
theorem d_Nu_setByBits_17 : decode prog_7_method_5_code 17 = .ok (.if_icmp .ge 60, 3) := by decide +kernel
theorem d_Nu_setByBits_20 : decode prog_7_method_5_code 20 = .ok (.aload_n 0, 1) := by decide +kernel
theorem d_Nu_setByBits_21 : decode prog_7_method_5_code 21 = .ok (.getfield 13, 3) := by decide +kernel
theorem d_Nu_setByBits_24 : decode prog_7_method_5_code 24 = .ok (.ifCond .eq 10, 3) := by decide +kernel
theorem d_Nu_setByBits_27 : decode prog_7_method_5_code 27 = .ok (.lload 5, 2) := by decide +kernel
theorem d_Nu_setByBits_29 : decode prog_7_method_5_code 29 = .ok (.lconst 0, 1) := by decide +kernel
theorem d_Nu_setByBits_30 : decode prog_7_method_5_code 30 = .ok (.lcmp, 1) := by decide +kernel
theorem d_Nu_setByBits_31 : decode prog_7_method_5_code 31 = .ok (.ifCond .eq 46, 3) := by decide +kernel
theorem d_Nu_setByBits_34 : decode prog_7_method_5_code 34 = .ok (.aload_n 0, 1) := by decide +kernel
theorem d_Nu_setByBits_35 : decode prog_7_method_5_code 35 = .ok (.getfield 7, 3) := by decide +kernel
theorem d_Nu_setByBits_38 : decode prog_7_method_5_code 38 = .ok (.aload_n 0, 1) := by decide +kernel
theorem d_Nu_setByBits_39 : decode prog_7_method_5_code 39 = .ok (.getfield 13, 3) := by decide +kernel
theorem d_Nu_setByBits_42 : decode prog_7_method_5_code 42 = .ok (.lload 5, 2) := by decide +kernel
theorem d_Nu_setByBits_44 : decode prog_7_method_5_code 44 = .ok (.l2i, 1) := by decide +kernel
theorem d_Nu_setByBits_45 : decode prog_7_method_5_code 45 = .ok (.iconst 1, 1) := by decide +kernel
theorem d_Nu_setByBits_46 : decode prog_7_method_5_code 46 = .ok (.iload_n 3, 1) := by decide +kernel
theorem d_Nu_setByBits_47 : decode prog_7_method_5_code 47 = .ok (.ishl, 1) := by decide +kernel
theorem d_Nu_setByBits_48 : decode prog_7_method_5_code 48 = .ok (.iconst 1, 1) := by decide +kernel
theorem d_Nu_setByBits_49 : decode prog_7_method_5_code 49 = .ok (.isub, 1) := by decide +kernel
theorem d_Nu_setByBits_50 : decode prog_7_method_5_code 50 = .ok (.iand, 1) := by decide +kernel
theorem d_Nu_setByBits_51 : decode prog_7_method_5_code 51 = .ok (.iload 4, 2) := by decide +kernel
theorem d_Nu_setByBits_53 : decode prog_7_method_5_code 53 = .ok (.invokestatic 23, 3) := by decide +kernel
theorem d_Nu_setByBits_56 : decode prog_7_method_5_code 56 = .ok (.i2b, 1) := by decide +kernel
theorem d_Nu_setByBits_57 : decode prog_7_method_5_code 57 = .ok (.bastore, 1) := by decide +kernel
theorem d_Nu_setByBits_58 : decode prog_7_method_5_code 58 = .ok (.lload 5, 2) := by decide +kernel
theorem d_Nu_setByBits_60 : decode prog_7_method_5_code 60 = .ok (.iload_n 3, 1) := by decide +kernel
theorem d_Nu_setByBits_61 : decode prog_7_method_5_code 61 = .ok (.lushr, 1) := by decide +kernel
theorem d_Nu_setByBits_62 : decode prog_7_method_5_code 62 = .ok (.lstore 5, 2) := by decide +kernel
theorem d_Nu_setByBits_64 : decode prog_7_method_5_code 64 = .ok (.aload_n 0, 1) := by decide +kernel
theorem d_Nu_setByBits_65 : decode prog_7_method_5_code 65 = .ok (.dup, 1) := by decide +kernel
theorem d_Nu_setByBits_66 : decode prog_7_method_5_code 66 = .ok (.getfield 13, 3) := by decide +kernel
theorem d_Nu_setByBits_69 : decode prog_7_method_5_code 69 = .ok (.iconst 1, 1) := by decide +kernel
theorem d_Nu_setByBits_70 : decode prog_7_method_5_code 70 = .ok (.iadd, 1) := by decide +kernel
theorem d_Nu_setByBits_71 : decode prog_7_method_5_code 71 = .ok (.putfield 13, 3) := by decide +kernel
theorem d_Nu_setByBits_74 : decode prog_7_method_5_code 74 = .ok (.goto (-66), 3) := by decide +kernel
theorem d_Nu_setByBits_77 : decode prog_7_method_5_code 77 = .ok (.return_, 1) := by decide +kernel
set_option maxHeartbeats 4000000 in
set_option maxRecDepth 100000 in
theorem c_Nu_setByBits (l : Launch) (dC : Nat → ClassId) (dI : Nat → Nat → Nat) (h r : Nat) (cA : ClassId) (f : Nat → Int32) (k0 : Int32) (n0 bi t : Nat) (hn0 : n0 < 2 ^ 64) (hbi : bi = 1 ∨ bi = 3 ∨ bi = 4) (ht : t < 240) : zM_v (S := Nat → Int32) l y_Nu_setByBits w_Nu_setByBits { frames := 1, cells := 0, slots := 0, locals := 21 } (dC, dI) vwCl [.ref h, .long (lN n0), .int (nI bi), .int (nI t)] [(h, .inr (5, [.ref r, .int k0])), (r, .inl (cA, 64, .inl f))] [(cA, .byte)] (fun (u : Nat → Int32) => by_L (nu_f (2 ^ bi) t 64 n0) u) (fun u => [(h, .inr (5, [.ref r, .int (nI (nu_f (2 ^ bi) t 64 n0).length)])), (r, .inl (cA, 64, .inl u))]) (fun u => [(cA, .byte)]) 0 0 := by
  refine zz_enterv (cc := prog_7_method_5_code) (nL := 7) (ret := none) (by decide) rfl (Nat.le_of_ble_eq_true rfl) ?_
  intro p e s m below meth c A ls C0 hA hS hP hK hD hl
  obtain ⟨hx, hb, hml, hown, hg, hr, hlocks, hin⟩ := C0
  have hown : s.vm.findClass "TextForge$Numeral" = some m.cls := hown
  have hP : va_P (dC, dI) vwCl [(h, .inr (5, [.ref r, .int k0])), (r, .inl (cA, 64, .inl f))] s.heap := hP
  have hK : va_K (dC, dI) vwCl [(cA, .byte)] s := hK
  have hD : va_D A [(h, .inr (5, [.ref r, .int k0])), (r, .inl (cA, 64, .inl f))] := hD
  have hl : lv_has ls 7 [(0, .ref h), (1, .long (lN n0)), (3, .int (nI bi)), (4, .int (nI t))] := hl
  rcases hbi with rfl | rfl | rfl
  · skip
    have hl : lv_has ls 7 [(0, .ref h), (1, .long (lN n0)), (3, .int (nI 1)), (4, .int (nI t))] := hl
    have hP : va_P (dC, dI) vwCl [(h, .inr (5, [.ref r, .int k0])), (r, .inl (cA, 64, .inl f))] s.heap := hP
    refine lv_lload_n hx hb d_Nu_setByBits_0 rfl (lv_at hl 1 rfl) ?_
    refine lv_lstore (lv' := [(5, .long (lN n0)), (0, .ref h), (1, .long (lN n0)), (3, .int (nI 1)), (4, .int (nI t))]) hx hb d_Nu_setByBits_1 hl (by decide) rfl (fun ls hl => ?_)
    refine lv_aload_n hx hb d_Nu_setByBits_3 rfl (lv_at hl 1 rfl) ?_
    refine lv_iconst (v := 0) hx hb d_Nu_setByBits_4 (by decide) ?_
    refine va_put (D := (dC, dI)) (ci := 5) (v := .int 0) (ty := .int) (C := "TextForge$Numeral") (T := TX5) (N := 2) hx hb hg iwX5 tyX5 tyX5_ok nmX5 hown hK hP hD hS 0 rfl rfl 1 (by decide) (hg _ kw_104) (fun _ h9 => h9) rfl (by decide +kernel) rfl rfl (Nat.le_of_ble_eq_true rfl) d_Nu_setByBits_5 (fun H locs hP hD hS => ?_)
    have hP : va_P (dC, dI) vwCl [(h, .inr (5, [.ref r, .int 0])), (r, .inl (cA, 64, .inl f))] H := hP
    have hD : va_D A [(h, .inr (5, [.ref r, .int 0])), (r, .inl (cA, 64, .inl f))] := hD
    refine zz_loop (fun (x : List Nat × Nat × (Nat → Int32)) H locs ls => match x with | (D, n, g) => va_P (dC, dI) vwCl [(h, .inr (5, [.ref r, .int (nI D.length)])), (r, .inl (cA, 64, .inl g))] H ∧ va_D A [(h, .inr (5, [.ref r, .int (nI D.length)])), (r, .inl (cA, 64, .inl g))] ∧ va_S A s.heap H locs ∧ lv_has ls 7 [(0, .ref h), (1, .long (lN n0)), (3, .int (nI 1)), (4, .int (nI t)), (5, .long (lN n))] ∧ by_L D g ∧ D.length ≤ 64 ∧ n < 2 ^ 64 ∧ nu_f (2 ^ 1) t 64 n0 = D ++ nu_r (2 ^ 1) t D.length n) (fun x => match x with | (D, n, g) => 64 - D.length) ?_ ([], n0, f) ⟨hP.sub [0, 1] rfl, hD.sub [0, 1] (by decide) rfl, hS, lv_sub hl [1, 2, 3, 4, 0] rfl, (by_nil _), (Nat.zero_le 64), hn0, nu_i⟩
    intro x H locs ls hI ih_8
    obtain ⟨D, n, g⟩ := x
    try dsimp only at hI
    obtain ⟨hP, hD, hS, hl, hLD, hD6, hn, hE⟩ := hI
    refine lv_aload_n hx hb d_Nu_setByBits_8 rfl (lv_at hl 0 rfl) ?_
    refine va_get (D := (dC, dI)) (ci := 5) (v := .int (nI D.length)) (C := "TextForge$Numeral") (T := TX5) (N := 2) hx hb hg iwX5 hown hK hP 0 rfl rfl 1 (by decide) (hg _ kw_104) (fun _ h9 => h9) rfl d_Nu_setByBits_9 ?_
    refine lv_aload_n hx hb d_Nu_setByBits_12 rfl (lv_at hl 0 rfl) ?_
    refine va_get (D := (dC, dI)) (ci := 5) (v := .ref r) (C := "TextForge$Numeral") (T := TX5) (N := 2) hx hb hg iwX5 hown hK hP 0 rfl rfl 0 (by decide) (hg _ kw_103) (fun _ h9 => h9) rfl d_Nu_setByBits_13 ?_
    refine va_alen (v := nI 64) hx hb hK hP 1 0 rfl rfl rfl d_Nu_setByBits_16 ?_
    refine lv_icmp_ge (tgt := 77) hx hb d_Nu_setByBits_17 (by decide) (fun c_17 => ?_) (fun c_17 => ?_)
    · skip
      have f_17 : 64 ≤ D.length := Nat.le_of_not_lt (fun z => nI_ge (b := 64) z (by omega) c_17)
      have hN := nu_x1 hE f_17
      have hP9 := hP.sub (ws' := [(h, .inr (5, [.ref r, .int (nI D.length)])), (r, .inl (cA, 64, .inl g))]) [0, 1] rfl
      have hD9 := hD.sub (ws' := [(h, .inr (5, [.ref r, .int (nI D.length)])), (r, .inl (cA, 64, .inl g))]) [0, 1] (by decide) rfl
      have hK9 := hK.sub (tys' := [(cA, .byte)]) [0] rfl
      rw [← hN] at hP9 hD9
      exact zz_vret hx hb hr hlocks d_Nu_setByBits_77 hS (by first | exact Nat.le_refl _ | decide | omega | (dsimp only; omega)) (by first | exact Nat.le_refl _ | decide | omega | (dsimp only; omega)) g (by rw [hN]; exact hLD) hP9 hK9 hD9
    · skip
      have f_17 : D.length < 64 := Nat.lt_of_not_le (fun z => c_17 (nI_le (a := 64) z (by omega)))
      have hi9 : vp_in (nI D.length) 64 := vp_in_nI f_17 (by decide)
      refine lv_aload_n hx hb d_Nu_setByBits_20 rfl (lv_at hl 0 rfl) ?_
      refine va_get (D := (dC, dI)) (ci := 5) (v := .int (nI D.length)) (C := "TextForge$Numeral") (T := TX5) (N := 2) hx hb hg iwX5 hown hK hP 0 rfl rfl 1 (by decide) (hg _ kw_104) (fun _ h9 => h9) rfl d_Nu_setByBits_21 ?_
      refine lv_if_eq (tgt := 34) hx hb d_Nu_setByBits_24 (by decide) (fun c_24 => ?_) (fun c_24 => ?_)
      · skip
        have f_24 : D.length = 0 := nI_e1 (b := 0) c_24 (by omega) (by omega)
        have hgo : D.length = 0 ∨ n ≠ 0 := Or.inl f_24
        refine lv_aload_n hx hb d_Nu_setByBits_34 rfl (lv_at hl 0 rfl) ?_
        refine va_get (D := (dC, dI)) (ci := 5) (v := .ref r) (C := "TextForge$Numeral") (T := TX5) (N := 2) hx hb hg iwX5 hown hK hP 0 rfl rfl 0 (by decide) (hg _ kw_103) (fun _ h9 => h9) rfl d_Nu_setByBits_35 ?_
        refine lv_aload_n hx hb d_Nu_setByBits_38 rfl (lv_at hl 0 rfl) ?_
        refine va_get (D := (dC, dI)) (ci := 5) (v := .int (nI D.length)) (C := "TextForge$Numeral") (T := TX5) (N := 2) hx hb hg iwX5 hown hK hP 0 rfl rfl 1 (by decide) (hg _ kw_104) (fun _ h9 => h9) rfl d_Nu_setByBits_39 ?_
        refine lv_lload hx hb d_Nu_setByBits_42 (lv_at hl 4 rfl) ?_
        refine lv_l2i hx hb d_Nu_setByBits_44 rfl ?_
        refine lv_iconst (v := 1) hx hb d_Nu_setByBits_45 (by decide) ?_
        refine lv_iload_n hx hb d_Nu_setByBits_46 rfl (lv_at hl 2 rfl) ?_
        refine lv_ishl hx hb d_Nu_setByBits_47 ?_
        refine lv_iconst (v := 1) hx hb d_Nu_setByBits_48 (by decide) ?_
        refine lv_isub hx hb d_Nu_setByBits_49 ?_
        refine lv_iand hx hb d_Nu_setByBits_50 ?_
        rw [nu_m (k := 1) (by decide)]
        refine lv_iload hx hb d_Nu_setByBits_51 (lv_at hl 3 rfl) ?_
        have hPc := hP.sub (ws' := []) [] rfl
        have hKc := hK.sub (tys' := []) [] rfl
        refine vp_callSi (W.runS (As := [.int (nI (n % 2 ^ 1)), .int (nI t)]) (rest := [.int (nI D.length), .ref r]) ⟨hx, hb, hml, hown, hg⟩ (c_Nu_digit l dC dI (n % 2 ^ 1) t (by omega) (by omega)) (va_cwS 2 hg (gi_S kw_422 kw_386 kw_7 kw_387) rfl rfl rfl (by decide +kernel) ⟨Nat.le_of_ble_eq_true rfl, Nat.le_of_ble_eq_true rfl⟩) (zz_prJS hPc hKc _) rfl rfl hl.1 rfl (lv_room (Nat.le_of_ble_eq_true rfl)) d_Nu_setByBits_53 ⟨Nat.le_of_ble_eq_true rfl, Nat.le_of_ble_eq_true rfl⟩) (fun r_1 hr_1 => ?_)
        subst hr_1
        refine lv_i2b hx hb d_Nu_setByBits_56 rfl ?_
        refine va_bast hx hb hK hP hD hS 1 0 rfl rfl hi9 d_Nu_setByBits_57 (fun H locs hP hD hS => ?_)
        have hP : va_P (dC, dI) vwCl [(h, .inr (5, [.ref r, .int (nI D.length)])), (r, .inl (cA, 64, .inl (upd g (nI D.length).toNatClampNeg (vp_nar .byte ((nI (nu_d t (n % 2 ^ 1))).toInt8.toInt32)))))] H := hP
        have hD : va_D A [(h, .inr (5, [.ref r, .int (nI D.length)])), (r, .inl (cA, 64, .inl (upd g (nI D.length).toNatClampNeg (vp_nar .byte ((nI (nu_d t (n % 2 ^ 1))).toInt8.toInt32)))))] := hD
        refine lv_lload hx hb d_Nu_setByBits_58 (lv_at hl 4 rfl) ?_
        refine lv_iload_n hx hb d_Nu_setByBits_60 rfl (lv_at hl 2 rfl) ?_
        refine lv_lushr hx hb d_Nu_setByBits_61 rfl ?_
        rw [wb_shr (k := 1) hn (by decide)]
        refine lv_lstore (lv' := [(5, .long (lN (n / 2 ^ 1))), (0, .ref h), (1, .long (lN n0)), (3, .int (nI 1)), (4, .int (nI t))]) hx hb d_Nu_setByBits_62 hl (by decide) rfl (fun ls hl => ?_)
        refine lv_aload_n hx hb d_Nu_setByBits_64 rfl (lv_at hl 1 rfl) ?_
        refine lv_dup hx hb d_Nu_setByBits_65 rfl ?_
        refine va_get (D := (dC, dI)) (ci := 5) (v := .int (nI D.length)) (C := "TextForge$Numeral") (T := TX5) (N := 2) hx hb hg iwX5 hown hK hP 0 rfl rfl 1 (by decide) (hg _ kw_104) (fun _ h9 => h9) rfl d_Nu_setByBits_66 ?_
        refine lv_iconst (v := 1) hx hb d_Nu_setByBits_69 (by decide) ?_
        refine lv_iadd hx hb d_Nu_setByBits_70 ?_
        refine va_put (D := (dC, dI)) (ci := 5) (v := .int ((nI D.length) + 1)) (ty := .int) (C := "TextForge$Numeral") (T := TX5) (N := 2) hx hb hg iwX5 tyX5 tyX5_ok nmX5 hown hK hP hD hS 0 rfl rfl 1 (by decide) (hg _ kw_104) (fun _ h9 => h9) rfl (by decide +kernel) rfl rfl (Nat.le_of_ble_eq_true rfl) d_Nu_setByBits_71 (fun H locs hP hD hS => ?_)
        have hP : va_P (dC, dI) vwCl [(h, .inr (5, [.ref r, .int ((nI D.length) + 1)])), (r, .inl (cA, 64, .inl (upd g (nI D.length).toNatClampNeg (vp_nar .byte ((nI (nu_d t (n % 2 ^ 1))).toInt8.toInt32)))))] H := hP
        have hD : va_D A [(h, .inr (5, [.ref r, .int ((nI D.length) + 1)])), (r, .inl (cA, 64, .inl (upd g (nI D.length).toNatClampNeg (vp_nar .byte ((nI (nu_d t (n % 2 ^ 1))).toInt8.toInt32)))))] := hD
        refine lv_goto (tgt := 8) hx hb d_Nu_setByBits_74 (by decide) ?_
        rw [nu_c1 D (nu_d t (n % 2 ^ 1))] at hP hD
        exact ih_8 (D ++ [nu_d t (n % 2 ^ 1)], n / 2 ^ 1, (upd g (nI D.length).toNatClampNeg (vp_nar .byte ((nI (nu_d t (n % 2 ^ 1))).toInt8.toInt32)))) H locs ls ⟨hP.sub [0, 1] rfl, hD.sub [0, 1] (by decide) rfl, hS, lv_sub hl [1, 2, 3, 4, 0] rfl, (nu_pu hLD f_17 (nu_d_lt (by omega) ht)), (nu_le f_17), (Nat.lt_of_le_of_lt (Nat.div_le_self _ _) hn), (nu_step hE f_17 hgo)⟩ (by dsimp only; rw [List.length_append, List.length_singleton]; omega)
      · skip
        have f_24 : D.length ≠ 0 := nI_ne (b := 0) c_24
        refine lv_lload hx hb d_Nu_setByBits_27 (lv_at hl 4 rfl) ?_
        refine lv_lconst (v := 0) hx hb d_Nu_setByBits_29 (by decide) ?_
        refine W.lcmp hx hb d_Nu_setByBits_30 ?_
        refine lv_if_eq (tgt := 77) hx hb d_Nu_setByBits_31 (by decide) (fun c_31 => ?_) (fun c_31 => ?_)
        · skip
          have f_31 : n = 0 := nu_z4 hn c_31
          have hN := nu_x2 hE f_24 f_31
          have hP9 := hP.sub (ws' := [(h, .inr (5, [.ref r, .int (nI D.length)])), (r, .inl (cA, 64, .inl g))]) [0, 1] rfl
          have hD9 := hD.sub (ws' := [(h, .inr (5, [.ref r, .int (nI D.length)])), (r, .inl (cA, 64, .inl g))]) [0, 1] (by decide) rfl
          have hK9 := hK.sub (tys' := [(cA, .byte)]) [0] rfl
          rw [← hN] at hP9 hD9
          exact zz_vret hx hb hr hlocks d_Nu_setByBits_77 hS (by first | exact Nat.le_refl _ | decide | omega | (dsimp only; omega)) (by first | exact Nat.le_refl _ | decide | omega | (dsimp only; omega)) g (by rw [hN]; exact hLD) hP9 hK9 hD9
        · skip
          have hgo : D.length = 0 ∨ n ≠ 0 := Or.inr (fun e => c_31 (by rw [e]; decide))
          refine lv_aload_n hx hb d_Nu_setByBits_34 rfl (lv_at hl 0 rfl) ?_
          refine va_get (D := (dC, dI)) (ci := 5) (v := .ref r) (C := "TextForge$Numeral") (T := TX5) (N := 2) hx hb hg iwX5 hown hK hP 0 rfl rfl 0 (by decide) (hg _ kw_103) (fun _ h9 => h9) rfl d_Nu_setByBits_35 ?_
          refine lv_aload_n hx hb d_Nu_setByBits_38 rfl (lv_at hl 0 rfl) ?_
          refine va_get (D := (dC, dI)) (ci := 5) (v := .int (nI D.length)) (C := "TextForge$Numeral") (T := TX5) (N := 2) hx hb hg iwX5 hown hK hP 0 rfl rfl 1 (by decide) (hg _ kw_104) (fun _ h9 => h9) rfl d_Nu_setByBits_39 ?_
          refine lv_lload hx hb d_Nu_setByBits_42 (lv_at hl 4 rfl) ?_
          refine lv_l2i hx hb d_Nu_setByBits_44 rfl ?_
          refine lv_iconst (v := 1) hx hb d_Nu_setByBits_45 (by decide) ?_
          refine lv_iload_n hx hb d_Nu_setByBits_46 rfl (lv_at hl 2 rfl) ?_
          refine lv_ishl hx hb d_Nu_setByBits_47 ?_
          refine lv_iconst (v := 1) hx hb d_Nu_setByBits_48 (by decide) ?_
          refine lv_isub hx hb d_Nu_setByBits_49 ?_
          refine lv_iand hx hb d_Nu_setByBits_50 ?_
          rw [nu_m (k := 1) (by decide)]
          refine lv_iload hx hb d_Nu_setByBits_51 (lv_at hl 3 rfl) ?_
          have hPc := hP.sub (ws' := []) [] rfl
          have hKc := hK.sub (tys' := []) [] rfl
          refine vp_callSi (W.runS (As := [.int (nI (n % 2 ^ 1)), .int (nI t)]) (rest := [.int (nI D.length), .ref r]) ⟨hx, hb, hml, hown, hg⟩ (c_Nu_digit l dC dI (n % 2 ^ 1) t (by omega) (by omega)) (va_cwS 2 hg (gi_S kw_422 kw_386 kw_7 kw_387) rfl rfl rfl (by decide +kernel) ⟨Nat.le_of_ble_eq_true rfl, Nat.le_of_ble_eq_true rfl⟩) (zz_prJS hPc hKc _) rfl rfl hl.1 rfl (lv_room (Nat.le_of_ble_eq_true rfl)) d_Nu_setByBits_53 ⟨Nat.le_of_ble_eq_true rfl, Nat.le_of_ble_eq_true rfl⟩) (fun r_2 hr_2 => ?_)
          subst hr_2
          refine lv_i2b hx hb d_Nu_setByBits_56 rfl ?_
          refine va_bast hx hb hK hP hD hS 1 0 rfl rfl hi9 d_Nu_setByBits_57 (fun H locs hP hD hS => ?_)
          have hP : va_P (dC, dI) vwCl [(h, .inr (5, [.ref r, .int (nI D.length)])), (r, .inl (cA, 64, .inl (upd g (nI D.length).toNatClampNeg (vp_nar .byte ((nI (nu_d t (n % 2 ^ 1))).toInt8.toInt32)))))] H := hP
          have hD : va_D A [(h, .inr (5, [.ref r, .int (nI D.length)])), (r, .inl (cA, 64, .inl (upd g (nI D.length).toNatClampNeg (vp_nar .byte ((nI (nu_d t (n % 2 ^ 1))).toInt8.toInt32)))))] := hD
          refine lv_lload hx hb d_Nu_setByBits_58 (lv_at hl 4 rfl) ?_
          refine lv_iload_n hx hb d_Nu_setByBits_60 rfl (lv_at hl 2 rfl) ?_
          refine lv_lushr hx hb d_Nu_setByBits_61 rfl ?_
          rw [wb_shr (k := 1) hn (by decide)]
          refine lv_lstore (lv' := [(5, .long (lN (n / 2 ^ 1))), (0, .ref h), (1, .long (lN n0)), (3, .int (nI 1)), (4, .int (nI t))]) hx hb d_Nu_setByBits_62 hl (by decide) rfl (fun ls hl => ?_)
          refine lv_aload_n hx hb d_Nu_setByBits_64 rfl (lv_at hl 1 rfl) ?_
          refine lv_dup hx hb d_Nu_setByBits_65 rfl ?_
          refine va_get (D := (dC, dI)) (ci := 5) (v := .int (nI D.length)) (C := "TextForge$Numeral") (T := TX5) (N := 2) hx hb hg iwX5 hown hK hP 0 rfl rfl 1 (by decide) (hg _ kw_104) (fun _ h9 => h9) rfl d_Nu_setByBits_66 ?_
          refine lv_iconst (v := 1) hx hb d_Nu_setByBits_69 (by decide) ?_
          refine lv_iadd hx hb d_Nu_setByBits_70 ?_
          refine va_put (D := (dC, dI)) (ci := 5) (v := .int ((nI D.length) + 1)) (ty := .int) (C := "TextForge$Numeral") (T := TX5) (N := 2) hx hb hg iwX5 tyX5 tyX5_ok nmX5 hown hK hP hD hS 0 rfl rfl 1 (by decide) (hg _ kw_104) (fun _ h9 => h9) rfl (by decide +kernel) rfl rfl (Nat.le_of_ble_eq_true rfl) d_Nu_setByBits_71 (fun H locs hP hD hS => ?_)
          have hP : va_P (dC, dI) vwCl [(h, .inr (5, [.ref r, .int ((nI D.length) + 1)])), (r, .inl (cA, 64, .inl (upd g (nI D.length).toNatClampNeg (vp_nar .byte ((nI (nu_d t (n % 2 ^ 1))).toInt8.toInt32)))))] H := hP
          have hD : va_D A [(h, .inr (5, [.ref r, .int ((nI D.length) + 1)])), (r, .inl (cA, 64, .inl (upd g (nI D.length).toNatClampNeg (vp_nar .byte ((nI (nu_d t (n % 2 ^ 1))).toInt8.toInt32)))))] := hD
          refine lv_goto (tgt := 8) hx hb d_Nu_setByBits_74 (by decide) ?_
          rw [nu_c1 D (nu_d t (n % 2 ^ 1))] at hP hD
          exact ih_8 (D ++ [nu_d t (n % 2 ^ 1)], n / 2 ^ 1, (upd g (nI D.length).toNatClampNeg (vp_nar .byte ((nI (nu_d t (n % 2 ^ 1))).toInt8.toInt32)))) H locs ls ⟨hP.sub [0, 1] rfl, hD.sub [0, 1] (by decide) rfl, hS, lv_sub hl [1, 2, 3, 4, 0] rfl, (nu_pu hLD f_17 (nu_d_lt (by omega) ht)), (nu_le f_17), (Nat.lt_of_le_of_lt (Nat.div_le_self _ _) hn), (nu_step hE f_17 hgo)⟩ (by dsimp only; rw [List.length_append, List.length_singleton]; omega)
  · skip
    have hl : lv_has ls 7 [(0, .ref h), (1, .long (lN n0)), (3, .int (nI 3)), (4, .int (nI t))] := hl
    have hP : va_P (dC, dI) vwCl [(h, .inr (5, [.ref r, .int k0])), (r, .inl (cA, 64, .inl f))] s.heap := hP
    refine lv_lload_n hx hb d_Nu_setByBits_0 rfl (lv_at hl 1 rfl) ?_
    refine lv_lstore (lv' := [(5, .long (lN n0)), (0, .ref h), (1, .long (lN n0)), (3, .int (nI 3)), (4, .int (nI t))]) hx hb d_Nu_setByBits_1 hl (by decide) rfl (fun ls hl => ?_)
    refine lv_aload_n hx hb d_Nu_setByBits_3 rfl (lv_at hl 1 rfl) ?_
    refine lv_iconst (v := 0) hx hb d_Nu_setByBits_4 (by decide) ?_
    refine va_put (D := (dC, dI)) (ci := 5) (v := .int 0) (ty := .int) (C := "TextForge$Numeral") (T := TX5) (N := 2) hx hb hg iwX5 tyX5 tyX5_ok nmX5 hown hK hP hD hS 0 rfl rfl 1 (by decide) (hg _ kw_104) (fun _ h9 => h9) rfl (by decide +kernel) rfl rfl (Nat.le_of_ble_eq_true rfl) d_Nu_setByBits_5 (fun H locs hP hD hS => ?_)
    have hP : va_P (dC, dI) vwCl [(h, .inr (5, [.ref r, .int 0])), (r, .inl (cA, 64, .inl f))] H := hP
    have hD : va_D A [(h, .inr (5, [.ref r, .int 0])), (r, .inl (cA, 64, .inl f))] := hD
    refine zz_loop (fun (x : List Nat × Nat × (Nat → Int32)) H locs ls => match x with | (D, n, g) => va_P (dC, dI) vwCl [(h, .inr (5, [.ref r, .int (nI D.length)])), (r, .inl (cA, 64, .inl g))] H ∧ va_D A [(h, .inr (5, [.ref r, .int (nI D.length)])), (r, .inl (cA, 64, .inl g))] ∧ va_S A s.heap H locs ∧ lv_has ls 7 [(0, .ref h), (1, .long (lN n0)), (3, .int (nI 3)), (4, .int (nI t)), (5, .long (lN n))] ∧ by_L D g ∧ D.length ≤ 64 ∧ n < 2 ^ 64 ∧ nu_f (2 ^ 3) t 64 n0 = D ++ nu_r (2 ^ 3) t D.length n) (fun x => match x with | (D, n, g) => 64 - D.length) ?_ ([], n0, f) ⟨hP.sub [0, 1] rfl, hD.sub [0, 1] (by decide) rfl, hS, lv_sub hl [1, 2, 3, 4, 0] rfl, (by_nil _), (Nat.zero_le 64), hn0, nu_i⟩
    intro x H locs ls hI ih_8
    obtain ⟨D, n, g⟩ := x
    try dsimp only at hI
    obtain ⟨hP, hD, hS, hl, hLD, hD6, hn, hE⟩ := hI
    refine lv_aload_n hx hb d_Nu_setByBits_8 rfl (lv_at hl 0 rfl) ?_
    refine va_get (D := (dC, dI)) (ci := 5) (v := .int (nI D.length)) (C := "TextForge$Numeral") (T := TX5) (N := 2) hx hb hg iwX5 hown hK hP 0 rfl rfl 1 (by decide) (hg _ kw_104) (fun _ h9 => h9) rfl d_Nu_setByBits_9 ?_
    refine lv_aload_n hx hb d_Nu_setByBits_12 rfl (lv_at hl 0 rfl) ?_
    refine va_get (D := (dC, dI)) (ci := 5) (v := .ref r) (C := "TextForge$Numeral") (T := TX5) (N := 2) hx hb hg iwX5 hown hK hP 0 rfl rfl 0 (by decide) (hg _ kw_103) (fun _ h9 => h9) rfl d_Nu_setByBits_13 ?_
    refine va_alen (v := nI 64) hx hb hK hP 1 0 rfl rfl rfl d_Nu_setByBits_16 ?_
    refine lv_icmp_ge (tgt := 77) hx hb d_Nu_setByBits_17 (by decide) (fun c_17 => ?_) (fun c_17 => ?_)
    · skip
      have f_17 : 64 ≤ D.length := Nat.le_of_not_lt (fun z => nI_ge (b := 64) z (by omega) c_17)
      have hN := nu_x1 hE f_17
      have hP9 := hP.sub (ws' := [(h, .inr (5, [.ref r, .int (nI D.length)])), (r, .inl (cA, 64, .inl g))]) [0, 1] rfl
      have hD9 := hD.sub (ws' := [(h, .inr (5, [.ref r, .int (nI D.length)])), (r, .inl (cA, 64, .inl g))]) [0, 1] (by decide) rfl
      have hK9 := hK.sub (tys' := [(cA, .byte)]) [0] rfl
      rw [← hN] at hP9 hD9
      exact zz_vret hx hb hr hlocks d_Nu_setByBits_77 hS (by first | exact Nat.le_refl _ | decide | omega | (dsimp only; omega)) (by first | exact Nat.le_refl _ | decide | omega | (dsimp only; omega)) g (by rw [hN]; exact hLD) hP9 hK9 hD9
    · skip
      have f_17 : D.length < 64 := Nat.lt_of_not_le (fun z => c_17 (nI_le (a := 64) z (by omega)))
      have hi9 : vp_in (nI D.length) 64 := vp_in_nI f_17 (by decide)
      refine lv_aload_n hx hb d_Nu_setByBits_20 rfl (lv_at hl 0 rfl) ?_
      refine va_get (D := (dC, dI)) (ci := 5) (v := .int (nI D.length)) (C := "TextForge$Numeral") (T := TX5) (N := 2) hx hb hg iwX5 hown hK hP 0 rfl rfl 1 (by decide) (hg _ kw_104) (fun _ h9 => h9) rfl d_Nu_setByBits_21 ?_
      refine lv_if_eq (tgt := 34) hx hb d_Nu_setByBits_24 (by decide) (fun c_24 => ?_) (fun c_24 => ?_)
      · skip
        have f_24 : D.length = 0 := nI_e1 (b := 0) c_24 (by omega) (by omega)
        have hgo : D.length = 0 ∨ n ≠ 0 := Or.inl f_24
        refine lv_aload_n hx hb d_Nu_setByBits_34 rfl (lv_at hl 0 rfl) ?_
        refine va_get (D := (dC, dI)) (ci := 5) (v := .ref r) (C := "TextForge$Numeral") (T := TX5) (N := 2) hx hb hg iwX5 hown hK hP 0 rfl rfl 0 (by decide) (hg _ kw_103) (fun _ h9 => h9) rfl d_Nu_setByBits_35 ?_
        refine lv_aload_n hx hb d_Nu_setByBits_38 rfl (lv_at hl 0 rfl) ?_
        refine va_get (D := (dC, dI)) (ci := 5) (v := .int (nI D.length)) (C := "TextForge$Numeral") (T := TX5) (N := 2) hx hb hg iwX5 hown hK hP 0 rfl rfl 1 (by decide) (hg _ kw_104) (fun _ h9 => h9) rfl d_Nu_setByBits_39 ?_
        refine lv_lload hx hb d_Nu_setByBits_42 (lv_at hl 4 rfl) ?_
        refine lv_l2i hx hb d_Nu_setByBits_44 rfl ?_
        refine lv_iconst (v := 1) hx hb d_Nu_setByBits_45 (by decide) ?_
        refine lv_iload_n hx hb d_Nu_setByBits_46 rfl (lv_at hl 2 rfl) ?_
        refine lv_ishl hx hb d_Nu_setByBits_47 ?_
        refine lv_iconst (v := 1) hx hb d_Nu_setByBits_48 (by decide) ?_
        refine lv_isub hx hb d_Nu_setByBits_49 ?_
        refine lv_iand hx hb d_Nu_setByBits_50 ?_
        rw [nu_m (k := 3) (by decide)]
        refine lv_iload hx hb d_Nu_setByBits_51 (lv_at hl 3 rfl) ?_
        have hPc := hP.sub (ws' := []) [] rfl
        have hKc := hK.sub (tys' := []) [] rfl
        refine vp_callSi (W.runS (As := [.int (nI (n % 2 ^ 3)), .int (nI t)]) (rest := [.int (nI D.length), .ref r]) ⟨hx, hb, hml, hown, hg⟩ (c_Nu_digit l dC dI (n % 2 ^ 3) t (by omega) (by omega)) (va_cwS 2 hg (gi_S kw_422 kw_386 kw_7 kw_387) rfl rfl rfl (by decide +kernel) ⟨Nat.le_of_ble_eq_true rfl, Nat.le_of_ble_eq_true rfl⟩) (zz_prJS hPc hKc _) rfl rfl hl.1 rfl (lv_room (Nat.le_of_ble_eq_true rfl)) d_Nu_setByBits_53 ⟨Nat.le_of_ble_eq_true rfl, Nat.le_of_ble_eq_true rfl⟩) (fun r_3 hr_3 => ?_)
        subst hr_3
        refine lv_i2b hx hb d_Nu_setByBits_56 rfl ?_
        refine va_bast hx hb hK hP hD hS 1 0 rfl rfl hi9 d_Nu_setByBits_57 (fun H locs hP hD hS => ?_)
        have hP : va_P (dC, dI) vwCl [(h, .inr (5, [.ref r, .int (nI D.length)])), (r, .inl (cA, 64, .inl (upd g (nI D.length).toNatClampNeg (vp_nar .byte ((nI (nu_d t (n % 2 ^ 3))).toInt8.toInt32)))))] H := hP
        have hD : va_D A [(h, .inr (5, [.ref r, .int (nI D.length)])), (r, .inl (cA, 64, .inl (upd g (nI D.length).toNatClampNeg (vp_nar .byte ((nI (nu_d t (n % 2 ^ 3))).toInt8.toInt32)))))] := hD
        refine lv_lload hx hb d_Nu_setByBits_58 (lv_at hl 4 rfl) ?_
        refine lv_iload_n hx hb d_Nu_setByBits_60 rfl (lv_at hl 2 rfl) ?_
        refine lv_lushr hx hb d_Nu_setByBits_61 rfl ?_
        rw [wb_shr (k := 3) hn (by decide)]
        refine lv_lstore (lv' := [(5, .long (lN (n / 2 ^ 3))), (0, .ref h), (1, .long (lN n0)), (3, .int (nI 3)), (4, .int (nI t))]) hx hb d_Nu_setByBits_62 hl (by decide) rfl (fun ls hl => ?_)
        refine lv_aload_n hx hb d_Nu_setByBits_64 rfl (lv_at hl 1 rfl) ?_
        refine lv_dup hx hb d_Nu_setByBits_65 rfl ?_
        refine va_get (D := (dC, dI)) (ci := 5) (v := .int (nI D.length)) (C := "TextForge$Numeral") (T := TX5) (N := 2) hx hb hg iwX5 hown hK hP 0 rfl rfl 1 (by decide) (hg _ kw_104) (fun _ h9 => h9) rfl d_Nu_setByBits_66 ?_
        refine lv_iconst (v := 1) hx hb d_Nu_setByBits_69 (by decide) ?_
        refine lv_iadd hx hb d_Nu_setByBits_70 ?_
        refine va_put (D := (dC, dI)) (ci := 5) (v := .int ((nI D.length) + 1)) (ty := .int) (C := "TextForge$Numeral") (T := TX5) (N := 2) hx hb hg iwX5 tyX5 tyX5_ok nmX5 hown hK hP hD hS 0 rfl rfl 1 (by decide) (hg _ kw_104) (fun _ h9 => h9) rfl (by decide +kernel) rfl rfl (Nat.le_of_ble_eq_true rfl) d_Nu_setByBits_71 (fun H locs hP hD hS => ?_)
        have hP : va_P (dC, dI) vwCl [(h, .inr (5, [.ref r, .int ((nI D.length) + 1)])), (r, .inl (cA, 64, .inl (upd g (nI D.length).toNatClampNeg (vp_nar .byte ((nI (nu_d t (n % 2 ^ 3))).toInt8.toInt32)))))] H := hP
        have hD : va_D A [(h, .inr (5, [.ref r, .int ((nI D.length) + 1)])), (r, .inl (cA, 64, .inl (upd g (nI D.length).toNatClampNeg (vp_nar .byte ((nI (nu_d t (n % 2 ^ 3))).toInt8.toInt32)))))] := hD
        refine lv_goto (tgt := 8) hx hb d_Nu_setByBits_74 (by decide) ?_
        rw [nu_c1 D (nu_d t (n % 2 ^ 3))] at hP hD
        exact ih_8 (D ++ [nu_d t (n % 2 ^ 3)], n / 2 ^ 3, (upd g (nI D.length).toNatClampNeg (vp_nar .byte ((nI (nu_d t (n % 2 ^ 3))).toInt8.toInt32)))) H locs ls ⟨hP.sub [0, 1] rfl, hD.sub [0, 1] (by decide) rfl, hS, lv_sub hl [1, 2, 3, 4, 0] rfl, (nu_pu hLD f_17 (nu_d_lt (by omega) ht)), (nu_le f_17), (Nat.lt_of_le_of_lt (Nat.div_le_self _ _) hn), (nu_step hE f_17 hgo)⟩ (by dsimp only; rw [List.length_append, List.length_singleton]; omega)
      · skip
        have f_24 : D.length ≠ 0 := nI_ne (b := 0) c_24
        refine lv_lload hx hb d_Nu_setByBits_27 (lv_at hl 4 rfl) ?_
        refine lv_lconst (v := 0) hx hb d_Nu_setByBits_29 (by decide) ?_
        refine W.lcmp hx hb d_Nu_setByBits_30 ?_
        refine lv_if_eq (tgt := 77) hx hb d_Nu_setByBits_31 (by decide) (fun c_31 => ?_) (fun c_31 => ?_)
        · skip
          have f_31 : n = 0 := nu_z4 hn c_31
          have hN := nu_x2 hE f_24 f_31
          have hP9 := hP.sub (ws' := [(h, .inr (5, [.ref r, .int (nI D.length)])), (r, .inl (cA, 64, .inl g))]) [0, 1] rfl
          have hD9 := hD.sub (ws' := [(h, .inr (5, [.ref r, .int (nI D.length)])), (r, .inl (cA, 64, .inl g))]) [0, 1] (by decide) rfl
          have hK9 := hK.sub (tys' := [(cA, .byte)]) [0] rfl
          rw [← hN] at hP9 hD9
          exact zz_vret hx hb hr hlocks d_Nu_setByBits_77 hS (by first | exact Nat.le_refl _ | decide | omega | (dsimp only; omega)) (by first | exact Nat.le_refl _ | decide | omega | (dsimp only; omega)) g (by rw [hN]; exact hLD) hP9 hK9 hD9
        · skip
          have hgo : D.length = 0 ∨ n ≠ 0 := Or.inr (fun e => c_31 (by rw [e]; decide))
          refine lv_aload_n hx hb d_Nu_setByBits_34 rfl (lv_at hl 0 rfl) ?_
          refine va_get (D := (dC, dI)) (ci := 5) (v := .ref r) (C := "TextForge$Numeral") (T := TX5) (N := 2) hx hb hg iwX5 hown hK hP 0 rfl rfl 0 (by decide) (hg _ kw_103) (fun _ h9 => h9) rfl d_Nu_setByBits_35 ?_
          refine lv_aload_n hx hb d_Nu_setByBits_38 rfl (lv_at hl 0 rfl) ?_
          refine va_get (D := (dC, dI)) (ci := 5) (v := .int (nI D.length)) (C := "TextForge$Numeral") (T := TX5) (N := 2) hx hb hg iwX5 hown hK hP 0 rfl rfl 1 (by decide) (hg _ kw_104) (fun _ h9 => h9) rfl d_Nu_setByBits_39 ?_
          refine lv_lload hx hb d_Nu_setByBits_42 (lv_at hl 4 rfl) ?_
          refine lv_l2i hx hb d_Nu_setByBits_44 rfl ?_
          refine lv_iconst (v := 1) hx hb d_Nu_setByBits_45 (by decide) ?_
          refine lv_iload_n hx hb d_Nu_setByBits_46 rfl (lv_at hl 2 rfl) ?_
          refine lv_ishl hx hb d_Nu_setByBits_47 ?_
          refine lv_iconst (v := 1) hx hb d_Nu_setByBits_48 (by decide) ?_
          refine lv_isub hx hb d_Nu_setByBits_49 ?_
          refine lv_iand hx hb d_Nu_setByBits_50 ?_
          rw [nu_m (k := 3) (by decide)]
          refine lv_iload hx hb d_Nu_setByBits_51 (lv_at hl 3 rfl) ?_
          have hPc := hP.sub (ws' := []) [] rfl
          have hKc := hK.sub (tys' := []) [] rfl
          refine vp_callSi (W.runS (As := [.int (nI (n % 2 ^ 3)), .int (nI t)]) (rest := [.int (nI D.length), .ref r]) ⟨hx, hb, hml, hown, hg⟩ (c_Nu_digit l dC dI (n % 2 ^ 3) t (by omega) (by omega)) (va_cwS 2 hg (gi_S kw_422 kw_386 kw_7 kw_387) rfl rfl rfl (by decide +kernel) ⟨Nat.le_of_ble_eq_true rfl, Nat.le_of_ble_eq_true rfl⟩) (zz_prJS hPc hKc _) rfl rfl hl.1 rfl (lv_room (Nat.le_of_ble_eq_true rfl)) d_Nu_setByBits_53 ⟨Nat.le_of_ble_eq_true rfl, Nat.le_of_ble_eq_true rfl⟩) (fun r_4 hr_4 => ?_)
          subst hr_4
          refine lv_i2b hx hb d_Nu_setByBits_56 rfl ?_
          refine va_bast hx hb hK hP hD hS 1 0 rfl rfl hi9 d_Nu_setByBits_57 (fun H locs hP hD hS => ?_)
          have hP : va_P (dC, dI) vwCl [(h, .inr (5, [.ref r, .int (nI D.length)])), (r, .inl (cA, 64, .inl (upd g (nI D.length).toNatClampNeg (vp_nar .byte ((nI (nu_d t (n % 2 ^ 3))).toInt8.toInt32)))))] H := hP
          have hD : va_D A [(h, .inr (5, [.ref r, .int (nI D.length)])), (r, .inl (cA, 64, .inl (upd g (nI D.length).toNatClampNeg (vp_nar .byte ((nI (nu_d t (n % 2 ^ 3))).toInt8.toInt32)))))] := hD
          refine lv_lload hx hb d_Nu_setByBits_58 (lv_at hl 4 rfl) ?_
          refine lv_iload_n hx hb d_Nu_setByBits_60 rfl (lv_at hl 2 rfl) ?_
          refine lv_lushr hx hb d_Nu_setByBits_61 rfl ?_
          rw [wb_shr (k := 3) hn (by decide)]
          refine lv_lstore (lv' := [(5, .long (lN (n / 2 ^ 3))), (0, .ref h), (1, .long (lN n0)), (3, .int (nI 3)), (4, .int (nI t))]) hx hb d_Nu_setByBits_62 hl (by decide) rfl (fun ls hl => ?_)
          refine lv_aload_n hx hb d_Nu_setByBits_64 rfl (lv_at hl 1 rfl) ?_
          refine lv_dup hx hb d_Nu_setByBits_65 rfl ?_
          refine va_get (D := (dC, dI)) (ci := 5) (v := .int (nI D.length)) (C := "TextForge$Numeral") (T := TX5) (N := 2) hx hb hg iwX5 hown hK hP 0 rfl rfl 1 (by decide) (hg _ kw_104) (fun _ h9 => h9) rfl d_Nu_setByBits_66 ?_
          refine lv_iconst (v := 1) hx hb d_Nu_setByBits_69 (by decide) ?_
          refine lv_iadd hx hb d_Nu_setByBits_70 ?_
          refine va_put (D := (dC, dI)) (ci := 5) (v := .int ((nI D.length) + 1)) (ty := .int) (C := "TextForge$Numeral") (T := TX5) (N := 2) hx hb hg iwX5 tyX5 tyX5_ok nmX5 hown hK hP hD hS 0 rfl rfl 1 (by decide) (hg _ kw_104) (fun _ h9 => h9) rfl (by decide +kernel) rfl rfl (Nat.le_of_ble_eq_true rfl) d_Nu_setByBits_71 (fun H locs hP hD hS => ?_)
          have hP : va_P (dC, dI) vwCl [(h, .inr (5, [.ref r, .int ((nI D.length) + 1)])), (r, .inl (cA, 64, .inl (upd g (nI D.length).toNatClampNeg (vp_nar .byte ((nI (nu_d t (n % 2 ^ 3))).toInt8.toInt32)))))] H := hP
          have hD : va_D A [(h, .inr (5, [.ref r, .int ((nI D.length) + 1)])), (r, .inl (cA, 64, .inl (upd g (nI D.length).toNatClampNeg (vp_nar .byte ((nI (nu_d t (n % 2 ^ 3))).toInt8.toInt32)))))] := hD
          refine lv_goto (tgt := 8) hx hb d_Nu_setByBits_74 (by decide) ?_
          rw [nu_c1 D (nu_d t (n % 2 ^ 3))] at hP hD
          exact ih_8 (D ++ [nu_d t (n % 2 ^ 3)], n / 2 ^ 3, (upd g (nI D.length).toNatClampNeg (vp_nar .byte ((nI (nu_d t (n % 2 ^ 3))).toInt8.toInt32)))) H locs ls ⟨hP.sub [0, 1] rfl, hD.sub [0, 1] (by decide) rfl, hS, lv_sub hl [1, 2, 3, 4, 0] rfl, (nu_pu hLD f_17 (nu_d_lt (by omega) ht)), (nu_le f_17), (Nat.lt_of_le_of_lt (Nat.div_le_self _ _) hn), (nu_step hE f_17 hgo)⟩ (by dsimp only; rw [List.length_append, List.length_singleton]; omega)
  · skip
    have hl : lv_has ls 7 [(0, .ref h), (1, .long (lN n0)), (3, .int (nI 4)), (4, .int (nI t))] := hl
    have hP : va_P (dC, dI) vwCl [(h, .inr (5, [.ref r, .int k0])), (r, .inl (cA, 64, .inl f))] s.heap := hP
    refine lv_lload_n hx hb d_Nu_setByBits_0 rfl (lv_at hl 1 rfl) ?_
    refine lv_lstore (lv' := [(5, .long (lN n0)), (0, .ref h), (1, .long (lN n0)), (3, .int (nI 4)), (4, .int (nI t))]) hx hb d_Nu_setByBits_1 hl (by decide) rfl (fun ls hl => ?_)
    refine lv_aload_n hx hb d_Nu_setByBits_3 rfl (lv_at hl 1 rfl) ?_
    refine lv_iconst (v := 0) hx hb d_Nu_setByBits_4 (by decide) ?_
    refine va_put (D := (dC, dI)) (ci := 5) (v := .int 0) (ty := .int) (C := "TextForge$Numeral") (T := TX5) (N := 2) hx hb hg iwX5 tyX5 tyX5_ok nmX5 hown hK hP hD hS 0 rfl rfl 1 (by decide) (hg _ kw_104) (fun _ h9 => h9) rfl (by decide +kernel) rfl rfl (Nat.le_of_ble_eq_true rfl) d_Nu_setByBits_5 (fun H locs hP hD hS => ?_)
    have hP : va_P (dC, dI) vwCl [(h, .inr (5, [.ref r, .int 0])), (r, .inl (cA, 64, .inl f))] H := hP
    have hD : va_D A [(h, .inr (5, [.ref r, .int 0])), (r, .inl (cA, 64, .inl f))] := hD
    refine zz_loop (fun (x : List Nat × Nat × (Nat → Int32)) H locs ls => match x with | (D, n, g) => va_P (dC, dI) vwCl [(h, .inr (5, [.ref r, .int (nI D.length)])), (r, .inl (cA, 64, .inl g))] H ∧ va_D A [(h, .inr (5, [.ref r, .int (nI D.length)])), (r, .inl (cA, 64, .inl g))] ∧ va_S A s.heap H locs ∧ lv_has ls 7 [(0, .ref h), (1, .long (lN n0)), (3, .int (nI 4)), (4, .int (nI t)), (5, .long (lN n))] ∧ by_L D g ∧ D.length ≤ 64 ∧ n < 2 ^ 64 ∧ nu_f (2 ^ 4) t 64 n0 = D ++ nu_r (2 ^ 4) t D.length n) (fun x => match x with | (D, n, g) => 64 - D.length) ?_ ([], n0, f) ⟨hP.sub [0, 1] rfl, hD.sub [0, 1] (by decide) rfl, hS, lv_sub hl [1, 2, 3, 4, 0] rfl, (by_nil _), (Nat.zero_le 64), hn0, nu_i⟩
    intro x H locs ls hI ih_8
    obtain ⟨D, n, g⟩ := x
    try dsimp only at hI
    obtain ⟨hP, hD, hS, hl, hLD, hD6, hn, hE⟩ := hI
    refine lv_aload_n hx hb d_Nu_setByBits_8 rfl (lv_at hl 0 rfl) ?_
    refine va_get (D := (dC, dI)) (ci := 5) (v := .int (nI D.length)) (C := "TextForge$Numeral") (T := TX5) (N := 2) hx hb hg iwX5 hown hK hP 0 rfl rfl 1 (by decide) (hg _ kw_104) (fun _ h9 => h9) rfl d_Nu_setByBits_9 ?_
    refine lv_aload_n hx hb d_Nu_setByBits_12 rfl (lv_at hl 0 rfl) ?_
    refine va_get (D := (dC, dI)) (ci := 5) (v := .ref r) (C := "TextForge$Numeral") (T := TX5) (N := 2) hx hb hg iwX5 hown hK hP 0 rfl rfl 0 (by decide) (hg _ kw_103) (fun _ h9 => h9) rfl d_Nu_setByBits_13 ?_
    refine va_alen (v := nI 64) hx hb hK hP 1 0 rfl rfl rfl d_Nu_setByBits_16 ?_
    refine lv_icmp_ge (tgt := 77) hx hb d_Nu_setByBits_17 (by decide) (fun c_17 => ?_) (fun c_17 => ?_)
    · skip
      have f_17 : 64 ≤ D.length := Nat.le_of_not_lt (fun z => nI_ge (b := 64) z (by omega) c_17)
      have hN := nu_x1 hE f_17
      have hP9 := hP.sub (ws' := [(h, .inr (5, [.ref r, .int (nI D.length)])), (r, .inl (cA, 64, .inl g))]) [0, 1] rfl
      have hD9 := hD.sub (ws' := [(h, .inr (5, [.ref r, .int (nI D.length)])), (r, .inl (cA, 64, .inl g))]) [0, 1] (by decide) rfl
      have hK9 := hK.sub (tys' := [(cA, .byte)]) [0] rfl
      rw [← hN] at hP9 hD9
      exact zz_vret hx hb hr hlocks d_Nu_setByBits_77 hS (by first | exact Nat.le_refl _ | decide | omega | (dsimp only; omega)) (by first | exact Nat.le_refl _ | decide | omega | (dsimp only; omega)) g (by rw [hN]; exact hLD) hP9 hK9 hD9
    · skip
      have f_17 : D.length < 64 := Nat.lt_of_not_le (fun z => c_17 (nI_le (a := 64) z (by omega)))
      have hi9 : vp_in (nI D.length) 64 := vp_in_nI f_17 (by decide)
      refine lv_aload_n hx hb d_Nu_setByBits_20 rfl (lv_at hl 0 rfl) ?_
      refine va_get (D := (dC, dI)) (ci := 5) (v := .int (nI D.length)) (C := "TextForge$Numeral") (T := TX5) (N := 2) hx hb hg iwX5 hown hK hP 0 rfl rfl 1 (by decide) (hg _ kw_104) (fun _ h9 => h9) rfl d_Nu_setByBits_21 ?_
      refine lv_if_eq (tgt := 34) hx hb d_Nu_setByBits_24 (by decide) (fun c_24 => ?_) (fun c_24 => ?_)
      · skip
        have f_24 : D.length = 0 := nI_e1 (b := 0) c_24 (by omega) (by omega)
        have hgo : D.length = 0 ∨ n ≠ 0 := Or.inl f_24
        refine lv_aload_n hx hb d_Nu_setByBits_34 rfl (lv_at hl 0 rfl) ?_
        refine va_get (D := (dC, dI)) (ci := 5) (v := .ref r) (C := "TextForge$Numeral") (T := TX5) (N := 2) hx hb hg iwX5 hown hK hP 0 rfl rfl 0 (by decide) (hg _ kw_103) (fun _ h9 => h9) rfl d_Nu_setByBits_35 ?_
        refine lv_aload_n hx hb d_Nu_setByBits_38 rfl (lv_at hl 0 rfl) ?_
        refine va_get (D := (dC, dI)) (ci := 5) (v := .int (nI D.length)) (C := "TextForge$Numeral") (T := TX5) (N := 2) hx hb hg iwX5 hown hK hP 0 rfl rfl 1 (by decide) (hg _ kw_104) (fun _ h9 => h9) rfl d_Nu_setByBits_39 ?_
        refine lv_lload hx hb d_Nu_setByBits_42 (lv_at hl 4 rfl) ?_
        refine lv_l2i hx hb d_Nu_setByBits_44 rfl ?_
        refine lv_iconst (v := 1) hx hb d_Nu_setByBits_45 (by decide) ?_
        refine lv_iload_n hx hb d_Nu_setByBits_46 rfl (lv_at hl 2 rfl) ?_
        refine lv_ishl hx hb d_Nu_setByBits_47 ?_
        refine lv_iconst (v := 1) hx hb d_Nu_setByBits_48 (by decide) ?_
        refine lv_isub hx hb d_Nu_setByBits_49 ?_
        refine lv_iand hx hb d_Nu_setByBits_50 ?_
        rw [nu_m (k := 4) (by decide)]
        refine lv_iload hx hb d_Nu_setByBits_51 (lv_at hl 3 rfl) ?_
        have hPc := hP.sub (ws' := []) [] rfl
        have hKc := hK.sub (tys' := []) [] rfl
        refine vp_callSi (W.runS (As := [.int (nI (n % 2 ^ 4)), .int (nI t)]) (rest := [.int (nI D.length), .ref r]) ⟨hx, hb, hml, hown, hg⟩ (c_Nu_digit l dC dI (n % 2 ^ 4) t (by omega) (by omega)) (va_cwS 2 hg (gi_S kw_422 kw_386 kw_7 kw_387) rfl rfl rfl (by decide +kernel) ⟨Nat.le_of_ble_eq_true rfl, Nat.le_of_ble_eq_true rfl⟩) (zz_prJS hPc hKc _) rfl rfl hl.1 rfl (lv_room (Nat.le_of_ble_eq_true rfl)) d_Nu_setByBits_53 ⟨Nat.le_of_ble_eq_true rfl, Nat.le_of_ble_eq_true rfl⟩) (fun r_5 hr_5 => ?_)
        subst hr_5
        refine lv_i2b hx hb d_Nu_setByBits_56 rfl ?_
        refine va_bast hx hb hK hP hD hS 1 0 rfl rfl hi9 d_Nu_setByBits_57 (fun H locs hP hD hS => ?_)
        have hP : va_P (dC, dI) vwCl [(h, .inr (5, [.ref r, .int (nI D.length)])), (r, .inl (cA, 64, .inl (upd g (nI D.length).toNatClampNeg (vp_nar .byte ((nI (nu_d t (n % 2 ^ 4))).toInt8.toInt32)))))] H := hP
        have hD : va_D A [(h, .inr (5, [.ref r, .int (nI D.length)])), (r, .inl (cA, 64, .inl (upd g (nI D.length).toNatClampNeg (vp_nar .byte ((nI (nu_d t (n % 2 ^ 4))).toInt8.toInt32)))))] := hD
        refine lv_lload hx hb d_Nu_setByBits_58 (lv_at hl 4 rfl) ?_
        refine lv_iload_n hx hb d_Nu_setByBits_60 rfl (lv_at hl 2 rfl) ?_
        refine lv_lushr hx hb d_Nu_setByBits_61 rfl ?_
        rw [wb_shr (k := 4) hn (by decide)]
        refine lv_lstore (lv' := [(5, .long (lN (n / 2 ^ 4))), (0, .ref h), (1, .long (lN n0)), (3, .int (nI 4)), (4, .int (nI t))]) hx hb d_Nu_setByBits_62 hl (by decide) rfl (fun ls hl => ?_)
        refine lv_aload_n hx hb d_Nu_setByBits_64 rfl (lv_at hl 1 rfl) ?_
        refine lv_dup hx hb d_Nu_setByBits_65 rfl ?_
        refine va_get (D := (dC, dI)) (ci := 5) (v := .int (nI D.length)) (C := "TextForge$Numeral") (T := TX5) (N := 2) hx hb hg iwX5 hown hK hP 0 rfl rfl 1 (by decide) (hg _ kw_104) (fun _ h9 => h9) rfl d_Nu_setByBits_66 ?_
        refine lv_iconst (v := 1) hx hb d_Nu_setByBits_69 (by decide) ?_
        refine lv_iadd hx hb d_Nu_setByBits_70 ?_
        refine va_put (D := (dC, dI)) (ci := 5) (v := .int ((nI D.length) + 1)) (ty := .int) (C := "TextForge$Numeral") (T := TX5) (N := 2) hx hb hg iwX5 tyX5 tyX5_ok nmX5 hown hK hP hD hS 0 rfl rfl 1 (by decide) (hg _ kw_104) (fun _ h9 => h9) rfl (by decide +kernel) rfl rfl (Nat.le_of_ble_eq_true rfl) d_Nu_setByBits_71 (fun H locs hP hD hS => ?_)
        have hP : va_P (dC, dI) vwCl [(h, .inr (5, [.ref r, .int ((nI D.length) + 1)])), (r, .inl (cA, 64, .inl (upd g (nI D.length).toNatClampNeg (vp_nar .byte ((nI (nu_d t (n % 2 ^ 4))).toInt8.toInt32)))))] H := hP
        have hD : va_D A [(h, .inr (5, [.ref r, .int ((nI D.length) + 1)])), (r, .inl (cA, 64, .inl (upd g (nI D.length).toNatClampNeg (vp_nar .byte ((nI (nu_d t (n % 2 ^ 4))).toInt8.toInt32)))))] := hD
        refine lv_goto (tgt := 8) hx hb d_Nu_setByBits_74 (by decide) ?_
        rw [nu_c1 D (nu_d t (n % 2 ^ 4))] at hP hD
        exact ih_8 (D ++ [nu_d t (n % 2 ^ 4)], n / 2 ^ 4, (upd g (nI D.length).toNatClampNeg (vp_nar .byte ((nI (nu_d t (n % 2 ^ 4))).toInt8.toInt32)))) H locs ls ⟨hP.sub [0, 1] rfl, hD.sub [0, 1] (by decide) rfl, hS, lv_sub hl [1, 2, 3, 4, 0] rfl, (nu_pu hLD f_17 (nu_d_lt (by omega) ht)), (nu_le f_17), (Nat.lt_of_le_of_lt (Nat.div_le_self _ _) hn), (nu_step hE f_17 hgo)⟩ (by dsimp only; rw [List.length_append, List.length_singleton]; omega)
      · skip
        have f_24 : D.length ≠ 0 := nI_ne (b := 0) c_24
        refine lv_lload hx hb d_Nu_setByBits_27 (lv_at hl 4 rfl) ?_
        refine lv_lconst (v := 0) hx hb d_Nu_setByBits_29 (by decide) ?_
        refine W.lcmp hx hb d_Nu_setByBits_30 ?_
        refine lv_if_eq (tgt := 77) hx hb d_Nu_setByBits_31 (by decide) (fun c_31 => ?_) (fun c_31 => ?_)
        · skip
          have f_31 : n = 0 := nu_z4 hn c_31
          have hN := nu_x2 hE f_24 f_31
          have hP9 := hP.sub (ws' := [(h, .inr (5, [.ref r, .int (nI D.length)])), (r, .inl (cA, 64, .inl g))]) [0, 1] rfl
          have hD9 := hD.sub (ws' := [(h, .inr (5, [.ref r, .int (nI D.length)])), (r, .inl (cA, 64, .inl g))]) [0, 1] (by decide) rfl
          have hK9 := hK.sub (tys' := [(cA, .byte)]) [0] rfl
          rw [← hN] at hP9 hD9
          exact zz_vret hx hb hr hlocks d_Nu_setByBits_77 hS (by first | exact Nat.le_refl _ | decide | omega | (dsimp only; omega)) (by first | exact Nat.le_refl _ | decide | omega | (dsimp only; omega)) g (by rw [hN]; exact hLD) hP9 hK9 hD9
        · skip
          have hgo : D.length = 0 ∨ n ≠ 0 := Or.inr (fun e => c_31 (by rw [e]; decide))
          refine lv_aload_n hx hb d_Nu_setByBits_34 rfl (lv_at hl 0 rfl) ?_
          refine va_get (D := (dC, dI)) (ci := 5) (v := .ref r) (C := "TextForge$Numeral") (T := TX5) (N := 2) hx hb hg iwX5 hown hK hP 0 rfl rfl 0 (by decide) (hg _ kw_103) (fun _ h9 => h9) rfl d_Nu_setByBits_35 ?_
          refine lv_aload_n hx hb d_Nu_setByBits_38 rfl (lv_at hl 0 rfl) ?_
          refine va_get (D := (dC, dI)) (ci := 5) (v := .int (nI D.length)) (C := "TextForge$Numeral") (T := TX5) (N := 2) hx hb hg iwX5 hown hK hP 0 rfl rfl 1 (by decide) (hg _ kw_104) (fun _ h9 => h9) rfl d_Nu_setByBits_39 ?_
          refine lv_lload hx hb d_Nu_setByBits_42 (lv_at hl 4 rfl) ?_
          refine lv_l2i hx hb d_Nu_setByBits_44 rfl ?_
          refine lv_iconst (v := 1) hx hb d_Nu_setByBits_45 (by decide) ?_
          refine lv_iload_n hx hb d_Nu_setByBits_46 rfl (lv_at hl 2 rfl) ?_
          refine lv_ishl hx hb d_Nu_setByBits_47 ?_
          refine lv_iconst (v := 1) hx hb d_Nu_setByBits_48 (by decide) ?_
          refine lv_isub hx hb d_Nu_setByBits_49 ?_
          refine lv_iand hx hb d_Nu_setByBits_50 ?_
          rw [nu_m (k := 4) (by decide)]
          refine lv_iload hx hb d_Nu_setByBits_51 (lv_at hl 3 rfl) ?_
          have hPc := hP.sub (ws' := []) [] rfl
          have hKc := hK.sub (tys' := []) [] rfl
          refine vp_callSi (W.runS (As := [.int (nI (n % 2 ^ 4)), .int (nI t)]) (rest := [.int (nI D.length), .ref r]) ⟨hx, hb, hml, hown, hg⟩ (c_Nu_digit l dC dI (n % 2 ^ 4) t (by omega) (by omega)) (va_cwS 2 hg (gi_S kw_422 kw_386 kw_7 kw_387) rfl rfl rfl (by decide +kernel) ⟨Nat.le_of_ble_eq_true rfl, Nat.le_of_ble_eq_true rfl⟩) (zz_prJS hPc hKc _) rfl rfl hl.1 rfl (lv_room (Nat.le_of_ble_eq_true rfl)) d_Nu_setByBits_53 ⟨Nat.le_of_ble_eq_true rfl, Nat.le_of_ble_eq_true rfl⟩) (fun r_6 hr_6 => ?_)
          subst hr_6
          refine lv_i2b hx hb d_Nu_setByBits_56 rfl ?_
          refine va_bast hx hb hK hP hD hS 1 0 rfl rfl hi9 d_Nu_setByBits_57 (fun H locs hP hD hS => ?_)
          have hP : va_P (dC, dI) vwCl [(h, .inr (5, [.ref r, .int (nI D.length)])), (r, .inl (cA, 64, .inl (upd g (nI D.length).toNatClampNeg (vp_nar .byte ((nI (nu_d t (n % 2 ^ 4))).toInt8.toInt32)))))] H := hP
          have hD : va_D A [(h, .inr (5, [.ref r, .int (nI D.length)])), (r, .inl (cA, 64, .inl (upd g (nI D.length).toNatClampNeg (vp_nar .byte ((nI (nu_d t (n % 2 ^ 4))).toInt8.toInt32)))))] := hD
          refine lv_lload hx hb d_Nu_setByBits_58 (lv_at hl 4 rfl) ?_
          refine lv_iload_n hx hb d_Nu_setByBits_60 rfl (lv_at hl 2 rfl) ?_
          refine lv_lushr hx hb d_Nu_setByBits_61 rfl ?_
          rw [wb_shr (k := 4) hn (by decide)]
          refine lv_lstore (lv' := [(5, .long (lN (n / 2 ^ 4))), (0, .ref h), (1, .long (lN n0)), (3, .int (nI 4)), (4, .int (nI t))]) hx hb d_Nu_setByBits_62 hl (by decide) rfl (fun ls hl => ?_)
          refine lv_aload_n hx hb d_Nu_setByBits_64 rfl (lv_at hl 1 rfl) ?_
          refine lv_dup hx hb d_Nu_setByBits_65 rfl ?_
          refine va_get (D := (dC, dI)) (ci := 5) (v := .int (nI D.length)) (C := "TextForge$Numeral") (T := TX5) (N := 2) hx hb hg iwX5 hown hK hP 0 rfl rfl 1 (by decide) (hg _ kw_104) (fun _ h9 => h9) rfl d_Nu_setByBits_66 ?_
          refine lv_iconst (v := 1) hx hb d_Nu_setByBits_69 (by decide) ?_
          refine lv_iadd hx hb d_Nu_setByBits_70 ?_
          refine va_put (D := (dC, dI)) (ci := 5) (v := .int ((nI D.length) + 1)) (ty := .int) (C := "TextForge$Numeral") (T := TX5) (N := 2) hx hb hg iwX5 tyX5 tyX5_ok nmX5 hown hK hP hD hS 0 rfl rfl 1 (by decide) (hg _ kw_104) (fun _ h9 => h9) rfl (by decide +kernel) rfl rfl (Nat.le_of_ble_eq_true rfl) d_Nu_setByBits_71 (fun H locs hP hD hS => ?_)
          have hP : va_P (dC, dI) vwCl [(h, .inr (5, [.ref r, .int ((nI D.length) + 1)])), (r, .inl (cA, 64, .inl (upd g (nI D.length).toNatClampNeg (vp_nar .byte ((nI (nu_d t (n % 2 ^ 4))).toInt8.toInt32)))))] H := hP
          have hD : va_D A [(h, .inr (5, [.ref r, .int ((nI D.length) + 1)])), (r, .inl (cA, 64, .inl (upd g (nI D.length).toNatClampNeg (vp_nar .byte ((nI (nu_d t (n % 2 ^ 4))).toInt8.toInt32)))))] := hD
          refine lv_goto (tgt := 8) hx hb d_Nu_setByBits_74 (by decide) ?_
          rw [nu_c1 D (nu_d t (n % 2 ^ 4))] at hP hD
          exact ih_8 (D ++ [nu_d t (n % 2 ^ 4)], n / 2 ^ 4, (upd g (nI D.length).toNatClampNeg (vp_nar .byte ((nI (nu_d t (n % 2 ^ 4))).toInt8.toInt32)))) H locs ls ⟨hP.sub [0, 1] rfl, hD.sub [0, 1] (by decide) rfl, hS, lv_sub hl [1, 2, 3, 4, 0] rfl, (nu_pu hLD f_17 (nu_d_lt (by omega) ht)), (nu_le f_17), (Nat.lt_of_le_of_lt (Nat.div_le_self _ _) hn), (nu_step hE f_17 hgo)⟩ (by dsimp only; rw [List.length_append, List.length_singleton]; omega)
abbrev y_Nu_putTo : MethodName := ⟨"TextForge$Numeral", "putTo", "(LTextForge$Bytes;)V"⟩
abbrev w_Nu_putTo : List Cond := Cond.code y_Nu_putTo prog_7_method_6_code 3 none :: gw
theorem d_Nu_putTo_0 : decode prog_7_method_6_code 0 = .ok (.aload_n 0, 1) := by decide +kernel
theorem d_Nu_putTo_1 : decode prog_7_method_6_code 1 = .ok (.getfield 13, 3) := by decide +kernel
theorem d_Nu_putTo_4 : decode prog_7_method_6_code 4 = .ok (.aload_n 0, 1) := by decide +kernel
theorem d_Nu_putTo_5 : decode prog_7_method_6_code 5 = .ok (.getfield 7, 3) := by decide +kernel
theorem d_Nu_putTo_8 : decode prog_7_method_6_code 8 = .ok (.arraylength, 1) := by decide +kernel
theorem d_Nu_putTo_9 : decode prog_7_method_6_code 9 = .ok (.invokestatic 27, 3) := by decide +kernel
theorem d_Nu_putTo_12 : decode prog_7_method_6_code 12 = .ok (.iconst 1, 1) := by decide +kernel
theorem d_Nu_putTo_13 : decode prog_7_method_6_code 13 = .ok (.isub, 1) := by decide +kernel
theorem d_Nu_putTo_14 : decode prog_7_method_6_code 14 = .ok (.istore_n 2, 1) := by decide +kernel
theorem d_Nu_putTo_15 : decode prog_7_method_6_code 15 = .ok (.iload_n 2, 1) := by decide +kernel
theorem d_Nu_putTo_16 : decode prog_7_method_6_code 16 = .ok (.ifCond .lt 19, 3) := by decide +kernel
theorem d_Nu_putTo_19 : decode prog_7_method_6_code 19 = .ok (.aload_n 1, 1) := by decide +kernel
theorem d_Nu_putTo_20 : decode prog_7_method_6_code 20 = .ok (.aload_n 0, 1) := by decide +kernel
theorem d_Nu_putTo_21 : decode prog_7_method_6_code 21 = .ok (.getfield 7, 3) := by decide +kernel
theorem d_Nu_putTo_24 : decode prog_7_method_6_code 24 = .ok (.iload_n 2, 1) := by decide +kernel
theorem d_Nu_putTo_25 : decode prog_7_method_6_code 25 = .ok (.baload, 1) := by decide +kernel
theorem d_Nu_putTo_26 : decode prog_7_method_6_code 26 = .ok (.invokevirtual 32, 3) := by decide +kernel
theorem d_Nu_putTo_29 : decode prog_7_method_6_code 29 = .ok (.iinc 2 (-1), 3) := by decide +kernel
theorem d_Nu_putTo_32 : decode prog_7_method_6_code 32 = .ok (.goto (-17), 3) := by decide +kernel
theorem d_Nu_putTo_35 : decode prog_7_method_6_code 35 = .ok (.return_, 1) := by decide +kernel
set_option maxHeartbeats 4000000 in
set_option maxRecDepth 100000 in
theorem c_Nu_putTo (l : Launch) (dC : Nat → ClassId) (dI : Nat → Nat → Nat) (h2 r2 : Nat) (cA2 : ClassId) (f2 : Nat → Int32) (L2 : List Nat) (h r : Nat) (cA : ClassId) (cap : Nat) (f : Nat → Int32) (L : List Nat) (hL2 : by_L L2 f2) (hl2 : L2.length ≤ 64) (hL : by_L L f) (hc : L.length ≤ cap) (hk : cap < 2147483648) : zM_v (S := Nat → Int32) l y_Nu_putTo w_Nu_putTo { frames := 1, cells := 0, slots := 0, locals := 21 } (dC, dI) vwCl [.ref h2, .ref h] [(h2, .inr (5, [.ref r2, .int (nI L2.length)])), (r2, .inl (cA2, 64, .inl f2)), (h, .inr (2, [.ref r, .int (nI L.length)])), (r, .inl (cA, cap, .inl f))] [(cA2, .byte), (cA, .byte)] (fun (u : Nat → Int32) => by_L (by_ap cap L L2.reverse) u) (fun u => [(h2, .inr (5, [.ref r2, .int (nI L2.length)])), (r2, .inl (cA2, 64, .inl f2)), (h, .inr (2, [.ref r, .int (nI (by_ap cap L L2.reverse).length)])), (r, .inl (cA, cap, .inl u))]) (fun u => [(cA2, .byte), (cA, .byte)]) 0 0 := by
  refine zz_enterv (cc := prog_7_method_6_code) (nL := 3) (ret := none) (by decide) rfl (Nat.le_of_ble_eq_true rfl) ?_
  intro p e s m below meth c A ls C0 hA hS hP hK hD hl
  obtain ⟨hx, hb, hml, hown, hg, hr, hlocks, hin⟩ := C0
  have hown : s.vm.findClass "TextForge$Numeral" = some m.cls := hown
  have hP : va_P (dC, dI) vwCl [(h2, .inr (5, [.ref r2, .int (nI L2.length)])), (r2, .inl (cA2, 64, .inl f2)), (h, .inr (2, [.ref r, .int (nI L.length)])), (r, .inl (cA, cap, .inl f))] s.heap := hP
  have hK : va_K (dC, dI) vwCl [(cA2, .byte), (cA, .byte)] s := hK
  have hD : va_D A [(h2, .inr (5, [.ref r2, .int (nI L2.length)])), (r2, .inl (cA2, 64, .inl f2)), (h, .inr (2, [.ref r, .int (nI L.length)])), (r, .inl (cA, cap, .inl f))] := hD
  have hl : lv_has ls 3 [(0, .ref h2), (1, .ref h)] := hl
  refine lv_aload_n hx hb d_Nu_putTo_0 rfl (lv_at hl 0 rfl) ?_
  refine va_get (D := (dC, dI)) (ci := 5) (v := .int (nI L2.length)) (C := "TextForge$Numeral") (T := TX5) (N := 2) hx hb hg iwX5 hown hK hP 0 rfl rfl 1 (by decide) (hg _ kw_104) (fun _ h9 => h9) rfl d_Nu_putTo_1 ?_
  refine lv_aload_n hx hb d_Nu_putTo_4 rfl (lv_at hl 0 rfl) ?_
  refine va_get (D := (dC, dI)) (ci := 5) (v := .ref r2) (C := "TextForge$Numeral") (T := TX5) (N := 2) hx hb hg iwX5 hown hK hP 0 rfl rfl 0 (by decide) (hg _ kw_103) (fun _ h9 => h9) rfl d_Nu_putTo_5 ?_
  refine va_alen (v := nI 64) hx hb hK hP 1 0 rfl rfl rfl d_Nu_putTo_8 ?_
  refine va_mmin hx hb (by rw [hml]; exact hl.1.symm) hown (hg _ kw_280) (hg _ kw_281) (hg _ kw_3) (hg _ kw_282) (Nat.le_of_ble_eq_true rfl) (Nat.le_of_ble_eq_true rfl) (by first | exact Nat.zero_le _ | decide | omega | (dsimp only; omega)) (by first | exact Nat.zero_le _ | decide | omega | (dsimp only; omega)) d_Nu_putTo_9 ?_
  rw [nu_mn hl2]
  refine lv_iconst (v := 1) hx hb d_Nu_putTo_12 (by decide) ?_
  refine lv_isub hx hb d_Nu_putTo_13 ?_
  refine lv_istore_n (lv' := [(2, .int ((nI L2.length) - 1)), (0, .ref h2), (1, .ref h)]) hx hb d_Nu_putTo_14 rfl hl (by decide) rfl (fun ls hl => ?_)
  rw [show nI L.length = nI (by_ap cap L (List.drop L2.length L2).reverse).length by rw [List.drop_length, List.reverse_nil, by_ap_nil hc]] at hP hD
  refine zz_loop (fun (x : Nat × (Nat → Int32)) H locs ls => match x with | (j, g) => va_P (dC, dI) vwCl [(h2, .inr (5, [.ref r2, .int (nI L2.length)])), (r2, .inl (cA2, 64, .inl f2)), (h, .inr (2, [.ref r, .int (nI (by_ap cap L (List.drop j L2).reverse).length)])), (r, .inl (cA, cap, .inl g))] H ∧ va_D A [(h2, .inr (5, [.ref r2, .int (nI L2.length)])), (r2, .inl (cA2, 64, .inl f2)), (h, .inr (2, [.ref r, .int (nI (by_ap cap L (List.drop j L2).reverse).length)])), (r, .inl (cA, cap, .inl g))] ∧ va_S A s.heap H locs ∧ lv_has ls 3 [(0, .ref h2), (1, .ref h), (2, .int (nI j - 1))] ∧ by_L (by_ap cap L (List.drop j L2).reverse) g ∧ j ≤ L2.length) (fun x => match x with | (j, g) => j) ?_ (L2.length, f) ⟨hP.sub [0, 1, 2, 3] rfl, hD.sub [0, 1, 2, 3] (by decide) rfl, hS, lv_sub hl [1, 2, 0] rfl, (by rw [List.drop_length, List.reverse_nil, by_ap_nil hc]; exact hL), (Nat.le_refl _)⟩
  intro x H locs ls hI ih_15
  obtain ⟨j, g⟩ := x
  try dsimp only at hI
  obtain ⟨hP, hD, hS, hl, hLj, hj⟩ := hI
  refine lv_iload_n hx hb d_Nu_putTo_15 rfl (lv_at hl 2 rfl) ?_
  refine lv_if_lt (tgt := 35) hx hb d_Nu_putTo_16 (by decide) (fun c_16 => ?_) (fun c_16 => ?_)
  · skip
    have ej : j = 0 := by_ex (a := 0) (by omega) (by rw [Nat.zero_add]; exact c_16)
    subst ej
    have hP9 := hP.sub (ws' := [(h2, .inr (5, [.ref r2, .int (nI L2.length)])), (r2, .inl (cA2, 64, .inl f2)), (h, .inr (2, [.ref r, .int (nI (by_ap cap L (List.drop 0 L2).reverse).length)])), (r, .inl (cA, cap, .inl g))]) [0, 1, 2, 3] rfl
    have hD9 := hD.sub (ws' := [(h2, .inr (5, [.ref r2, .int (nI L2.length)])), (r2, .inl (cA2, 64, .inl f2)), (h, .inr (2, [.ref r, .int (nI (by_ap cap L (List.drop 0 L2).reverse).length)])), (r, .inl (cA, cap, .inl g))]) [0, 1, 2, 3] (by decide) rfl
    have hK9 := hK.sub (tys' := [(cA2, .byte), (cA, .byte)]) [0, 1] rfl
    exact zz_vret hx hb hr hlocks d_Nu_putTo_35 hS (by first | exact Nat.le_refl _ | decide | omega | (dsimp only; omega)) (by first | exact Nat.le_refl _ | decide | omega | (dsimp only; omega)) g hLj hP9 hK9 hD9
  · skip
    obtain ⟨j1, rfl⟩ : ∃ k, j = k + 1 := by_ex2 (a := 0) (by rw [Nat.zero_add]; exact c_16) (by omega)
    rw [show nI (j1 + 1) - 1 = nI j1 from nI_pred _] at hl
    have hl : lv_has ls 3 [(0, .ref h2), (1, .ref h), (2, .int (nI j1))] := hl
    have hi9 : vp_in (nI j1) 64 := vp_in_nI (by omega) (by decide)
    refine lv_aload_n hx hb d_Nu_putTo_19 rfl (lv_at hl 1 rfl) ?_
    refine lv_aload_n hx hb d_Nu_putTo_20 rfl (lv_at hl 0 rfl) ?_
    refine va_get (D := (dC, dI)) (ci := 5) (v := .ref r2) (C := "TextForge$Numeral") (T := TX5) (N := 2) hx hb hg iwX5 hown hK hP 0 rfl rfl 0 (by decide) (hg _ kw_103) (fun _ h9 => h9) rfl d_Nu_putTo_21 ?_
    refine lv_iload_n hx hb d_Nu_putTo_24 rfl (lv_at hl 2 rfl) ?_
    refine va_bald hx hb hK hP 1 0 rfl rfl hi9 d_Nu_putTo_25 ?_
    have hPc := hP.sub (ws' := [(h, .inr (2, [.ref r, .int (nI (by_ap cap L (List.drop (j1 + 1) L2).reverse).length)])), (r, .inl (cA, cap, .inl g))]) [2, 3] rfl
    have hKc := hK.sub (tys' := [(cA, .byte)]) [1] rfl
    have hDc := hD.sub (ws' := [(h, .inr (2, [.ref r, .int (nI (by_ap cap L (List.drop (j1 + 1) L2).reverse).length)])), (r, .inl (cA, cap, .inl g))]) [2, 3] (by decide) rfl
    have hFc := va_free (wc := [(h, .inr (2, [.ref r, .int (nI (by_ap cap L (List.drop (j1 + 1) L2).reverse).length)])), (r, .inl (cA, cap, .inl g))]) hD hS hA [2, 3] rfl
    refine zz_callv (va_runV (As := [.int (f2 (nI j1).toNatClampNeg)]) (rest := []) ⟨hx, hb, hml, hown, hg⟩ (c_By_add l dC dI h r cA cap g (by_ap cap L (List.drop (j1 + 1) L2).reverse) (f2 (nI j1).toNatClampNeg) hLj (by_ap_len _ _ _) hk  H.size) (cwV 1 hg (gi_V kw_283 kw_166 kw_167 kw_2 kw_168) rfl rfl rfl (by decide +kernel) ⟨Nat.le_of_ble_eq_true rfl, Nat.le_of_ble_eq_true rfl⟩) (zz_preV hPc hKc hDc _ (q0 := 0) (ci := 2) rfl rfl) rfl rfl hl.1 rfl (lv_room (Nat.le_of_ble_eq_true rfl)) d_Nu_putTo_26 ⟨Nat.le_of_ble_eq_true rfl, Nat.le_of_ble_eq_true rfl⟩) hS hFc (fun u H1 k9 p9 d9 => va_join (wr := [(h2, .inr (5, [.ref r2, .int (nI L2.length)])), (r2, .inl (cA2, 64, .inl f2))]) hP hD [2, 3] [0, 1] rfl rfl (by decide) (by decide) k9 hFc p9 d9) (fun u H locs hw hP hD hK1 hS => ?_)
    obtain ⟨u_1, rfl⟩ : ∃ z, z = u := ⟨_, rfl⟩
    try dsimp only at hw
    have hP : va_P (dC, dI) vwCl [(h2, .inr (5, [.ref r2, .int (nI L2.length)])), (r2, .inl (cA2, 64, .inl f2)), (h, .inr (2, [.ref r, .int (nI (by_ap cap (by_ap cap L (List.drop (j1 + 1) L2).reverse) [by_b (f2 (nI j1).toNatClampNeg)]).length)])), (r, .inl (cA, cap, .inl u_1))] H := hP
    have hD : va_D A [(h2, .inr (5, [.ref r2, .int (nI L2.length)])), (r2, .inl (cA2, 64, .inl f2)), (h, .inr (2, [.ref r, .int (nI (by_ap cap (by_ap cap L (List.drop (j1 + 1) L2).reverse) [by_b (f2 (nI j1).toNatClampNeg)]).length)])), (r, .inl (cA, cap, .inl u_1))] := hD
    have hL_3 := hw
    refine lv_iinc (v := (nI j1) + (-1)) (lv' := [(2, .int ((nI j1) + (-1))), (0, .ref h2), (1, .ref h)]) hx hb d_Nu_putTo_29 hl (k := 2) rfl rfl (by decide) rfl (fun ls hl => ?_)
    refine lv_goto (tgt := 15) hx hb d_Nu_putTo_32 (by decide) ?_
    rw [nu_rv hL2 (by omega)] at hP hD
    rw [by_dec] at hl
    exact ih_15 (j1, u_1) H locs ls ⟨hP.sub [0, 1, 2, 3] rfl, hD.sub [0, 1, 2, 3] (by decide) rfl, hS, lv_sub hl [1, 2, 0] rfl, (by rw [nu_rv hL2 (by omega)] at hL_3; exact hL_3), (by omega)⟩ (by dsimp only; omega)
