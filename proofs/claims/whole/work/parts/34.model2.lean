/-! MODEL 2 -/
theorem mo_n1n {n : Nat} : nI n + 1 = nI (n + 1) := nI_1 n
def mk_t (v : Int32) : Int32 := if v < 0 then 4 else 5
theorem mk_t4 {v : Int32} (h : ¬ 0 ≤ v) : mk_t v = 4 := if_pos (Int32.not_le.mp h)
theorem mk_t5 {v : Int32} (h : 0 ≤ v) : mk_t v = 5 := if_neg (Int32.not_lt.mpr h)
theorem upd_upd {f : Nat → Int32} {n : Nat} {x y : Int32} : upd (upd f n x) n y = upd f n y := by
  funext j; unfold upd; by_cases h : j = n
  · rw [if_pos h, if_pos h]
  · rw [if_neg h, if_neg h, if_neg h]
theorem mo_cp {F : List Nat} {ft g fo : Nat → Int32} {n k : Nat} (hn : n < 16) (hct : F.length ≤ 4096) (hk : k < F.length) (hL : by_L F ft) (hC : (∀ t, t < k → g (4096 * n + t) = ft t) ∧ ∀ q, q < 4096 * n → g q = fo q) :
    (∀ t, t < k + 1 → upd g (nI (4096 * n + k)).toNatClampNeg (vp_nar .byte (ft (nI k).toNatClampNeg)) (4096 * n + t) = ft t) ∧ ∀ q, q < 4096 * n → upd g (nI (4096 * n + k)).toNatClampNeg (vp_nar .byte (ft (nI k).toNatClampNeg)) q = fo q := by
  rw [nI_clamp (by omega), nI_clamp (by omega), show vp_nar .byte (ft k) = ft k by rw [(hL k hk).2]; exact pk_vb _]
  refine ⟨fun t ht => ?_, fun q hq => ?_⟩
  · by_cases e : t = k
    · rw [e, pk_us]
    · rw [pk_un (by omega)]; exact hC.1 t (by omega)
  · rw [pk_un (by omega)]; exact hC.2 q hq
abbrev y_Mo_argue : MethodName := ⟨"TextForgeModel", "argue", "(IJ)I"⟩
abbrev w_Mo_argue : List Cond := Cond.code y_Mo_argue prog_12_method_6_code 4 (some .int) :: gw
theorem d_Mo_argue_0 : decode prog_12_method_6_code 0 = .ok (.aload_n 0, 1) := by decide +kernel
theorem d_Mo_argue_1 : decode prog_12_method_6_code 1 = .ok (.getfield 50, 3) := by decide +kernel
theorem d_Mo_argue_4 : decode prog_12_method_6_code 4 = .ok (.bipush 16, 2) := by decide +kernel
theorem d_Mo_argue_6 : decode prog_12_method_6_code 6 = .ok (.if_icmp .ne 9, 3) := by decide +kernel
theorem d_Mo_argue_9 : decode prog_12_method_6_code 9 = .ok (.aload_n 0, 1) := by decide +kernel
theorem d_Mo_argue_10 : decode prog_12_method_6_code 10 = .ok (.iconst 1, 1) := by decide +kernel
theorem d_Mo_argue_11 : decode prog_12_method_6_code 11 = .ok (.invokevirtual 53, 3) := by decide +kernel
theorem d_Mo_argue_14 : decode prog_12_method_6_code 14 = .ok (.ireturn, 1) := by decide +kernel
theorem d_Mo_argue_15 : decode prog_12_method_6_code 15 = .ok (.aload_n 0, 1) := by decide +kernel
theorem d_Mo_argue_16 : decode prog_12_method_6_code 16 = .ok (.getfield 13, 3) := by decide +kernel
theorem d_Mo_argue_19 : decode prog_12_method_6_code 19 = .ok (.aload_n 0, 1) := by decide +kernel
theorem d_Mo_argue_20 : decode prog_12_method_6_code 20 = .ok (.getfield 50, 3) := by decide +kernel
theorem d_Mo_argue_23 : decode prog_12_method_6_code 23 = .ok (.iload_n 1, 1) := by decide +kernel
theorem d_Mo_argue_24 : decode prog_12_method_6_code 24 = .ok (.iastore, 1) := by decide +kernel
theorem d_Mo_argue_25 : decode prog_12_method_6_code 25 = .ok (.aload_n 0, 1) := by decide +kernel
theorem d_Mo_argue_26 : decode prog_12_method_6_code 26 = .ok (.getfield 17, 3) := by decide +kernel
theorem d_Mo_argue_29 : decode prog_12_method_6_code 29 = .ok (.aload_n 0, 1) := by decide +kernel
theorem d_Mo_argue_30 : decode prog_12_method_6_code 30 = .ok (.getfield 50, 3) := by decide +kernel
theorem d_Mo_argue_33 : decode prog_12_method_6_code 33 = .ok (.lload_n 2, 1) := by decide +kernel
theorem d_Mo_argue_34 : decode prog_12_method_6_code 34 = .ok (.lastore, 1) := by decide +kernel
theorem d_Mo_argue_35 : decode prog_12_method_6_code 35 = .ok (.aload_n 0, 1) := by decide +kernel
theorem d_Mo_argue_36 : decode prog_12_method_6_code 36 = .ok (.getfield 21, 3) := by decide +kernel
theorem d_Mo_argue_39 : decode prog_12_method_6_code 39 = .ok (.aload_n 0, 1) := by decide +kernel
theorem d_Mo_argue_40 : decode prog_12_method_6_code 40 = .ok (.getfield 50, 3) := by decide +kernel
theorem d_Mo_argue_43 : decode prog_12_method_6_code 43 = .ok (.iconst 0, 1) := by decide +kernel
theorem d_Mo_argue_44 : decode prog_12_method_6_code 44 = .ok (.iastore, 1) := by decide +kernel
theorem d_Mo_argue_45 : decode prog_12_method_6_code 45 = .ok (.aload_n 0, 1) := by decide +kernel
theorem d_Mo_argue_46 : decode prog_12_method_6_code 46 = .ok (.dup, 1) := by decide +kernel
theorem d_Mo_argue_47 : decode prog_12_method_6_code 47 = .ok (.getfield 50, 3) := by decide +kernel
theorem d_Mo_argue_50 : decode prog_12_method_6_code 50 = .ok (.iconst 1, 1) := by decide +kernel
theorem d_Mo_argue_51 : decode prog_12_method_6_code 51 = .ok (.iadd, 1) := by decide +kernel
theorem d_Mo_argue_52 : decode prog_12_method_6_code 52 = .ok (.putfield 50, 3) := by decide +kernel
theorem d_Mo_argue_55 : decode prog_12_method_6_code 55 = .ok (.aload_n 0, 1) := by decide +kernel
theorem d_Mo_argue_56 : decode prog_12_method_6_code 56 = .ok (.getfield 50, 3) := by decide +kernel
theorem d_Mo_argue_59 : decode prog_12_method_6_code 59 = .ok (.ireturn, 1) := by decide +kernel
set_option maxHeartbeats 4000000 in
set_option maxRecDepth 100000 in
theorem c_Mo_argue (l : Launch) (dC : Nat → ClassId) (dI : Nat → Nat → Nat) (mo rt rk rv rw ro rr ra rc rl rb : Nat) (th fd mn md pt : Int32) (pz : Int64) (kc la ca : Int32) (cI cL : ClassId) (fk : Nat → Int32) (fv : Nat → Int64) (fw : Nat → Int32) (n : Nat) (kk : Int32) (x : Int64) (hn : n < 16) : zM_i (S := Unit) l y_Mo_argue w_Mo_argue { frames := 0, cells := 0, slots := 0, locals := 0 } (dC, dI) vwCl [.ref mo, .int kk, .long x] [(mo, .inr (8, [.int th, .int fd, .ref rt, .int (nI n), .ref rk, .ref rv, .ref rw, .ref ro, .int md, .ref rr, .int pt, .ref ra, .long pz, .int kc, .ref rc, .ref rl, .ref rb, .int la, .int ca])), (rk, .inl (cI, 16, .inl fk)), (rv, .inl (cL, 16, .inr (.inl fv))), (rw, .inl (cI, 16, .inl fw))] [(cI, .int), (cL, .long)] (fun (r : Int32) (u : Unit) => r = nI (n + 1)) (fun u => [(mo, .inr (8, [.int th, .int fd, .ref rt, .int (nI (n + 1)), .ref rk, .ref rv, .ref rw, .ref ro, .int md, .ref rr, .int pt, .ref ra, .long pz, .int kc, .ref rc, .ref rl, .ref rb, .int la, .int ca])), (rk, .inl (cI, 16, .inl (upd fk n kk))), (rv, .inl (cL, 16, .inr (.inl (vp_updL fv n x)))), (rw, .inl (cI, 16, .inl (upd fw n 0)))]) (fun u => [(cI, .int), (cL, .long)]) 0 0 := by
  refine zz_enteri (cc := prog_12_method_6_code) (nL := 4) (ret := (some .int)) (by decide) rfl (Nat.le_of_ble_eq_true rfl) ?_
  intro p e s m below meth c A ls C0 hA hS hP hK hD hl
  obtain ⟨hx, hb, hml, hown, hg, hr, hlocks, hin⟩ := C0
  have hown : s.vm.findClass "TextForgeModel" = some m.cls := hown
  have hP : va_P (dC, dI) vwCl [(mo, .inr (8, [.int th, .int fd, .ref rt, .int (nI n), .ref rk, .ref rv, .ref rw, .ref ro, .int md, .ref rr, .int pt, .ref ra, .long pz, .int kc, .ref rc, .ref rl, .ref rb, .int la, .int ca])), (rk, .inl (cI, 16, .inl fk)), (rv, .inl (cL, 16, .inr (.inl fv))), (rw, .inl (cI, 16, .inl fw))] s.heap := hP
  have hK : va_K (dC, dI) vwCl [(cI, .int), (cL, .long)] s := hK
  have hD : va_D A [(mo, .inr (8, [.int th, .int fd, .ref rt, .int (nI n), .ref rk, .ref rv, .ref rw, .ref ro, .int md, .ref rr, .int pt, .ref ra, .long pz, .int kc, .ref rc, .ref rl, .ref rb, .int la, .int ca])), (rk, .inl (cI, 16, .inl fk)), (rv, .inl (cL, 16, .inr (.inl fv))), (rw, .inl (cI, 16, .inl fw))] := hD
  have hl : lv_has ls 4 [(0, .ref mo), (1, .int kk), (2, .long x)] := hl
  refine lv_aload_n hx hb d_Mo_argue_0 rfl (lv_at hl 0 rfl) ?_
  refine va_get (D := (dC, dI)) (ci := 8) (v := .int (nI n)) (C := "TextForgeModel") (T := TX8) (N := 19) hx hb hg iwX8 hown hK hP 0 rfl rfl 3 (by decide) (hg _ kw_729) (fun _ h9 => h9) rfl d_Mo_argue_1 ?_
  refine lv_bipush (v := 16) hx hb d_Mo_argue_4 (by decide) ?_
  refine lv_icmp_ne (tgt := 15) hx hb d_Mo_argue_6 (by decide) (fun _ => ?_) (fun c9 => by first | exact absurd c9 (fun z => by have := nI_e1 (b := 16) z (by omega) (by decide); omega) | exact absurd (fun z => by have := nI_e1 (b := 16) z (by omega) (by decide); omega) c9)
  have hi9 : vp_in (nI n) 16 := vp_in_nI hn (by decide)
  refine lv_aload_n hx hb d_Mo_argue_15 rfl (lv_at hl 0 rfl) ?_
  refine va_get (D := (dC, dI)) (ci := 8) (v := .ref rk) (C := "TextForgeModel") (T := TX8) (N := 19) hx hb hg iwX8 hown hK hP 0 rfl rfl 4 (by decide) (hg _ kw_730) (fun _ h9 => h9) rfl d_Mo_argue_16 ?_
  refine lv_aload_n hx hb d_Mo_argue_19 rfl (lv_at hl 0 rfl) ?_
  refine va_get (D := (dC, dI)) (ci := 8) (v := .int (nI n)) (C := "TextForgeModel") (T := TX8) (N := 19) hx hb hg iwX8 hown hK hP 0 rfl rfl 3 (by decide) (hg _ kw_729) (fun _ h9 => h9) rfl d_Mo_argue_20 ?_
  refine lv_iload_n hx hb d_Mo_argue_23 rfl (lv_at hl 1 rfl) ?_
  refine va_iast hx hb hK hP hD hS 1 0 rfl rfl hi9 d_Mo_argue_24 (fun H locs hP hD hS => ?_)
  have hP : va_P (dC, dI) vwCl [(mo, .inr (8, [.int th, .int fd, .ref rt, .int (nI n), .ref rk, .ref rv, .ref rw, .ref ro, .int md, .ref rr, .int pt, .ref ra, .long pz, .int kc, .ref rc, .ref rl, .ref rb, .int la, .int ca])), (rk, .inl (cI, 16, .inl (upd fk (nI n).toNatClampNeg kk))), (rv, .inl (cL, 16, .inr (.inl fv))), (rw, .inl (cI, 16, .inl fw))] H := hP
  have hD : va_D A [(mo, .inr (8, [.int th, .int fd, .ref rt, .int (nI n), .ref rk, .ref rv, .ref rw, .ref ro, .int md, .ref rr, .int pt, .ref ra, .long pz, .int kc, .ref rc, .ref rl, .ref rb, .int la, .int ca])), (rk, .inl (cI, 16, .inl (upd fk (nI n).toNatClampNeg kk))), (rv, .inl (cL, 16, .inr (.inl fv))), (rw, .inl (cI, 16, .inl fw))] := hD
  refine lv_aload_n hx hb d_Mo_argue_25 rfl (lv_at hl 0 rfl) ?_
  refine va_get (D := (dC, dI)) (ci := 8) (v := .ref rv) (C := "TextForgeModel") (T := TX8) (N := 19) hx hb hg iwX8 hown hK hP 0 rfl rfl 5 (by decide) (hg _ kw_731) (fun _ h9 => h9) rfl d_Mo_argue_26 ?_
  refine lv_aload_n hx hb d_Mo_argue_29 rfl (lv_at hl 0 rfl) ?_
  refine va_get (D := (dC, dI)) (ci := 8) (v := .int (nI n)) (C := "TextForgeModel") (T := TX8) (N := 19) hx hb hg iwX8 hown hK hP 0 rfl rfl 3 (by decide) (hg _ kw_729) (fun _ h9 => h9) rfl d_Mo_argue_30 ?_
  refine lv_lload_n hx hb d_Mo_argue_33 rfl (lv_at hl 2 rfl) ?_
  refine va_last hx hb hK hP hD hS 2 1 rfl rfl hi9 d_Mo_argue_34 (fun H locs hP hD hS => ?_)
  have hP : va_P (dC, dI) vwCl [(mo, .inr (8, [.int th, .int fd, .ref rt, .int (nI n), .ref rk, .ref rv, .ref rw, .ref ro, .int md, .ref rr, .int pt, .ref ra, .long pz, .int kc, .ref rc, .ref rl, .ref rb, .int la, .int ca])), (rk, .inl (cI, 16, .inl (upd fk (nI n).toNatClampNeg kk))), (rv, .inl (cL, 16, .inr (.inl (vp_updL fv (nI n).toNatClampNeg x)))), (rw, .inl (cI, 16, .inl fw))] H := hP
  have hD : va_D A [(mo, .inr (8, [.int th, .int fd, .ref rt, .int (nI n), .ref rk, .ref rv, .ref rw, .ref ro, .int md, .ref rr, .int pt, .ref ra, .long pz, .int kc, .ref rc, .ref rl, .ref rb, .int la, .int ca])), (rk, .inl (cI, 16, .inl (upd fk (nI n).toNatClampNeg kk))), (rv, .inl (cL, 16, .inr (.inl (vp_updL fv (nI n).toNatClampNeg x)))), (rw, .inl (cI, 16, .inl fw))] := hD
  refine lv_aload_n hx hb d_Mo_argue_35 rfl (lv_at hl 0 rfl) ?_
  refine va_get (D := (dC, dI)) (ci := 8) (v := .ref rw) (C := "TextForgeModel") (T := TX8) (N := 19) hx hb hg iwX8 hown hK hP 0 rfl rfl 6 (by decide) (hg _ kw_732) (fun _ h9 => h9) rfl d_Mo_argue_36 ?_
  refine lv_aload_n hx hb d_Mo_argue_39 rfl (lv_at hl 0 rfl) ?_
  refine va_get (D := (dC, dI)) (ci := 8) (v := .int (nI n)) (C := "TextForgeModel") (T := TX8) (N := 19) hx hb hg iwX8 hown hK hP 0 rfl rfl 3 (by decide) (hg _ kw_729) (fun _ h9 => h9) rfl d_Mo_argue_40 ?_
  refine lv_iconst (v := 0) hx hb d_Mo_argue_43 (by decide) ?_
  refine va_iast hx hb hK hP hD hS 3 0 rfl rfl hi9 d_Mo_argue_44 (fun H locs hP hD hS => ?_)
  have hP : va_P (dC, dI) vwCl [(mo, .inr (8, [.int th, .int fd, .ref rt, .int (nI n), .ref rk, .ref rv, .ref rw, .ref ro, .int md, .ref rr, .int pt, .ref ra, .long pz, .int kc, .ref rc, .ref rl, .ref rb, .int la, .int ca])), (rk, .inl (cI, 16, .inl (upd fk (nI n).toNatClampNeg kk))), (rv, .inl (cL, 16, .inr (.inl (vp_updL fv (nI n).toNatClampNeg x)))), (rw, .inl (cI, 16, .inl (upd fw (nI n).toNatClampNeg 0)))] H := hP
  have hD : va_D A [(mo, .inr (8, [.int th, .int fd, .ref rt, .int (nI n), .ref rk, .ref rv, .ref rw, .ref ro, .int md, .ref rr, .int pt, .ref ra, .long pz, .int kc, .ref rc, .ref rl, .ref rb, .int la, .int ca])), (rk, .inl (cI, 16, .inl (upd fk (nI n).toNatClampNeg kk))), (rv, .inl (cL, 16, .inr (.inl (vp_updL fv (nI n).toNatClampNeg x)))), (rw, .inl (cI, 16, .inl (upd fw (nI n).toNatClampNeg 0)))] := hD
  refine lv_aload_n hx hb d_Mo_argue_45 rfl (lv_at hl 0 rfl) ?_
  refine lv_dup hx hb d_Mo_argue_46 rfl ?_
  refine va_get (D := (dC, dI)) (ci := 8) (v := .int (nI n)) (C := "TextForgeModel") (T := TX8) (N := 19) hx hb hg iwX8 hown hK hP 0 rfl rfl 3 (by decide) (hg _ kw_729) (fun _ h9 => h9) rfl d_Mo_argue_47 ?_
  refine lv_iconst (v := 1) hx hb d_Mo_argue_50 (by decide) ?_
  refine lv_iadd hx hb d_Mo_argue_51 ?_
  refine va_put (D := (dC, dI)) (ci := 8) (v := .int ((nI n) + 1)) (ty := .int) (C := "TextForgeModel") (T := TX8) (N := 19) hx hb hg iwX8 tyX8 tyX8_ok nmX8 hown hK hP hD hS 0 rfl rfl 3 (by decide) (hg _ kw_729) (fun _ h9 => h9) rfl (by decide +kernel) rfl rfl (Nat.le_of_ble_eq_true rfl) d_Mo_argue_52 (fun H locs hP hD hS => ?_)
  have hP : va_P (dC, dI) vwCl [(mo, .inr (8, [.int th, .int fd, .ref rt, .int ((nI n) + 1), .ref rk, .ref rv, .ref rw, .ref ro, .int md, .ref rr, .int pt, .ref ra, .long pz, .int kc, .ref rc, .ref rl, .ref rb, .int la, .int ca])), (rk, .inl (cI, 16, .inl (upd fk (nI n).toNatClampNeg kk))), (rv, .inl (cL, 16, .inr (.inl (vp_updL fv (nI n).toNatClampNeg x)))), (rw, .inl (cI, 16, .inl (upd fw (nI n).toNatClampNeg 0)))] H := hP
  have hD : va_D A [(mo, .inr (8, [.int th, .int fd, .ref rt, .int ((nI n) + 1), .ref rk, .ref rv, .ref rw, .ref ro, .int md, .ref rr, .int pt, .ref ra, .long pz, .int kc, .ref rc, .ref rl, .ref rb, .int la, .int ca])), (rk, .inl (cI, 16, .inl (upd fk (nI n).toNatClampNeg kk))), (rv, .inl (cL, 16, .inr (.inl (vp_updL fv (nI n).toNatClampNeg x)))), (rw, .inl (cI, 16, .inl (upd fw (nI n).toNatClampNeg 0)))] := hD
  refine lv_aload_n hx hb d_Mo_argue_55 rfl (lv_at hl 0 rfl) ?_
  refine va_get (D := (dC, dI)) (ci := 8) (v := .int ((nI n) + 1)) (C := "TextForgeModel") (T := TX8) (N := 19) hx hb hg iwX8 hown hK hP 0 rfl rfl 3 (by decide) (hg _ kw_729) (fun _ h9 => h9) rfl d_Mo_argue_56 ?_
  have hP9 := hP.sub (ws' := [(mo, .inr (8, [.int th, .int fd, .ref rt, .int ((nI n) + 1), .ref rk, .ref rv, .ref rw, .ref ro, .int md, .ref rr, .int pt, .ref ra, .long pz, .int kc, .ref rc, .ref rl, .ref rb, .int la, .int ca])), (rk, .inl (cI, 16, .inl (upd fk (nI n).toNatClampNeg kk))), (rv, .inl (cL, 16, .inr (.inl (vp_updL fv (nI n).toNatClampNeg x)))), (rw, .inl (cI, 16, .inl (upd fw (nI n).toNatClampNeg 0)))]) [0, 1, 2, 3] rfl
  have hD9 := hD.sub (ws' := [(mo, .inr (8, [.int th, .int fd, .ref rt, .int ((nI n) + 1), .ref rk, .ref rv, .ref rw, .ref ro, .int md, .ref rr, .int pt, .ref ra, .long pz, .int kc, .ref rc, .ref rl, .ref rb, .int la, .int ca])), (rk, .inl (cI, 16, .inl (upd fk (nI n).toNatClampNeg kk))), (rv, .inl (cL, 16, .inr (.inl (vp_updL fv (nI n).toNatClampNeg x)))), (rw, .inl (cI, 16, .inl (upd fw (nI n).toNatClampNeg 0)))]) [0, 1, 2, 3] (by decide) rfl
  have hK9 := hK.sub (tys' := [(cI, .int), (cL, .long)]) [0, 1] rfl
  rw [nI_clamp (show n < 2 ^ 31 by omega)] at hP9 hD9
  rw [nI_1] at hP9 hD9
  exact zz_iret hx hb hr hlocks d_Mo_argue_59 hS (by first | exact Nat.le_refl _ | decide | omega | (dsimp only; omega)) (by first | exact Nat.le_refl _ | decide | omega | (dsimp only; omega)) () mo_n1n hP9 hK9 hD9
set_option maxHeartbeats 4000000 in
set_option maxRecDepth 100000 in
theorem c_Mo_argueT (l : Launch) (dC : Nat → ClassId) (dI : Nat → Nat → Nat) (mo rt rk rv rw ro rr ra rc rl rb : Nat) (th fd mn md pt : Int32) (pz : Int64) (kc la ca : Int32) (kk : Int32) (x : Int64)  : zM_i (S := Unit) l y_Mo_argue w_Mo_argue { frames := 1, cells := 0, slots := 0, locals := 21 } (dC, dI) vwCl [.ref mo, .int kk, .long x] [(mo, .inr (8, [.int th, .int fd, .ref rt, .int (nI 16), .ref rk, .ref rv, .ref rw, .ref ro, .int md, .ref rr, .int pt, .ref ra, .long pz, .int kc, .ref rc, .ref rl, .ref rb, .int la, .int ca]))] [] (fun (r : Int32) (u : Unit) => r = 0) (fun u => [(mo, .inr (8, [.int 1, .int fd, .ref rt, .int (nI 16), .ref rk, .ref rv, .ref rw, .ref ro, .int md, .ref rr, .int pt, .ref ra, .long pz, .int kc, .ref rc, .ref rl, .ref rb, .int la, .int ca]))]) (fun u => []) 0 0 := by
  refine zz_enteri (cc := prog_12_method_6_code) (nL := 4) (ret := (some .int)) (by decide) rfl (Nat.le_of_ble_eq_true rfl) ?_
  intro p e s m below meth c A ls C0 hA hS hP hK hD hl
  obtain ⟨hx, hb, hml, hown, hg, hr, hlocks, hin⟩ := C0
  have hown : s.vm.findClass "TextForgeModel" = some m.cls := hown
  have hP : va_P (dC, dI) vwCl [(mo, .inr (8, [.int th, .int fd, .ref rt, .int (nI 16), .ref rk, .ref rv, .ref rw, .ref ro, .int md, .ref rr, .int pt, .ref ra, .long pz, .int kc, .ref rc, .ref rl, .ref rb, .int la, .int ca]))] s.heap := hP
  have hK : va_K (dC, dI) vwCl [] s := hK
  have hD : va_D A [(mo, .inr (8, [.int th, .int fd, .ref rt, .int (nI 16), .ref rk, .ref rv, .ref rw, .ref ro, .int md, .ref rr, .int pt, .ref ra, .long pz, .int kc, .ref rc, .ref rl, .ref rb, .int la, .int ca]))] := hD
  have hl : lv_has ls 4 [(0, .ref mo), (1, .int kk), (2, .long x)] := hl
  refine lv_aload_n hx hb d_Mo_argue_0 rfl (lv_at hl 0 rfl) ?_
  refine va_get (D := (dC, dI)) (ci := 8) (v := .int (nI 16)) (C := "TextForgeModel") (T := TX8) (N := 19) hx hb hg iwX8 hown hK hP 0 rfl rfl 3 (by decide) (hg _ kw_729) (fun _ h9 => h9) rfl d_Mo_argue_1 ?_
  refine lv_bipush (v := 16) hx hb d_Mo_argue_4 (by decide) ?_
  refine lv_icmp_ne (tgt := 15) hx hb d_Mo_argue_6 (by decide) (fun c9 => by first | exact absurd c9 rfl | exact absurd rfl c9) (fun _ => ?_)
  refine lv_aload_n hx hb d_Mo_argue_9 rfl (lv_at hl 0 rfl) ?_
  refine lv_iconst (v := 1) hx hb d_Mo_argue_10 (by decide) ?_
  have hPc := hP.sub (ws' := [(mo, .inr (8, [.int th, .int fd, .ref rt, .int (nI 16), .ref rk, .ref rv, .ref rw, .ref ro, .int md, .ref rr, .int pt, .ref ra, .long pz, .int kc, .ref rc, .ref rl, .ref rb, .int la, .int ca]))]) [0] rfl
  have hKc := hK.sub (tys' := []) [] rfl
  have hDc := hD.sub (ws' := [(mo, .inr (8, [.int th, .int fd, .ref rt, .int (nI 16), .ref rk, .ref rv, .ref rw, .ref ro, .int md, .ref rr, .int pt, .ref ra, .long pz, .int kc, .ref rc, .ref rl, .ref rb, .int la, .int ca]))]) [0] (by decide) rfl
  have hFc := va_free (wc := [(mo, .inr (8, [.int th, .int fd, .ref rt, .int (nI 16), .ref rk, .ref rv, .ref rw, .ref ro, .int md, .ref rr, .int pt, .ref ra, .long pz, .int kc, .ref rc, .ref rl, .ref rb, .int la, .int ca]))]) hD hS hA [0] rfl
  refine zz_calli (va_runV (As := [.int 1]) (rest := []) ⟨hx, hb, hml, hown, hg⟩ (c_Mo_fail l dC dI mo rt rk rv rw ro rr ra rc rl rb th fd (nI 16) md pt pz kc la ca 1  s.heap.size) (cwV 1 hg (gi_V kw_805 kw_807 sw_11 kw_9 kw_808) rfl rfl rfl (by decide +kernel) ⟨Nat.le_of_ble_eq_true rfl, Nat.le_of_ble_eq_true rfl⟩) (zz_preV hPc hKc hDc _ (q0 := 0) (ci := 8) rfl rfl) rfl rfl hl.1 rfl (lv_room (Nat.le_of_ble_eq_true rfl)) d_Mo_argue_11 ⟨Nat.le_of_ble_eq_true rfl, Nat.le_of_ble_eq_true rfl⟩) hS hFc (fun u H1 k9 p9 d9 => va_join (wr := []) hP hD [0] [] rfl rfl (by decide) (by decide) k9 hFc p9 d9) (fun r_2 u H locs hw hP hD hK1 hS => ?_)
  obtain ⟨u_1, rfl⟩ : ∃ z, z = u := ⟨_, rfl⟩
  try dsimp only at hw
  have hP : va_P (dC, dI) vwCl [(mo, .inr (8, [.int 1, .int fd, .ref rt, .int (nI 16), .ref rk, .ref rv, .ref rw, .ref ro, .int md, .ref rr, .int pt, .ref ra, .long pz, .int kc, .ref rc, .ref rl, .ref rb, .int la, .int ca]))] H := hP
  have hD : va_D A [(mo, .inr (8, [.int 1, .int fd, .ref rt, .int (nI 16), .ref rk, .ref rv, .ref rw, .ref ro, .int md, .ref rr, .int pt, .ref ra, .long pz, .int kc, .ref rc, .ref rl, .ref rb, .int la, .int ca]))] := hD
  have hrr := hw
  have hP9 := hP.sub (ws' := [(mo, .inr (8, [.int 1, .int fd, .ref rt, .int (nI 16), .ref rk, .ref rv, .ref rw, .ref ro, .int md, .ref rr, .int pt, .ref ra, .long pz, .int kc, .ref rc, .ref rl, .ref rb, .int la, .int ca]))]) [0] rfl
  have hD9 := hD.sub (ws' := [(mo, .inr (8, [.int 1, .int fd, .ref rt, .int (nI 16), .ref rk, .ref rv, .ref rw, .ref ro, .int md, .ref rr, .int pt, .ref ra, .long pz, .int kc, .ref rc, .ref rl, .ref rb, .int la, .int ca]))]) [0] (by decide) rfl
  have hK9 := hK.sub (tys' := []) [] rfl
  exact zz_iret hx hb hr hlocks d_Mo_argue_14 hS (by first | exact Nat.le_refl _ | decide | omega | (dsimp only; omega)) (by first | exact Nat.le_refl _ | decide | omega | (dsimp only; omega)) () hrr hP9 hK9 hD9
abbrev y_Mo_number : MethodName := ⟨"TextForgeModel", "number", "(JZ)I"⟩
abbrev w_Mo_number : List Cond := Cond.code y_Mo_number prog_12_method_7_code 4 (some .int) :: gw
theorem d_Mo_number_0 : decode prog_12_method_7_code 0 = .ok (.aload_n 0, 1) := by decide +kernel
theorem d_Mo_number_1 : decode prog_12_method_7_code 1 = .ok (.iconst 0, 1) := by decide +kernel
theorem d_Mo_number_2 : decode prog_12_method_7_code 2 = .ok (.putfield 43, 3) := by decide +kernel
theorem d_Mo_number_5 : decode prog_12_method_7_code 5 = .ok (.aload_n 0, 1) := by decide +kernel
theorem d_Mo_number_6 : decode prog_12_method_7_code 6 = .ok (.iload_n 3, 1) := by decide +kernel
theorem d_Mo_number_7 : decode prog_12_method_7_code 7 = .ok (.ifCond .eq 7, 3) := by decide +kernel
theorem d_Mo_number_10 : decode prog_12_method_7_code 10 = .ok (.iconst 0, 1) := by decide +kernel
theorem d_Mo_number_11 : decode prog_12_method_7_code 11 = .ok (.goto 4, 3) := by decide +kernel
theorem d_Mo_number_14 : decode prog_12_method_7_code 14 = .ok (.iconst 1, 1) := by decide +kernel
theorem d_Mo_number_15 : decode prog_12_method_7_code 15 = .ok (.lload_n 1, 1) := by decide +kernel
theorem d_Mo_number_16 : decode prog_12_method_7_code 16 = .ok (.invokevirtual 57, 3) := by decide +kernel
theorem d_Mo_number_19 : decode prog_12_method_7_code 19 = .ok (.ireturn, 1) := by decide +kernel
set_option maxHeartbeats 4000000 in
set_option maxRecDepth 100000 in
theorem c_Mo_number (l : Launch) (dC : Nat → ClassId) (dI : Nat → Nat → Nat) (mo rt rk rv rw ro rr ra rc rl rb : Nat) (th fd mn md pt : Int32) (pz : Int64) (kc la ca : Int32) (cI cL : ClassId) (fk : Nat → Int32) (fv : Nat → Int64) (fw : Nat → Int32) (n : Nat) (v : Int64) (sg : Int32) (hn : n < 16) : zM_i (S := Unit) l y_Mo_number w_Mo_number { frames := 1, cells := 0, slots := 0, locals := 23 } (dC, dI) vwCl [.ref mo, .long v, .int sg] [(mo, .inr (8, [.int th, .int fd, .ref rt, .int (nI n), .ref rk, .ref rv, .ref rw, .ref ro, .int md, .ref rr, .int pt, .ref ra, .long pz, .int kc, .ref rc, .ref rl, .ref rb, .int la, .int ca])), (rk, .inl (cI, 16, .inl fk)), (rv, .inl (cL, 16, .inr (.inl fv))), (rw, .inl (cI, 16, .inl fw))] [(cI, .int), (cL, .long)] (fun (r : Int32) (u : Unit) => r = nI (n + 1)) (fun u => [(mo, .inr (8, [.int 0, .int fd, .ref rt, .int (nI (n + 1)), .ref rk, .ref rv, .ref rw, .ref ro, .int md, .ref rr, .int pt, .ref ra, .long pz, .int kc, .ref rc, .ref rl, .ref rb, .int la, .int ca])), (rk, .inl (cI, 16, .inl (upd fk n (nI (nm_k sg))))), (rv, .inl (cL, 16, .inr (.inl (vp_updL fv n v)))), (rw, .inl (cI, 16, .inl (upd fw n 0)))]) (fun u => [(cI, .int), (cL, .long)]) 0 0 := by
  refine zz_enteri (cc := prog_12_method_7_code) (nL := 4) (ret := (some .int)) (by decide) rfl (Nat.le_of_ble_eq_true rfl) ?_
  intro p e s m below meth c A ls C0 hA hS hP hK hD hl
  obtain ⟨hx, hb, hml, hown, hg, hr, hlocks, hin⟩ := C0
  have hown : s.vm.findClass "TextForgeModel" = some m.cls := hown
  have hP : va_P (dC, dI) vwCl [(mo, .inr (8, [.int th, .int fd, .ref rt, .int (nI n), .ref rk, .ref rv, .ref rw, .ref ro, .int md, .ref rr, .int pt, .ref ra, .long pz, .int kc, .ref rc, .ref rl, .ref rb, .int la, .int ca])), (rk, .inl (cI, 16, .inl fk)), (rv, .inl (cL, 16, .inr (.inl fv))), (rw, .inl (cI, 16, .inl fw))] s.heap := hP
  have hK : va_K (dC, dI) vwCl [(cI, .int), (cL, .long)] s := hK
  have hD : va_D A [(mo, .inr (8, [.int th, .int fd, .ref rt, .int (nI n), .ref rk, .ref rv, .ref rw, .ref ro, .int md, .ref rr, .int pt, .ref ra, .long pz, .int kc, .ref rc, .ref rl, .ref rb, .int la, .int ca])), (rk, .inl (cI, 16, .inl fk)), (rv, .inl (cL, 16, .inr (.inl fv))), (rw, .inl (cI, 16, .inl fw))] := hD
  have hl : lv_has ls 4 [(0, .ref mo), (1, .long v), (3, .int sg)] := hl
  refine lv_aload_n hx hb d_Mo_number_0 rfl (lv_at hl 0 rfl) ?_
  refine lv_iconst (v := 0) hx hb d_Mo_number_1 (by decide) ?_
  refine va_put (D := (dC, dI)) (ci := 8) (v := .int 0) (ty := .int) (C := "TextForgeModel") (T := TX8) (N := 19) hx hb hg iwX8 tyX8 tyX8_ok nmX8 hown hK hP hD hS 0 rfl rfl 0 (by decide) (hg _ kw_726) (fun _ h9 => h9) rfl (by decide +kernel) rfl rfl (Nat.le_of_ble_eq_true rfl) d_Mo_number_2 (fun H locs hP hD hS => ?_)
  have hP : va_P (dC, dI) vwCl [(mo, .inr (8, [.int 0, .int fd, .ref rt, .int (nI n), .ref rk, .ref rv, .ref rw, .ref ro, .int md, .ref rr, .int pt, .ref ra, .long pz, .int kc, .ref rc, .ref rl, .ref rb, .int la, .int ca])), (rk, .inl (cI, 16, .inl fk)), (rv, .inl (cL, 16, .inr (.inl fv))), (rw, .inl (cI, 16, .inl fw))] H := hP
  have hD : va_D A [(mo, .inr (8, [.int 0, .int fd, .ref rt, .int (nI n), .ref rk, .ref rv, .ref rw, .ref ro, .int md, .ref rr, .int pt, .ref ra, .long pz, .int kc, .ref rc, .ref rl, .ref rb, .int la, .int ca])), (rk, .inl (cI, 16, .inl fk)), (rv, .inl (cL, 16, .inr (.inl fv))), (rw, .inl (cI, 16, .inl fw))] := hD
  refine lv_aload_n hx hb d_Mo_number_5 rfl (lv_at hl 0 rfl) ?_
  refine lv_iload_n hx hb d_Mo_number_6 rfl (lv_at hl 2 rfl) ?_
  refine lv_if_eq (tgt := 14) hx hb d_Mo_number_7 (by decide) (fun c_7 => ?_) (fun c_7 => ?_)
  · skip
    refine lv_iconst (v := 1) hx hb d_Mo_number_14 (by decide) ?_
    refine lv_lload_n hx hb d_Mo_number_15 rfl (lv_at hl 1 rfl) ?_
    have hPc := hP.sub (ws' := [(mo, .inr (8, [.int 0, .int fd, .ref rt, .int (nI n), .ref rk, .ref rv, .ref rw, .ref ro, .int md, .ref rr, .int pt, .ref ra, .long pz, .int kc, .ref rc, .ref rl, .ref rb, .int la, .int ca])), (rk, .inl (cI, 16, .inl fk)), (rv, .inl (cL, 16, .inr (.inl fv))), (rw, .inl (cI, 16, .inl fw))]) [0, 1, 2, 3] rfl
    have hKc := hK.sub (tys' := [(cI, .int), (cL, .long)]) [0, 1] rfl
    have hDc := hD.sub (ws' := [(mo, .inr (8, [.int 0, .int fd, .ref rt, .int (nI n), .ref rk, .ref rv, .ref rw, .ref ro, .int md, .ref rr, .int pt, .ref ra, .long pz, .int kc, .ref rc, .ref rl, .ref rb, .int la, .int ca])), (rk, .inl (cI, 16, .inl fk)), (rv, .inl (cL, 16, .inr (.inl fv))), (rw, .inl (cI, 16, .inl fw))]) [0, 1, 2, 3] (by decide) rfl
    have hFc := va_free (wc := [(mo, .inr (8, [.int 0, .int fd, .ref rt, .int (nI n), .ref rk, .ref rv, .ref rw, .ref ro, .int md, .ref rr, .int pt, .ref ra, .long pz, .int kc, .ref rc, .ref rl, .ref rb, .int la, .int ca])), (rk, .inl (cI, 16, .inl fk)), (rv, .inl (cL, 16, .inr (.inl fv))), (rw, .inl (cI, 16, .inl fw))]) hD hS hA [0, 1, 2, 3] rfl
    refine zz_calli (va_runV (As := [.int 1, .long v]) (rest := []) ⟨hx, hb, hml, hown, hg⟩ (c_Mo_argue l dC dI mo rt rk rv rw ro rr ra rc rl rb 0 fd (nI n) md pt pz kc la ca cI cL fk fv fw n 1 v hn H.size) (cwV 2 hg (gi_V kw_801 kw_803 sw_10 kw_9 kw_804) rfl rfl rfl (by decide +kernel) ⟨Nat.le_of_ble_eq_true rfl, Nat.le_of_ble_eq_true rfl⟩) (zz_preV hPc hKc hDc _ (q0 := 0) (ci := 8) rfl rfl) rfl rfl hl.1 rfl (lv_room (Nat.le_of_ble_eq_true rfl)) d_Mo_number_16 ⟨Nat.le_of_ble_eq_true rfl, Nat.le_of_ble_eq_true rfl⟩) hS hFc (fun u H1 k9 p9 d9 => va_join (wr := []) hP hD [0, 1, 2, 3] [] rfl rfl (by decide) (by decide) k9 hFc p9 d9) (fun r_2 u H locs hw hP hD hK1 hS => ?_)
    obtain ⟨u_1, rfl⟩ : ∃ z, z = u := ⟨_, rfl⟩
    try dsimp only at hw
    have hP : va_P (dC, dI) vwCl [(mo, .inr (8, [.int 0, .int fd, .ref rt, .int (nI (n + 1)), .ref rk, .ref rv, .ref rw, .ref ro, .int md, .ref rr, .int pt, .ref ra, .long pz, .int kc, .ref rc, .ref rl, .ref rb, .int la, .int ca])), (rk, .inl (cI, 16, .inl (upd fk n 1))), (rv, .inl (cL, 16, .inr (.inl (vp_updL fv n v)))), (rw, .inl (cI, 16, .inl (upd fw n 0)))] H := hP
    have hD : va_D A [(mo, .inr (8, [.int 0, .int fd, .ref rt, .int (nI (n + 1)), .ref rk, .ref rv, .ref rw, .ref ro, .int md, .ref rr, .int pt, .ref ra, .long pz, .int kc, .ref rc, .ref rl, .ref rb, .int la, .int ca])), (rk, .inl (cI, 16, .inl (upd fk n 1))), (rv, .inl (cL, 16, .inr (.inl (vp_updL fv n v)))), (rw, .inl (cI, 16, .inl (upd fw n 0)))] := hD
    have hrr := hw
    have hP9 := hP.sub (ws' := [(mo, .inr (8, [.int 0, .int fd, .ref rt, .int (nI (n + 1)), .ref rk, .ref rv, .ref rw, .ref ro, .int md, .ref rr, .int pt, .ref ra, .long pz, .int kc, .ref rc, .ref rl, .ref rb, .int la, .int ca])), (rk, .inl (cI, 16, .inl (upd fk n 1))), (rv, .inl (cL, 16, .inr (.inl (vp_updL fv n v)))), (rw, .inl (cI, 16, .inl (upd fw n 0)))]) [0, 1, 2, 3] rfl
    have hD9 := hD.sub (ws' := [(mo, .inr (8, [.int 0, .int fd, .ref rt, .int (nI (n + 1)), .ref rk, .ref rv, .ref rw, .ref ro, .int md, .ref rr, .int pt, .ref ra, .long pz, .int kc, .ref rc, .ref rl, .ref rb, .int la, .int ca])), (rk, .inl (cI, 16, .inl (upd fk n 1))), (rv, .inl (cL, 16, .inr (.inl (vp_updL fv n v)))), (rw, .inl (cI, 16, .inl (upd fw n 0)))]) [0, 1, 2, 3] (by decide) rfl
    have hK9 := hK.sub (tys' := [(cI, .int), (cL, .long)]) [0, 1] rfl
    rw [show upd fk n 1 = upd fk n (nI (nm_k sg)) by rw [nm_k1 c_7]; rfl] at hP9 hD9
    exact zz_iret hx hb hr hlocks d_Mo_number_19 hS (by first | exact Nat.le_refl _ | decide | omega | (dsimp only; omega)) (by first | exact Nat.le_refl _ | decide | omega | (dsimp only; omega)) () hrr hP9 hK9 hD9
  · skip
    refine lv_iconst (v := 0) hx hb d_Mo_number_10 (by decide) ?_
    refine lv_goto (tgt := 15) hx hb d_Mo_number_11 (by decide) ?_
    refine lv_lload_n hx hb d_Mo_number_15 rfl (lv_at hl 1 rfl) ?_
    have hPc := hP.sub (ws' := [(mo, .inr (8, [.int 0, .int fd, .ref rt, .int (nI n), .ref rk, .ref rv, .ref rw, .ref ro, .int md, .ref rr, .int pt, .ref ra, .long pz, .int kc, .ref rc, .ref rl, .ref rb, .int la, .int ca])), (rk, .inl (cI, 16, .inl fk)), (rv, .inl (cL, 16, .inr (.inl fv))), (rw, .inl (cI, 16, .inl fw))]) [0, 1, 2, 3] rfl
    have hKc := hK.sub (tys' := [(cI, .int), (cL, .long)]) [0, 1] rfl
    have hDc := hD.sub (ws' := [(mo, .inr (8, [.int 0, .int fd, .ref rt, .int (nI n), .ref rk, .ref rv, .ref rw, .ref ro, .int md, .ref rr, .int pt, .ref ra, .long pz, .int kc, .ref rc, .ref rl, .ref rb, .int la, .int ca])), (rk, .inl (cI, 16, .inl fk)), (rv, .inl (cL, 16, .inr (.inl fv))), (rw, .inl (cI, 16, .inl fw))]) [0, 1, 2, 3] (by decide) rfl
    have hFc := va_free (wc := [(mo, .inr (8, [.int 0, .int fd, .ref rt, .int (nI n), .ref rk, .ref rv, .ref rw, .ref ro, .int md, .ref rr, .int pt, .ref ra, .long pz, .int kc, .ref rc, .ref rl, .ref rb, .int la, .int ca])), (rk, .inl (cI, 16, .inl fk)), (rv, .inl (cL, 16, .inr (.inl fv))), (rw, .inl (cI, 16, .inl fw))]) hD hS hA [0, 1, 2, 3] rfl
    refine zz_calli (va_runV (As := [.int 0, .long v]) (rest := []) ⟨hx, hb, hml, hown, hg⟩ (c_Mo_argue l dC dI mo rt rk rv rw ro rr ra rc rl rb 0 fd (nI n) md pt pz kc la ca cI cL fk fv fw n 0 v hn H.size) (cwV 2 hg (gi_V kw_801 kw_803 sw_10 kw_9 kw_804) rfl rfl rfl (by decide +kernel) ⟨Nat.le_of_ble_eq_true rfl, Nat.le_of_ble_eq_true rfl⟩) (zz_preV hPc hKc hDc _ (q0 := 0) (ci := 8) rfl rfl) rfl rfl hl.1 rfl (lv_room (Nat.le_of_ble_eq_true rfl)) d_Mo_number_16 ⟨Nat.le_of_ble_eq_true rfl, Nat.le_of_ble_eq_true rfl⟩) hS hFc (fun u H1 k9 p9 d9 => va_join (wr := []) hP hD [0, 1, 2, 3] [] rfl rfl (by decide) (by decide) k9 hFc p9 d9) (fun r_4 u H locs hw hP hD hK1 hS => ?_)
    obtain ⟨u_3, rfl⟩ : ∃ z, z = u := ⟨_, rfl⟩
    try dsimp only at hw
    have hP : va_P (dC, dI) vwCl [(mo, .inr (8, [.int 0, .int fd, .ref rt, .int (nI (n + 1)), .ref rk, .ref rv, .ref rw, .ref ro, .int md, .ref rr, .int pt, .ref ra, .long pz, .int kc, .ref rc, .ref rl, .ref rb, .int la, .int ca])), (rk, .inl (cI, 16, .inl (upd fk n 0))), (rv, .inl (cL, 16, .inr (.inl (vp_updL fv n v)))), (rw, .inl (cI, 16, .inl (upd fw n 0)))] H := hP
    have hD : va_D A [(mo, .inr (8, [.int 0, .int fd, .ref rt, .int (nI (n + 1)), .ref rk, .ref rv, .ref rw, .ref ro, .int md, .ref rr, .int pt, .ref ra, .long pz, .int kc, .ref rc, .ref rl, .ref rb, .int la, .int ca])), (rk, .inl (cI, 16, .inl (upd fk n 0))), (rv, .inl (cL, 16, .inr (.inl (vp_updL fv n v)))), (rw, .inl (cI, 16, .inl (upd fw n 0)))] := hD
    have hrr := hw
    have hP9 := hP.sub (ws' := [(mo, .inr (8, [.int 0, .int fd, .ref rt, .int (nI (n + 1)), .ref rk, .ref rv, .ref rw, .ref ro, .int md, .ref rr, .int pt, .ref ra, .long pz, .int kc, .ref rc, .ref rl, .ref rb, .int la, .int ca])), (rk, .inl (cI, 16, .inl (upd fk n 0))), (rv, .inl (cL, 16, .inr (.inl (vp_updL fv n v)))), (rw, .inl (cI, 16, .inl (upd fw n 0)))]) [0, 1, 2, 3] rfl
    have hD9 := hD.sub (ws' := [(mo, .inr (8, [.int 0, .int fd, .ref rt, .int (nI (n + 1)), .ref rk, .ref rv, .ref rw, .ref ro, .int md, .ref rr, .int pt, .ref ra, .long pz, .int kc, .ref rc, .ref rl, .ref rb, .int la, .int ca])), (rk, .inl (cI, 16, .inl (upd fk n 0))), (rv, .inl (cL, 16, .inr (.inl (vp_updL fv n v)))), (rw, .inl (cI, 16, .inl (upd fw n 0)))]) [0, 1, 2, 3] (by decide) rfl
    have hK9 := hK.sub (tys' := [(cI, .int), (cL, .long)]) [0, 1] rfl
    rw [show upd fk n 0 = upd fk n (nI (nm_k sg)) by rw [nm_k0 c_7]; rfl] at hP9 hD9
    exact zz_iret hx hb hr hlocks d_Mo_number_19 hS (by first | exact Nat.le_refl _ | decide | omega | (dsimp only; omega)) (by first | exact Nat.le_refl _ | decide | omega | (dsimp only; omega)) () hrr hP9 hK9 hD9
set_option maxHeartbeats 4000000 in
set_option maxRecDepth 100000 in
theorem c_Mo_numberT (l : Launch) (dC : Nat → ClassId) (dI : Nat → Nat → Nat) (mo rt rk rv rw ro rr ra rc rl rb : Nat) (th fd mn md pt : Int32) (pz : Int64) (kc la ca : Int32) (v : Int64) (sg : Int32)  : zM_i (S := Unit) l y_Mo_number w_Mo_number { frames := 2, cells := 0, slots := 0, locals := 44 } (dC, dI) vwCl [.ref mo, .long v, .int sg] [(mo, .inr (8, [.int th, .int fd, .ref rt, .int (nI 16), .ref rk, .ref rv, .ref rw, .ref ro, .int md, .ref rr, .int pt, .ref ra, .long pz, .int kc, .ref rc, .ref rl, .ref rb, .int la, .int ca]))] [] (fun (r : Int32) (u : Unit) => r = 0) (fun u => [(mo, .inr (8, [.int 1, .int fd, .ref rt, .int (nI 16), .ref rk, .ref rv, .ref rw, .ref ro, .int md, .ref rr, .int pt, .ref ra, .long pz, .int kc, .ref rc, .ref rl, .ref rb, .int la, .int ca]))]) (fun u => []) 0 0 := by
  refine zz_enteri (cc := prog_12_method_7_code) (nL := 4) (ret := (some .int)) (by decide) rfl (Nat.le_of_ble_eq_true rfl) ?_
  intro p e s m below meth c A ls C0 hA hS hP hK hD hl
  obtain ⟨hx, hb, hml, hown, hg, hr, hlocks, hin⟩ := C0
  have hown : s.vm.findClass "TextForgeModel" = some m.cls := hown
  have hP : va_P (dC, dI) vwCl [(mo, .inr (8, [.int th, .int fd, .ref rt, .int (nI 16), .ref rk, .ref rv, .ref rw, .ref ro, .int md, .ref rr, .int pt, .ref ra, .long pz, .int kc, .ref rc, .ref rl, .ref rb, .int la, .int ca]))] s.heap := hP
  have hK : va_K (dC, dI) vwCl [] s := hK
  have hD : va_D A [(mo, .inr (8, [.int th, .int fd, .ref rt, .int (nI 16), .ref rk, .ref rv, .ref rw, .ref ro, .int md, .ref rr, .int pt, .ref ra, .long pz, .int kc, .ref rc, .ref rl, .ref rb, .int la, .int ca]))] := hD
  have hl : lv_has ls 4 [(0, .ref mo), (1, .long v), (3, .int sg)] := hl
  refine lv_aload_n hx hb d_Mo_number_0 rfl (lv_at hl 0 rfl) ?_
  refine lv_iconst (v := 0) hx hb d_Mo_number_1 (by decide) ?_
  refine va_put (D := (dC, dI)) (ci := 8) (v := .int 0) (ty := .int) (C := "TextForgeModel") (T := TX8) (N := 19) hx hb hg iwX8 tyX8 tyX8_ok nmX8 hown hK hP hD hS 0 rfl rfl 0 (by decide) (hg _ kw_726) (fun _ h9 => h9) rfl (by decide +kernel) rfl rfl (Nat.le_of_ble_eq_true rfl) d_Mo_number_2 (fun H locs hP hD hS => ?_)
  have hP : va_P (dC, dI) vwCl [(mo, .inr (8, [.int 0, .int fd, .ref rt, .int (nI 16), .ref rk, .ref rv, .ref rw, .ref ro, .int md, .ref rr, .int pt, .ref ra, .long pz, .int kc, .ref rc, .ref rl, .ref rb, .int la, .int ca]))] H := hP
  have hD : va_D A [(mo, .inr (8, [.int 0, .int fd, .ref rt, .int (nI 16), .ref rk, .ref rv, .ref rw, .ref ro, .int md, .ref rr, .int pt, .ref ra, .long pz, .int kc, .ref rc, .ref rl, .ref rb, .int la, .int ca]))] := hD
  refine lv_aload_n hx hb d_Mo_number_5 rfl (lv_at hl 0 rfl) ?_
  refine lv_iload_n hx hb d_Mo_number_6 rfl (lv_at hl 2 rfl) ?_
  refine lv_if_eq (tgt := 14) hx hb d_Mo_number_7 (by decide) (fun c_7 => ?_) (fun c_7 => ?_)
  · skip
    refine lv_iconst (v := 1) hx hb d_Mo_number_14 (by decide) ?_
    refine lv_lload_n hx hb d_Mo_number_15 rfl (lv_at hl 1 rfl) ?_
    have hPc := hP.sub (ws' := [(mo, .inr (8, [.int 0, .int fd, .ref rt, .int (nI 16), .ref rk, .ref rv, .ref rw, .ref ro, .int md, .ref rr, .int pt, .ref ra, .long pz, .int kc, .ref rc, .ref rl, .ref rb, .int la, .int ca]))]) [0] rfl
    have hKc := hK.sub (tys' := []) [] rfl
    have hDc := hD.sub (ws' := [(mo, .inr (8, [.int 0, .int fd, .ref rt, .int (nI 16), .ref rk, .ref rv, .ref rw, .ref ro, .int md, .ref rr, .int pt, .ref ra, .long pz, .int kc, .ref rc, .ref rl, .ref rb, .int la, .int ca]))]) [0] (by decide) rfl
    have hFc := va_free (wc := [(mo, .inr (8, [.int 0, .int fd, .ref rt, .int (nI 16), .ref rk, .ref rv, .ref rw, .ref ro, .int md, .ref rr, .int pt, .ref ra, .long pz, .int kc, .ref rc, .ref rl, .ref rb, .int la, .int ca]))]) hD hS hA [0] rfl
    refine zz_calli (va_runV (As := [.int 1, .long v]) (rest := []) ⟨hx, hb, hml, hown, hg⟩ (c_Mo_argueT l dC dI mo rt rk rv rw ro rr ra rc rl rb 0 fd (nI 16) md pt pz kc la ca 1 v  H.size) (cwV 2 hg (gi_V kw_801 kw_803 sw_10 kw_9 kw_804) rfl rfl rfl (by decide +kernel) ⟨Nat.le_of_ble_eq_true rfl, Nat.le_of_ble_eq_true rfl⟩) (zz_preV hPc hKc hDc _ (q0 := 0) (ci := 8) rfl rfl) rfl rfl hl.1 rfl (lv_room (Nat.le_of_ble_eq_true rfl)) d_Mo_number_16 ⟨Nat.le_of_ble_eq_true rfl, Nat.le_of_ble_eq_true rfl⟩) hS hFc (fun u H1 k9 p9 d9 => va_join (wr := []) hP hD [0] [] rfl rfl (by decide) (by decide) k9 hFc p9 d9) (fun r_2 u H locs hw hP hD hK1 hS => ?_)
    obtain ⟨u_1, rfl⟩ : ∃ z, z = u := ⟨_, rfl⟩
    try dsimp only at hw
    have hP : va_P (dC, dI) vwCl [(mo, .inr (8, [.int 1, .int fd, .ref rt, .int (nI 16), .ref rk, .ref rv, .ref rw, .ref ro, .int md, .ref rr, .int pt, .ref ra, .long pz, .int kc, .ref rc, .ref rl, .ref rb, .int la, .int ca]))] H := hP
    have hD : va_D A [(mo, .inr (8, [.int 1, .int fd, .ref rt, .int (nI 16), .ref rk, .ref rv, .ref rw, .ref ro, .int md, .ref rr, .int pt, .ref ra, .long pz, .int kc, .ref rc, .ref rl, .ref rb, .int la, .int ca]))] := hD
    have hrr := hw
    have hP9 := hP.sub (ws' := [(mo, .inr (8, [.int 1, .int fd, .ref rt, .int (nI 16), .ref rk, .ref rv, .ref rw, .ref ro, .int md, .ref rr, .int pt, .ref ra, .long pz, .int kc, .ref rc, .ref rl, .ref rb, .int la, .int ca]))]) [0] rfl
    have hD9 := hD.sub (ws' := [(mo, .inr (8, [.int 1, .int fd, .ref rt, .int (nI 16), .ref rk, .ref rv, .ref rw, .ref ro, .int md, .ref rr, .int pt, .ref ra, .long pz, .int kc, .ref rc, .ref rl, .ref rb, .int la, .int ca]))]) [0] (by decide) rfl
    have hK9 := hK.sub (tys' := []) [] rfl
    exact zz_iret hx hb hr hlocks d_Mo_number_19 hS (by first | exact Nat.le_refl _ | decide | omega | (dsimp only; omega)) (by first | exact Nat.le_refl _ | decide | omega | (dsimp only; omega)) () hrr hP9 hK9 hD9
  · skip
    refine lv_iconst (v := 0) hx hb d_Mo_number_10 (by decide) ?_
    refine lv_goto (tgt := 15) hx hb d_Mo_number_11 (by decide) ?_
    refine lv_lload_n hx hb d_Mo_number_15 rfl (lv_at hl 1 rfl) ?_
    have hPc := hP.sub (ws' := [(mo, .inr (8, [.int 0, .int fd, .ref rt, .int (nI 16), .ref rk, .ref rv, .ref rw, .ref ro, .int md, .ref rr, .int pt, .ref ra, .long pz, .int kc, .ref rc, .ref rl, .ref rb, .int la, .int ca]))]) [0] rfl
    have hKc := hK.sub (tys' := []) [] rfl
    have hDc := hD.sub (ws' := [(mo, .inr (8, [.int 0, .int fd, .ref rt, .int (nI 16), .ref rk, .ref rv, .ref rw, .ref ro, .int md, .ref rr, .int pt, .ref ra, .long pz, .int kc, .ref rc, .ref rl, .ref rb, .int la, .int ca]))]) [0] (by decide) rfl
    have hFc := va_free (wc := [(mo, .inr (8, [.int 0, .int fd, .ref rt, .int (nI 16), .ref rk, .ref rv, .ref rw, .ref ro, .int md, .ref rr, .int pt, .ref ra, .long pz, .int kc, .ref rc, .ref rl, .ref rb, .int la, .int ca]))]) hD hS hA [0] rfl
    refine zz_calli (va_runV (As := [.int 0, .long v]) (rest := []) ⟨hx, hb, hml, hown, hg⟩ (c_Mo_argueT l dC dI mo rt rk rv rw ro rr ra rc rl rb 0 fd (nI 16) md pt pz kc la ca 0 v  H.size) (cwV 2 hg (gi_V kw_801 kw_803 sw_10 kw_9 kw_804) rfl rfl rfl (by decide +kernel) ⟨Nat.le_of_ble_eq_true rfl, Nat.le_of_ble_eq_true rfl⟩) (zz_preV hPc hKc hDc _ (q0 := 0) (ci := 8) rfl rfl) rfl rfl hl.1 rfl (lv_room (Nat.le_of_ble_eq_true rfl)) d_Mo_number_16 ⟨Nat.le_of_ble_eq_true rfl, Nat.le_of_ble_eq_true rfl⟩) hS hFc (fun u H1 k9 p9 d9 => va_join (wr := []) hP hD [0] [] rfl rfl (by decide) (by decide) k9 hFc p9 d9) (fun r_4 u H locs hw hP hD hK1 hS => ?_)
    obtain ⟨u_3, rfl⟩ : ∃ z, z = u := ⟨_, rfl⟩
    try dsimp only at hw
    have hP : va_P (dC, dI) vwCl [(mo, .inr (8, [.int 1, .int fd, .ref rt, .int (nI 16), .ref rk, .ref rv, .ref rw, .ref ro, .int md, .ref rr, .int pt, .ref ra, .long pz, .int kc, .ref rc, .ref rl, .ref rb, .int la, .int ca]))] H := hP
    have hD : va_D A [(mo, .inr (8, [.int 1, .int fd, .ref rt, .int (nI 16), .ref rk, .ref rv, .ref rw, .ref ro, .int md, .ref rr, .int pt, .ref ra, .long pz, .int kc, .ref rc, .ref rl, .ref rb, .int la, .int ca]))] := hD
    have hrr := hw
    have hP9 := hP.sub (ws' := [(mo, .inr (8, [.int 1, .int fd, .ref rt, .int (nI 16), .ref rk, .ref rv, .ref rw, .ref ro, .int md, .ref rr, .int pt, .ref ra, .long pz, .int kc, .ref rc, .ref rl, .ref rb, .int la, .int ca]))]) [0] rfl
    have hD9 := hD.sub (ws' := [(mo, .inr (8, [.int 1, .int fd, .ref rt, .int (nI 16), .ref rk, .ref rv, .ref rw, .ref ro, .int md, .ref rr, .int pt, .ref ra, .long pz, .int kc, .ref rc, .ref rl, .ref rb, .int la, .int ca]))]) [0] (by decide) rfl
    have hK9 := hK.sub (tys' := []) [] rfl
    exact zz_iret hx hb hr hlocks d_Mo_number_19 hS (by first | exact Nat.le_refl _ | decide | omega | (dsimp only; omega)) (by first | exact Nat.le_refl _ | decide | omega | (dsimp only; omega)) () hrr hP9 hK9 hD9
abbrev y_Mo_truth : MethodName := ⟨"TextForgeModel", "truth", "(Z)I"⟩
abbrev w_Mo_truth : List Cond := Cond.code y_Mo_truth prog_12_method_8_code 2 (some .int) :: gw
theorem d_Mo_truth_0 : decode prog_12_method_8_code 0 = .ok (.aload_n 0, 1) := by decide +kernel
theorem d_Mo_truth_1 : decode prog_12_method_8_code 1 = .ok (.iconst 0, 1) := by decide +kernel
theorem d_Mo_truth_2 : decode prog_12_method_8_code 2 = .ok (.putfield 43, 3) := by decide +kernel
theorem d_Mo_truth_5 : decode prog_12_method_8_code 5 = .ok (.aload_n 0, 1) := by decide +kernel
theorem d_Mo_truth_6 : decode prog_12_method_8_code 6 = .ok (.iconst 2, 1) := by decide +kernel
theorem d_Mo_truth_7 : decode prog_12_method_8_code 7 = .ok (.iload_n 1, 1) := by decide +kernel
theorem d_Mo_truth_8 : decode prog_12_method_8_code 8 = .ok (.ifCond .eq 7, 3) := by decide +kernel
theorem d_Mo_truth_11 : decode prog_12_method_8_code 11 = .ok (.lconst 1, 1) := by decide +kernel
theorem d_Mo_truth_12 : decode prog_12_method_8_code 12 = .ok (.goto 4, 3) := by decide +kernel
theorem d_Mo_truth_15 : decode prog_12_method_8_code 15 = .ok (.lconst 0, 1) := by decide +kernel
theorem d_Mo_truth_16 : decode prog_12_method_8_code 16 = .ok (.invokevirtual 57, 3) := by decide +kernel
theorem d_Mo_truth_19 : decode prog_12_method_8_code 19 = .ok (.ireturn, 1) := by decide +kernel
set_option maxHeartbeats 4000000 in
set_option maxRecDepth 100000 in
theorem c_Mo_truth (l : Launch) (dC : Nat → ClassId) (dI : Nat → Nat → Nat) (mo rt rk rv rw ro rr ra rc rl rb : Nat) (th fd mn md pt : Int32) (pz : Int64) (kc la ca : Int32) (cI cL : ClassId) (fk : Nat → Int32) (fv : Nat → Int64) (fw : Nat → Int32) (n : Nat) (sg : Int32) (hn : n < 16) : zM_i (S := Unit) l y_Mo_truth w_Mo_truth { frames := 1, cells := 0, slots := 0, locals := 23 } (dC, dI) vwCl [.ref mo, .int sg] [(mo, .inr (8, [.int th, .int fd, .ref rt, .int (nI n), .ref rk, .ref rv, .ref rw, .ref ro, .int md, .ref rr, .int pt, .ref ra, .long pz, .int kc, .ref rc, .ref rl, .ref rb, .int la, .int ca])), (rk, .inl (cI, 16, .inl fk)), (rv, .inl (cL, 16, .inr (.inl fv))), (rw, .inl (cI, 16, .inl fw))] [(cI, .int), (cL, .long)] (fun (r : Int32) (u : Unit) => r = nI (n + 1)) (fun u => [(mo, .inr (8, [.int 0, .int fd, .ref rt, .int (nI (n + 1)), .ref rk, .ref rv, .ref rw, .ref ro, .int md, .ref rr, .int pt, .ref ra, .long pz, .int kc, .ref rc, .ref rl, .ref rb, .int la, .int ca])), (rk, .inl (cI, 16, .inl (upd fk n 2))), (rv, .inl (cL, 16, .inr (.inl (vp_updL fv n (nm_t sg))))), (rw, .inl (cI, 16, .inl (upd fw n 0)))]) (fun u => [(cI, .int), (cL, .long)]) 0 0 := by
  refine zz_enteri (cc := prog_12_method_8_code) (nL := 2) (ret := (some .int)) (by decide) rfl (Nat.le_of_ble_eq_true rfl) ?_
  intro p e s m below meth c A ls C0 hA hS hP hK hD hl
  obtain ⟨hx, hb, hml, hown, hg, hr, hlocks, hin⟩ := C0
  have hown : s.vm.findClass "TextForgeModel" = some m.cls := hown
  have hP : va_P (dC, dI) vwCl [(mo, .inr (8, [.int th, .int fd, .ref rt, .int (nI n), .ref rk, .ref rv, .ref rw, .ref ro, .int md, .ref rr, .int pt, .ref ra, .long pz, .int kc, .ref rc, .ref rl, .ref rb, .int la, .int ca])), (rk, .inl (cI, 16, .inl fk)), (rv, .inl (cL, 16, .inr (.inl fv))), (rw, .inl (cI, 16, .inl fw))] s.heap := hP
  have hK : va_K (dC, dI) vwCl [(cI, .int), (cL, .long)] s := hK
  have hD : va_D A [(mo, .inr (8, [.int th, .int fd, .ref rt, .int (nI n), .ref rk, .ref rv, .ref rw, .ref ro, .int md, .ref rr, .int pt, .ref ra, .long pz, .int kc, .ref rc, .ref rl, .ref rb, .int la, .int ca])), (rk, .inl (cI, 16, .inl fk)), (rv, .inl (cL, 16, .inr (.inl fv))), (rw, .inl (cI, 16, .inl fw))] := hD
  have hl : lv_has ls 2 [(0, .ref mo), (1, .int sg)] := hl
  refine lv_aload_n hx hb d_Mo_truth_0 rfl (lv_at hl 0 rfl) ?_
  refine lv_iconst (v := 0) hx hb d_Mo_truth_1 (by decide) ?_
  refine va_put (D := (dC, dI)) (ci := 8) (v := .int 0) (ty := .int) (C := "TextForgeModel") (T := TX8) (N := 19) hx hb hg iwX8 tyX8 tyX8_ok nmX8 hown hK hP hD hS 0 rfl rfl 0 (by decide) (hg _ kw_726) (fun _ h9 => h9) rfl (by decide +kernel) rfl rfl (Nat.le_of_ble_eq_true rfl) d_Mo_truth_2 (fun H locs hP hD hS => ?_)
  have hP : va_P (dC, dI) vwCl [(mo, .inr (8, [.int 0, .int fd, .ref rt, .int (nI n), .ref rk, .ref rv, .ref rw, .ref ro, .int md, .ref rr, .int pt, .ref ra, .long pz, .int kc, .ref rc, .ref rl, .ref rb, .int la, .int ca])), (rk, .inl (cI, 16, .inl fk)), (rv, .inl (cL, 16, .inr (.inl fv))), (rw, .inl (cI, 16, .inl fw))] H := hP
  have hD : va_D A [(mo, .inr (8, [.int 0, .int fd, .ref rt, .int (nI n), .ref rk, .ref rv, .ref rw, .ref ro, .int md, .ref rr, .int pt, .ref ra, .long pz, .int kc, .ref rc, .ref rl, .ref rb, .int la, .int ca])), (rk, .inl (cI, 16, .inl fk)), (rv, .inl (cL, 16, .inr (.inl fv))), (rw, .inl (cI, 16, .inl fw))] := hD
  refine lv_aload_n hx hb d_Mo_truth_5 rfl (lv_at hl 0 rfl) ?_
  refine lv_iconst (v := 2) hx hb d_Mo_truth_6 (by decide) ?_
  refine lv_iload_n hx hb d_Mo_truth_7 rfl (lv_at hl 1 rfl) ?_
  refine lv_if_eq (tgt := 15) hx hb d_Mo_truth_8 (by decide) (fun c_8 => ?_) (fun c_8 => ?_)
  · skip
    refine lv_lconst (v := 0) hx hb d_Mo_truth_15 (by decide) ?_
    have hPc := hP.sub (ws' := [(mo, .inr (8, [.int 0, .int fd, .ref rt, .int (nI n), .ref rk, .ref rv, .ref rw, .ref ro, .int md, .ref rr, .int pt, .ref ra, .long pz, .int kc, .ref rc, .ref rl, .ref rb, .int la, .int ca])), (rk, .inl (cI, 16, .inl fk)), (rv, .inl (cL, 16, .inr (.inl fv))), (rw, .inl (cI, 16, .inl fw))]) [0, 1, 2, 3] rfl
    have hKc := hK.sub (tys' := [(cI, .int), (cL, .long)]) [0, 1] rfl
    have hDc := hD.sub (ws' := [(mo, .inr (8, [.int 0, .int fd, .ref rt, .int (nI n), .ref rk, .ref rv, .ref rw, .ref ro, .int md, .ref rr, .int pt, .ref ra, .long pz, .int kc, .ref rc, .ref rl, .ref rb, .int la, .int ca])), (rk, .inl (cI, 16, .inl fk)), (rv, .inl (cL, 16, .inr (.inl fv))), (rw, .inl (cI, 16, .inl fw))]) [0, 1, 2, 3] (by decide) rfl
    have hFc := va_free (wc := [(mo, .inr (8, [.int 0, .int fd, .ref rt, .int (nI n), .ref rk, .ref rv, .ref rw, .ref ro, .int md, .ref rr, .int pt, .ref ra, .long pz, .int kc, .ref rc, .ref rl, .ref rb, .int la, .int ca])), (rk, .inl (cI, 16, .inl fk)), (rv, .inl (cL, 16, .inr (.inl fv))), (rw, .inl (cI, 16, .inl fw))]) hD hS hA [0, 1, 2, 3] rfl
    refine zz_calli (va_runV (As := [.int 2, .long 0]) (rest := []) ⟨hx, hb, hml, hown, hg⟩ (c_Mo_argue l dC dI mo rt rk rv rw ro rr ra rc rl rb 0 fd (nI n) md pt pz kc la ca cI cL fk fv fw n 2 0 hn H.size) (cwV 2 hg (gi_V kw_801 kw_803 sw_10 kw_9 kw_804) rfl rfl rfl (by decide +kernel) ⟨Nat.le_of_ble_eq_true rfl, Nat.le_of_ble_eq_true rfl⟩) (zz_preV hPc hKc hDc _ (q0 := 0) (ci := 8) rfl rfl) rfl rfl hl.1 rfl (lv_room (Nat.le_of_ble_eq_true rfl)) d_Mo_truth_16 ⟨Nat.le_of_ble_eq_true rfl, Nat.le_of_ble_eq_true rfl⟩) hS hFc (fun u H1 k9 p9 d9 => va_join (wr := []) hP hD [0, 1, 2, 3] [] rfl rfl (by decide) (by decide) k9 hFc p9 d9) (fun r_2 u H locs hw hP hD hK1 hS => ?_)
    obtain ⟨u_1, rfl⟩ : ∃ z, z = u := ⟨_, rfl⟩
    try dsimp only at hw
    have hP : va_P (dC, dI) vwCl [(mo, .inr (8, [.int 0, .int fd, .ref rt, .int (nI (n + 1)), .ref rk, .ref rv, .ref rw, .ref ro, .int md, .ref rr, .int pt, .ref ra, .long pz, .int kc, .ref rc, .ref rl, .ref rb, .int la, .int ca])), (rk, .inl (cI, 16, .inl (upd fk n 2))), (rv, .inl (cL, 16, .inr (.inl (vp_updL fv n 0)))), (rw, .inl (cI, 16, .inl (upd fw n 0)))] H := hP
    have hD : va_D A [(mo, .inr (8, [.int 0, .int fd, .ref rt, .int (nI (n + 1)), .ref rk, .ref rv, .ref rw, .ref ro, .int md, .ref rr, .int pt, .ref ra, .long pz, .int kc, .ref rc, .ref rl, .ref rb, .int la, .int ca])), (rk, .inl (cI, 16, .inl (upd fk n 2))), (rv, .inl (cL, 16, .inr (.inl (vp_updL fv n 0)))), (rw, .inl (cI, 16, .inl (upd fw n 0)))] := hD
    have hrr := hw
    have hP9 := hP.sub (ws' := [(mo, .inr (8, [.int 0, .int fd, .ref rt, .int (nI (n + 1)), .ref rk, .ref rv, .ref rw, .ref ro, .int md, .ref rr, .int pt, .ref ra, .long pz, .int kc, .ref rc, .ref rl, .ref rb, .int la, .int ca])), (rk, .inl (cI, 16, .inl (upd fk n 2))), (rv, .inl (cL, 16, .inr (.inl (vp_updL fv n 0)))), (rw, .inl (cI, 16, .inl (upd fw n 0)))]) [0, 1, 2, 3] rfl
    have hD9 := hD.sub (ws' := [(mo, .inr (8, [.int 0, .int fd, .ref rt, .int (nI (n + 1)), .ref rk, .ref rv, .ref rw, .ref ro, .int md, .ref rr, .int pt, .ref ra, .long pz, .int kc, .ref rc, .ref rl, .ref rb, .int la, .int ca])), (rk, .inl (cI, 16, .inl (upd fk n 2))), (rv, .inl (cL, 16, .inr (.inl (vp_updL fv n 0)))), (rw, .inl (cI, 16, .inl (upd fw n 0)))]) [0, 1, 2, 3] (by decide) rfl
    have hK9 := hK.sub (tys' := [(cI, .int), (cL, .long)]) [0, 1] rfl
    rw [show vp_updL fv n 0 = vp_updL fv n (nm_t sg) by rw [nm_t0 c_8]] at hP9 hD9
    exact zz_iret hx hb hr hlocks d_Mo_truth_19 hS (by first | exact Nat.le_refl _ | decide | omega | (dsimp only; omega)) (by first | exact Nat.le_refl _ | decide | omega | (dsimp only; omega)) () hrr hP9 hK9 hD9
  · skip
    refine lv_lconst (v := 1) hx hb d_Mo_truth_11 (by decide) ?_
    refine lv_goto (tgt := 16) hx hb d_Mo_truth_12 (by decide) ?_
    have hPc := hP.sub (ws' := [(mo, .inr (8, [.int 0, .int fd, .ref rt, .int (nI n), .ref rk, .ref rv, .ref rw, .ref ro, .int md, .ref rr, .int pt, .ref ra, .long pz, .int kc, .ref rc, .ref rl, .ref rb, .int la, .int ca])), (rk, .inl (cI, 16, .inl fk)), (rv, .inl (cL, 16, .inr (.inl fv))), (rw, .inl (cI, 16, .inl fw))]) [0, 1, 2, 3] rfl
    have hKc := hK.sub (tys' := [(cI, .int), (cL, .long)]) [0, 1] rfl
    have hDc := hD.sub (ws' := [(mo, .inr (8, [.int 0, .int fd, .ref rt, .int (nI n), .ref rk, .ref rv, .ref rw, .ref ro, .int md, .ref rr, .int pt, .ref ra, .long pz, .int kc, .ref rc, .ref rl, .ref rb, .int la, .int ca])), (rk, .inl (cI, 16, .inl fk)), (rv, .inl (cL, 16, .inr (.inl fv))), (rw, .inl (cI, 16, .inl fw))]) [0, 1, 2, 3] (by decide) rfl
    have hFc := va_free (wc := [(mo, .inr (8, [.int 0, .int fd, .ref rt, .int (nI n), .ref rk, .ref rv, .ref rw, .ref ro, .int md, .ref rr, .int pt, .ref ra, .long pz, .int kc, .ref rc, .ref rl, .ref rb, .int la, .int ca])), (rk, .inl (cI, 16, .inl fk)), (rv, .inl (cL, 16, .inr (.inl fv))), (rw, .inl (cI, 16, .inl fw))]) hD hS hA [0, 1, 2, 3] rfl
    refine zz_calli (va_runV (As := [.int 2, .long 1]) (rest := []) ⟨hx, hb, hml, hown, hg⟩ (c_Mo_argue l dC dI mo rt rk rv rw ro rr ra rc rl rb 0 fd (nI n) md pt pz kc la ca cI cL fk fv fw n 2 1 hn H.size) (cwV 2 hg (gi_V kw_801 kw_803 sw_10 kw_9 kw_804) rfl rfl rfl (by decide +kernel) ⟨Nat.le_of_ble_eq_true rfl, Nat.le_of_ble_eq_true rfl⟩) (zz_preV hPc hKc hDc _ (q0 := 0) (ci := 8) rfl rfl) rfl rfl hl.1 rfl (lv_room (Nat.le_of_ble_eq_true rfl)) d_Mo_truth_16 ⟨Nat.le_of_ble_eq_true rfl, Nat.le_of_ble_eq_true rfl⟩) hS hFc (fun u H1 k9 p9 d9 => va_join (wr := []) hP hD [0, 1, 2, 3] [] rfl rfl (by decide) (by decide) k9 hFc p9 d9) (fun r_4 u H locs hw hP hD hK1 hS => ?_)
    obtain ⟨u_3, rfl⟩ : ∃ z, z = u := ⟨_, rfl⟩
    try dsimp only at hw
    have hP : va_P (dC, dI) vwCl [(mo, .inr (8, [.int 0, .int fd, .ref rt, .int (nI (n + 1)), .ref rk, .ref rv, .ref rw, .ref ro, .int md, .ref rr, .int pt, .ref ra, .long pz, .int kc, .ref rc, .ref rl, .ref rb, .int la, .int ca])), (rk, .inl (cI, 16, .inl (upd fk n 2))), (rv, .inl (cL, 16, .inr (.inl (vp_updL fv n 1)))), (rw, .inl (cI, 16, .inl (upd fw n 0)))] H := hP
    have hD : va_D A [(mo, .inr (8, [.int 0, .int fd, .ref rt, .int (nI (n + 1)), .ref rk, .ref rv, .ref rw, .ref ro, .int md, .ref rr, .int pt, .ref ra, .long pz, .int kc, .ref rc, .ref rl, .ref rb, .int la, .int ca])), (rk, .inl (cI, 16, .inl (upd fk n 2))), (rv, .inl (cL, 16, .inr (.inl (vp_updL fv n 1)))), (rw, .inl (cI, 16, .inl (upd fw n 0)))] := hD
    have hrr := hw
    have hP9 := hP.sub (ws' := [(mo, .inr (8, [.int 0, .int fd, .ref rt, .int (nI (n + 1)), .ref rk, .ref rv, .ref rw, .ref ro, .int md, .ref rr, .int pt, .ref ra, .long pz, .int kc, .ref rc, .ref rl, .ref rb, .int la, .int ca])), (rk, .inl (cI, 16, .inl (upd fk n 2))), (rv, .inl (cL, 16, .inr (.inl (vp_updL fv n 1)))), (rw, .inl (cI, 16, .inl (upd fw n 0)))]) [0, 1, 2, 3] rfl
    have hD9 := hD.sub (ws' := [(mo, .inr (8, [.int 0, .int fd, .ref rt, .int (nI (n + 1)), .ref rk, .ref rv, .ref rw, .ref ro, .int md, .ref rr, .int pt, .ref ra, .long pz, .int kc, .ref rc, .ref rl, .ref rb, .int la, .int ca])), (rk, .inl (cI, 16, .inl (upd fk n 2))), (rv, .inl (cL, 16, .inr (.inl (vp_updL fv n 1)))), (rw, .inl (cI, 16, .inl (upd fw n 0)))]) [0, 1, 2, 3] (by decide) rfl
    have hK9 := hK.sub (tys' := [(cI, .int), (cL, .long)]) [0, 1] rfl
    rw [show vp_updL fv n 1 = vp_updL fv n (nm_t sg) by rw [nm_t1 c_8]] at hP9 hD9
    exact zz_iret hx hb hr hlocks d_Mo_truth_19 hS (by first | exact Nat.le_refl _ | decide | omega | (dsimp only; omega)) (by first | exact Nat.le_refl _ | decide | omega | (dsimp only; omega)) () hrr hP9 hK9 hD9
set_option maxHeartbeats 4000000 in
set_option maxRecDepth 100000 in
theorem c_Mo_truthT (l : Launch) (dC : Nat → ClassId) (dI : Nat → Nat → Nat) (mo rt rk rv rw ro rr ra rc rl rb : Nat) (th fd mn md pt : Int32) (pz : Int64) (kc la ca : Int32) (sg : Int32)  : zM_i (S := Unit) l y_Mo_truth w_Mo_truth { frames := 2, cells := 0, slots := 0, locals := 44 } (dC, dI) vwCl [.ref mo, .int sg] [(mo, .inr (8, [.int th, .int fd, .ref rt, .int (nI 16), .ref rk, .ref rv, .ref rw, .ref ro, .int md, .ref rr, .int pt, .ref ra, .long pz, .int kc, .ref rc, .ref rl, .ref rb, .int la, .int ca]))] [] (fun (r : Int32) (u : Unit) => r = 0) (fun u => [(mo, .inr (8, [.int 1, .int fd, .ref rt, .int (nI 16), .ref rk, .ref rv, .ref rw, .ref ro, .int md, .ref rr, .int pt, .ref ra, .long pz, .int kc, .ref rc, .ref rl, .ref rb, .int la, .int ca]))]) (fun u => []) 0 0 := by
  refine zz_enteri (cc := prog_12_method_8_code) (nL := 2) (ret := (some .int)) (by decide) rfl (Nat.le_of_ble_eq_true rfl) ?_
  intro p e s m below meth c A ls C0 hA hS hP hK hD hl
  obtain ⟨hx, hb, hml, hown, hg, hr, hlocks, hin⟩ := C0
  have hown : s.vm.findClass "TextForgeModel" = some m.cls := hown
  have hP : va_P (dC, dI) vwCl [(mo, .inr (8, [.int th, .int fd, .ref rt, .int (nI 16), .ref rk, .ref rv, .ref rw, .ref ro, .int md, .ref rr, .int pt, .ref ra, .long pz, .int kc, .ref rc, .ref rl, .ref rb, .int la, .int ca]))] s.heap := hP
  have hK : va_K (dC, dI) vwCl [] s := hK
  have hD : va_D A [(mo, .inr (8, [.int th, .int fd, .ref rt, .int (nI 16), .ref rk, .ref rv, .ref rw, .ref ro, .int md, .ref rr, .int pt, .ref ra, .long pz, .int kc, .ref rc, .ref rl, .ref rb, .int la, .int ca]))] := hD
  have hl : lv_has ls 2 [(0, .ref mo), (1, .int sg)] := hl
  refine lv_aload_n hx hb d_Mo_truth_0 rfl (lv_at hl 0 rfl) ?_
  refine lv_iconst (v := 0) hx hb d_Mo_truth_1 (by decide) ?_
  refine va_put (D := (dC, dI)) (ci := 8) (v := .int 0) (ty := .int) (C := "TextForgeModel") (T := TX8) (N := 19) hx hb hg iwX8 tyX8 tyX8_ok nmX8 hown hK hP hD hS 0 rfl rfl 0 (by decide) (hg _ kw_726) (fun _ h9 => h9) rfl (by decide +kernel) rfl rfl (Nat.le_of_ble_eq_true rfl) d_Mo_truth_2 (fun H locs hP hD hS => ?_)
  have hP : va_P (dC, dI) vwCl [(mo, .inr (8, [.int 0, .int fd, .ref rt, .int (nI 16), .ref rk, .ref rv, .ref rw, .ref ro, .int md, .ref rr, .int pt, .ref ra, .long pz, .int kc, .ref rc, .ref rl, .ref rb, .int la, .int ca]))] H := hP
  have hD : va_D A [(mo, .inr (8, [.int 0, .int fd, .ref rt, .int (nI 16), .ref rk, .ref rv, .ref rw, .ref ro, .int md, .ref rr, .int pt, .ref ra, .long pz, .int kc, .ref rc, .ref rl, .ref rb, .int la, .int ca]))] := hD
  refine lv_aload_n hx hb d_Mo_truth_5 rfl (lv_at hl 0 rfl) ?_
  refine lv_iconst (v := 2) hx hb d_Mo_truth_6 (by decide) ?_
  refine lv_iload_n hx hb d_Mo_truth_7 rfl (lv_at hl 1 rfl) ?_
  refine lv_if_eq (tgt := 15) hx hb d_Mo_truth_8 (by decide) (fun c_8 => ?_) (fun c_8 => ?_)
  · skip
    refine lv_lconst (v := 0) hx hb d_Mo_truth_15 (by decide) ?_
    have hPc := hP.sub (ws' := [(mo, .inr (8, [.int 0, .int fd, .ref rt, .int (nI 16), .ref rk, .ref rv, .ref rw, .ref ro, .int md, .ref rr, .int pt, .ref ra, .long pz, .int kc, .ref rc, .ref rl, .ref rb, .int la, .int ca]))]) [0] rfl
    have hKc := hK.sub (tys' := []) [] rfl
    have hDc := hD.sub (ws' := [(mo, .inr (8, [.int 0, .int fd, .ref rt, .int (nI 16), .ref rk, .ref rv, .ref rw, .ref ro, .int md, .ref rr, .int pt, .ref ra, .long pz, .int kc, .ref rc, .ref rl, .ref rb, .int la, .int ca]))]) [0] (by decide) rfl
    have hFc := va_free (wc := [(mo, .inr (8, [.int 0, .int fd, .ref rt, .int (nI 16), .ref rk, .ref rv, .ref rw, .ref ro, .int md, .ref rr, .int pt, .ref ra, .long pz, .int kc, .ref rc, .ref rl, .ref rb, .int la, .int ca]))]) hD hS hA [0] rfl
    refine zz_calli (va_runV (As := [.int 2, .long 0]) (rest := []) ⟨hx, hb, hml, hown, hg⟩ (c_Mo_argueT l dC dI mo rt rk rv rw ro rr ra rc rl rb 0 fd (nI 16) md pt pz kc la ca 2 0  H.size) (cwV 2 hg (gi_V kw_801 kw_803 sw_10 kw_9 kw_804) rfl rfl rfl (by decide +kernel) ⟨Nat.le_of_ble_eq_true rfl, Nat.le_of_ble_eq_true rfl⟩) (zz_preV hPc hKc hDc _ (q0 := 0) (ci := 8) rfl rfl) rfl rfl hl.1 rfl (lv_room (Nat.le_of_ble_eq_true rfl)) d_Mo_truth_16 ⟨Nat.le_of_ble_eq_true rfl, Nat.le_of_ble_eq_true rfl⟩) hS hFc (fun u H1 k9 p9 d9 => va_join (wr := []) hP hD [0] [] rfl rfl (by decide) (by decide) k9 hFc p9 d9) (fun r_2 u H locs hw hP hD hK1 hS => ?_)
    obtain ⟨u_1, rfl⟩ : ∃ z, z = u := ⟨_, rfl⟩
    try dsimp only at hw
    have hP : va_P (dC, dI) vwCl [(mo, .inr (8, [.int 1, .int fd, .ref rt, .int (nI 16), .ref rk, .ref rv, .ref rw, .ref ro, .int md, .ref rr, .int pt, .ref ra, .long pz, .int kc, .ref rc, .ref rl, .ref rb, .int la, .int ca]))] H := hP
    have hD : va_D A [(mo, .inr (8, [.int 1, .int fd, .ref rt, .int (nI 16), .ref rk, .ref rv, .ref rw, .ref ro, .int md, .ref rr, .int pt, .ref ra, .long pz, .int kc, .ref rc, .ref rl, .ref rb, .int la, .int ca]))] := hD
    have hrr := hw
    have hP9 := hP.sub (ws' := [(mo, .inr (8, [.int 1, .int fd, .ref rt, .int (nI 16), .ref rk, .ref rv, .ref rw, .ref ro, .int md, .ref rr, .int pt, .ref ra, .long pz, .int kc, .ref rc, .ref rl, .ref rb, .int la, .int ca]))]) [0] rfl
    have hD9 := hD.sub (ws' := [(mo, .inr (8, [.int 1, .int fd, .ref rt, .int (nI 16), .ref rk, .ref rv, .ref rw, .ref ro, .int md, .ref rr, .int pt, .ref ra, .long pz, .int kc, .ref rc, .ref rl, .ref rb, .int la, .int ca]))]) [0] (by decide) rfl
    have hK9 := hK.sub (tys' := []) [] rfl
    exact zz_iret hx hb hr hlocks d_Mo_truth_19 hS (by first | exact Nat.le_refl _ | decide | omega | (dsimp only; omega)) (by first | exact Nat.le_refl _ | decide | omega | (dsimp only; omega)) () hrr hP9 hK9 hD9
  · skip
    refine lv_lconst (v := 1) hx hb d_Mo_truth_11 (by decide) ?_
    refine lv_goto (tgt := 16) hx hb d_Mo_truth_12 (by decide) ?_
    have hPc := hP.sub (ws' := [(mo, .inr (8, [.int 0, .int fd, .ref rt, .int (nI 16), .ref rk, .ref rv, .ref rw, .ref ro, .int md, .ref rr, .int pt, .ref ra, .long pz, .int kc, .ref rc, .ref rl, .ref rb, .int la, .int ca]))]) [0] rfl
    have hKc := hK.sub (tys' := []) [] rfl
    have hDc := hD.sub (ws' := [(mo, .inr (8, [.int 0, .int fd, .ref rt, .int (nI 16), .ref rk, .ref rv, .ref rw, .ref ro, .int md, .ref rr, .int pt, .ref ra, .long pz, .int kc, .ref rc, .ref rl, .ref rb, .int la, .int ca]))]) [0] (by decide) rfl
    have hFc := va_free (wc := [(mo, .inr (8, [.int 0, .int fd, .ref rt, .int (nI 16), .ref rk, .ref rv, .ref rw, .ref ro, .int md, .ref rr, .int pt, .ref ra, .long pz, .int kc, .ref rc, .ref rl, .ref rb, .int la, .int ca]))]) hD hS hA [0] rfl
    refine zz_calli (va_runV (As := [.int 2, .long 1]) (rest := []) ⟨hx, hb, hml, hown, hg⟩ (c_Mo_argueT l dC dI mo rt rk rv rw ro rr ra rc rl rb 0 fd (nI 16) md pt pz kc la ca 2 1  H.size) (cwV 2 hg (gi_V kw_801 kw_803 sw_10 kw_9 kw_804) rfl rfl rfl (by decide +kernel) ⟨Nat.le_of_ble_eq_true rfl, Nat.le_of_ble_eq_true rfl⟩) (zz_preV hPc hKc hDc _ (q0 := 0) (ci := 8) rfl rfl) rfl rfl hl.1 rfl (lv_room (Nat.le_of_ble_eq_true rfl)) d_Mo_truth_16 ⟨Nat.le_of_ble_eq_true rfl, Nat.le_of_ble_eq_true rfl⟩) hS hFc (fun u H1 k9 p9 d9 => va_join (wr := []) hP hD [0] [] rfl rfl (by decide) (by decide) k9 hFc p9 d9) (fun r_4 u H locs hw hP hD hK1 hS => ?_)
    obtain ⟨u_3, rfl⟩ : ∃ z, z = u := ⟨_, rfl⟩
    try dsimp only at hw
    have hP : va_P (dC, dI) vwCl [(mo, .inr (8, [.int 1, .int fd, .ref rt, .int (nI 16), .ref rk, .ref rv, .ref rw, .ref ro, .int md, .ref rr, .int pt, .ref ra, .long pz, .int kc, .ref rc, .ref rl, .ref rb, .int la, .int ca]))] H := hP
    have hD : va_D A [(mo, .inr (8, [.int 1, .int fd, .ref rt, .int (nI 16), .ref rk, .ref rv, .ref rw, .ref ro, .int md, .ref rr, .int pt, .ref ra, .long pz, .int kc, .ref rc, .ref rl, .ref rb, .int la, .int ca]))] := hD
    have hrr := hw
    have hP9 := hP.sub (ws' := [(mo, .inr (8, [.int 1, .int fd, .ref rt, .int (nI 16), .ref rk, .ref rv, .ref rw, .ref ro, .int md, .ref rr, .int pt, .ref ra, .long pz, .int kc, .ref rc, .ref rl, .ref rb, .int la, .int ca]))]) [0] rfl
    have hD9 := hD.sub (ws' := [(mo, .inr (8, [.int 1, .int fd, .ref rt, .int (nI 16), .ref rk, .ref rv, .ref rw, .ref ro, .int md, .ref rr, .int pt, .ref ra, .long pz, .int kc, .ref rc, .ref rl, .ref rb, .int la, .int ca]))]) [0] (by decide) rfl
    have hK9 := hK.sub (tys' := []) [] rfl
    exact zz_iret hx hb hr hlocks d_Mo_truth_19 hS (by first | exact Nat.le_refl _ | decide | omega | (dsimp only; omega)) (by first | exact Nat.le_refl _ | decide | omega | (dsimp only; omega)) () hrr hP9 hK9 hD9
abbrev y_Mo_thing : MethodName := ⟨"TextForgeModel", "thing", "(I)I"⟩
abbrev w_Mo_thing : List Cond := Cond.code y_Mo_thing prog_12_method_10_code 2 (some .int) :: gw
theorem d_Mo_thing_0 : decode prog_12_method_10_code 0 = .ok (.aload_n 0, 1) := by decide +kernel
theorem d_Mo_thing_1 : decode prog_12_method_10_code 1 = .ok (.iconst 0, 1) := by decide +kernel
theorem d_Mo_thing_2 : decode prog_12_method_10_code 2 = .ok (.putfield 43, 3) := by decide +kernel
theorem d_Mo_thing_5 : decode prog_12_method_10_code 5 = .ok (.iload_n 1, 1) := by decide +kernel
theorem d_Mo_thing_6 : decode prog_12_method_10_code 6 = .ok (.iconst (-1), 1) := by decide +kernel
theorem d_Mo_thing_7 : decode prog_12_method_10_code 7 = .ok (.if_icmp .lt 9, 3) := by decide +kernel
theorem d_Mo_thing_10 : decode prog_12_method_10_code 10 = .ok (.iload_n 1, 1) := by decide +kernel
theorem d_Mo_thing_11 : decode prog_12_method_10_code 11 = .ok (.bipush 8, 2) := by decide +kernel
theorem d_Mo_thing_13 : decode prog_12_method_10_code 13 = .ok (.if_icmp .le 9, 3) := by decide +kernel
theorem d_Mo_thing_16 : decode prog_12_method_10_code 16 = .ok (.aload_n 0, 1) := by decide +kernel
theorem d_Mo_thing_17 : decode prog_12_method_10_code 17 = .ok (.iconst 1, 1) := by decide +kernel
theorem d_Mo_thing_18 : decode prog_12_method_10_code 18 = .ok (.invokevirtual 53, 3) := by decide +kernel
theorem d_Mo_thing_21 : decode prog_12_method_10_code 21 = .ok (.ireturn, 1) := by decide +kernel
theorem d_Mo_thing_22 : decode prog_12_method_10_code 22 = .ok (.aload_n 0, 1) := by decide +kernel
theorem d_Mo_thing_23 : decode prog_12_method_10_code 23 = .ok (.getfield 50, 3) := by decide +kernel
theorem d_Mo_thing_26 : decode prog_12_method_10_code 26 = .ok (.bipush 16, 2) := by decide +kernel
theorem d_Mo_thing_28 : decode prog_12_method_10_code 28 = .ok (.if_icmp .ne 9, 3) := by decide +kernel
theorem d_Mo_thing_31 : decode prog_12_method_10_code 31 = .ok (.aload_n 0, 1) := by decide +kernel
theorem d_Mo_thing_32 : decode prog_12_method_10_code 32 = .ok (.iconst 2, 1) := by decide +kernel
theorem d_Mo_thing_33 : decode prog_12_method_10_code 33 = .ok (.invokevirtual 53, 3) := by decide +kernel
theorem d_Mo_thing_36 : decode prog_12_method_10_code 36 = .ok (.ireturn, 1) := by decide +kernel
theorem d_Mo_thing_37 : decode prog_12_method_10_code 37 = .ok (.aload_n 0, 1) := by decide +kernel
theorem d_Mo_thing_38 : decode prog_12_method_10_code 38 = .ok (.iload_n 1, 1) := by decide +kernel
theorem d_Mo_thing_39 : decode prog_12_method_10_code 39 = .ok (.ifCond .ge 7, 3) := by decide +kernel
theorem d_Mo_thing_42 : decode prog_12_method_10_code 42 = .ok (.iconst 4, 1) := by decide +kernel
theorem d_Mo_thing_43 : decode prog_12_method_10_code 43 = .ok (.goto 4, 3) := by decide +kernel
theorem d_Mo_thing_46 : decode prog_12_method_10_code 46 = .ok (.iconst 5, 1) := by decide +kernel
theorem d_Mo_thing_47 : decode prog_12_method_10_code 47 = .ok (.iload_n 1, 1) := by decide +kernel
theorem d_Mo_thing_48 : decode prog_12_method_10_code 48 = .ok (.i2l, 1) := by decide +kernel
theorem d_Mo_thing_49 : decode prog_12_method_10_code 49 = .ok (.invokevirtual 57, 3) := by decide +kernel
theorem d_Mo_thing_52 : decode prog_12_method_10_code 52 = .ok (.ireturn, 1) := by decide +kernel
set_option maxHeartbeats 4000000 in
set_option maxRecDepth 100000 in
theorem c_Mo_thing (l : Launch) (dC : Nat → ClassId) (dI : Nat → Nat → Nat) (mo rt rk rv rw ro rr ra rc rl rb : Nat) (th fd mn md pt : Int32) (pz : Int64) (kc la ca : Int32) (cI cL : ClassId) (fk : Nat → Int32) (fv : Nat → Int64) (fw : Nat → Int32) (n : Nat) (v : Int32) (hn : n < 16) (hv1 : ¬ v < -1) (hv2 : v ≤ 8) : zM_i (S := Unit) l y_Mo_thing w_Mo_thing { frames := 1, cells := 0, slots := 0, locals := 23 } (dC, dI) vwCl [.ref mo, .int v] [(mo, .inr (8, [.int th, .int fd, .ref rt, .int (nI n), .ref rk, .ref rv, .ref rw, .ref ro, .int md, .ref rr, .int pt, .ref ra, .long pz, .int kc, .ref rc, .ref rl, .ref rb, .int la, .int ca])), (rk, .inl (cI, 16, .inl fk)), (rv, .inl (cL, 16, .inr (.inl fv))), (rw, .inl (cI, 16, .inl fw))] [(cI, .int), (cL, .long)] (fun (r : Int32) (u : Unit) => r = nI (n + 1)) (fun u => [(mo, .inr (8, [.int 0, .int fd, .ref rt, .int (nI (n + 1)), .ref rk, .ref rv, .ref rw, .ref ro, .int md, .ref rr, .int pt, .ref ra, .long pz, .int kc, .ref rc, .ref rl, .ref rb, .int la, .int ca])), (rk, .inl (cI, 16, .inl (upd fk n (mk_t v)))), (rv, .inl (cL, 16, .inr (.inl (vp_updL fv n v.toInt64)))), (rw, .inl (cI, 16, .inl (upd fw n 0)))]) (fun u => [(cI, .int), (cL, .long)]) 0 0 := by
  refine zz_enteri (cc := prog_12_method_10_code) (nL := 2) (ret := (some .int)) (by decide) rfl (Nat.le_of_ble_eq_true rfl) ?_
  intro p e s m below meth c A ls C0 hA hS hP hK hD hl
  obtain ⟨hx, hb, hml, hown, hg, hr, hlocks, hin⟩ := C0
  have hown : s.vm.findClass "TextForgeModel" = some m.cls := hown
  have hP : va_P (dC, dI) vwCl [(mo, .inr (8, [.int th, .int fd, .ref rt, .int (nI n), .ref rk, .ref rv, .ref rw, .ref ro, .int md, .ref rr, .int pt, .ref ra, .long pz, .int kc, .ref rc, .ref rl, .ref rb, .int la, .int ca])), (rk, .inl (cI, 16, .inl fk)), (rv, .inl (cL, 16, .inr (.inl fv))), (rw, .inl (cI, 16, .inl fw))] s.heap := hP
  have hK : va_K (dC, dI) vwCl [(cI, .int), (cL, .long)] s := hK
  have hD : va_D A [(mo, .inr (8, [.int th, .int fd, .ref rt, .int (nI n), .ref rk, .ref rv, .ref rw, .ref ro, .int md, .ref rr, .int pt, .ref ra, .long pz, .int kc, .ref rc, .ref rl, .ref rb, .int la, .int ca])), (rk, .inl (cI, 16, .inl fk)), (rv, .inl (cL, 16, .inr (.inl fv))), (rw, .inl (cI, 16, .inl fw))] := hD
  have hl : lv_has ls 2 [(0, .ref mo), (1, .int v)] := hl
  refine lv_aload_n hx hb d_Mo_thing_0 rfl (lv_at hl 0 rfl) ?_
  refine lv_iconst (v := 0) hx hb d_Mo_thing_1 (by decide) ?_
  refine va_put (D := (dC, dI)) (ci := 8) (v := .int 0) (ty := .int) (C := "TextForgeModel") (T := TX8) (N := 19) hx hb hg iwX8 tyX8 tyX8_ok nmX8 hown hK hP hD hS 0 rfl rfl 0 (by decide) (hg _ kw_726) (fun _ h9 => h9) rfl (by decide +kernel) rfl rfl (Nat.le_of_ble_eq_true rfl) d_Mo_thing_2 (fun H locs hP hD hS => ?_)
  have hP : va_P (dC, dI) vwCl [(mo, .inr (8, [.int 0, .int fd, .ref rt, .int (nI n), .ref rk, .ref rv, .ref rw, .ref ro, .int md, .ref rr, .int pt, .ref ra, .long pz, .int kc, .ref rc, .ref rl, .ref rb, .int la, .int ca])), (rk, .inl (cI, 16, .inl fk)), (rv, .inl (cL, 16, .inr (.inl fv))), (rw, .inl (cI, 16, .inl fw))] H := hP
  have hD : va_D A [(mo, .inr (8, [.int 0, .int fd, .ref rt, .int (nI n), .ref rk, .ref rv, .ref rw, .ref ro, .int md, .ref rr, .int pt, .ref ra, .long pz, .int kc, .ref rc, .ref rl, .ref rb, .int la, .int ca])), (rk, .inl (cI, 16, .inl fk)), (rv, .inl (cL, 16, .inr (.inl fv))), (rw, .inl (cI, 16, .inl fw))] := hD
  refine lv_iload_n hx hb d_Mo_thing_5 rfl (lv_at hl 1 rfl) ?_
  refine lv_iconst (v := (-1)) hx hb d_Mo_thing_6 (by decide) ?_
  refine lv_icmp_lt (tgt := 16) hx hb d_Mo_thing_7 (by decide) (fun c9 => by first | exact absurd c9 hv1 | exact absurd hv1 c9) (fun _ => ?_)
  refine lv_iload_n hx hb d_Mo_thing_10 rfl (lv_at hl 1 rfl) ?_
  refine lv_bipush (v := 8) hx hb d_Mo_thing_11 (by decide) ?_
  refine lv_icmp_le (tgt := 22) hx hb d_Mo_thing_13 (by decide) (fun _ => ?_) (fun c9 => by first | exact absurd c9 hv2 | exact absurd hv2 c9)
  refine lv_aload_n hx hb d_Mo_thing_22 rfl (lv_at hl 0 rfl) ?_
  refine va_get (D := (dC, dI)) (ci := 8) (v := .int (nI n)) (C := "TextForgeModel") (T := TX8) (N := 19) hx hb hg iwX8 hown hK hP 0 rfl rfl 3 (by decide) (hg _ kw_729) (fun _ h9 => h9) rfl d_Mo_thing_23 ?_
  refine lv_bipush (v := 16) hx hb d_Mo_thing_26 (by decide) ?_
  refine lv_icmp_ne (tgt := 37) hx hb d_Mo_thing_28 (by decide) (fun _ => ?_) (fun c9 => by first | exact absurd c9 (fun z => by have := nI_e1 (b := 16) z (by omega) (by decide); omega) | exact absurd (fun z => by have := nI_e1 (b := 16) z (by omega) (by decide); omega) c9)
  refine lv_aload_n hx hb d_Mo_thing_37 rfl (lv_at hl 0 rfl) ?_
  refine lv_iload_n hx hb d_Mo_thing_38 rfl (lv_at hl 1 rfl) ?_
  refine lv_if_ge (tgt := 46) hx hb d_Mo_thing_39 (by decide) (fun c_39 => ?_) (fun c_39 => ?_)
  · skip
    refine lv_iconst (v := 5) hx hb d_Mo_thing_46 (by decide) ?_
    refine lv_iload_n hx hb d_Mo_thing_47 rfl (lv_at hl 1 rfl) ?_
    refine lv_i2l hx hb d_Mo_thing_48 rfl ?_
    have hPc := hP.sub (ws' := [(mo, .inr (8, [.int 0, .int fd, .ref rt, .int (nI n), .ref rk, .ref rv, .ref rw, .ref ro, .int md, .ref rr, .int pt, .ref ra, .long pz, .int kc, .ref rc, .ref rl, .ref rb, .int la, .int ca])), (rk, .inl (cI, 16, .inl fk)), (rv, .inl (cL, 16, .inr (.inl fv))), (rw, .inl (cI, 16, .inl fw))]) [0, 1, 2, 3] rfl
    have hKc := hK.sub (tys' := [(cI, .int), (cL, .long)]) [0, 1] rfl
    have hDc := hD.sub (ws' := [(mo, .inr (8, [.int 0, .int fd, .ref rt, .int (nI n), .ref rk, .ref rv, .ref rw, .ref ro, .int md, .ref rr, .int pt, .ref ra, .long pz, .int kc, .ref rc, .ref rl, .ref rb, .int la, .int ca])), (rk, .inl (cI, 16, .inl fk)), (rv, .inl (cL, 16, .inr (.inl fv))), (rw, .inl (cI, 16, .inl fw))]) [0, 1, 2, 3] (by decide) rfl
    have hFc := va_free (wc := [(mo, .inr (8, [.int 0, .int fd, .ref rt, .int (nI n), .ref rk, .ref rv, .ref rw, .ref ro, .int md, .ref rr, .int pt, .ref ra, .long pz, .int kc, .ref rc, .ref rl, .ref rb, .int la, .int ca])), (rk, .inl (cI, 16, .inl fk)), (rv, .inl (cL, 16, .inr (.inl fv))), (rw, .inl (cI, 16, .inl fw))]) hD hS hA [0, 1, 2, 3] rfl
    refine zz_calli (va_runV (As := [.int 5, .long v.toInt64]) (rest := []) ⟨hx, hb, hml, hown, hg⟩ (c_Mo_argue l dC dI mo rt rk rv rw ro rr ra rc rl rb 0 fd (nI n) md pt pz kc la ca cI cL fk fv fw n 5 v.toInt64 hn H.size) (cwV 2 hg (gi_V kw_801 kw_803 sw_10 kw_9 kw_804) rfl rfl rfl (by decide +kernel) ⟨Nat.le_of_ble_eq_true rfl, Nat.le_of_ble_eq_true rfl⟩) (zz_preV hPc hKc hDc _ (q0 := 0) (ci := 8) rfl rfl) rfl rfl hl.1 rfl (lv_room (Nat.le_of_ble_eq_true rfl)) d_Mo_thing_49 ⟨Nat.le_of_ble_eq_true rfl, Nat.le_of_ble_eq_true rfl⟩) hS hFc (fun u H1 k9 p9 d9 => va_join (wr := []) hP hD [0, 1, 2, 3] [] rfl rfl (by decide) (by decide) k9 hFc p9 d9) (fun r_2 u H locs hw hP hD hK1 hS => ?_)
    obtain ⟨u_1, rfl⟩ : ∃ z, z = u := ⟨_, rfl⟩
    try dsimp only at hw
    have hP : va_P (dC, dI) vwCl [(mo, .inr (8, [.int 0, .int fd, .ref rt, .int (nI (n + 1)), .ref rk, .ref rv, .ref rw, .ref ro, .int md, .ref rr, .int pt, .ref ra, .long pz, .int kc, .ref rc, .ref rl, .ref rb, .int la, .int ca])), (rk, .inl (cI, 16, .inl (upd fk n 5))), (rv, .inl (cL, 16, .inr (.inl (vp_updL fv n v.toInt64)))), (rw, .inl (cI, 16, .inl (upd fw n 0)))] H := hP
    have hD : va_D A [(mo, .inr (8, [.int 0, .int fd, .ref rt, .int (nI (n + 1)), .ref rk, .ref rv, .ref rw, .ref ro, .int md, .ref rr, .int pt, .ref ra, .long pz, .int kc, .ref rc, .ref rl, .ref rb, .int la, .int ca])), (rk, .inl (cI, 16, .inl (upd fk n 5))), (rv, .inl (cL, 16, .inr (.inl (vp_updL fv n v.toInt64)))), (rw, .inl (cI, 16, .inl (upd fw n 0)))] := hD
    have hrr := hw
    have hP9 := hP.sub (ws' := [(mo, .inr (8, [.int 0, .int fd, .ref rt, .int (nI (n + 1)), .ref rk, .ref rv, .ref rw, .ref ro, .int md, .ref rr, .int pt, .ref ra, .long pz, .int kc, .ref rc, .ref rl, .ref rb, .int la, .int ca])), (rk, .inl (cI, 16, .inl (upd fk n 5))), (rv, .inl (cL, 16, .inr (.inl (vp_updL fv n v.toInt64)))), (rw, .inl (cI, 16, .inl (upd fw n 0)))]) [0, 1, 2, 3] rfl
    have hD9 := hD.sub (ws' := [(mo, .inr (8, [.int 0, .int fd, .ref rt, .int (nI (n + 1)), .ref rk, .ref rv, .ref rw, .ref ro, .int md, .ref rr, .int pt, .ref ra, .long pz, .int kc, .ref rc, .ref rl, .ref rb, .int la, .int ca])), (rk, .inl (cI, 16, .inl (upd fk n 5))), (rv, .inl (cL, 16, .inr (.inl (vp_updL fv n v.toInt64)))), (rw, .inl (cI, 16, .inl (upd fw n 0)))]) [0, 1, 2, 3] (by decide) rfl
    have hK9 := hK.sub (tys' := [(cI, .int), (cL, .long)]) [0, 1] rfl
    rw [show upd fk n 5 = upd fk n (mk_t v) by rw [mk_t5 c_39]] at hP9 hD9
    exact zz_iret hx hb hr hlocks d_Mo_thing_52 hS (by first | exact Nat.le_refl _ | decide | omega | (dsimp only; omega)) (by first | exact Nat.le_refl _ | decide | omega | (dsimp only; omega)) () hrr hP9 hK9 hD9
  · skip
    refine lv_iconst (v := 4) hx hb d_Mo_thing_42 (by decide) ?_
    refine lv_goto (tgt := 47) hx hb d_Mo_thing_43 (by decide) ?_
    refine lv_iload_n hx hb d_Mo_thing_47 rfl (lv_at hl 1 rfl) ?_
    refine lv_i2l hx hb d_Mo_thing_48 rfl ?_
    have hPc := hP.sub (ws' := [(mo, .inr (8, [.int 0, .int fd, .ref rt, .int (nI n), .ref rk, .ref rv, .ref rw, .ref ro, .int md, .ref rr, .int pt, .ref ra, .long pz, .int kc, .ref rc, .ref rl, .ref rb, .int la, .int ca])), (rk, .inl (cI, 16, .inl fk)), (rv, .inl (cL, 16, .inr (.inl fv))), (rw, .inl (cI, 16, .inl fw))]) [0, 1, 2, 3] rfl
    have hKc := hK.sub (tys' := [(cI, .int), (cL, .long)]) [0, 1] rfl
    have hDc := hD.sub (ws' := [(mo, .inr (8, [.int 0, .int fd, .ref rt, .int (nI n), .ref rk, .ref rv, .ref rw, .ref ro, .int md, .ref rr, .int pt, .ref ra, .long pz, .int kc, .ref rc, .ref rl, .ref rb, .int la, .int ca])), (rk, .inl (cI, 16, .inl fk)), (rv, .inl (cL, 16, .inr (.inl fv))), (rw, .inl (cI, 16, .inl fw))]) [0, 1, 2, 3] (by decide) rfl
    have hFc := va_free (wc := [(mo, .inr (8, [.int 0, .int fd, .ref rt, .int (nI n), .ref rk, .ref rv, .ref rw, .ref ro, .int md, .ref rr, .int pt, .ref ra, .long pz, .int kc, .ref rc, .ref rl, .ref rb, .int la, .int ca])), (rk, .inl (cI, 16, .inl fk)), (rv, .inl (cL, 16, .inr (.inl fv))), (rw, .inl (cI, 16, .inl fw))]) hD hS hA [0, 1, 2, 3] rfl
    refine zz_calli (va_runV (As := [.int 4, .long v.toInt64]) (rest := []) ⟨hx, hb, hml, hown, hg⟩ (c_Mo_argue l dC dI mo rt rk rv rw ro rr ra rc rl rb 0 fd (nI n) md pt pz kc la ca cI cL fk fv fw n 4 v.toInt64 hn H.size) (cwV 2 hg (gi_V kw_801 kw_803 sw_10 kw_9 kw_804) rfl rfl rfl (by decide +kernel) ⟨Nat.le_of_ble_eq_true rfl, Nat.le_of_ble_eq_true rfl⟩) (zz_preV hPc hKc hDc _ (q0 := 0) (ci := 8) rfl rfl) rfl rfl hl.1 rfl (lv_room (Nat.le_of_ble_eq_true rfl)) d_Mo_thing_49 ⟨Nat.le_of_ble_eq_true rfl, Nat.le_of_ble_eq_true rfl⟩) hS hFc (fun u H1 k9 p9 d9 => va_join (wr := []) hP hD [0, 1, 2, 3] [] rfl rfl (by decide) (by decide) k9 hFc p9 d9) (fun r_4 u H locs hw hP hD hK1 hS => ?_)
    obtain ⟨u_3, rfl⟩ : ∃ z, z = u := ⟨_, rfl⟩
    try dsimp only at hw
    have hP : va_P (dC, dI) vwCl [(mo, .inr (8, [.int 0, .int fd, .ref rt, .int (nI (n + 1)), .ref rk, .ref rv, .ref rw, .ref ro, .int md, .ref rr, .int pt, .ref ra, .long pz, .int kc, .ref rc, .ref rl, .ref rb, .int la, .int ca])), (rk, .inl (cI, 16, .inl (upd fk n 4))), (rv, .inl (cL, 16, .inr (.inl (vp_updL fv n v.toInt64)))), (rw, .inl (cI, 16, .inl (upd fw n 0)))] H := hP
    have hD : va_D A [(mo, .inr (8, [.int 0, .int fd, .ref rt, .int (nI (n + 1)), .ref rk, .ref rv, .ref rw, .ref ro, .int md, .ref rr, .int pt, .ref ra, .long pz, .int kc, .ref rc, .ref rl, .ref rb, .int la, .int ca])), (rk, .inl (cI, 16, .inl (upd fk n 4))), (rv, .inl (cL, 16, .inr (.inl (vp_updL fv n v.toInt64)))), (rw, .inl (cI, 16, .inl (upd fw n 0)))] := hD
    have hrr := hw
    have hP9 := hP.sub (ws' := [(mo, .inr (8, [.int 0, .int fd, .ref rt, .int (nI (n + 1)), .ref rk, .ref rv, .ref rw, .ref ro, .int md, .ref rr, .int pt, .ref ra, .long pz, .int kc, .ref rc, .ref rl, .ref rb, .int la, .int ca])), (rk, .inl (cI, 16, .inl (upd fk n 4))), (rv, .inl (cL, 16, .inr (.inl (vp_updL fv n v.toInt64)))), (rw, .inl (cI, 16, .inl (upd fw n 0)))]) [0, 1, 2, 3] rfl
    have hD9 := hD.sub (ws' := [(mo, .inr (8, [.int 0, .int fd, .ref rt, .int (nI (n + 1)), .ref rk, .ref rv, .ref rw, .ref ro, .int md, .ref rr, .int pt, .ref ra, .long pz, .int kc, .ref rc, .ref rl, .ref rb, .int la, .int ca])), (rk, .inl (cI, 16, .inl (upd fk n 4))), (rv, .inl (cL, 16, .inr (.inl (vp_updL fv n v.toInt64)))), (rw, .inl (cI, 16, .inl (upd fw n 0)))]) [0, 1, 2, 3] (by decide) rfl
    have hK9 := hK.sub (tys' := [(cI, .int), (cL, .long)]) [0, 1] rfl
    rw [show upd fk n 4 = upd fk n (mk_t v) by rw [mk_t4 c_39]] at hP9 hD9
    exact zz_iret hx hb hr hlocks d_Mo_thing_52 hS (by first | exact Nat.le_refl _ | decide | omega | (dsimp only; omega)) (by first | exact Nat.le_refl _ | decide | omega | (dsimp only; omega)) () hrr hP9 hK9 hD9
set_option maxHeartbeats 4000000 in
set_option maxRecDepth 100000 in
theorem c_Mo_thingT (l : Launch) (dC : Nat → ClassId) (dI : Nat → Nat → Nat) (mo rt rk rv rw ro rr ra rc rl rb : Nat) (th fd mn md pt : Int32) (pz : Int64) (kc la ca : Int32) (v : Int32)  (hv1 : ¬ v < -1) (hv2 : v ≤ 8) : zM_i (S := Unit) l y_Mo_thing w_Mo_thing { frames := 1, cells := 0, slots := 0, locals := 21 } (dC, dI) vwCl [.ref mo, .int v] [(mo, .inr (8, [.int th, .int fd, .ref rt, .int (nI 16), .ref rk, .ref rv, .ref rw, .ref ro, .int md, .ref rr, .int pt, .ref ra, .long pz, .int kc, .ref rc, .ref rl, .ref rb, .int la, .int ca]))] [] (fun (r : Int32) (u : Unit) => r = 0) (fun u => [(mo, .inr (8, [.int 2, .int fd, .ref rt, .int (nI 16), .ref rk, .ref rv, .ref rw, .ref ro, .int md, .ref rr, .int pt, .ref ra, .long pz, .int kc, .ref rc, .ref rl, .ref rb, .int la, .int ca]))]) (fun u => []) 0 0 := by
  refine zz_enteri (cc := prog_12_method_10_code) (nL := 2) (ret := (some .int)) (by decide) rfl (Nat.le_of_ble_eq_true rfl) ?_
  intro p e s m below meth c A ls C0 hA hS hP hK hD hl
  obtain ⟨hx, hb, hml, hown, hg, hr, hlocks, hin⟩ := C0
  have hown : s.vm.findClass "TextForgeModel" = some m.cls := hown
  have hP : va_P (dC, dI) vwCl [(mo, .inr (8, [.int th, .int fd, .ref rt, .int (nI 16), .ref rk, .ref rv, .ref rw, .ref ro, .int md, .ref rr, .int pt, .ref ra, .long pz, .int kc, .ref rc, .ref rl, .ref rb, .int la, .int ca]))] s.heap := hP
  have hK : va_K (dC, dI) vwCl [] s := hK
  have hD : va_D A [(mo, .inr (8, [.int th, .int fd, .ref rt, .int (nI 16), .ref rk, .ref rv, .ref rw, .ref ro, .int md, .ref rr, .int pt, .ref ra, .long pz, .int kc, .ref rc, .ref rl, .ref rb, .int la, .int ca]))] := hD
  have hl : lv_has ls 2 [(0, .ref mo), (1, .int v)] := hl
  refine lv_aload_n hx hb d_Mo_thing_0 rfl (lv_at hl 0 rfl) ?_
  refine lv_iconst (v := 0) hx hb d_Mo_thing_1 (by decide) ?_
  refine va_put (D := (dC, dI)) (ci := 8) (v := .int 0) (ty := .int) (C := "TextForgeModel") (T := TX8) (N := 19) hx hb hg iwX8 tyX8 tyX8_ok nmX8 hown hK hP hD hS 0 rfl rfl 0 (by decide) (hg _ kw_726) (fun _ h9 => h9) rfl (by decide +kernel) rfl rfl (Nat.le_of_ble_eq_true rfl) d_Mo_thing_2 (fun H locs hP hD hS => ?_)
  have hP : va_P (dC, dI) vwCl [(mo, .inr (8, [.int 0, .int fd, .ref rt, .int (nI 16), .ref rk, .ref rv, .ref rw, .ref ro, .int md, .ref rr, .int pt, .ref ra, .long pz, .int kc, .ref rc, .ref rl, .ref rb, .int la, .int ca]))] H := hP
  have hD : va_D A [(mo, .inr (8, [.int 0, .int fd, .ref rt, .int (nI 16), .ref rk, .ref rv, .ref rw, .ref ro, .int md, .ref rr, .int pt, .ref ra, .long pz, .int kc, .ref rc, .ref rl, .ref rb, .int la, .int ca]))] := hD
  refine lv_iload_n hx hb d_Mo_thing_5 rfl (lv_at hl 1 rfl) ?_
  refine lv_iconst (v := (-1)) hx hb d_Mo_thing_6 (by decide) ?_
  refine lv_icmp_lt (tgt := 16) hx hb d_Mo_thing_7 (by decide) (fun c9 => by first | exact absurd c9 hv1 | exact absurd hv1 c9) (fun _ => ?_)
  refine lv_iload_n hx hb d_Mo_thing_10 rfl (lv_at hl 1 rfl) ?_
  refine lv_bipush (v := 8) hx hb d_Mo_thing_11 (by decide) ?_
  refine lv_icmp_le (tgt := 22) hx hb d_Mo_thing_13 (by decide) (fun _ => ?_) (fun c9 => by first | exact absurd c9 hv2 | exact absurd hv2 c9)
  refine lv_aload_n hx hb d_Mo_thing_22 rfl (lv_at hl 0 rfl) ?_
  refine va_get (D := (dC, dI)) (ci := 8) (v := .int (nI 16)) (C := "TextForgeModel") (T := TX8) (N := 19) hx hb hg iwX8 hown hK hP 0 rfl rfl 3 (by decide) (hg _ kw_729) (fun _ h9 => h9) rfl d_Mo_thing_23 ?_
  refine lv_bipush (v := 16) hx hb d_Mo_thing_26 (by decide) ?_
  refine lv_icmp_ne (tgt := 37) hx hb d_Mo_thing_28 (by decide) (fun c9 => by first | exact absurd c9 rfl | exact absurd rfl c9) (fun _ => ?_)
  refine lv_aload_n hx hb d_Mo_thing_31 rfl (lv_at hl 0 rfl) ?_
  refine lv_iconst (v := 2) hx hb d_Mo_thing_32 (by decide) ?_
  have hPc := hP.sub (ws' := [(mo, .inr (8, [.int 0, .int fd, .ref rt, .int (nI 16), .ref rk, .ref rv, .ref rw, .ref ro, .int md, .ref rr, .int pt, .ref ra, .long pz, .int kc, .ref rc, .ref rl, .ref rb, .int la, .int ca]))]) [0] rfl
  have hKc := hK.sub (tys' := []) [] rfl
  have hDc := hD.sub (ws' := [(mo, .inr (8, [.int 0, .int fd, .ref rt, .int (nI 16), .ref rk, .ref rv, .ref rw, .ref ro, .int md, .ref rr, .int pt, .ref ra, .long pz, .int kc, .ref rc, .ref rl, .ref rb, .int la, .int ca]))]) [0] (by decide) rfl
  have hFc := va_free (wc := [(mo, .inr (8, [.int 0, .int fd, .ref rt, .int (nI 16), .ref rk, .ref rv, .ref rw, .ref ro, .int md, .ref rr, .int pt, .ref ra, .long pz, .int kc, .ref rc, .ref rl, .ref rb, .int la, .int ca]))]) hD hS hA [0] rfl
  refine zz_calli (va_runV (As := [.int 2]) (rest := []) ⟨hx, hb, hml, hown, hg⟩ (c_Mo_fail l dC dI mo rt rk rv rw ro rr ra rc rl rb 0 fd (nI 16) md pt pz kc la ca 2  H.size) (cwV 1 hg (gi_V kw_805 kw_807 sw_11 kw_9 kw_808) rfl rfl rfl (by decide +kernel) ⟨Nat.le_of_ble_eq_true rfl, Nat.le_of_ble_eq_true rfl⟩) (zz_preV hPc hKc hDc _ (q0 := 0) (ci := 8) rfl rfl) rfl rfl hl.1 rfl (lv_room (Nat.le_of_ble_eq_true rfl)) d_Mo_thing_33 ⟨Nat.le_of_ble_eq_true rfl, Nat.le_of_ble_eq_true rfl⟩) hS hFc (fun u H1 k9 p9 d9 => va_join (wr := []) hP hD [0] [] rfl rfl (by decide) (by decide) k9 hFc p9 d9) (fun r_2 u H locs hw hP hD hK1 hS => ?_)
  obtain ⟨u_1, rfl⟩ : ∃ z, z = u := ⟨_, rfl⟩
  try dsimp only at hw
  have hP : va_P (dC, dI) vwCl [(mo, .inr (8, [.int 2, .int fd, .ref rt, .int (nI 16), .ref rk, .ref rv, .ref rw, .ref ro, .int md, .ref rr, .int pt, .ref ra, .long pz, .int kc, .ref rc, .ref rl, .ref rb, .int la, .int ca]))] H := hP
  have hD : va_D A [(mo, .inr (8, [.int 2, .int fd, .ref rt, .int (nI 16), .ref rk, .ref rv, .ref rw, .ref ro, .int md, .ref rr, .int pt, .ref ra, .long pz, .int kc, .ref rc, .ref rl, .ref rb, .int la, .int ca]))] := hD
  have hrr := hw
  have hP9 := hP.sub (ws' := [(mo, .inr (8, [.int 2, .int fd, .ref rt, .int (nI 16), .ref rk, .ref rv, .ref rw, .ref ro, .int md, .ref rr, .int pt, .ref ra, .long pz, .int kc, .ref rc, .ref rl, .ref rb, .int la, .int ca]))]) [0] rfl
  have hD9 := hD.sub (ws' := [(mo, .inr (8, [.int 2, .int fd, .ref rt, .int (nI 16), .ref rk, .ref rv, .ref rw, .ref ro, .int md, .ref rr, .int pt, .ref ra, .long pz, .int kc, .ref rc, .ref rl, .ref rb, .int la, .int ca]))]) [0] (by decide) rfl
  have hK9 := hK.sub (tys' := []) [] rfl
  exact zz_iret hx hb hr hlocks d_Mo_thing_36 hS (by first | exact Nat.le_refl _ | decide | omega | (dsimp only; omega)) (by first | exact Nat.le_refl _ | decide | omega | (dsimp only; omega)) () hrr hP9 hK9 hD9
set_option maxHeartbeats 4000000 in
set_option maxRecDepth 100000 in
theorem c_Mo_thingA (l : Launch) (dC : Nat → ClassId) (dI : Nat → Nat → Nat) (mo rt rk rv rw ro rr ra rc rl rb : Nat) (th fd mn md pt : Int32) (pz : Int64) (kc la ca : Int32) (v : Int32) (hbad : v < -1 ∨ ¬ v ≤ 8) : zM_i (S := Unit) l y_Mo_thing w_Mo_thing { frames := 1, cells := 0, slots := 0, locals := 21 } (dC, dI) vwCl [.ref mo, .int v] [(mo, .inr (8, [.int th, .int fd, .ref rt, .int mn, .ref rk, .ref rv, .ref rw, .ref ro, .int md, .ref rr, .int pt, .ref ra, .long pz, .int kc, .ref rc, .ref rl, .ref rb, .int la, .int ca]))] [] (fun (r : Int32) (u : Unit) => r = 0) (fun u => [(mo, .inr (8, [.int 1, .int fd, .ref rt, .int mn, .ref rk, .ref rv, .ref rw, .ref ro, .int md, .ref rr, .int pt, .ref ra, .long pz, .int kc, .ref rc, .ref rl, .ref rb, .int la, .int ca]))]) (fun u => []) 0 0 := by
  refine zz_enteri (cc := prog_12_method_10_code) (nL := 2) (ret := (some .int)) (by decide) rfl (Nat.le_of_ble_eq_true rfl) ?_
  intro p e s m below meth c A ls C0 hA hS hP hK hD hl
  obtain ⟨hx, hb, hml, hown, hg, hr, hlocks, hin⟩ := C0
  have hown : s.vm.findClass "TextForgeModel" = some m.cls := hown
  have hP : va_P (dC, dI) vwCl [(mo, .inr (8, [.int th, .int fd, .ref rt, .int mn, .ref rk, .ref rv, .ref rw, .ref ro, .int md, .ref rr, .int pt, .ref ra, .long pz, .int kc, .ref rc, .ref rl, .ref rb, .int la, .int ca]))] s.heap := hP
  have hK : va_K (dC, dI) vwCl [] s := hK
  have hD : va_D A [(mo, .inr (8, [.int th, .int fd, .ref rt, .int mn, .ref rk, .ref rv, .ref rw, .ref ro, .int md, .ref rr, .int pt, .ref ra, .long pz, .int kc, .ref rc, .ref rl, .ref rb, .int la, .int ca]))] := hD
  have hl : lv_has ls 2 [(0, .ref mo), (1, .int v)] := hl
  refine lv_aload_n hx hb d_Mo_thing_0 rfl (lv_at hl 0 rfl) ?_
  refine lv_iconst (v := 0) hx hb d_Mo_thing_1 (by decide) ?_
  refine va_put (D := (dC, dI)) (ci := 8) (v := .int 0) (ty := .int) (C := "TextForgeModel") (T := TX8) (N := 19) hx hb hg iwX8 tyX8 tyX8_ok nmX8 hown hK hP hD hS 0 rfl rfl 0 (by decide) (hg _ kw_726) (fun _ h9 => h9) rfl (by decide +kernel) rfl rfl (Nat.le_of_ble_eq_true rfl) d_Mo_thing_2 (fun H locs hP hD hS => ?_)
  have hP : va_P (dC, dI) vwCl [(mo, .inr (8, [.int 0, .int fd, .ref rt, .int mn, .ref rk, .ref rv, .ref rw, .ref ro, .int md, .ref rr, .int pt, .ref ra, .long pz, .int kc, .ref rc, .ref rl, .ref rb, .int la, .int ca]))] H := hP
  have hD : va_D A [(mo, .inr (8, [.int 0, .int fd, .ref rt, .int mn, .ref rk, .ref rv, .ref rw, .ref ro, .int md, .ref rr, .int pt, .ref ra, .long pz, .int kc, .ref rc, .ref rl, .ref rb, .int la, .int ca]))] := hD
  refine lv_iload_n hx hb d_Mo_thing_5 rfl (lv_at hl 1 rfl) ?_
  refine lv_iconst (v := (-1)) hx hb d_Mo_thing_6 (by decide) ?_
  refine lv_icmp_lt (tgt := 16) hx hb d_Mo_thing_7 (by decide) (fun c_7 => ?_) (fun c_7 => ?_)
  · skip
    refine lv_aload_n hx hb d_Mo_thing_16 rfl (lv_at hl 0 rfl) ?_
    refine lv_iconst (v := 1) hx hb d_Mo_thing_17 (by decide) ?_
    have hPc := hP.sub (ws' := [(mo, .inr (8, [.int 0, .int fd, .ref rt, .int mn, .ref rk, .ref rv, .ref rw, .ref ro, .int md, .ref rr, .int pt, .ref ra, .long pz, .int kc, .ref rc, .ref rl, .ref rb, .int la, .int ca]))]) [0] rfl
    have hKc := hK.sub (tys' := []) [] rfl
    have hDc := hD.sub (ws' := [(mo, .inr (8, [.int 0, .int fd, .ref rt, .int mn, .ref rk, .ref rv, .ref rw, .ref ro, .int md, .ref rr, .int pt, .ref ra, .long pz, .int kc, .ref rc, .ref rl, .ref rb, .int la, .int ca]))]) [0] (by decide) rfl
    have hFc := va_free (wc := [(mo, .inr (8, [.int 0, .int fd, .ref rt, .int mn, .ref rk, .ref rv, .ref rw, .ref ro, .int md, .ref rr, .int pt, .ref ra, .long pz, .int kc, .ref rc, .ref rl, .ref rb, .int la, .int ca]))]) hD hS hA [0] rfl
    refine zz_calli (va_runV (As := [.int 1]) (rest := []) ⟨hx, hb, hml, hown, hg⟩ (c_Mo_fail l dC dI mo rt rk rv rw ro rr ra rc rl rb 0 fd mn md pt pz kc la ca 1  H.size) (cwV 1 hg (gi_V kw_805 kw_807 sw_11 kw_9 kw_808) rfl rfl rfl (by decide +kernel) ⟨Nat.le_of_ble_eq_true rfl, Nat.le_of_ble_eq_true rfl⟩) (zz_preV hPc hKc hDc _ (q0 := 0) (ci := 8) rfl rfl) rfl rfl hl.1 rfl (lv_room (Nat.le_of_ble_eq_true rfl)) d_Mo_thing_18 ⟨Nat.le_of_ble_eq_true rfl, Nat.le_of_ble_eq_true rfl⟩) hS hFc (fun u H1 k9 p9 d9 => va_join (wr := []) hP hD [0] [] rfl rfl (by decide) (by decide) k9 hFc p9 d9) (fun r_2 u H locs hw hP hD hK1 hS => ?_)
    obtain ⟨u_1, rfl⟩ : ∃ z, z = u := ⟨_, rfl⟩
    try dsimp only at hw
    have hP : va_P (dC, dI) vwCl [(mo, .inr (8, [.int 1, .int fd, .ref rt, .int mn, .ref rk, .ref rv, .ref rw, .ref ro, .int md, .ref rr, .int pt, .ref ra, .long pz, .int kc, .ref rc, .ref rl, .ref rb, .int la, .int ca]))] H := hP
    have hD : va_D A [(mo, .inr (8, [.int 1, .int fd, .ref rt, .int mn, .ref rk, .ref rv, .ref rw, .ref ro, .int md, .ref rr, .int pt, .ref ra, .long pz, .int kc, .ref rc, .ref rl, .ref rb, .int la, .int ca]))] := hD
    have hrr := hw
    have hP9 := hP.sub (ws' := [(mo, .inr (8, [.int 1, .int fd, .ref rt, .int mn, .ref rk, .ref rv, .ref rw, .ref ro, .int md, .ref rr, .int pt, .ref ra, .long pz, .int kc, .ref rc, .ref rl, .ref rb, .int la, .int ca]))]) [0] rfl
    have hD9 := hD.sub (ws' := [(mo, .inr (8, [.int 1, .int fd, .ref rt, .int mn, .ref rk, .ref rv, .ref rw, .ref ro, .int md, .ref rr, .int pt, .ref ra, .long pz, .int kc, .ref rc, .ref rl, .ref rb, .int la, .int ca]))]) [0] (by decide) rfl
    have hK9 := hK.sub (tys' := []) [] rfl
    exact zz_iret hx hb hr hlocks d_Mo_thing_21 hS (by first | exact Nat.le_refl _ | decide | omega | (dsimp only; omega)) (by first | exact Nat.le_refl _ | decide | omega | (dsimp only; omega)) () hrr hP9 hK9 hD9
  · skip
    refine lv_iload_n hx hb d_Mo_thing_10 rfl (lv_at hl 1 rfl) ?_
    refine lv_bipush (v := 8) hx hb d_Mo_thing_11 (by decide) ?_
    refine lv_icmp_le (tgt := 22) hx hb d_Mo_thing_13 (by decide) (fun c_13 => ?_) (fun c_13 => ?_)
    · skip
      rcases hbad with h9 | h9
      · exact absurd h9 c_7
      · exact absurd c_13 h9
    · skip
      refine lv_aload_n hx hb d_Mo_thing_16 rfl (lv_at hl 0 rfl) ?_
      refine lv_iconst (v := 1) hx hb d_Mo_thing_17 (by decide) ?_
      have hPc := hP.sub (ws' := [(mo, .inr (8, [.int 0, .int fd, .ref rt, .int mn, .ref rk, .ref rv, .ref rw, .ref ro, .int md, .ref rr, .int pt, .ref ra, .long pz, .int kc, .ref rc, .ref rl, .ref rb, .int la, .int ca]))]) [0] rfl
      have hKc := hK.sub (tys' := []) [] rfl
      have hDc := hD.sub (ws' := [(mo, .inr (8, [.int 0, .int fd, .ref rt, .int mn, .ref rk, .ref rv, .ref rw, .ref ro, .int md, .ref rr, .int pt, .ref ra, .long pz, .int kc, .ref rc, .ref rl, .ref rb, .int la, .int ca]))]) [0] (by decide) rfl
      have hFc := va_free (wc := [(mo, .inr (8, [.int 0, .int fd, .ref rt, .int mn, .ref rk, .ref rv, .ref rw, .ref ro, .int md, .ref rr, .int pt, .ref ra, .long pz, .int kc, .ref rc, .ref rl, .ref rb, .int la, .int ca]))]) hD hS hA [0] rfl
      refine zz_calli (va_runV (As := [.int 1]) (rest := []) ⟨hx, hb, hml, hown, hg⟩ (c_Mo_fail l dC dI mo rt rk rv rw ro rr ra rc rl rb 0 fd mn md pt pz kc la ca 1  H.size) (cwV 1 hg (gi_V kw_805 kw_807 sw_11 kw_9 kw_808) rfl rfl rfl (by decide +kernel) ⟨Nat.le_of_ble_eq_true rfl, Nat.le_of_ble_eq_true rfl⟩) (zz_preV hPc hKc hDc _ (q0 := 0) (ci := 8) rfl rfl) rfl rfl hl.1 rfl (lv_room (Nat.le_of_ble_eq_true rfl)) d_Mo_thing_18 ⟨Nat.le_of_ble_eq_true rfl, Nat.le_of_ble_eq_true rfl⟩) hS hFc (fun u H1 k9 p9 d9 => va_join (wr := []) hP hD [0] [] rfl rfl (by decide) (by decide) k9 hFc p9 d9) (fun r_4 u H locs hw hP hD hK1 hS => ?_)
      obtain ⟨u_3, rfl⟩ : ∃ z, z = u := ⟨_, rfl⟩
      try dsimp only at hw
      have hP : va_P (dC, dI) vwCl [(mo, .inr (8, [.int 1, .int fd, .ref rt, .int mn, .ref rk, .ref rv, .ref rw, .ref ro, .int md, .ref rr, .int pt, .ref ra, .long pz, .int kc, .ref rc, .ref rl, .ref rb, .int la, .int ca]))] H := hP
      have hD : va_D A [(mo, .inr (8, [.int 1, .int fd, .ref rt, .int mn, .ref rk, .ref rv, .ref rw, .ref ro, .int md, .ref rr, .int pt, .ref ra, .long pz, .int kc, .ref rc, .ref rl, .ref rb, .int la, .int ca]))] := hD
      have hrr := hw
      have hP9 := hP.sub (ws' := [(mo, .inr (8, [.int 1, .int fd, .ref rt, .int mn, .ref rk, .ref rv, .ref rw, .ref ro, .int md, .ref rr, .int pt, .ref ra, .long pz, .int kc, .ref rc, .ref rl, .ref rb, .int la, .int ca]))]) [0] rfl
      have hD9 := hD.sub (ws' := [(mo, .inr (8, [.int 1, .int fd, .ref rt, .int mn, .ref rk, .ref rv, .ref rw, .ref ro, .int md, .ref rr, .int pt, .ref ra, .long pz, .int kc, .ref rc, .ref rl, .ref rb, .int la, .int ca]))]) [0] (by decide) rfl
      have hK9 := hK.sub (tys' := []) [] rfl
      exact zz_iret hx hb hr hlocks d_Mo_thing_21 hS (by first | exact Nat.le_refl _ | decide | omega | (dsimp only; omega)) (by first | exact Nat.le_refl _ | decide | omega | (dsimp only; omega)) () hrr hP9 hK9 hD9
abbrev y_Mo_text : MethodName := ⟨"TextForgeModel", "text", "()I"⟩
abbrev w_Mo_text : List Cond := Cond.code y_Mo_text prog_12_method_9_code 3 (some .int) :: gw
theorem d_Mo_text_0 : decode prog_12_method_9_code 0 = .ok (.aload_n 0, 1) := by decide +kernel
theorem d_Mo_text_1 : decode prog_12_method_9_code 1 = .ok (.iconst 0, 1) := by decide +kernel
theorem d_Mo_text_2 : decode prog_12_method_9_code 2 = .ok (.putfield 43, 3) := by decide +kernel
theorem d_Mo_text_5 : decode prog_12_method_9_code 5 = .ok (.aload_n 0, 1) := by decide +kernel
theorem d_Mo_text_6 : decode prog_12_method_9_code 6 = .ok (.getfield 50, 3) := by decide +kernel
theorem d_Mo_text_9 : decode prog_12_method_9_code 9 = .ok (.bipush 16, 2) := by decide +kernel
theorem d_Mo_text_11 : decode prog_12_method_9_code 11 = .ok (.if_icmp .ne 9, 3) := by decide +kernel
theorem d_Mo_text_14 : decode prog_12_method_9_code 14 = .ok (.aload_n 0, 1) := by decide +kernel
theorem d_Mo_text_15 : decode prog_12_method_9_code 15 = .ok (.iconst 1, 1) := by decide +kernel
theorem d_Mo_text_16 : decode prog_12_method_9_code 16 = .ok (.invokevirtual 53, 3) := by decide +kernel
theorem d_Mo_text_19 : decode prog_12_method_9_code 19 = .ok (.ireturn, 1) := by decide +kernel
theorem d_Mo_text_20 : decode prog_12_method_9_code 20 = .ok (.iconst 0, 1) := by decide +kernel
theorem d_Mo_text_21 : decode prog_12_method_9_code 21 = .ok (.istore_n 1, 1) := by decide +kernel
theorem d_Mo_text_22 : decode prog_12_method_9_code 22 = .ok (.iload_n 1, 1) := by decide +kernel
theorem d_Mo_text_23 : decode prog_12_method_9_code 23 = .ok (.aload_n 0, 1) := by decide +kernel
theorem d_Mo_text_24 : decode prog_12_method_9_code 24 = .ok (.getfield 47, 3) := by decide +kernel
theorem d_Mo_text_27 : decode prog_12_method_9_code 27 = .ok (.if_icmp .ge 30, 3) := by decide +kernel
theorem d_Mo_text_30 : decode prog_12_method_9_code 30 = .ok (.aload_n 0, 1) := by decide +kernel
theorem d_Mo_text_31 : decode prog_12_method_9_code 31 = .ok (.getfield 25, 3) := by decide +kernel
theorem d_Mo_text_34 : decode prog_12_method_9_code 34 = .ok (.sipush 4096, 3) := by decide +kernel
theorem d_Mo_text_37 : decode prog_12_method_9_code 37 = .ok (.aload_n 0, 1) := by decide +kernel
theorem d_Mo_text_38 : decode prog_12_method_9_code 38 = .ok (.getfield 50, 3) := by decide +kernel
theorem d_Mo_text_41 : decode prog_12_method_9_code 41 = .ok (.imul, 1) := by decide +kernel
theorem d_Mo_text_42 : decode prog_12_method_9_code 42 = .ok (.iload_n 1, 1) := by decide +kernel
theorem d_Mo_text_43 : decode prog_12_method_9_code 43 = .ok (.iadd, 1) := by decide +kernel
theorem d_Mo_text_44 : decode prog_12_method_9_code 44 = .ok (.aload_n 0, 1) := by decide +kernel
theorem d_Mo_text_45 : decode prog_12_method_9_code 45 = .ok (.getfield 7, 3) := by decide +kernel
theorem d_Mo_text_48 : decode prog_12_method_9_code 48 = .ok (.iload_n 1, 1) := by decide +kernel
theorem d_Mo_text_49 : decode prog_12_method_9_code 49 = .ok (.baload, 1) := by decide +kernel
theorem d_Mo_text_50 : decode prog_12_method_9_code 50 = .ok (.bastore, 1) := by decide +kernel
theorem d_Mo_text_51 : decode prog_12_method_9_code 51 = .ok (.iinc 1 1, 3) := by decide +kernel
theorem d_Mo_text_54 : decode prog_12_method_9_code 54 = .ok (.goto (-32), 3) := by decide +kernel
theorem d_Mo_text_57 : decode prog_12_method_9_code 57 = .ok (.aload_n 0, 1) := by decide +kernel
theorem d_Mo_text_58 : decode prog_12_method_9_code 58 = .ok (.getfield 47, 3) := by decide +kernel
theorem d_Mo_text_61 : decode prog_12_method_9_code 61 = .ok (.istore_n 1, 1) := by decide +kernel
theorem d_Mo_text_62 : decode prog_12_method_9_code 62 = .ok (.aload_n 0, 1) := by decide +kernel
theorem d_Mo_text_63 : decode prog_12_method_9_code 63 = .ok (.iconst 0, 1) := by decide +kernel
theorem d_Mo_text_64 : decode prog_12_method_9_code 64 = .ok (.putfield 47, 3) := by decide +kernel
theorem d_Mo_text_67 : decode prog_12_method_9_code 67 = .ok (.aload_n 0, 1) := by decide +kernel
theorem d_Mo_text_68 : decode prog_12_method_9_code 68 = .ok (.iconst 3, 1) := by decide +kernel
theorem d_Mo_text_69 : decode prog_12_method_9_code 69 = .ok (.lconst 0, 1) := by decide +kernel
theorem d_Mo_text_70 : decode prog_12_method_9_code 70 = .ok (.invokevirtual 57, 3) := by decide +kernel
theorem d_Mo_text_73 : decode prog_12_method_9_code 73 = .ok (.istore_n 2, 1) := by decide +kernel
theorem d_Mo_text_74 : decode prog_12_method_9_code 74 = .ok (.aload_n 0, 1) := by decide +kernel
theorem d_Mo_text_75 : decode prog_12_method_9_code 75 = .ok (.getfield 21, 3) := by decide +kernel
theorem d_Mo_text_78 : decode prog_12_method_9_code 78 = .ok (.iload_n 2, 1) := by decide +kernel
theorem d_Mo_text_79 : decode prog_12_method_9_code 79 = .ok (.iconst 1, 1) := by decide +kernel
theorem d_Mo_text_80 : decode prog_12_method_9_code 80 = .ok (.isub, 1) := by decide +kernel
theorem d_Mo_text_81 : decode prog_12_method_9_code 81 = .ok (.iload_n 1, 1) := by decide +kernel
theorem d_Mo_text_82 : decode prog_12_method_9_code 82 = .ok (.iastore, 1) := by decide +kernel
theorem d_Mo_text_83 : decode prog_12_method_9_code 83 = .ok (.iload_n 2, 1) := by decide +kernel
theorem d_Mo_text_84 : decode prog_12_method_9_code 84 = .ok (.ireturn, 1) := by decide +kernel
set_option maxHeartbeats 4000000 in
set_option maxRecDepth 100000 in
theorem c_Mo_text (l : Launch) (dC : Nat → ClassId) (dI : Nat → Nat → Nat) (mo rt rk rv rw ro rr ra rc rl rb : Nat) (th fd mn md pt : Int32) (pz : Int64) (kc la ca : Int32) (cB : ClassId) (ft : Nat → Int32) (F : List Nat) (cI cL : ClassId) (fk : Nat → Int32) (fv : Nat → Int64) (fw : Nat → Int32) (n : Nat) (fo : Nat → Int32) (hLt : by_L F ft) (hct : F.length ≤ 4096) (hn : n < 16) : zM_i (S := Nat → Int32) l y_Mo_text w_Mo_text { frames := 1, cells := 0, slots := 0, locals := 23 } (dC, dI) vwCl [.ref mo] [(mo, .inr (8, [.int th, .int (nI F.length), .ref rt, .int (nI n), .ref rk, .ref rv, .ref rw, .ref ro, .int md, .ref rr, .int pt, .ref ra, .long pz, .int kc, .ref rc, .ref rl, .ref rb, .int la, .int ca])), (rt, .inl (cB, 4096, .inl ft)), (rk, .inl (cI, 16, .inl fk)), (rv, .inl (cL, 16, .inr (.inl fv))), (rw, .inl (cI, 16, .inl fw)), (ro, .inl (cB, 65536, .inl fo))] [(cB, .byte), (cI, .int), (cL, .long)] (fun (r : Int32) (u : Nat → Int32) => r = nI (n + 1) ∧ (∀ t, t < F.length → u (4096 * n + t) = ft t) ∧ ∀ q, q < 4096 * n → u q = fo q) (fun u => [(mo, .inr (8, [.int 0, .int 0, .ref rt, .int (nI (n + 1)), .ref rk, .ref rv, .ref rw, .ref ro, .int md, .ref rr, .int pt, .ref ra, .long pz, .int kc, .ref rc, .ref rl, .ref rb, .int la, .int ca])), (rt, .inl (cB, 4096, .inl ft)), (rk, .inl (cI, 16, .inl (upd fk n 3))), (rv, .inl (cL, 16, .inr (.inl (vp_updL fv n 0)))), (rw, .inl (cI, 16, .inl (upd fw n (nI F.length)))), (ro, .inl (cB, 65536, .inl u))]) (fun u => [(cB, .byte), (cI, .int), (cL, .long)]) 0 0 := by
  refine zz_enteri (cc := prog_12_method_9_code) (nL := 3) (ret := (some .int)) (by decide) rfl (Nat.le_of_ble_eq_true rfl) ?_
  intro p e s m below meth c A ls C0 hA hS hP hK hD hl
  obtain ⟨hx, hb, hml, hown, hg, hr, hlocks, hin⟩ := C0
  have hown : s.vm.findClass "TextForgeModel" = some m.cls := hown
  have hP : va_P (dC, dI) vwCl [(mo, .inr (8, [.int th, .int (nI F.length), .ref rt, .int (nI n), .ref rk, .ref rv, .ref rw, .ref ro, .int md, .ref rr, .int pt, .ref ra, .long pz, .int kc, .ref rc, .ref rl, .ref rb, .int la, .int ca])), (rt, .inl (cB, 4096, .inl ft)), (rk, .inl (cI, 16, .inl fk)), (rv, .inl (cL, 16, .inr (.inl fv))), (rw, .inl (cI, 16, .inl fw)), (ro, .inl (cB, 65536, .inl fo))] s.heap := hP
  have hK : va_K (dC, dI) vwCl [(cB, .byte), (cI, .int), (cL, .long)] s := hK
  have hD : va_D A [(mo, .inr (8, [.int th, .int (nI F.length), .ref rt, .int (nI n), .ref rk, .ref rv, .ref rw, .ref ro, .int md, .ref rr, .int pt, .ref ra, .long pz, .int kc, .ref rc, .ref rl, .ref rb, .int la, .int ca])), (rt, .inl (cB, 4096, .inl ft)), (rk, .inl (cI, 16, .inl fk)), (rv, .inl (cL, 16, .inr (.inl fv))), (rw, .inl (cI, 16, .inl fw)), (ro, .inl (cB, 65536, .inl fo))] := hD
  have hl : lv_has ls 3 [(0, .ref mo)] := hl
  refine lv_aload_n hx hb d_Mo_text_0 rfl (lv_at hl 0 rfl) ?_
  refine lv_iconst (v := 0) hx hb d_Mo_text_1 (by decide) ?_
  refine va_put (D := (dC, dI)) (ci := 8) (v := .int 0) (ty := .int) (C := "TextForgeModel") (T := TX8) (N := 19) hx hb hg iwX8 tyX8 tyX8_ok nmX8 hown hK hP hD hS 0 rfl rfl 0 (by decide) (hg _ kw_726) (fun _ h9 => h9) rfl (by decide +kernel) rfl rfl (Nat.le_of_ble_eq_true rfl) d_Mo_text_2 (fun H locs hP hD hS => ?_)
  have hP : va_P (dC, dI) vwCl [(mo, .inr (8, [.int 0, .int (nI F.length), .ref rt, .int (nI n), .ref rk, .ref rv, .ref rw, .ref ro, .int md, .ref rr, .int pt, .ref ra, .long pz, .int kc, .ref rc, .ref rl, .ref rb, .int la, .int ca])), (rt, .inl (cB, 4096, .inl ft)), (rk, .inl (cI, 16, .inl fk)), (rv, .inl (cL, 16, .inr (.inl fv))), (rw, .inl (cI, 16, .inl fw)), (ro, .inl (cB, 65536, .inl fo))] H := hP
  have hD : va_D A [(mo, .inr (8, [.int 0, .int (nI F.length), .ref rt, .int (nI n), .ref rk, .ref rv, .ref rw, .ref ro, .int md, .ref rr, .int pt, .ref ra, .long pz, .int kc, .ref rc, .ref rl, .ref rb, .int la, .int ca])), (rt, .inl (cB, 4096, .inl ft)), (rk, .inl (cI, 16, .inl fk)), (rv, .inl (cL, 16, .inr (.inl fv))), (rw, .inl (cI, 16, .inl fw)), (ro, .inl (cB, 65536, .inl fo))] := hD
  refine lv_aload_n hx hb d_Mo_text_5 rfl (lv_at hl 0 rfl) ?_
  refine va_get (D := (dC, dI)) (ci := 8) (v := .int (nI n)) (C := "TextForgeModel") (T := TX8) (N := 19) hx hb hg iwX8 hown hK hP 0 rfl rfl 3 (by decide) (hg _ kw_729) (fun _ h9 => h9) rfl d_Mo_text_6 ?_
  refine lv_bipush (v := 16) hx hb d_Mo_text_9 (by decide) ?_
  refine lv_icmp_ne (tgt := 20) hx hb d_Mo_text_11 (by decide) (fun _ => ?_) (fun c9 => by first | exact absurd c9 (fun z => by have := nI_e1 (b := 16) z (by omega) (by decide); omega) | exact absurd (fun z => by have := nI_e1 (b := 16) z (by omega) (by decide); omega) c9)
  refine lv_iconst (v := 0) hx hb d_Mo_text_20 (by decide) ?_
  refine lv_istore_n (lv' := [(1, .int 0), (0, .ref mo)]) hx hb d_Mo_text_21 rfl hl (by decide) rfl (fun ls hl => ?_)
  refine zz_loop (fun (x : Nat × (Nat → Int32)) H locs ls => match x with | (k, g) => va_P (dC, dI) vwCl [(mo, .inr (8, [.int 0, .int (nI F.length), .ref rt, .int (nI n), .ref rk, .ref rv, .ref rw, .ref ro, .int md, .ref rr, .int pt, .ref ra, .long pz, .int kc, .ref rc, .ref rl, .ref rb, .int la, .int ca])), (rt, .inl (cB, 4096, .inl ft)), (rk, .inl (cI, 16, .inl fk)), (rv, .inl (cL, 16, .inr (.inl fv))), (rw, .inl (cI, 16, .inl fw)), (ro, .inl (cB, 65536, .inl g))] H ∧ va_D A [(mo, .inr (8, [.int 0, .int (nI F.length), .ref rt, .int (nI n), .ref rk, .ref rv, .ref rw, .ref ro, .int md, .ref rr, .int pt, .ref ra, .long pz, .int kc, .ref rc, .ref rl, .ref rb, .int la, .int ca])), (rt, .inl (cB, 4096, .inl ft)), (rk, .inl (cI, 16, .inl fk)), (rv, .inl (cL, 16, .inr (.inl fv))), (rw, .inl (cI, 16, .inl fw)), (ro, .inl (cB, 65536, .inl g))] ∧ va_S A s.heap H locs ∧ lv_has ls 3 [(0, .ref mo), (1, .int (nI k))] ∧ ((∀ t, t < k → g (4096 * n + t) = ft t) ∧ (∀ q, q < 4096 * n → g q = fo q)) ∧ k ≤ F.length) (fun x => match x with | (k, g) => F.length - k) ?_ (0, fo) ⟨hP.sub [0, 1, 2, 3, 4, 5] rfl, hD.sub [0, 1, 2, 3, 4, 5] (by decide) rfl, hS, lv_sub hl [1, 0] rfl, ⟨fun t h => absurd h (Nat.not_lt_zero t), fun q _ => rfl⟩, (Nat.zero_le _)⟩
  intro x H locs ls hI ih_22
  obtain ⟨k, g⟩ := x
  try dsimp only at hI
  obtain ⟨hP, hD, hS, hl, hC, hkl⟩ := hI
  refine lv_iload_n hx hb d_Mo_text_22 rfl (lv_at hl 1 rfl) ?_
  refine lv_aload_n hx hb d_Mo_text_23 rfl (lv_at hl 0 rfl) ?_
  refine va_get (D := (dC, dI)) (ci := 8) (v := .int (nI F.length)) (C := "TextForgeModel") (T := TX8) (N := 19) hx hb hg iwX8 hown hK hP 0 rfl rfl 1 (by decide) (hg _ kw_727) (fun _ h9 => h9) rfl d_Mo_text_24 ?_
  refine lv_icmp_ge (tgt := 57) hx hb d_Mo_text_27 (by decide) (fun c_27 => ?_) (fun c_27 => ?_)
  · skip
    have f_27 : F.length ≤ k := (nI_leI (by omega) (by omega)).mp c_27
    refine lv_aload_n hx hb d_Mo_text_57 rfl (lv_at hl 0 rfl) ?_
    refine va_get (D := (dC, dI)) (ci := 8) (v := .int (nI F.length)) (C := "TextForgeModel") (T := TX8) (N := 19) hx hb hg iwX8 hown hK hP 0 rfl rfl 1 (by decide) (hg _ kw_727) (fun _ h9 => h9) rfl d_Mo_text_58 ?_
    refine lv_istore_n (lv' := [(1, .int (nI F.length)), (0, .ref mo)]) hx hb d_Mo_text_61 rfl hl (by decide) rfl (fun ls hl => ?_)
    refine lv_aload_n hx hb d_Mo_text_62 rfl (lv_at hl 1 rfl) ?_
    refine lv_iconst (v := 0) hx hb d_Mo_text_63 (by decide) ?_
    refine va_put (D := (dC, dI)) (ci := 8) (v := .int 0) (ty := .int) (C := "TextForgeModel") (T := TX8) (N := 19) hx hb hg iwX8 tyX8 tyX8_ok nmX8 hown hK hP hD hS 0 rfl rfl 1 (by decide) (hg _ kw_727) (fun _ h9 => h9) rfl (by decide +kernel) rfl rfl (Nat.le_of_ble_eq_true rfl) d_Mo_text_64 (fun H locs hP hD hS => ?_)
    have hP : va_P (dC, dI) vwCl [(mo, .inr (8, [.int 0, .int 0, .ref rt, .int (nI n), .ref rk, .ref rv, .ref rw, .ref ro, .int md, .ref rr, .int pt, .ref ra, .long pz, .int kc, .ref rc, .ref rl, .ref rb, .int la, .int ca])), (rt, .inl (cB, 4096, .inl ft)), (rk, .inl (cI, 16, .inl fk)), (rv, .inl (cL, 16, .inr (.inl fv))), (rw, .inl (cI, 16, .inl fw)), (ro, .inl (cB, 65536, .inl g))] H := hP
    have hD : va_D A [(mo, .inr (8, [.int 0, .int 0, .ref rt, .int (nI n), .ref rk, .ref rv, .ref rw, .ref ro, .int md, .ref rr, .int pt, .ref ra, .long pz, .int kc, .ref rc, .ref rl, .ref rb, .int la, .int ca])), (rt, .inl (cB, 4096, .inl ft)), (rk, .inl (cI, 16, .inl fk)), (rv, .inl (cL, 16, .inr (.inl fv))), (rw, .inl (cI, 16, .inl fw)), (ro, .inl (cB, 65536, .inl g))] := hD
    refine lv_aload_n hx hb d_Mo_text_67 rfl (lv_at hl 1 rfl) ?_
    refine lv_iconst (v := 3) hx hb d_Mo_text_68 (by decide) ?_
    refine lv_lconst (v := 0) hx hb d_Mo_text_69 (by decide) ?_
    have hPc := hP.sub (ws' := [(mo, .inr (8, [.int 0, .int 0, .ref rt, .int (nI n), .ref rk, .ref rv, .ref rw, .ref ro, .int md, .ref rr, .int pt, .ref ra, .long pz, .int kc, .ref rc, .ref rl, .ref rb, .int la, .int ca])), (rk, .inl (cI, 16, .inl fk)), (rv, .inl (cL, 16, .inr (.inl fv))), (rw, .inl (cI, 16, .inl fw))]) [0, 2, 3, 4] rfl
    have hKc := hK.sub (tys' := [(cI, .int), (cL, .long)]) [1, 2] rfl
    have hDc := hD.sub (ws' := [(mo, .inr (8, [.int 0, .int 0, .ref rt, .int (nI n), .ref rk, .ref rv, .ref rw, .ref ro, .int md, .ref rr, .int pt, .ref ra, .long pz, .int kc, .ref rc, .ref rl, .ref rb, .int la, .int ca])), (rk, .inl (cI, 16, .inl fk)), (rv, .inl (cL, 16, .inr (.inl fv))), (rw, .inl (cI, 16, .inl fw))]) [0, 2, 3, 4] (by decide) rfl
    have hFc := va_free (wc := [(mo, .inr (8, [.int 0, .int 0, .ref rt, .int (nI n), .ref rk, .ref rv, .ref rw, .ref ro, .int md, .ref rr, .int pt, .ref ra, .long pz, .int kc, .ref rc, .ref rl, .ref rb, .int la, .int ca])), (rk, .inl (cI, 16, .inl fk)), (rv, .inl (cL, 16, .inr (.inl fv))), (rw, .inl (cI, 16, .inl fw))]) hD hS hA [0, 2, 3, 4] rfl
    refine zz_calli (va_runV (As := [.int 3, .long 0]) (rest := []) ⟨hx, hb, hml, hown, hg⟩ (c_Mo_argue l dC dI mo rt rk rv rw ro rr ra rc rl rb 0 0 (nI n) md pt pz kc la ca cI cL fk fv fw n 3 0 hn H.size) (cwV 2 hg (gi_V kw_801 kw_803 sw_10 kw_9 kw_804) rfl rfl rfl (by decide +kernel) ⟨Nat.le_of_ble_eq_true rfl, Nat.le_of_ble_eq_true rfl⟩) (zz_preV hPc hKc hDc _ (q0 := 0) (ci := 8) rfl rfl) rfl rfl hl.1 rfl (lv_room (Nat.le_of_ble_eq_true rfl)) d_Mo_text_70 ⟨Nat.le_of_ble_eq_true rfl, Nat.le_of_ble_eq_true rfl⟩) hS hFc (fun u H1 k9 p9 d9 => va_join (wr := [(rt, .inl (cB, 4096, .inl ft)), (ro, .inl (cB, 65536, .inl g))]) hP hD [0, 2, 3, 4] [1, 5] rfl rfl (by decide) (by decide) k9 hFc p9 d9) (fun r_2 u H locs hw hP hD hK1 hS => ?_)
    obtain ⟨u_1, rfl⟩ : ∃ z, z = u := ⟨_, rfl⟩
    try dsimp only at hw
    have hP : va_P (dC, dI) vwCl [(rt, .inl (cB, 4096, .inl ft)), (ro, .inl (cB, 65536, .inl g)), (mo, .inr (8, [.int 0, .int 0, .ref rt, .int (nI (n + 1)), .ref rk, .ref rv, .ref rw, .ref ro, .int md, .ref rr, .int pt, .ref ra, .long pz, .int kc, .ref rc, .ref rl, .ref rb, .int la, .int ca])), (rk, .inl (cI, 16, .inl (upd fk n 3))), (rv, .inl (cL, 16, .inr (.inl (vp_updL fv n 0)))), (rw, .inl (cI, 16, .inl (upd fw n 0)))] H := hP
    have hD : va_D A [(rt, .inl (cB, 4096, .inl ft)), (ro, .inl (cB, 65536, .inl g)), (mo, .inr (8, [.int 0, .int 0, .ref rt, .int (nI (n + 1)), .ref rk, .ref rv, .ref rw, .ref ro, .int md, .ref rr, .int pt, .ref ra, .long pz, .int kc, .ref rc, .ref rl, .ref rb, .int la, .int ca])), (rk, .inl (cI, 16, .inl (upd fk n 3))), (rv, .inl (cL, 16, .inr (.inl (vp_updL fv n 0)))), (rw, .inl (cI, 16, .inl (upd fw n 0)))] := hD
    have hrr := hw
    refine lv_istore_n (lv' := [(2, .int r_2), (1, .int (nI F.length)), (0, .ref mo)]) hx hb d_Mo_text_73 rfl hl (by decide) rfl (fun ls hl => ?_)
    refine lv_aload_n hx hb d_Mo_text_74 rfl (lv_at hl 2 rfl) ?_
    refine va_get (D := (dC, dI)) (ci := 8) (v := .ref rw) (C := "TextForgeModel") (T := TX8) (N := 19) hx hb hg iwX8 hown hK hP 2 rfl rfl 6 (by decide) (hg _ kw_732) (fun _ h9 => h9) rfl d_Mo_text_75 ?_
    refine lv_iload_n hx hb d_Mo_text_78 rfl (lv_at hl 0 rfl) ?_
    refine lv_iconst (v := 1) hx hb d_Mo_text_79 (by decide) ?_
    refine lv_isub hx hb d_Mo_text_80 ?_
    rw [hrr, show nI (n + 1) - 1 = nI n from nI_pred _]
    have hi9 : vp_in (nI n) 16 := vp_in_nI hn (by decide)
    refine lv_iload_n hx hb d_Mo_text_81 rfl (lv_at hl 1 rfl) ?_
    refine va_iast hx hb hK hP hD hS 5 1 rfl rfl hi9 d_Mo_text_82 (fun H locs hP hD hS => ?_)
    have hP : va_P (dC, dI) vwCl [(rt, .inl (cB, 4096, .inl ft)), (ro, .inl (cB, 65536, .inl g)), (mo, .inr (8, [.int 0, .int 0, .ref rt, .int (nI (n + 1)), .ref rk, .ref rv, .ref rw, .ref ro, .int md, .ref rr, .int pt, .ref ra, .long pz, .int kc, .ref rc, .ref rl, .ref rb, .int la, .int ca])), (rk, .inl (cI, 16, .inl (upd fk n 3))), (rv, .inl (cL, 16, .inr (.inl (vp_updL fv n 0)))), (rw, .inl (cI, 16, .inl (upd (upd fw n 0) (nI n).toNatClampNeg (nI F.length))))] H := hP
    have hD : va_D A [(rt, .inl (cB, 4096, .inl ft)), (ro, .inl (cB, 65536, .inl g)), (mo, .inr (8, [.int 0, .int 0, .ref rt, .int (nI (n + 1)), .ref rk, .ref rv, .ref rw, .ref ro, .int md, .ref rr, .int pt, .ref ra, .long pz, .int kc, .ref rc, .ref rl, .ref rb, .int la, .int ca])), (rk, .inl (cI, 16, .inl (upd fk n 3))), (rv, .inl (cL, 16, .inr (.inl (vp_updL fv n 0)))), (rw, .inl (cI, 16, .inl (upd (upd fw n 0) (nI n).toNatClampNeg (nI F.length))))] := hD
    refine lv_iload_n hx hb d_Mo_text_83 rfl (lv_at hl 0 rfl) ?_
    have hP9 := hP.sub (ws' := [(mo, .inr (8, [.int 0, .int 0, .ref rt, .int (nI (n + 1)), .ref rk, .ref rv, .ref rw, .ref ro, .int md, .ref rr, .int pt, .ref ra, .long pz, .int kc, .ref rc, .ref rl, .ref rb, .int la, .int ca])), (rt, .inl (cB, 4096, .inl ft)), (rk, .inl (cI, 16, .inl (upd fk n 3))), (rv, .inl (cL, 16, .inr (.inl (vp_updL fv n 0)))), (rw, .inl (cI, 16, .inl (upd (upd fw n 0) (nI n).toNatClampNeg (nI F.length)))), (ro, .inl (cB, 65536, .inl g))]) [2, 0, 3, 4, 5, 1] rfl
    have hD9 := hD.sub (ws' := [(mo, .inr (8, [.int 0, .int 0, .ref rt, .int (nI (n + 1)), .ref rk, .ref rv, .ref rw, .ref ro, .int md, .ref rr, .int pt, .ref ra, .long pz, .int kc, .ref rc, .ref rl, .ref rb, .int la, .int ca])), (rt, .inl (cB, 4096, .inl ft)), (rk, .inl (cI, 16, .inl (upd fk n 3))), (rv, .inl (cL, 16, .inr (.inl (vp_updL fv n 0)))), (rw, .inl (cI, 16, .inl (upd (upd fw n 0) (nI n).toNatClampNeg (nI F.length)))), (ro, .inl (cB, 65536, .inl g))]) [2, 0, 3, 4, 5, 1] (by decide) rfl
    have hK9 := hK.sub (tys' := [(cB, .byte), (cI, .int), (cL, .long)]) [0, 1, 2] rfl
    rw [nI_clamp (show n < 2 ^ 31 by omega)] at hP9 hD9
    rw [upd_upd] at hP9 hD9
    exact zz_iret hx hb hr hlocks d_Mo_text_84 hS (by first | exact Nat.le_refl _ | decide | omega | (dsimp only; omega)) (by first | exact Nat.le_refl _ | decide | omega | (dsimp only; omega)) g ⟨hrr, (fun t ht => hC.1 t (by omega)), hC.2⟩ hP9 hK9 hD9
  · skip
    have f_27 : k < F.length := Nat.lt_of_not_le (fun z => c_27 (nI_le z (by omega)))
    have hj1 : vp_in (nI k) 4096 := vp_in_nI (by omega) (by decide)
    have hj2 : vp_in (nI (4096 * n + k)) 65536 := vp_in_nI (by omega) (by decide)
    refine lv_aload_n hx hb d_Mo_text_30 rfl (lv_at hl 0 rfl) ?_
    refine va_get (D := (dC, dI)) (ci := 8) (v := .ref ro) (C := "TextForgeModel") (T := TX8) (N := 19) hx hb hg iwX8 hown hK hP 0 rfl rfl 7 (by decide) (hg _ kw_733) (fun _ h9 => h9) rfl d_Mo_text_31 ?_
    refine lv_sipush (v := 4096) hx hb d_Mo_text_34 (by decide) ?_
    refine lv_aload_n hx hb d_Mo_text_37 rfl (lv_at hl 0 rfl) ?_
    refine va_get (D := (dC, dI)) (ci := 8) (v := .int (nI n)) (C := "TextForgeModel") (T := TX8) (N := 19) hx hb hg iwX8 hown hK hP 0 rfl rfl 3 (by decide) (hg _ kw_729) (fun _ h9 => h9) rfl d_Mo_text_38 ?_
    refine lv_imul hx hb d_Mo_text_41 ?_
    refine lv_iload_n hx hb d_Mo_text_42 rfl (lv_at hl 1 rfl) ?_
    refine lv_iadd hx hb d_Mo_text_43 ?_
    rw [show 4096 * nI n + nI k = nI (4096 * n + k) by rw [show (4096 : Int32) = nI 4096 from rfl, pk_mul, nI_add]]
    refine lv_aload_n hx hb d_Mo_text_44 rfl (lv_at hl 0 rfl) ?_
    refine va_get (D := (dC, dI)) (ci := 8) (v := .ref rt) (C := "TextForgeModel") (T := TX8) (N := 19) hx hb hg iwX8 hown hK hP 0 rfl rfl 2 (by decide) (hg _ kw_728) (fun _ h9 => h9) rfl d_Mo_text_45 ?_
    refine lv_iload_n hx hb d_Mo_text_48 rfl (lv_at hl 1 rfl) ?_
    refine va_bald hx hb hK hP 1 0 rfl rfl hj1 d_Mo_text_49 ?_
    refine va_bast hx hb hK hP hD hS 5 0 rfl rfl hj2 d_Mo_text_50 (fun H locs hP hD hS => ?_)
    have hP : va_P (dC, dI) vwCl [(mo, .inr (8, [.int 0, .int (nI F.length), .ref rt, .int (nI n), .ref rk, .ref rv, .ref rw, .ref ro, .int md, .ref rr, .int pt, .ref ra, .long pz, .int kc, .ref rc, .ref rl, .ref rb, .int la, .int ca])), (rt, .inl (cB, 4096, .inl ft)), (rk, .inl (cI, 16, .inl fk)), (rv, .inl (cL, 16, .inr (.inl fv))), (rw, .inl (cI, 16, .inl fw)), (ro, .inl (cB, 65536, .inl (upd g (nI (4096 * n + k)).toNatClampNeg (vp_nar .byte (ft (nI k).toNatClampNeg)))))] H := hP
    have hD : va_D A [(mo, .inr (8, [.int 0, .int (nI F.length), .ref rt, .int (nI n), .ref rk, .ref rv, .ref rw, .ref ro, .int md, .ref rr, .int pt, .ref ra, .long pz, .int kc, .ref rc, .ref rl, .ref rb, .int la, .int ca])), (rt, .inl (cB, 4096, .inl ft)), (rk, .inl (cI, 16, .inl fk)), (rv, .inl (cL, 16, .inr (.inl fv))), (rw, .inl (cI, 16, .inl fw)), (ro, .inl (cB, 65536, .inl (upd g (nI (4096 * n + k)).toNatClampNeg (vp_nar .byte (ft (nI k).toNatClampNeg)))))] := hD
    refine lv_iinc (v := (nI k) + 1) (lv' := [(1, .int ((nI k) + 1)), (0, .ref mo)]) hx hb d_Mo_text_51 hl (k := 1) rfl rfl (by decide) rfl (fun ls hl => ?_)
    refine lv_goto (tgt := 22) hx hb d_Mo_text_54 (by decide) ?_
    rw [nI_1] at hl
    exact ih_22 (k + 1, (upd g (nI (4096 * n + k)).toNatClampNeg (vp_nar .byte (ft (nI k).toNatClampNeg)))) H locs ls ⟨hP.sub [0, 1, 2, 3, 4, 5] rfl, hD.sub [0, 1, 2, 3, 4, 5] (by decide) rfl, hS, lv_sub hl [1, 0] rfl, (mo_cp hn hct f_27 hLt hC), f_27⟩ (by dsimp only; omega)
set_option maxHeartbeats 4000000 in
set_option maxRecDepth 100000 in
theorem c_Mo_textT (l : Launch) (dC : Nat → ClassId) (dI : Nat → Nat → Nat) (mo rt rk rv rw ro rr ra rc rl rb : Nat) (th fd mn md pt : Int32) (pz : Int64) (kc la ca : Int32)  : zM_i (S := Unit) l y_Mo_text w_Mo_text { frames := 1, cells := 0, slots := 0, locals := 21 } (dC, dI) vwCl [.ref mo] [(mo, .inr (8, [.int th, .int fd, .ref rt, .int (nI 16), .ref rk, .ref rv, .ref rw, .ref ro, .int md, .ref rr, .int pt, .ref ra, .long pz, .int kc, .ref rc, .ref rl, .ref rb, .int la, .int ca]))] [] (fun (r : Int32) (u : Unit) => r = 0) (fun u => [(mo, .inr (8, [.int 1, .int fd, .ref rt, .int (nI 16), .ref rk, .ref rv, .ref rw, .ref ro, .int md, .ref rr, .int pt, .ref ra, .long pz, .int kc, .ref rc, .ref rl, .ref rb, .int la, .int ca]))]) (fun u => []) 0 0 := by
  refine zz_enteri (cc := prog_12_method_9_code) (nL := 3) (ret := (some .int)) (by decide) rfl (Nat.le_of_ble_eq_true rfl) ?_
  intro p e s m below meth c A ls C0 hA hS hP hK hD hl
  obtain ⟨hx, hb, hml, hown, hg, hr, hlocks, hin⟩ := C0
  have hown : s.vm.findClass "TextForgeModel" = some m.cls := hown
  have hP : va_P (dC, dI) vwCl [(mo, .inr (8, [.int th, .int fd, .ref rt, .int (nI 16), .ref rk, .ref rv, .ref rw, .ref ro, .int md, .ref rr, .int pt, .ref ra, .long pz, .int kc, .ref rc, .ref rl, .ref rb, .int la, .int ca]))] s.heap := hP
  have hK : va_K (dC, dI) vwCl [] s := hK
  have hD : va_D A [(mo, .inr (8, [.int th, .int fd, .ref rt, .int (nI 16), .ref rk, .ref rv, .ref rw, .ref ro, .int md, .ref rr, .int pt, .ref ra, .long pz, .int kc, .ref rc, .ref rl, .ref rb, .int la, .int ca]))] := hD
  have hl : lv_has ls 3 [(0, .ref mo)] := hl
  refine lv_aload_n hx hb d_Mo_text_0 rfl (lv_at hl 0 rfl) ?_
  refine lv_iconst (v := 0) hx hb d_Mo_text_1 (by decide) ?_
  refine va_put (D := (dC, dI)) (ci := 8) (v := .int 0) (ty := .int) (C := "TextForgeModel") (T := TX8) (N := 19) hx hb hg iwX8 tyX8 tyX8_ok nmX8 hown hK hP hD hS 0 rfl rfl 0 (by decide) (hg _ kw_726) (fun _ h9 => h9) rfl (by decide +kernel) rfl rfl (Nat.le_of_ble_eq_true rfl) d_Mo_text_2 (fun H locs hP hD hS => ?_)
  have hP : va_P (dC, dI) vwCl [(mo, .inr (8, [.int 0, .int fd, .ref rt, .int (nI 16), .ref rk, .ref rv, .ref rw, .ref ro, .int md, .ref rr, .int pt, .ref ra, .long pz, .int kc, .ref rc, .ref rl, .ref rb, .int la, .int ca]))] H := hP
  have hD : va_D A [(mo, .inr (8, [.int 0, .int fd, .ref rt, .int (nI 16), .ref rk, .ref rv, .ref rw, .ref ro, .int md, .ref rr, .int pt, .ref ra, .long pz, .int kc, .ref rc, .ref rl, .ref rb, .int la, .int ca]))] := hD
  refine lv_aload_n hx hb d_Mo_text_5 rfl (lv_at hl 0 rfl) ?_
  refine va_get (D := (dC, dI)) (ci := 8) (v := .int (nI 16)) (C := "TextForgeModel") (T := TX8) (N := 19) hx hb hg iwX8 hown hK hP 0 rfl rfl 3 (by decide) (hg _ kw_729) (fun _ h9 => h9) rfl d_Mo_text_6 ?_
  refine lv_bipush (v := 16) hx hb d_Mo_text_9 (by decide) ?_
  refine lv_icmp_ne (tgt := 20) hx hb d_Mo_text_11 (by decide) (fun c9 => by first | exact absurd c9 rfl | exact absurd rfl c9) (fun _ => ?_)
  refine lv_aload_n hx hb d_Mo_text_14 rfl (lv_at hl 0 rfl) ?_
  refine lv_iconst (v := 1) hx hb d_Mo_text_15 (by decide) ?_
  have hPc := hP.sub (ws' := [(mo, .inr (8, [.int 0, .int fd, .ref rt, .int (nI 16), .ref rk, .ref rv, .ref rw, .ref ro, .int md, .ref rr, .int pt, .ref ra, .long pz, .int kc, .ref rc, .ref rl, .ref rb, .int la, .int ca]))]) [0] rfl
  have hKc := hK.sub (tys' := []) [] rfl
  have hDc := hD.sub (ws' := [(mo, .inr (8, [.int 0, .int fd, .ref rt, .int (nI 16), .ref rk, .ref rv, .ref rw, .ref ro, .int md, .ref rr, .int pt, .ref ra, .long pz, .int kc, .ref rc, .ref rl, .ref rb, .int la, .int ca]))]) [0] (by decide) rfl
  have hFc := va_free (wc := [(mo, .inr (8, [.int 0, .int fd, .ref rt, .int (nI 16), .ref rk, .ref rv, .ref rw, .ref ro, .int md, .ref rr, .int pt, .ref ra, .long pz, .int kc, .ref rc, .ref rl, .ref rb, .int la, .int ca]))]) hD hS hA [0] rfl
  refine zz_calli (va_runV (As := [.int 1]) (rest := []) ⟨hx, hb, hml, hown, hg⟩ (c_Mo_fail l dC dI mo rt rk rv rw ro rr ra rc rl rb 0 fd (nI 16) md pt pz kc la ca 1  H.size) (cwV 1 hg (gi_V kw_805 kw_807 sw_11 kw_9 kw_808) rfl rfl rfl (by decide +kernel) ⟨Nat.le_of_ble_eq_true rfl, Nat.le_of_ble_eq_true rfl⟩) (zz_preV hPc hKc hDc _ (q0 := 0) (ci := 8) rfl rfl) rfl rfl hl.1 rfl (lv_room (Nat.le_of_ble_eq_true rfl)) d_Mo_text_16 ⟨Nat.le_of_ble_eq_true rfl, Nat.le_of_ble_eq_true rfl⟩) hS hFc (fun u H1 k9 p9 d9 => va_join (wr := []) hP hD [0] [] rfl rfl (by decide) (by decide) k9 hFc p9 d9) (fun r_2 u H locs hw hP hD hK1 hS => ?_)
  obtain ⟨u_1, rfl⟩ : ∃ z, z = u := ⟨_, rfl⟩
  try dsimp only at hw
  have hP : va_P (dC, dI) vwCl [(mo, .inr (8, [.int 1, .int fd, .ref rt, .int (nI 16), .ref rk, .ref rv, .ref rw, .ref ro, .int md, .ref rr, .int pt, .ref ra, .long pz, .int kc, .ref rc, .ref rl, .ref rb, .int la, .int ca]))] H := hP
  have hD : va_D A [(mo, .inr (8, [.int 1, .int fd, .ref rt, .int (nI 16), .ref rk, .ref rv, .ref rw, .ref ro, .int md, .ref rr, .int pt, .ref ra, .long pz, .int kc, .ref rc, .ref rl, .ref rb, .int la, .int ca]))] := hD
  have hrr := hw
  have hP9 := hP.sub (ws' := [(mo, .inr (8, [.int 1, .int fd, .ref rt, .int (nI 16), .ref rk, .ref rv, .ref rw, .ref ro, .int md, .ref rr, .int pt, .ref ra, .long pz, .int kc, .ref rc, .ref rl, .ref rb, .int la, .int ca]))]) [0] rfl
  have hD9 := hD.sub (ws' := [(mo, .inr (8, [.int 1, .int fd, .ref rt, .int (nI 16), .ref rk, .ref rv, .ref rw, .ref ro, .int md, .ref rr, .int pt, .ref ra, .long pz, .int kc, .ref rc, .ref rl, .ref rb, .int la, .int ca]))]) [0] (by decide) rfl
  have hK9 := hK.sub (tys' := []) [] rfl
  exact zz_iret hx hb hr hlocks d_Mo_text_19 hS (by first | exact Nat.le_refl _ | decide | omega | (dsimp only; omega)) (by first | exact Nat.le_refl _ | decide | omega | (dsimp only; omega)) () hrr hP9 hK9 hD9
abbrev y_Mo_clear : MethodName := ⟨"TextForgeModel", "clear", "()V"⟩
abbrev w_Mo_clear : List Cond := Cond.code y_Mo_clear prog_12_method_11_code 1 none :: gw
theorem d_Mo_clear_0 : decode prog_12_method_11_code 0 = .ok (.aload_n 0, 1) := by decide +kernel
theorem d_Mo_clear_1 : decode prog_12_method_11_code 1 = .ok (.iconst 0, 1) := by decide +kernel
theorem d_Mo_clear_2 : decode prog_12_method_11_code 2 = .ok (.putfield 43, 3) := by decide +kernel
theorem d_Mo_clear_5 : decode prog_12_method_11_code 5 = .ok (.aload_n 0, 1) := by decide +kernel
theorem d_Mo_clear_6 : decode prog_12_method_11_code 6 = .ok (.iconst 0, 1) := by decide +kernel
theorem d_Mo_clear_7 : decode prog_12_method_11_code 7 = .ok (.putfield 50, 3) := by decide +kernel
theorem d_Mo_clear_10 : decode prog_12_method_11_code 10 = .ok (.return_, 1) := by decide +kernel
set_option maxHeartbeats 4000000 in
set_option maxRecDepth 100000 in
theorem c_Mo_clear (l : Launch) (dC : Nat → ClassId) (dI : Nat → Nat → Nat) (mo rt rk rv rw ro rr ra rc rl rb : Nat) (th fd mn md pt : Int32) (pz : Int64) (kc la ca : Int32)  : zM_v (S := Unit) l y_Mo_clear w_Mo_clear { frames := 0, cells := 0, slots := 0, locals := 0 } (dC, dI) vwCl [.ref mo] [(mo, .inr (8, [.int th, .int fd, .ref rt, .int mn, .ref rk, .ref rv, .ref rw, .ref ro, .int md, .ref rr, .int pt, .ref ra, .long pz, .int kc, .ref rc, .ref rl, .ref rb, .int la, .int ca]))] [] (fun (u : Unit) => True) (fun u => [(mo, .inr (8, [.int 0, .int fd, .ref rt, .int 0, .ref rk, .ref rv, .ref rw, .ref ro, .int md, .ref rr, .int pt, .ref ra, .long pz, .int kc, .ref rc, .ref rl, .ref rb, .int la, .int ca]))]) (fun u => []) 0 0 := by
  refine zz_enterv (cc := prog_12_method_11_code) (nL := 1) (ret := none) (by decide) rfl (Nat.le_of_ble_eq_true rfl) ?_
  intro p e s m below meth c A ls C0 hA hS hP hK hD hl
  obtain ⟨hx, hb, hml, hown, hg, hr, hlocks, hin⟩ := C0
  have hown : s.vm.findClass "TextForgeModel" = some m.cls := hown
  have hP : va_P (dC, dI) vwCl [(mo, .inr (8, [.int th, .int fd, .ref rt, .int mn, .ref rk, .ref rv, .ref rw, .ref ro, .int md, .ref rr, .int pt, .ref ra, .long pz, .int kc, .ref rc, .ref rl, .ref rb, .int la, .int ca]))] s.heap := hP
  have hK : va_K (dC, dI) vwCl [] s := hK
  have hD : va_D A [(mo, .inr (8, [.int th, .int fd, .ref rt, .int mn, .ref rk, .ref rv, .ref rw, .ref ro, .int md, .ref rr, .int pt, .ref ra, .long pz, .int kc, .ref rc, .ref rl, .ref rb, .int la, .int ca]))] := hD
  have hl : lv_has ls 1 [(0, .ref mo)] := hl
  refine lv_aload_n hx hb d_Mo_clear_0 rfl (lv_at hl 0 rfl) ?_
  refine lv_iconst (v := 0) hx hb d_Mo_clear_1 (by decide) ?_
  refine va_put (D := (dC, dI)) (ci := 8) (v := .int 0) (ty := .int) (C := "TextForgeModel") (T := TX8) (N := 19) hx hb hg iwX8 tyX8 tyX8_ok nmX8 hown hK hP hD hS 0 rfl rfl 0 (by decide) (hg _ kw_726) (fun _ h9 => h9) rfl (by decide +kernel) rfl rfl (Nat.le_of_ble_eq_true rfl) d_Mo_clear_2 (fun H locs hP hD hS => ?_)
  have hP : va_P (dC, dI) vwCl [(mo, .inr (8, [.int 0, .int fd, .ref rt, .int mn, .ref rk, .ref rv, .ref rw, .ref ro, .int md, .ref rr, .int pt, .ref ra, .long pz, .int kc, .ref rc, .ref rl, .ref rb, .int la, .int ca]))] H := hP
  have hD : va_D A [(mo, .inr (8, [.int 0, .int fd, .ref rt, .int mn, .ref rk, .ref rv, .ref rw, .ref ro, .int md, .ref rr, .int pt, .ref ra, .long pz, .int kc, .ref rc, .ref rl, .ref rb, .int la, .int ca]))] := hD
  refine lv_aload_n hx hb d_Mo_clear_5 rfl (lv_at hl 0 rfl) ?_
  refine lv_iconst (v := 0) hx hb d_Mo_clear_6 (by decide) ?_
  refine va_put (D := (dC, dI)) (ci := 8) (v := .int 0) (ty := .int) (C := "TextForgeModel") (T := TX8) (N := 19) hx hb hg iwX8 tyX8 tyX8_ok nmX8 hown hK hP hD hS 0 rfl rfl 3 (by decide) (hg _ kw_729) (fun _ h9 => h9) rfl (by decide +kernel) rfl rfl (Nat.le_of_ble_eq_true rfl) d_Mo_clear_7 (fun H locs hP hD hS => ?_)
  have hP : va_P (dC, dI) vwCl [(mo, .inr (8, [.int 0, .int fd, .ref rt, .int 0, .ref rk, .ref rv, .ref rw, .ref ro, .int md, .ref rr, .int pt, .ref ra, .long pz, .int kc, .ref rc, .ref rl, .ref rb, .int la, .int ca]))] H := hP
  have hD : va_D A [(mo, .inr (8, [.int 0, .int fd, .ref rt, .int 0, .ref rk, .ref rv, .ref rw, .ref ro, .int md, .ref rr, .int pt, .ref ra, .long pz, .int kc, .ref rc, .ref rl, .ref rb, .int la, .int ca]))] := hD
  have hP9 := hP.sub (ws' := [(mo, .inr (8, [.int 0, .int fd, .ref rt, .int 0, .ref rk, .ref rv, .ref rw, .ref ro, .int md, .ref rr, .int pt, .ref ra, .long pz, .int kc, .ref rc, .ref rl, .ref rb, .int la, .int ca]))]) [0] rfl
  have hD9 := hD.sub (ws' := [(mo, .inr (8, [.int 0, .int fd, .ref rt, .int 0, .ref rk, .ref rv, .ref rw, .ref ro, .int md, .ref rr, .int pt, .ref ra, .long pz, .int kc, .ref rc, .ref rl, .ref rb, .int la, .int ca]))]) [0] (by decide) rfl
  have hK9 := hK.sub (tys' := []) [] rfl
  exact zz_vret hx hb hr hlocks d_Mo_clear_10 hS (by first | exact Nat.le_refl _ | decide | omega | (dsimp only; omega)) (by first | exact Nat.le_refl _ | decide | omega | (dsimp only; omega)) () trivial hP9 hK9 hD9
abbrev y_Mo_size : MethodName := ⟨"TextForgeModel", "size", "()I"⟩
abbrev w_Mo_size : List Cond := Cond.code y_Mo_size prog_12_method_43_code 1 (some .int) :: gw
theorem d_Mo_size_0 : decode prog_12_method_43_code 0 = .ok (.aload_n 0, 1) := by decide +kernel
theorem d_Mo_size_1 : decode prog_12_method_43_code 1 = .ok (.iconst 0, 1) := by decide +kernel
theorem d_Mo_size_2 : decode prog_12_method_43_code 2 = .ok (.putfield 43, 3) := by decide +kernel
theorem d_Mo_size_5 : decode prog_12_method_43_code 5 = .ok (.aload_n 0, 1) := by decide +kernel
theorem d_Mo_size_6 : decode prog_12_method_43_code 6 = .ok (.getfield 78, 3) := by decide +kernel
theorem d_Mo_size_9 : decode prog_12_method_43_code 9 = .ok (.ireturn, 1) := by decide +kernel
set_option maxHeartbeats 4000000 in
set_option maxRecDepth 100000 in
theorem c_Mo_size (l : Launch) (dC : Nat → ClassId) (dI : Nat → Nat → Nat) (mo rt rk rv rw ro rr ra rc rl rb : Nat) (th fd mn md pt : Int32) (pz : Int64) (kc la ca : Int32)  : zM_i (S := Unit) l y_Mo_size w_Mo_size { frames := 0, cells := 0, slots := 0, locals := 0 } (dC, dI) vwCl [.ref mo] [(mo, .inr (8, [.int th, .int fd, .ref rt, .int mn, .ref rk, .ref rv, .ref rw, .ref ro, .int md, .ref rr, .int pt, .ref ra, .long pz, .int kc, .ref rc, .ref rl, .ref rb, .int la, .int ca]))] [] (fun (r : Int32) (u : Unit) => r = md) (fun u => [(mo, .inr (8, [.int 0, .int fd, .ref rt, .int mn, .ref rk, .ref rv, .ref rw, .ref ro, .int md, .ref rr, .int pt, .ref ra, .long pz, .int kc, .ref rc, .ref rl, .ref rb, .int la, .int ca]))]) (fun u => []) 0 0 := by
  refine zz_enteri (cc := prog_12_method_43_code) (nL := 1) (ret := (some .int)) (by decide) rfl (Nat.le_of_ble_eq_true rfl) ?_
  intro p e s m below meth c A ls C0 hA hS hP hK hD hl
  obtain ⟨hx, hb, hml, hown, hg, hr, hlocks, hin⟩ := C0
  have hown : s.vm.findClass "TextForgeModel" = some m.cls := hown
  have hP : va_P (dC, dI) vwCl [(mo, .inr (8, [.int th, .int fd, .ref rt, .int mn, .ref rk, .ref rv, .ref rw, .ref ro, .int md, .ref rr, .int pt, .ref ra, .long pz, .int kc, .ref rc, .ref rl, .ref rb, .int la, .int ca]))] s.heap := hP
  have hK : va_K (dC, dI) vwCl [] s := hK
  have hD : va_D A [(mo, .inr (8, [.int th, .int fd, .ref rt, .int mn, .ref rk, .ref rv, .ref rw, .ref ro, .int md, .ref rr, .int pt, .ref ra, .long pz, .int kc, .ref rc, .ref rl, .ref rb, .int la, .int ca]))] := hD
  have hl : lv_has ls 1 [(0, .ref mo)] := hl
  refine lv_aload_n hx hb d_Mo_size_0 rfl (lv_at hl 0 rfl) ?_
  refine lv_iconst (v := 0) hx hb d_Mo_size_1 (by decide) ?_
  refine va_put (D := (dC, dI)) (ci := 8) (v := .int 0) (ty := .int) (C := "TextForgeModel") (T := TX8) (N := 19) hx hb hg iwX8 tyX8 tyX8_ok nmX8 hown hK hP hD hS 0 rfl rfl 0 (by decide) (hg _ kw_726) (fun _ h9 => h9) rfl (by decide +kernel) rfl rfl (Nat.le_of_ble_eq_true rfl) d_Mo_size_2 (fun H locs hP hD hS => ?_)
  have hP : va_P (dC, dI) vwCl [(mo, .inr (8, [.int 0, .int fd, .ref rt, .int mn, .ref rk, .ref rv, .ref rw, .ref ro, .int md, .ref rr, .int pt, .ref ra, .long pz, .int kc, .ref rc, .ref rl, .ref rb, .int la, .int ca]))] H := hP
  have hD : va_D A [(mo, .inr (8, [.int 0, .int fd, .ref rt, .int mn, .ref rk, .ref rv, .ref rw, .ref ro, .int md, .ref rr, .int pt, .ref ra, .long pz, .int kc, .ref rc, .ref rl, .ref rb, .int la, .int ca]))] := hD
  refine lv_aload_n hx hb d_Mo_size_5 rfl (lv_at hl 0 rfl) ?_
  refine va_get (D := (dC, dI)) (ci := 8) (v := .int md) (C := "TextForgeModel") (T := TX8) (N := 19) hx hb hg iwX8 hown hK hP 0 rfl rfl 8 (by decide) (hg _ kw_734) (fun _ h9 => h9) rfl d_Mo_size_6 ?_
  have hP9 := hP.sub (ws' := [(mo, .inr (8, [.int 0, .int fd, .ref rt, .int mn, .ref rk, .ref rv, .ref rw, .ref ro, .int md, .ref rr, .int pt, .ref ra, .long pz, .int kc, .ref rc, .ref rl, .ref rb, .int la, .int ca]))]) [0] rfl
  have hD9 := hD.sub (ws' := [(mo, .inr (8, [.int 0, .int fd, .ref rt, .int mn, .ref rk, .ref rv, .ref rw, .ref ro, .int md, .ref rr, .int pt, .ref ra, .long pz, .int kc, .ref rc, .ref rl, .ref rb, .int la, .int ca]))]) [0] (by decide) rfl
  have hK9 := hK.sub (tys' := []) [] rfl
  exact zz_iret hx hb hr hlocks d_Mo_size_9 hS (by first | exact Nat.le_refl _ | decide | omega | (dsimp only; omega)) (by first | exact Nat.le_refl _ | decide | omega | (dsimp only; omega)) () rfl hP9 hK9 hD9
abbrev y_Mo_byteOf : MethodName := ⟨"TextForgeModel", "byteOf", "(I)I"⟩
abbrev w_Mo_byteOf : List Cond := Cond.code y_Mo_byteOf prog_12_method_44_code 2 (some .int) :: gw
theorem d_Mo_byteOf_0 : decode prog_12_method_44_code 0 = .ok (.aload_n 0, 1) := by decide +kernel
theorem d_Mo_byteOf_1 : decode prog_12_method_44_code 1 = .ok (.iconst 0, 1) := by decide +kernel
theorem d_Mo_byteOf_2 : decode prog_12_method_44_code 2 = .ok (.putfield 43, 3) := by decide +kernel
theorem d_Mo_byteOf_5 : decode prog_12_method_44_code 5 = .ok (.iload_n 1, 1) := by decide +kernel
theorem d_Mo_byteOf_6 : decode prog_12_method_44_code 6 = .ok (.ifCond .lt 24, 3) := by decide +kernel
theorem d_Mo_byteOf_9 : decode prog_12_method_44_code 9 = .ok (.iload_n 1, 1) := by decide +kernel
theorem d_Mo_byteOf_10 : decode prog_12_method_44_code 10 = .ok (.aload_n 0, 1) := by decide +kernel
theorem d_Mo_byteOf_11 : decode prog_12_method_44_code 11 = .ok (.getfield 78, 3) := by decide +kernel
theorem d_Mo_byteOf_14 : decode prog_12_method_44_code 14 = .ok (.if_icmp .ge 16, 3) := by decide +kernel
theorem d_Mo_byteOf_17 : decode prog_12_method_44_code 17 = .ok (.aload_n 0, 1) := by decide +kernel
theorem d_Mo_byteOf_18 : decode prog_12_method_44_code 18 = .ok (.getfield 28, 3) := by decide +kernel
theorem d_Mo_byteOf_21 : decode prog_12_method_44_code 21 = .ok (.iload_n 1, 1) := by decide +kernel
theorem d_Mo_byteOf_22 : decode prog_12_method_44_code 22 = .ok (.baload, 1) := by decide +kernel
theorem d_Mo_byteOf_23 : decode prog_12_method_44_code 23 = .ok (.sipush 255, 3) := by decide +kernel
theorem d_Mo_byteOf_26 : decode prog_12_method_44_code 26 = .ok (.iand, 1) := by decide +kernel
theorem d_Mo_byteOf_27 : decode prog_12_method_44_code 27 = .ok (.goto 8, 3) := by decide +kernel
theorem d_Mo_byteOf_30 : decode prog_12_method_44_code 30 = .ok (.aload_n 0, 1) := by decide +kernel
theorem d_Mo_byteOf_31 : decode prog_12_method_44_code 31 = .ok (.iconst 1, 1) := by decide +kernel
theorem d_Mo_byteOf_32 : decode prog_12_method_44_code 32 = .ok (.invokevirtual 53, 3) := by decide +kernel
theorem d_Mo_byteOf_35 : decode prog_12_method_44_code 35 = .ok (.ireturn, 1) := by decide +kernel
set_option maxHeartbeats 4000000 in
set_option maxRecDepth 100000 in
theorem c_Mo_byteOf (l : Launch) (dC : Nat → ClassId) (dI : Nat → Nat → Nat) (mo rt rk rv rw ro rr ra rc rl rb : Nat) (th fd mn md pt : Int32) (pz : Int64) (kc la ca : Int32) (cB : ClassId) (fr : Nat → Int32) (M : List Nat) (i : Nat) (hLr : by_L M fr) (hcr : M.length ≤ 4096) (hi : i < M.length) : zM_i (S := Unit) l y_Mo_byteOf w_Mo_byteOf { frames := 0, cells := 0, slots := 0, locals := 0 } (dC, dI) vwCl [.ref mo, .int (nI i)] [(mo, .inr (8, [.int th, .int fd, .ref rt, .int mn, .ref rk, .ref rv, .ref rw, .ref ro, .int (nI M.length), .ref rr, .int pt, .ref ra, .long pz, .int kc, .ref rc, .ref rl, .ref rb, .int la, .int ca])), (rr, .inl (cB, 4096, .inl fr))] [(cB, .byte)] (fun (r : Int32) (u : Unit) => r = nI (M.getD i 0)) (fun u => [(mo, .inr (8, [.int 0, .int fd, .ref rt, .int mn, .ref rk, .ref rv, .ref rw, .ref ro, .int (nI M.length), .ref rr, .int pt, .ref ra, .long pz, .int kc, .ref rc, .ref rl, .ref rb, .int la, .int ca])), (rr, .inl (cB, 4096, .inl fr))]) (fun u => [(cB, .byte)]) 0 0 := by
  refine zz_enteri (cc := prog_12_method_44_code) (nL := 2) (ret := (some .int)) (by decide) rfl (Nat.le_of_ble_eq_true rfl) ?_
  intro p e s m below meth c A ls C0 hA hS hP hK hD hl
  obtain ⟨hx, hb, hml, hown, hg, hr, hlocks, hin⟩ := C0
  have hown : s.vm.findClass "TextForgeModel" = some m.cls := hown
  have hP : va_P (dC, dI) vwCl [(mo, .inr (8, [.int th, .int fd, .ref rt, .int mn, .ref rk, .ref rv, .ref rw, .ref ro, .int (nI M.length), .ref rr, .int pt, .ref ra, .long pz, .int kc, .ref rc, .ref rl, .ref rb, .int la, .int ca])), (rr, .inl (cB, 4096, .inl fr))] s.heap := hP
  have hK : va_K (dC, dI) vwCl [(cB, .byte)] s := hK
  have hD : va_D A [(mo, .inr (8, [.int th, .int fd, .ref rt, .int mn, .ref rk, .ref rv, .ref rw, .ref ro, .int (nI M.length), .ref rr, .int pt, .ref ra, .long pz, .int kc, .ref rc, .ref rl, .ref rb, .int la, .int ca])), (rr, .inl (cB, 4096, .inl fr))] := hD
  have hl : lv_has ls 2 [(0, .ref mo), (1, .int (nI i))] := hl
  refine lv_aload_n hx hb d_Mo_byteOf_0 rfl (lv_at hl 0 rfl) ?_
  refine lv_iconst (v := 0) hx hb d_Mo_byteOf_1 (by decide) ?_
  refine va_put (D := (dC, dI)) (ci := 8) (v := .int 0) (ty := .int) (C := "TextForgeModel") (T := TX8) (N := 19) hx hb hg iwX8 tyX8 tyX8_ok nmX8 hown hK hP hD hS 0 rfl rfl 0 (by decide) (hg _ kw_726) (fun _ h9 => h9) rfl (by decide +kernel) rfl rfl (Nat.le_of_ble_eq_true rfl) d_Mo_byteOf_2 (fun H locs hP hD hS => ?_)
  have hP : va_P (dC, dI) vwCl [(mo, .inr (8, [.int 0, .int fd, .ref rt, .int mn, .ref rk, .ref rv, .ref rw, .ref ro, .int (nI M.length), .ref rr, .int pt, .ref ra, .long pz, .int kc, .ref rc, .ref rl, .ref rb, .int la, .int ca])), (rr, .inl (cB, 4096, .inl fr))] H := hP
  have hD : va_D A [(mo, .inr (8, [.int 0, .int fd, .ref rt, .int mn, .ref rk, .ref rv, .ref rw, .ref ro, .int (nI M.length), .ref rr, .int pt, .ref ra, .long pz, .int kc, .ref rc, .ref rl, .ref rb, .int la, .int ca])), (rr, .inl (cB, 4096, .inl fr))] := hD
  refine lv_iload_n hx hb d_Mo_byteOf_5 rfl (lv_at hl 1 rfl) ?_
  refine lv_if_lt (tgt := 30) hx hb d_Mo_byteOf_6 (by decide) (fun c9 => by first | exact absurd c9 (nI_pos (by omega)) | exact absurd (nI_pos (by omega)) c9) (fun _ => ?_)
  refine lv_iload_n hx hb d_Mo_byteOf_9 rfl (lv_at hl 1 rfl) ?_
  refine lv_aload_n hx hb d_Mo_byteOf_10 rfl (lv_at hl 0 rfl) ?_
  refine va_get (D := (dC, dI)) (ci := 8) (v := .int (nI M.length)) (C := "TextForgeModel") (T := TX8) (N := 19) hx hb hg iwX8 hown hK hP 0 rfl rfl 8 (by decide) (hg _ kw_734) (fun _ h9 => h9) rfl d_Mo_byteOf_11 ?_
  refine lv_icmp_ge (tgt := 30) hx hb d_Mo_byteOf_14 (by decide) (fun c9 => by first | exact absurd c9 (nI_ge hi (by omega)) | exact absurd (nI_ge hi (by omega)) c9) (fun _ => ?_)
  refine lv_aload_n hx hb d_Mo_byteOf_17 rfl (lv_at hl 0 rfl) ?_
  refine va_get (D := (dC, dI)) (ci := 8) (v := .ref rr) (C := "TextForgeModel") (T := TX8) (N := 19) hx hb hg iwX8 hown hK hP 0 rfl rfl 9 (by decide) (hg _ kw_735) (fun _ h9 => h9) rfl d_Mo_byteOf_18 ?_
  refine lv_iload_n hx hb d_Mo_byteOf_21 rfl (lv_at hl 1 rfl) ?_
  refine va_bald hx hb hK hP 1 0 rfl rfl (vp_in_nI (by omega) (by decide)) d_Mo_byteOf_22 ?_
  refine lv_sipush (v := 255) hx hb d_Mo_byteOf_23 (by decide) ?_
  refine lv_iand hx hb d_Mo_byteOf_26 ?_
  refine lv_goto (tgt := 35) hx hb d_Mo_byteOf_27 (by decide) ?_
  have hP9 := hP.sub (ws' := [(mo, .inr (8, [.int 0, .int fd, .ref rt, .int mn, .ref rk, .ref rv, .ref rw, .ref ro, .int (nI M.length), .ref rr, .int pt, .ref ra, .long pz, .int kc, .ref rc, .ref rl, .ref rb, .int la, .int ca])), (rr, .inl (cB, 4096, .inl fr))]) [0, 1] rfl
  have hD9 := hD.sub (ws' := [(mo, .inr (8, [.int 0, .int fd, .ref rt, .int mn, .ref rk, .ref rv, .ref rw, .ref ro, .int (nI M.length), .ref rr, .int pt, .ref ra, .long pz, .int kc, .ref rc, .ref rl, .ref rb, .int la, .int ca])), (rr, .inl (cB, 4096, .inl fr))]) [0, 1] (by decide) rfl
  have hK9 := hK.sub (tys' := [(cB, .byte)]) [0] rfl
  exact zz_iret hx hb hr hlocks d_Mo_byteOf_35 hS (by first | exact Nat.le_refl _ | decide | omega | (dsimp only; omega)) (by first | exact Nat.le_refl _ | decide | omega | (dsimp only; omega)) () (by_at_pos hLr hi (by omega) |>.trans (by_at_in hi (by omega))) hP9 hK9 hD9
set_option maxHeartbeats 4000000 in
set_option maxRecDepth 100000 in
theorem c_Mo_byteOfT (l : Launch) (dC : Nat → ClassId) (dI : Nat → Nat → Nat) (mo rt rk rv rw ro rr ra rc rl rb : Nat) (th fd mn md pt : Int32) (pz : Int64) (kc la ca : Int32) (M : List Nat) (v : Int32) (hbad : v < 0 ∨ nI M.length ≤ v) : zM_i (S := Unit) l y_Mo_byteOf w_Mo_byteOf { frames := 1, cells := 0, slots := 0, locals := 21 } (dC, dI) vwCl [.ref mo, .int v] [(mo, .inr (8, [.int th, .int fd, .ref rt, .int mn, .ref rk, .ref rv, .ref rw, .ref ro, .int (nI M.length), .ref rr, .int pt, .ref ra, .long pz, .int kc, .ref rc, .ref rl, .ref rb, .int la, .int ca]))] [] (fun (r : Int32) (u : Unit) => r = 0) (fun u => [(mo, .inr (8, [.int 1, .int fd, .ref rt, .int mn, .ref rk, .ref rv, .ref rw, .ref ro, .int (nI M.length), .ref rr, .int pt, .ref ra, .long pz, .int kc, .ref rc, .ref rl, .ref rb, .int la, .int ca]))]) (fun u => []) 0 0 := by
  refine zz_enteri (cc := prog_12_method_44_code) (nL := 2) (ret := (some .int)) (by decide) rfl (Nat.le_of_ble_eq_true rfl) ?_
  intro p e s m below meth c A ls C0 hA hS hP hK hD hl
  obtain ⟨hx, hb, hml, hown, hg, hr, hlocks, hin⟩ := C0
  have hown : s.vm.findClass "TextForgeModel" = some m.cls := hown
  have hP : va_P (dC, dI) vwCl [(mo, .inr (8, [.int th, .int fd, .ref rt, .int mn, .ref rk, .ref rv, .ref rw, .ref ro, .int (nI M.length), .ref rr, .int pt, .ref ra, .long pz, .int kc, .ref rc, .ref rl, .ref rb, .int la, .int ca]))] s.heap := hP
  have hK : va_K (dC, dI) vwCl [] s := hK
  have hD : va_D A [(mo, .inr (8, [.int th, .int fd, .ref rt, .int mn, .ref rk, .ref rv, .ref rw, .ref ro, .int (nI M.length), .ref rr, .int pt, .ref ra, .long pz, .int kc, .ref rc, .ref rl, .ref rb, .int la, .int ca]))] := hD
  have hl : lv_has ls 2 [(0, .ref mo), (1, .int v)] := hl
  refine lv_aload_n hx hb d_Mo_byteOf_0 rfl (lv_at hl 0 rfl) ?_
  refine lv_iconst (v := 0) hx hb d_Mo_byteOf_1 (by decide) ?_
  refine va_put (D := (dC, dI)) (ci := 8) (v := .int 0) (ty := .int) (C := "TextForgeModel") (T := TX8) (N := 19) hx hb hg iwX8 tyX8 tyX8_ok nmX8 hown hK hP hD hS 0 rfl rfl 0 (by decide) (hg _ kw_726) (fun _ h9 => h9) rfl (by decide +kernel) rfl rfl (Nat.le_of_ble_eq_true rfl) d_Mo_byteOf_2 (fun H locs hP hD hS => ?_)
  have hP : va_P (dC, dI) vwCl [(mo, .inr (8, [.int 0, .int fd, .ref rt, .int mn, .ref rk, .ref rv, .ref rw, .ref ro, .int (nI M.length), .ref rr, .int pt, .ref ra, .long pz, .int kc, .ref rc, .ref rl, .ref rb, .int la, .int ca]))] H := hP
  have hD : va_D A [(mo, .inr (8, [.int 0, .int fd, .ref rt, .int mn, .ref rk, .ref rv, .ref rw, .ref ro, .int (nI M.length), .ref rr, .int pt, .ref ra, .long pz, .int kc, .ref rc, .ref rl, .ref rb, .int la, .int ca]))] := hD
  refine lv_iload_n hx hb d_Mo_byteOf_5 rfl (lv_at hl 1 rfl) ?_
  refine lv_if_lt (tgt := 30) hx hb d_Mo_byteOf_6 (by decide) (fun c_6 => ?_) (fun c_6 => ?_)
  · skip
    refine lv_aload_n hx hb d_Mo_byteOf_30 rfl (lv_at hl 0 rfl) ?_
    refine lv_iconst (v := 1) hx hb d_Mo_byteOf_31 (by decide) ?_
    have hPc := hP.sub (ws' := [(mo, .inr (8, [.int 0, .int fd, .ref rt, .int mn, .ref rk, .ref rv, .ref rw, .ref ro, .int (nI M.length), .ref rr, .int pt, .ref ra, .long pz, .int kc, .ref rc, .ref rl, .ref rb, .int la, .int ca]))]) [0] rfl
    have hKc := hK.sub (tys' := []) [] rfl
    have hDc := hD.sub (ws' := [(mo, .inr (8, [.int 0, .int fd, .ref rt, .int mn, .ref rk, .ref rv, .ref rw, .ref ro, .int (nI M.length), .ref rr, .int pt, .ref ra, .long pz, .int kc, .ref rc, .ref rl, .ref rb, .int la, .int ca]))]) [0] (by decide) rfl
    have hFc := va_free (wc := [(mo, .inr (8, [.int 0, .int fd, .ref rt, .int mn, .ref rk, .ref rv, .ref rw, .ref ro, .int (nI M.length), .ref rr, .int pt, .ref ra, .long pz, .int kc, .ref rc, .ref rl, .ref rb, .int la, .int ca]))]) hD hS hA [0] rfl
    refine zz_calli (va_runV (As := [.int 1]) (rest := []) ⟨hx, hb, hml, hown, hg⟩ (c_Mo_fail l dC dI mo rt rk rv rw ro rr ra rc rl rb 0 fd mn (nI M.length) pt pz kc la ca 1  H.size) (cwV 1 hg (gi_V kw_805 kw_807 sw_11 kw_9 kw_808) rfl rfl rfl (by decide +kernel) ⟨Nat.le_of_ble_eq_true rfl, Nat.le_of_ble_eq_true rfl⟩) (zz_preV hPc hKc hDc _ (q0 := 0) (ci := 8) rfl rfl) rfl rfl hl.1 rfl (lv_room (Nat.le_of_ble_eq_true rfl)) d_Mo_byteOf_32 ⟨Nat.le_of_ble_eq_true rfl, Nat.le_of_ble_eq_true rfl⟩) hS hFc (fun u H1 k9 p9 d9 => va_join (wr := []) hP hD [0] [] rfl rfl (by decide) (by decide) k9 hFc p9 d9) (fun r_2 u H locs hw hP hD hK1 hS => ?_)
    obtain ⟨u_1, rfl⟩ : ∃ z, z = u := ⟨_, rfl⟩
    try dsimp only at hw
    have hP : va_P (dC, dI) vwCl [(mo, .inr (8, [.int 1, .int fd, .ref rt, .int mn, .ref rk, .ref rv, .ref rw, .ref ro, .int (nI M.length), .ref rr, .int pt, .ref ra, .long pz, .int kc, .ref rc, .ref rl, .ref rb, .int la, .int ca]))] H := hP
    have hD : va_D A [(mo, .inr (8, [.int 1, .int fd, .ref rt, .int mn, .ref rk, .ref rv, .ref rw, .ref ro, .int (nI M.length), .ref rr, .int pt, .ref ra, .long pz, .int kc, .ref rc, .ref rl, .ref rb, .int la, .int ca]))] := hD
    have hrr := hw
    have hP9 := hP.sub (ws' := [(mo, .inr (8, [.int 1, .int fd, .ref rt, .int mn, .ref rk, .ref rv, .ref rw, .ref ro, .int (nI M.length), .ref rr, .int pt, .ref ra, .long pz, .int kc, .ref rc, .ref rl, .ref rb, .int la, .int ca]))]) [0] rfl
    have hD9 := hD.sub (ws' := [(mo, .inr (8, [.int 1, .int fd, .ref rt, .int mn, .ref rk, .ref rv, .ref rw, .ref ro, .int (nI M.length), .ref rr, .int pt, .ref ra, .long pz, .int kc, .ref rc, .ref rl, .ref rb, .int la, .int ca]))]) [0] (by decide) rfl
    have hK9 := hK.sub (tys' := []) [] rfl
    exact zz_iret hx hb hr hlocks d_Mo_byteOf_35 hS (by first | exact Nat.le_refl _ | decide | omega | (dsimp only; omega)) (by first | exact Nat.le_refl _ | decide | omega | (dsimp only; omega)) () hrr hP9 hK9 hD9
  · skip
    refine lv_iload_n hx hb d_Mo_byteOf_9 rfl (lv_at hl 1 rfl) ?_
    refine lv_aload_n hx hb d_Mo_byteOf_10 rfl (lv_at hl 0 rfl) ?_
    refine va_get (D := (dC, dI)) (ci := 8) (v := .int (nI M.length)) (C := "TextForgeModel") (T := TX8) (N := 19) hx hb hg iwX8 hown hK hP 0 rfl rfl 8 (by decide) (hg _ kw_734) (fun _ h9 => h9) rfl d_Mo_byteOf_11 ?_
    refine lv_icmp_ge (tgt := 30) hx hb d_Mo_byteOf_14 (by decide) (fun c_14 => ?_) (fun c_14 => ?_)
    · skip
      refine lv_aload_n hx hb d_Mo_byteOf_30 rfl (lv_at hl 0 rfl) ?_
      refine lv_iconst (v := 1) hx hb d_Mo_byteOf_31 (by decide) ?_
      have hPc := hP.sub (ws' := [(mo, .inr (8, [.int 0, .int fd, .ref rt, .int mn, .ref rk, .ref rv, .ref rw, .ref ro, .int (nI M.length), .ref rr, .int pt, .ref ra, .long pz, .int kc, .ref rc, .ref rl, .ref rb, .int la, .int ca]))]) [0] rfl
      have hKc := hK.sub (tys' := []) [] rfl
      have hDc := hD.sub (ws' := [(mo, .inr (8, [.int 0, .int fd, .ref rt, .int mn, .ref rk, .ref rv, .ref rw, .ref ro, .int (nI M.length), .ref rr, .int pt, .ref ra, .long pz, .int kc, .ref rc, .ref rl, .ref rb, .int la, .int ca]))]) [0] (by decide) rfl
      have hFc := va_free (wc := [(mo, .inr (8, [.int 0, .int fd, .ref rt, .int mn, .ref rk, .ref rv, .ref rw, .ref ro, .int (nI M.length), .ref rr, .int pt, .ref ra, .long pz, .int kc, .ref rc, .ref rl, .ref rb, .int la, .int ca]))]) hD hS hA [0] rfl
      refine zz_calli (va_runV (As := [.int 1]) (rest := []) ⟨hx, hb, hml, hown, hg⟩ (c_Mo_fail l dC dI mo rt rk rv rw ro rr ra rc rl rb 0 fd mn (nI M.length) pt pz kc la ca 1  H.size) (cwV 1 hg (gi_V kw_805 kw_807 sw_11 kw_9 kw_808) rfl rfl rfl (by decide +kernel) ⟨Nat.le_of_ble_eq_true rfl, Nat.le_of_ble_eq_true rfl⟩) (zz_preV hPc hKc hDc _ (q0 := 0) (ci := 8) rfl rfl) rfl rfl hl.1 rfl (lv_room (Nat.le_of_ble_eq_true rfl)) d_Mo_byteOf_32 ⟨Nat.le_of_ble_eq_true rfl, Nat.le_of_ble_eq_true rfl⟩) hS hFc (fun u H1 k9 p9 d9 => va_join (wr := []) hP hD [0] [] rfl rfl (by decide) (by decide) k9 hFc p9 d9) (fun r_4 u H locs hw hP hD hK1 hS => ?_)
      obtain ⟨u_3, rfl⟩ : ∃ z, z = u := ⟨_, rfl⟩
      try dsimp only at hw
      have hP : va_P (dC, dI) vwCl [(mo, .inr (8, [.int 1, .int fd, .ref rt, .int mn, .ref rk, .ref rv, .ref rw, .ref ro, .int (nI M.length), .ref rr, .int pt, .ref ra, .long pz, .int kc, .ref rc, .ref rl, .ref rb, .int la, .int ca]))] H := hP
      have hD : va_D A [(mo, .inr (8, [.int 1, .int fd, .ref rt, .int mn, .ref rk, .ref rv, .ref rw, .ref ro, .int (nI M.length), .ref rr, .int pt, .ref ra, .long pz, .int kc, .ref rc, .ref rl, .ref rb, .int la, .int ca]))] := hD
      have hrr := hw
      have hP9 := hP.sub (ws' := [(mo, .inr (8, [.int 1, .int fd, .ref rt, .int mn, .ref rk, .ref rv, .ref rw, .ref ro, .int (nI M.length), .ref rr, .int pt, .ref ra, .long pz, .int kc, .ref rc, .ref rl, .ref rb, .int la, .int ca]))]) [0] rfl
      have hD9 := hD.sub (ws' := [(mo, .inr (8, [.int 1, .int fd, .ref rt, .int mn, .ref rk, .ref rv, .ref rw, .ref ro, .int (nI M.length), .ref rr, .int pt, .ref ra, .long pz, .int kc, .ref rc, .ref rl, .ref rb, .int la, .int ca]))]) [0] (by decide) rfl
      have hK9 := hK.sub (tys' := []) [] rfl
      exact zz_iret hx hb hr hlocks d_Mo_byteOf_35 hS (by first | exact Nat.le_refl _ | decide | omega | (dsimp only; omega)) (by first | exact Nat.le_refl _ | decide | omega | (dsimp only; omega)) () hrr hP9 hK9 hD9
    · skip
      rcases hbad with h9 | h9
      · exact absurd h9 c_6
      · exact absurd h9 c_14
abbrev y_Mo_code : MethodName := ⟨"TextForgeModel", "code", "(II)I"⟩
abbrev w_Mo_code : List Cond := Cond.code y_Mo_code prog_12_method_25_code 3 (some .int) :: gw
theorem d_Mo_code_0 : decode prog_12_method_25_code 0 = .ok (.aload_n 0, 1) := by decide +kernel
theorem d_Mo_code_1 : decode prog_12_method_25_code 1 = .ok (.iconst 0, 1) := by decide +kernel
theorem d_Mo_code_2 : decode prog_12_method_25_code 2 = .ok (.putfield 43, 3) := by decide +kernel
theorem d_Mo_code_5 : decode prog_12_method_25_code 5 = .ok (.iload_n 1, 1) := by decide +kernel
theorem d_Mo_code_6 : decode prog_12_method_25_code 6 = .ok (.ifCond .lt 20, 3) := by decide +kernel
theorem d_Mo_code_9 : decode prog_12_method_25_code 9 = .ok (.iload_n 1, 1) := by decide +kernel
theorem d_Mo_code_10 : decode prog_12_method_25_code 10 = .ok (.aload_n 0, 1) := by decide +kernel
theorem d_Mo_code_11 : decode prog_12_method_25_code 11 = .ok (.getfield 126, 3) := by decide +kernel
theorem d_Mo_code_14 : decode prog_12_method_25_code 14 = .ok (.if_icmp .ge 12, 3) := by decide +kernel
theorem d_Mo_code_17 : decode prog_12_method_25_code 17 = .ok (.iload_n 2, 1) := by decide +kernel
theorem d_Mo_code_18 : decode prog_12_method_25_code 18 = .ok (.ifCond .lt 8, 3) := by decide +kernel
theorem d_Mo_code_21 : decode prog_12_method_25_code 21 = .ok (.iload_n 2, 1) := by decide +kernel
theorem d_Mo_code_22 : decode prog_12_method_25_code 22 = .ok (.iconst 2, 1) := by decide +kernel
theorem d_Mo_code_23 : decode prog_12_method_25_code 23 = .ok (.if_icmp .le 9, 3) := by decide +kernel
theorem d_Mo_code_26 : decode prog_12_method_25_code 26 = .ok (.aload_n 0, 1) := by decide +kernel
theorem d_Mo_code_27 : decode prog_12_method_25_code 27 = .ok (.iconst 1, 1) := by decide +kernel
theorem d_Mo_code_28 : decode prog_12_method_25_code 28 = .ok (.invokevirtual 53, 3) := by decide +kernel
theorem d_Mo_code_31 : decode prog_12_method_25_code 31 = .ok (.ireturn, 1) := by decide +kernel
theorem d_Mo_code_32 : decode prog_12_method_25_code 32 = .ok (.iload_n 2, 1) := by decide +kernel
theorem d_Mo_code_33 : decode prog_12_method_25_code 33 = .ok (.ifCond .ne 12, 3) := by decide +kernel
theorem d_Mo_code_36 : decode prog_12_method_25_code 36 = .ok (.aload_n 0, 1) := by decide +kernel
theorem d_Mo_code_37 : decode prog_12_method_25_code 37 = .ok (.getfield 34, 3) := by decide +kernel
theorem d_Mo_code_40 : decode prog_12_method_25_code 40 = .ok (.iload_n 1, 1) := by decide +kernel
theorem d_Mo_code_41 : decode prog_12_method_25_code 41 = .ok (.iaload, 1) := by decide +kernel
theorem d_Mo_code_42 : decode prog_12_method_25_code 42 = .ok (.goto 23, 3) := by decide +kernel
theorem d_Mo_code_45 : decode prog_12_method_25_code 45 = .ok (.iload_n 2, 1) := by decide +kernel
theorem d_Mo_code_46 : decode prog_12_method_25_code 46 = .ok (.iconst 1, 1) := by decide +kernel
theorem d_Mo_code_47 : decode prog_12_method_25_code 47 = .ok (.if_icmp .ne 12, 3) := by decide +kernel
theorem d_Mo_code_50 : decode prog_12_method_25_code 50 = .ok (.aload_n 0, 1) := by decide +kernel
theorem d_Mo_code_51 : decode prog_12_method_25_code 51 = .ok (.getfield 37, 3) := by decide +kernel
theorem d_Mo_code_54 : decode prog_12_method_25_code 54 = .ok (.iload_n 1, 1) := by decide +kernel
theorem d_Mo_code_55 : decode prog_12_method_25_code 55 = .ok (.iaload, 1) := by decide +kernel
theorem d_Mo_code_56 : decode prog_12_method_25_code 56 = .ok (.goto 9, 3) := by decide +kernel
theorem d_Mo_code_59 : decode prog_12_method_25_code 59 = .ok (.aload_n 0, 1) := by decide +kernel
theorem d_Mo_code_60 : decode prog_12_method_25_code 60 = .ok (.getfield 40, 3) := by decide +kernel
theorem d_Mo_code_63 : decode prog_12_method_25_code 63 = .ok (.iload_n 1, 1) := by decide +kernel
theorem d_Mo_code_64 : decode prog_12_method_25_code 64 = .ok (.iaload, 1) := by decide +kernel
theorem d_Mo_code_65 : decode prog_12_method_25_code 65 = .ok (.ireturn, 1) := by decide +kernel
set_option maxHeartbeats 4000000 in
set_option maxRecDepth 100000 in
theorem c_Mo_code (l : Launch) (dC : Nat → ClassId) (dI : Nat → Nat → Nat) (mo rt rk rv rw ro rr ra rc rl rb : Nat) (th fd mn md pt : Int32) (pz : Int64) (kc la ca : Int32) (cI : ClassId) (fc fl fb : Nat → Int32) (kn : Nat) (j w : Nat) (hkn : kn ≤ 4096) (hj : j < kn) (hw2 : w ≤ 2) : zM_i (S := Unit) l y_Mo_code w_Mo_code { frames := 0, cells := 0, slots := 0, locals := 0 } (dC, dI) vwCl [.ref mo, .int (nI j), .int (nI w)] [(mo, .inr (8, [.int th, .int fd, .ref rt, .int mn, .ref rk, .ref rv, .ref rw, .ref ro, .int md, .ref rr, .int pt, .ref ra, .long pz, .int (nI kn), .ref rc, .ref rl, .ref rb, .int la, .int ca])), (rc, .inl (cI, 4096, .inl fc)), (rl, .inl (cI, 4096, .inl fl)), (rb, .inl (cI, 4096, .inl fb))] [(cI, .int)] (fun (r : Int32) (u : Unit) => r = if w = 0 then fc j else if w = 1 then fl j else fb j) (fun u => [(mo, .inr (8, [.int 0, .int fd, .ref rt, .int mn, .ref rk, .ref rv, .ref rw, .ref ro, .int md, .ref rr, .int pt, .ref ra, .long pz, .int (nI kn), .ref rc, .ref rl, .ref rb, .int la, .int ca])), (rc, .inl (cI, 4096, .inl fc)), (rl, .inl (cI, 4096, .inl fl)), (rb, .inl (cI, 4096, .inl fb))]) (fun u => [(cI, .int)]) 0 0 := by
  refine zz_enteri (cc := prog_12_method_25_code) (nL := 3) (ret := (some .int)) (by decide) rfl (Nat.le_of_ble_eq_true rfl) ?_
  intro p e s m below meth c A ls C0 hA hS hP hK hD hl
  obtain ⟨hx, hb, hml, hown, hg, hr, hlocks, hin⟩ := C0
  have hown : s.vm.findClass "TextForgeModel" = some m.cls := hown
  have hP : va_P (dC, dI) vwCl [(mo, .inr (8, [.int th, .int fd, .ref rt, .int mn, .ref rk, .ref rv, .ref rw, .ref ro, .int md, .ref rr, .int pt, .ref ra, .long pz, .int (nI kn), .ref rc, .ref rl, .ref rb, .int la, .int ca])), (rc, .inl (cI, 4096, .inl fc)), (rl, .inl (cI, 4096, .inl fl)), (rb, .inl (cI, 4096, .inl fb))] s.heap := hP
  have hK : va_K (dC, dI) vwCl [(cI, .int)] s := hK
  have hD : va_D A [(mo, .inr (8, [.int th, .int fd, .ref rt, .int mn, .ref rk, .ref rv, .ref rw, .ref ro, .int md, .ref rr, .int pt, .ref ra, .long pz, .int (nI kn), .ref rc, .ref rl, .ref rb, .int la, .int ca])), (rc, .inl (cI, 4096, .inl fc)), (rl, .inl (cI, 4096, .inl fl)), (rb, .inl (cI, 4096, .inl fb))] := hD
  have hl : lv_has ls 3 [(0, .ref mo), (1, .int (nI j)), (2, .int (nI w))] := hl
  refine lv_aload_n hx hb d_Mo_code_0 rfl (lv_at hl 0 rfl) ?_
  refine lv_iconst (v := 0) hx hb d_Mo_code_1 (by decide) ?_
  refine va_put (D := (dC, dI)) (ci := 8) (v := .int 0) (ty := .int) (C := "TextForgeModel") (T := TX8) (N := 19) hx hb hg iwX8 tyX8 tyX8_ok nmX8 hown hK hP hD hS 0 rfl rfl 0 (by decide) (hg _ kw_726) (fun _ h9 => h9) rfl (by decide +kernel) rfl rfl (Nat.le_of_ble_eq_true rfl) d_Mo_code_2 (fun H locs hP hD hS => ?_)
  have hP : va_P (dC, dI) vwCl [(mo, .inr (8, [.int 0, .int fd, .ref rt, .int mn, .ref rk, .ref rv, .ref rw, .ref ro, .int md, .ref rr, .int pt, .ref ra, .long pz, .int (nI kn), .ref rc, .ref rl, .ref rb, .int la, .int ca])), (rc, .inl (cI, 4096, .inl fc)), (rl, .inl (cI, 4096, .inl fl)), (rb, .inl (cI, 4096, .inl fb))] H := hP
  have hD : va_D A [(mo, .inr (8, [.int 0, .int fd, .ref rt, .int mn, .ref rk, .ref rv, .ref rw, .ref ro, .int md, .ref rr, .int pt, .ref ra, .long pz, .int (nI kn), .ref rc, .ref rl, .ref rb, .int la, .int ca])), (rc, .inl (cI, 4096, .inl fc)), (rl, .inl (cI, 4096, .inl fl)), (rb, .inl (cI, 4096, .inl fb))] := hD
  refine lv_iload_n hx hb d_Mo_code_5 rfl (lv_at hl 1 rfl) ?_
  refine lv_if_lt (tgt := 26) hx hb d_Mo_code_6 (by decide) (fun c9 => by first | exact absurd c9 (nI_pos (by omega)) | exact absurd (nI_pos (by omega)) c9) (fun _ => ?_)
  refine lv_iload_n hx hb d_Mo_code_9 rfl (lv_at hl 1 rfl) ?_
  refine lv_aload_n hx hb d_Mo_code_10 rfl (lv_at hl 0 rfl) ?_
  refine va_get (D := (dC, dI)) (ci := 8) (v := .int (nI kn)) (C := "TextForgeModel") (T := TX8) (N := 19) hx hb hg iwX8 hown hK hP 0 rfl rfl 13 (by decide) (hg _ kw_739) (fun _ h9 => h9) rfl d_Mo_code_11 ?_
  refine lv_icmp_ge (tgt := 26) hx hb d_Mo_code_14 (by decide) (fun c9 => by first | exact absurd c9 (nI_ge hj (by omega)) | exact absurd (nI_ge hj (by omega)) c9) (fun _ => ?_)
  refine lv_iload_n hx hb d_Mo_code_17 rfl (lv_at hl 2 rfl) ?_
  refine lv_if_lt (tgt := 26) hx hb d_Mo_code_18 (by decide) (fun c9 => by first | exact absurd c9 (nI_pos (by omega)) | exact absurd (nI_pos (by omega)) c9) (fun _ => ?_)
  refine lv_iload_n hx hb d_Mo_code_21 rfl (lv_at hl 2 rfl) ?_
  refine lv_iconst (v := 2) hx hb d_Mo_code_22 (by decide) ?_
  refine lv_icmp_le (tgt := 32) hx hb d_Mo_code_23 (by decide) (fun _ => ?_) (fun c9 => by first | exact absurd c9 (nI_le hw2 (by decide)) | exact absurd (nI_le hw2 (by decide)) c9)
  refine lv_iload_n hx hb d_Mo_code_32 rfl (lv_at hl 2 rfl) ?_
  refine lv_if_ne (tgt := 45) hx hb d_Mo_code_33 (by decide) (fun c_33 => ?_) (fun c_33 => ?_)
  · skip
    have f_33 : w ≠ 0 := nI_ne (b := 0) c_33
    refine lv_iload_n hx hb d_Mo_code_45 rfl (lv_at hl 2 rfl) ?_
    refine lv_iconst (v := 1) hx hb d_Mo_code_46 (by decide) ?_
    refine lv_icmp_ne (tgt := 59) hx hb d_Mo_code_47 (by decide) (fun c_47 => ?_) (fun c_47 => ?_)
    · skip
      have f_47 : w ≠ 1 := nI_ne (b := 1) c_47
      refine lv_aload_n hx hb d_Mo_code_59 rfl (lv_at hl 0 rfl) ?_
      refine va_get (D := (dC, dI)) (ci := 8) (v := .ref rb) (C := "TextForgeModel") (T := TX8) (N := 19) hx hb hg iwX8 hown hK hP 0 rfl rfl 16 (by decide) (hg _ kw_742) (fun _ h9 => h9) rfl d_Mo_code_60 ?_
      refine lv_iload_n hx hb d_Mo_code_63 rfl (lv_at hl 1 rfl) ?_
      refine va_iald hx hb hK hP 3 0 rfl rfl (vp_in_nI (by omega) (by decide)) d_Mo_code_64 ?_
      have hP9 := hP.sub (ws' := [(mo, .inr (8, [.int 0, .int fd, .ref rt, .int mn, .ref rk, .ref rv, .ref rw, .ref ro, .int md, .ref rr, .int pt, .ref ra, .long pz, .int (nI kn), .ref rc, .ref rl, .ref rb, .int la, .int ca])), (rc, .inl (cI, 4096, .inl fc)), (rl, .inl (cI, 4096, .inl fl)), (rb, .inl (cI, 4096, .inl fb))]) [0, 1, 2, 3] rfl
      have hD9 := hD.sub (ws' := [(mo, .inr (8, [.int 0, .int fd, .ref rt, .int mn, .ref rk, .ref rv, .ref rw, .ref ro, .int md, .ref rr, .int pt, .ref ra, .long pz, .int (nI kn), .ref rc, .ref rl, .ref rb, .int la, .int ca])), (rc, .inl (cI, 4096, .inl fc)), (rl, .inl (cI, 4096, .inl fl)), (rb, .inl (cI, 4096, .inl fb))]) [0, 1, 2, 3] (by decide) rfl
      have hK9 := hK.sub (tys' := [(cI, .int)]) [0] rfl
      exact zz_iret hx hb hr hlocks d_Mo_code_65 hS (by first | exact Nat.le_refl _ | decide | omega | (dsimp only; omega)) (by first | exact Nat.le_refl _ | decide | omega | (dsimp only; omega)) () (by rw [if_neg f_33, if_neg f_47, nI_clamp (by omega)]) hP9 hK9 hD9
    · skip
      have f_47 : w = 1 := nI_e1 (b := 1) c_47 (by omega) (by omega)
      refine lv_aload_n hx hb d_Mo_code_50 rfl (lv_at hl 0 rfl) ?_
      refine va_get (D := (dC, dI)) (ci := 8) (v := .ref rl) (C := "TextForgeModel") (T := TX8) (N := 19) hx hb hg iwX8 hown hK hP 0 rfl rfl 15 (by decide) (hg _ kw_741) (fun _ h9 => h9) rfl d_Mo_code_51 ?_
      refine lv_iload_n hx hb d_Mo_code_54 rfl (lv_at hl 1 rfl) ?_
      refine va_iald hx hb hK hP 2 0 rfl rfl (vp_in_nI (by omega) (by decide)) d_Mo_code_55 ?_
      refine lv_goto (tgt := 65) hx hb d_Mo_code_56 (by decide) ?_
      have hP9 := hP.sub (ws' := [(mo, .inr (8, [.int 0, .int fd, .ref rt, .int mn, .ref rk, .ref rv, .ref rw, .ref ro, .int md, .ref rr, .int pt, .ref ra, .long pz, .int (nI kn), .ref rc, .ref rl, .ref rb, .int la, .int ca])), (rc, .inl (cI, 4096, .inl fc)), (rl, .inl (cI, 4096, .inl fl)), (rb, .inl (cI, 4096, .inl fb))]) [0, 1, 2, 3] rfl
      have hD9 := hD.sub (ws' := [(mo, .inr (8, [.int 0, .int fd, .ref rt, .int mn, .ref rk, .ref rv, .ref rw, .ref ro, .int md, .ref rr, .int pt, .ref ra, .long pz, .int (nI kn), .ref rc, .ref rl, .ref rb, .int la, .int ca])), (rc, .inl (cI, 4096, .inl fc)), (rl, .inl (cI, 4096, .inl fl)), (rb, .inl (cI, 4096, .inl fb))]) [0, 1, 2, 3] (by decide) rfl
      have hK9 := hK.sub (tys' := [(cI, .int)]) [0] rfl
      exact zz_iret hx hb hr hlocks d_Mo_code_65 hS (by first | exact Nat.le_refl _ | decide | omega | (dsimp only; omega)) (by first | exact Nat.le_refl _ | decide | omega | (dsimp only; omega)) () (by rw [if_neg f_33, if_pos f_47, nI_clamp (by omega)]) hP9 hK9 hD9
  · skip
    have f_33 : w = 0 := nI_e1 (b := 0) c_33 (by omega) (by omega)
    refine lv_aload_n hx hb d_Mo_code_36 rfl (lv_at hl 0 rfl) ?_
    refine va_get (D := (dC, dI)) (ci := 8) (v := .ref rc) (C := "TextForgeModel") (T := TX8) (N := 19) hx hb hg iwX8 hown hK hP 0 rfl rfl 14 (by decide) (hg _ kw_740) (fun _ h9 => h9) rfl d_Mo_code_37 ?_
    refine lv_iload_n hx hb d_Mo_code_40 rfl (lv_at hl 1 rfl) ?_
    refine va_iald hx hb hK hP 1 0 rfl rfl (vp_in_nI (by omega) (by decide)) d_Mo_code_41 ?_
    refine lv_goto (tgt := 65) hx hb d_Mo_code_42 (by decide) ?_
    have hP9 := hP.sub (ws' := [(mo, .inr (8, [.int 0, .int fd, .ref rt, .int mn, .ref rk, .ref rv, .ref rw, .ref ro, .int md, .ref rr, .int pt, .ref ra, .long pz, .int (nI kn), .ref rc, .ref rl, .ref rb, .int la, .int ca])), (rc, .inl (cI, 4096, .inl fc)), (rl, .inl (cI, 4096, .inl fl)), (rb, .inl (cI, 4096, .inl fb))]) [0, 1, 2, 3] rfl
    have hD9 := hD.sub (ws' := [(mo, .inr (8, [.int 0, .int fd, .ref rt, .int mn, .ref rk, .ref rv, .ref rw, .ref ro, .int md, .ref rr, .int pt, .ref ra, .long pz, .int (nI kn), .ref rc, .ref rl, .ref rb, .int la, .int ca])), (rc, .inl (cI, 4096, .inl fc)), (rl, .inl (cI, 4096, .inl fl)), (rb, .inl (cI, 4096, .inl fb))]) [0, 1, 2, 3] (by decide) rfl
    have hK9 := hK.sub (tys' := [(cI, .int)]) [0] rfl
    exact zz_iret hx hb hr hlocks d_Mo_code_65 hS (by first | exact Nat.le_refl _ | decide | omega | (dsimp only; omega)) (by first | exact Nat.le_refl _ | decide | omega | (dsimp only; omega)) () (by rw [if_pos f_33, nI_clamp (by omega)]) hP9 hK9 hD9
set_option maxHeartbeats 4000000 in
set_option maxRecDepth 100000 in
theorem c_Mo_codeT (l : Launch) (dC : Nat → ClassId) (dI : Nat → Nat → Nat) (mo rt rk rv rw ro rr ra rc rl rb : Nat) (th fd mn md pt : Int32) (pz : Int64) (kc la ca : Int32) (kn : Nat) (v w : Int32) (hbad : v < 0 ∨ nI kn ≤ v ∨ w < 0 ∨ ¬ w ≤ 2) : zM_i (S := Unit) l y_Mo_code w_Mo_code { frames := 1, cells := 0, slots := 0, locals := 21 } (dC, dI) vwCl [.ref mo, .int v, .int w] [(mo, .inr (8, [.int th, .int fd, .ref rt, .int mn, .ref rk, .ref rv, .ref rw, .ref ro, .int md, .ref rr, .int pt, .ref ra, .long pz, .int (nI kn), .ref rc, .ref rl, .ref rb, .int la, .int ca]))] [] (fun (r : Int32) (u : Unit) => r = 0) (fun u => [(mo, .inr (8, [.int 1, .int fd, .ref rt, .int mn, .ref rk, .ref rv, .ref rw, .ref ro, .int md, .ref rr, .int pt, .ref ra, .long pz, .int (nI kn), .ref rc, .ref rl, .ref rb, .int la, .int ca]))]) (fun u => []) 0 0 := by
  refine zz_enteri (cc := prog_12_method_25_code) (nL := 3) (ret := (some .int)) (by decide) rfl (Nat.le_of_ble_eq_true rfl) ?_
  intro p e s m below meth c A ls C0 hA hS hP hK hD hl
  obtain ⟨hx, hb, hml, hown, hg, hr, hlocks, hin⟩ := C0
  have hown : s.vm.findClass "TextForgeModel" = some m.cls := hown
  have hP : va_P (dC, dI) vwCl [(mo, .inr (8, [.int th, .int fd, .ref rt, .int mn, .ref rk, .ref rv, .ref rw, .ref ro, .int md, .ref rr, .int pt, .ref ra, .long pz, .int (nI kn), .ref rc, .ref rl, .ref rb, .int la, .int ca]))] s.heap := hP
  have hK : va_K (dC, dI) vwCl [] s := hK
  have hD : va_D A [(mo, .inr (8, [.int th, .int fd, .ref rt, .int mn, .ref rk, .ref rv, .ref rw, .ref ro, .int md, .ref rr, .int pt, .ref ra, .long pz, .int (nI kn), .ref rc, .ref rl, .ref rb, .int la, .int ca]))] := hD
  have hl : lv_has ls 3 [(0, .ref mo), (1, .int v), (2, .int w)] := hl
  refine lv_aload_n hx hb d_Mo_code_0 rfl (lv_at hl 0 rfl) ?_
  refine lv_iconst (v := 0) hx hb d_Mo_code_1 (by decide) ?_
  refine va_put (D := (dC, dI)) (ci := 8) (v := .int 0) (ty := .int) (C := "TextForgeModel") (T := TX8) (N := 19) hx hb hg iwX8 tyX8 tyX8_ok nmX8 hown hK hP hD hS 0 rfl rfl 0 (by decide) (hg _ kw_726) (fun _ h9 => h9) rfl (by decide +kernel) rfl rfl (Nat.le_of_ble_eq_true rfl) d_Mo_code_2 (fun H locs hP hD hS => ?_)
  have hP : va_P (dC, dI) vwCl [(mo, .inr (8, [.int 0, .int fd, .ref rt, .int mn, .ref rk, .ref rv, .ref rw, .ref ro, .int md, .ref rr, .int pt, .ref ra, .long pz, .int (nI kn), .ref rc, .ref rl, .ref rb, .int la, .int ca]))] H := hP
  have hD : va_D A [(mo, .inr (8, [.int 0, .int fd, .ref rt, .int mn, .ref rk, .ref rv, .ref rw, .ref ro, .int md, .ref rr, .int pt, .ref ra, .long pz, .int (nI kn), .ref rc, .ref rl, .ref rb, .int la, .int ca]))] := hD
  refine lv_iload_n hx hb d_Mo_code_5 rfl (lv_at hl 1 rfl) ?_
  refine lv_if_lt (tgt := 26) hx hb d_Mo_code_6 (by decide) (fun c_6 => ?_) (fun c_6 => ?_)
  · skip
    refine lv_aload_n hx hb d_Mo_code_26 rfl (lv_at hl 0 rfl) ?_
    refine lv_iconst (v := 1) hx hb d_Mo_code_27 (by decide) ?_
    have hPc := hP.sub (ws' := [(mo, .inr (8, [.int 0, .int fd, .ref rt, .int mn, .ref rk, .ref rv, .ref rw, .ref ro, .int md, .ref rr, .int pt, .ref ra, .long pz, .int (nI kn), .ref rc, .ref rl, .ref rb, .int la, .int ca]))]) [0] rfl
    have hKc := hK.sub (tys' := []) [] rfl
    have hDc := hD.sub (ws' := [(mo, .inr (8, [.int 0, .int fd, .ref rt, .int mn, .ref rk, .ref rv, .ref rw, .ref ro, .int md, .ref rr, .int pt, .ref ra, .long pz, .int (nI kn), .ref rc, .ref rl, .ref rb, .int la, .int ca]))]) [0] (by decide) rfl
    have hFc := va_free (wc := [(mo, .inr (8, [.int 0, .int fd, .ref rt, .int mn, .ref rk, .ref rv, .ref rw, .ref ro, .int md, .ref rr, .int pt, .ref ra, .long pz, .int (nI kn), .ref rc, .ref rl, .ref rb, .int la, .int ca]))]) hD hS hA [0] rfl
    refine zz_calli (va_runV (As := [.int 1]) (rest := []) ⟨hx, hb, hml, hown, hg⟩ (c_Mo_fail l dC dI mo rt rk rv rw ro rr ra rc rl rb 0 fd mn md pt pz (nI kn) la ca 1  H.size) (cwV 1 hg (gi_V kw_805 kw_807 sw_11 kw_9 kw_808) rfl rfl rfl (by decide +kernel) ⟨Nat.le_of_ble_eq_true rfl, Nat.le_of_ble_eq_true rfl⟩) (zz_preV hPc hKc hDc _ (q0 := 0) (ci := 8) rfl rfl) rfl rfl hl.1 rfl (lv_room (Nat.le_of_ble_eq_true rfl)) d_Mo_code_28 ⟨Nat.le_of_ble_eq_true rfl, Nat.le_of_ble_eq_true rfl⟩) hS hFc (fun u H1 k9 p9 d9 => va_join (wr := []) hP hD [0] [] rfl rfl (by decide) (by decide) k9 hFc p9 d9) (fun r_2 u H locs hw hP hD hK1 hS => ?_)
    obtain ⟨u_1, rfl⟩ : ∃ z, z = u := ⟨_, rfl⟩
    try dsimp only at hw
    have hP : va_P (dC, dI) vwCl [(mo, .inr (8, [.int 1, .int fd, .ref rt, .int mn, .ref rk, .ref rv, .ref rw, .ref ro, .int md, .ref rr, .int pt, .ref ra, .long pz, .int (nI kn), .ref rc, .ref rl, .ref rb, .int la, .int ca]))] H := hP
    have hD : va_D A [(mo, .inr (8, [.int 1, .int fd, .ref rt, .int mn, .ref rk, .ref rv, .ref rw, .ref ro, .int md, .ref rr, .int pt, .ref ra, .long pz, .int (nI kn), .ref rc, .ref rl, .ref rb, .int la, .int ca]))] := hD
    have hrr := hw
    have hP9 := hP.sub (ws' := [(mo, .inr (8, [.int 1, .int fd, .ref rt, .int mn, .ref rk, .ref rv, .ref rw, .ref ro, .int md, .ref rr, .int pt, .ref ra, .long pz, .int (nI kn), .ref rc, .ref rl, .ref rb, .int la, .int ca]))]) [0] rfl
    have hD9 := hD.sub (ws' := [(mo, .inr (8, [.int 1, .int fd, .ref rt, .int mn, .ref rk, .ref rv, .ref rw, .ref ro, .int md, .ref rr, .int pt, .ref ra, .long pz, .int (nI kn), .ref rc, .ref rl, .ref rb, .int la, .int ca]))]) [0] (by decide) rfl
    have hK9 := hK.sub (tys' := []) [] rfl
    exact zz_iret hx hb hr hlocks d_Mo_code_31 hS (by first | exact Nat.le_refl _ | decide | omega | (dsimp only; omega)) (by first | exact Nat.le_refl _ | decide | omega | (dsimp only; omega)) () hrr hP9 hK9 hD9
  · skip
    refine lv_iload_n hx hb d_Mo_code_9 rfl (lv_at hl 1 rfl) ?_
    refine lv_aload_n hx hb d_Mo_code_10 rfl (lv_at hl 0 rfl) ?_
    refine va_get (D := (dC, dI)) (ci := 8) (v := .int (nI kn)) (C := "TextForgeModel") (T := TX8) (N := 19) hx hb hg iwX8 hown hK hP 0 rfl rfl 13 (by decide) (hg _ kw_739) (fun _ h9 => h9) rfl d_Mo_code_11 ?_
    refine lv_icmp_ge (tgt := 26) hx hb d_Mo_code_14 (by decide) (fun c_14 => ?_) (fun c_14 => ?_)
    · skip
      refine lv_aload_n hx hb d_Mo_code_26 rfl (lv_at hl 0 rfl) ?_
      refine lv_iconst (v := 1) hx hb d_Mo_code_27 (by decide) ?_
      have hPc := hP.sub (ws' := [(mo, .inr (8, [.int 0, .int fd, .ref rt, .int mn, .ref rk, .ref rv, .ref rw, .ref ro, .int md, .ref rr, .int pt, .ref ra, .long pz, .int (nI kn), .ref rc, .ref rl, .ref rb, .int la, .int ca]))]) [0] rfl
      have hKc := hK.sub (tys' := []) [] rfl
      have hDc := hD.sub (ws' := [(mo, .inr (8, [.int 0, .int fd, .ref rt, .int mn, .ref rk, .ref rv, .ref rw, .ref ro, .int md, .ref rr, .int pt, .ref ra, .long pz, .int (nI kn), .ref rc, .ref rl, .ref rb, .int la, .int ca]))]) [0] (by decide) rfl
      have hFc := va_free (wc := [(mo, .inr (8, [.int 0, .int fd, .ref rt, .int mn, .ref rk, .ref rv, .ref rw, .ref ro, .int md, .ref rr, .int pt, .ref ra, .long pz, .int (nI kn), .ref rc, .ref rl, .ref rb, .int la, .int ca]))]) hD hS hA [0] rfl
      refine zz_calli (va_runV (As := [.int 1]) (rest := []) ⟨hx, hb, hml, hown, hg⟩ (c_Mo_fail l dC dI mo rt rk rv rw ro rr ra rc rl rb 0 fd mn md pt pz (nI kn) la ca 1  H.size) (cwV 1 hg (gi_V kw_805 kw_807 sw_11 kw_9 kw_808) rfl rfl rfl (by decide +kernel) ⟨Nat.le_of_ble_eq_true rfl, Nat.le_of_ble_eq_true rfl⟩) (zz_preV hPc hKc hDc _ (q0 := 0) (ci := 8) rfl rfl) rfl rfl hl.1 rfl (lv_room (Nat.le_of_ble_eq_true rfl)) d_Mo_code_28 ⟨Nat.le_of_ble_eq_true rfl, Nat.le_of_ble_eq_true rfl⟩) hS hFc (fun u H1 k9 p9 d9 => va_join (wr := []) hP hD [0] [] rfl rfl (by decide) (by decide) k9 hFc p9 d9) (fun r_4 u H locs hw hP hD hK1 hS => ?_)
      obtain ⟨u_3, rfl⟩ : ∃ z, z = u := ⟨_, rfl⟩
      try dsimp only at hw
      have hP : va_P (dC, dI) vwCl [(mo, .inr (8, [.int 1, .int fd, .ref rt, .int mn, .ref rk, .ref rv, .ref rw, .ref ro, .int md, .ref rr, .int pt, .ref ra, .long pz, .int (nI kn), .ref rc, .ref rl, .ref rb, .int la, .int ca]))] H := hP
      have hD : va_D A [(mo, .inr (8, [.int 1, .int fd, .ref rt, .int mn, .ref rk, .ref rv, .ref rw, .ref ro, .int md, .ref rr, .int pt, .ref ra, .long pz, .int (nI kn), .ref rc, .ref rl, .ref rb, .int la, .int ca]))] := hD
      have hrr := hw
      have hP9 := hP.sub (ws' := [(mo, .inr (8, [.int 1, .int fd, .ref rt, .int mn, .ref rk, .ref rv, .ref rw, .ref ro, .int md, .ref rr, .int pt, .ref ra, .long pz, .int (nI kn), .ref rc, .ref rl, .ref rb, .int la, .int ca]))]) [0] rfl
      have hD9 := hD.sub (ws' := [(mo, .inr (8, [.int 1, .int fd, .ref rt, .int mn, .ref rk, .ref rv, .ref rw, .ref ro, .int md, .ref rr, .int pt, .ref ra, .long pz, .int (nI kn), .ref rc, .ref rl, .ref rb, .int la, .int ca]))]) [0] (by decide) rfl
      have hK9 := hK.sub (tys' := []) [] rfl
      exact zz_iret hx hb hr hlocks d_Mo_code_31 hS (by first | exact Nat.le_refl _ | decide | omega | (dsimp only; omega)) (by first | exact Nat.le_refl _ | decide | omega | (dsimp only; omega)) () hrr hP9 hK9 hD9
    · skip
      refine lv_iload_n hx hb d_Mo_code_17 rfl (lv_at hl 2 rfl) ?_
      refine lv_if_lt (tgt := 26) hx hb d_Mo_code_18 (by decide) (fun c_18 => ?_) (fun c_18 => ?_)
      · skip
        refine lv_aload_n hx hb d_Mo_code_26 rfl (lv_at hl 0 rfl) ?_
        refine lv_iconst (v := 1) hx hb d_Mo_code_27 (by decide) ?_
        have hPc := hP.sub (ws' := [(mo, .inr (8, [.int 0, .int fd, .ref rt, .int mn, .ref rk, .ref rv, .ref rw, .ref ro, .int md, .ref rr, .int pt, .ref ra, .long pz, .int (nI kn), .ref rc, .ref rl, .ref rb, .int la, .int ca]))]) [0] rfl
        have hKc := hK.sub (tys' := []) [] rfl
        have hDc := hD.sub (ws' := [(mo, .inr (8, [.int 0, .int fd, .ref rt, .int mn, .ref rk, .ref rv, .ref rw, .ref ro, .int md, .ref rr, .int pt, .ref ra, .long pz, .int (nI kn), .ref rc, .ref rl, .ref rb, .int la, .int ca]))]) [0] (by decide) rfl
        have hFc := va_free (wc := [(mo, .inr (8, [.int 0, .int fd, .ref rt, .int mn, .ref rk, .ref rv, .ref rw, .ref ro, .int md, .ref rr, .int pt, .ref ra, .long pz, .int (nI kn), .ref rc, .ref rl, .ref rb, .int la, .int ca]))]) hD hS hA [0] rfl
        refine zz_calli (va_runV (As := [.int 1]) (rest := []) ⟨hx, hb, hml, hown, hg⟩ (c_Mo_fail l dC dI mo rt rk rv rw ro rr ra rc rl rb 0 fd mn md pt pz (nI kn) la ca 1  H.size) (cwV 1 hg (gi_V kw_805 kw_807 sw_11 kw_9 kw_808) rfl rfl rfl (by decide +kernel) ⟨Nat.le_of_ble_eq_true rfl, Nat.le_of_ble_eq_true rfl⟩) (zz_preV hPc hKc hDc _ (q0 := 0) (ci := 8) rfl rfl) rfl rfl hl.1 rfl (lv_room (Nat.le_of_ble_eq_true rfl)) d_Mo_code_28 ⟨Nat.le_of_ble_eq_true rfl, Nat.le_of_ble_eq_true rfl⟩) hS hFc (fun u H1 k9 p9 d9 => va_join (wr := []) hP hD [0] [] rfl rfl (by decide) (by decide) k9 hFc p9 d9) (fun r_6 u H locs hw hP hD hK1 hS => ?_)
        obtain ⟨u_5, rfl⟩ : ∃ z, z = u := ⟨_, rfl⟩
        try dsimp only at hw
        have hP : va_P (dC, dI) vwCl [(mo, .inr (8, [.int 1, .int fd, .ref rt, .int mn, .ref rk, .ref rv, .ref rw, .ref ro, .int md, .ref rr, .int pt, .ref ra, .long pz, .int (nI kn), .ref rc, .ref rl, .ref rb, .int la, .int ca]))] H := hP
        have hD : va_D A [(mo, .inr (8, [.int 1, .int fd, .ref rt, .int mn, .ref rk, .ref rv, .ref rw, .ref ro, .int md, .ref rr, .int pt, .ref ra, .long pz, .int (nI kn), .ref rc, .ref rl, .ref rb, .int la, .int ca]))] := hD
        have hrr := hw
        have hP9 := hP.sub (ws' := [(mo, .inr (8, [.int 1, .int fd, .ref rt, .int mn, .ref rk, .ref rv, .ref rw, .ref ro, .int md, .ref rr, .int pt, .ref ra, .long pz, .int (nI kn), .ref rc, .ref rl, .ref rb, .int la, .int ca]))]) [0] rfl
        have hD9 := hD.sub (ws' := [(mo, .inr (8, [.int 1, .int fd, .ref rt, .int mn, .ref rk, .ref rv, .ref rw, .ref ro, .int md, .ref rr, .int pt, .ref ra, .long pz, .int (nI kn), .ref rc, .ref rl, .ref rb, .int la, .int ca]))]) [0] (by decide) rfl
        have hK9 := hK.sub (tys' := []) [] rfl
        exact zz_iret hx hb hr hlocks d_Mo_code_31 hS (by first | exact Nat.le_refl _ | decide | omega | (dsimp only; omega)) (by first | exact Nat.le_refl _ | decide | omega | (dsimp only; omega)) () hrr hP9 hK9 hD9
      · skip
        refine lv_iload_n hx hb d_Mo_code_21 rfl (lv_at hl 2 rfl) ?_
        refine lv_iconst (v := 2) hx hb d_Mo_code_22 (by decide) ?_
        refine lv_icmp_le (tgt := 32) hx hb d_Mo_code_23 (by decide) (fun c_23 => ?_) (fun c_23 => ?_)
        · skip
          rcases hbad with h9 | h9 | h9 | h9
          · exact absurd h9 c_6
          · exact absurd h9 c_14
          · exact absurd h9 c_18
          · exact absurd c_23 h9
        · skip
          refine lv_aload_n hx hb d_Mo_code_26 rfl (lv_at hl 0 rfl) ?_
          refine lv_iconst (v := 1) hx hb d_Mo_code_27 (by decide) ?_
          have hPc := hP.sub (ws' := [(mo, .inr (8, [.int 0, .int fd, .ref rt, .int mn, .ref rk, .ref rv, .ref rw, .ref ro, .int md, .ref rr, .int pt, .ref ra, .long pz, .int (nI kn), .ref rc, .ref rl, .ref rb, .int la, .int ca]))]) [0] rfl
          have hKc := hK.sub (tys' := []) [] rfl
          have hDc := hD.sub (ws' := [(mo, .inr (8, [.int 0, .int fd, .ref rt, .int mn, .ref rk, .ref rv, .ref rw, .ref ro, .int md, .ref rr, .int pt, .ref ra, .long pz, .int (nI kn), .ref rc, .ref rl, .ref rb, .int la, .int ca]))]) [0] (by decide) rfl
          have hFc := va_free (wc := [(mo, .inr (8, [.int 0, .int fd, .ref rt, .int mn, .ref rk, .ref rv, .ref rw, .ref ro, .int md, .ref rr, .int pt, .ref ra, .long pz, .int (nI kn), .ref rc, .ref rl, .ref rb, .int la, .int ca]))]) hD hS hA [0] rfl
          refine zz_calli (va_runV (As := [.int 1]) (rest := []) ⟨hx, hb, hml, hown, hg⟩ (c_Mo_fail l dC dI mo rt rk rv rw ro rr ra rc rl rb 0 fd mn md pt pz (nI kn) la ca 1  H.size) (cwV 1 hg (gi_V kw_805 kw_807 sw_11 kw_9 kw_808) rfl rfl rfl (by decide +kernel) ⟨Nat.le_of_ble_eq_true rfl, Nat.le_of_ble_eq_true rfl⟩) (zz_preV hPc hKc hDc _ (q0 := 0) (ci := 8) rfl rfl) rfl rfl hl.1 rfl (lv_room (Nat.le_of_ble_eq_true rfl)) d_Mo_code_28 ⟨Nat.le_of_ble_eq_true rfl, Nat.le_of_ble_eq_true rfl⟩) hS hFc (fun u H1 k9 p9 d9 => va_join (wr := []) hP hD [0] [] rfl rfl (by decide) (by decide) k9 hFc p9 d9) (fun r_8 u H locs hw hP hD hK1 hS => ?_)
          obtain ⟨u_7, rfl⟩ : ∃ z, z = u := ⟨_, rfl⟩
          try dsimp only at hw
          have hP : va_P (dC, dI) vwCl [(mo, .inr (8, [.int 1, .int fd, .ref rt, .int mn, .ref rk, .ref rv, .ref rw, .ref ro, .int md, .ref rr, .int pt, .ref ra, .long pz, .int (nI kn), .ref rc, .ref rl, .ref rb, .int la, .int ca]))] H := hP
          have hD : va_D A [(mo, .inr (8, [.int 1, .int fd, .ref rt, .int mn, .ref rk, .ref rv, .ref rw, .ref ro, .int md, .ref rr, .int pt, .ref ra, .long pz, .int (nI kn), .ref rc, .ref rl, .ref rb, .int la, .int ca]))] := hD
          have hrr := hw
          have hP9 := hP.sub (ws' := [(mo, .inr (8, [.int 1, .int fd, .ref rt, .int mn, .ref rk, .ref rv, .ref rw, .ref ro, .int md, .ref rr, .int pt, .ref ra, .long pz, .int (nI kn), .ref rc, .ref rl, .ref rb, .int la, .int ca]))]) [0] rfl
          have hD9 := hD.sub (ws' := [(mo, .inr (8, [.int 1, .int fd, .ref rt, .int mn, .ref rk, .ref rv, .ref rw, .ref ro, .int md, .ref rr, .int pt, .ref ra, .long pz, .int (nI kn), .ref rc, .ref rl, .ref rb, .int la, .int ca]))]) [0] (by decide) rfl
          have hK9 := hK.sub (tys' := []) [] rfl
          exact zz_iret hx hb hr hlocks d_Mo_code_31 hS (by first | exact Nat.le_refl _ | decide | omega | (dsimp only; omega)) (by first | exact Nat.le_refl _ | decide | omega | (dsimp only; omega)) () hrr hP9 hK9 hD9
