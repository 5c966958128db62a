/-! MODEL 1 -/
theorem mo_n1 {X : List Nat} {x : Nat} : nI X.length + 1 = nI (X ++ [x]).length := by rw [nI_1, List.length_append]; rfl
theorem ls_i {a : Nat} (ha : a < 2 ^ 64) : (lN a + -9223372036854775808).toInt = (a : Int) - 9223372036854775808 := by
  rw [Int64.toInt_add, show (lN a).toInt = (a : Int).bmod (2 ^ 64) from Int64.toInt_ofNat', show (-9223372036854775808 : Int64).toInt = -9223372036854775808 from by decide]
  simp only [Int.bmod]
  omega
theorem ls_c {a b : Nat} (ha : a < 2 ^ 64) (hb : b < 2 ^ 64) : 0 ≤ lg_cmp (lN a + -9223372036854775808) (lN b + -9223372036854775808) ↔ b ≤ a := by
  rw [lg_cmp_ge, Int64.le_iff_toInt_le, ls_i ha, ls_i hb]; omega
theorem go_q {n b : Nat} (hb : 2 ≤ b) : n - 2 * (n / 2 / b) * b < b ∧ n / b = 2 * (n / 2 / b) ∨ b ≤ n - 2 * (n / 2 / b) * b ∧ n / b = 2 * (n / 2 / b) + 1 := by
  have h1 := Nat.div_add_mod (n / 2) b
  have h2 := Nat.mod_lt (n / 2) (show 0 < b by omega)
  have h3 := Nat.div_add_mod n 2
  have h4 : n % 2 < 2 := Nat.mod_lt _ (by decide)
  generalize n / 2 / b = q at *
  generalize n / 2 % b = r at *
  have e : n = 2 * q * b + (2 * r + n % 2) := by
    rw [Nat.mul_assoc, Nat.mul_comm q b]
    omega
  have e2 : n - 2 * q * b = 2 * r + n % 2 := by omega
  rw [e2]
  by_cases c : 2 * r + n % 2 < b
  · refine Or.inl ⟨c, ?_⟩
    rw [e, Nat.mul_comm (2 * q) b, Nat.mul_add_div (by omega), Nat.div_eq_of_lt c]; rfl
  · refine Or.inr ⟨by omega, ?_⟩
    rw [e, Nat.mul_comm (2 * q) b, Nat.mul_add_div (by omega)]
    have : (2 * r + n % 2) / b = 1 := by
      rw [Nat.div_eq_iff (by omega)]
      omega
    rw [this]
theorem go_le {n b : Nat} (hb : 2 ≤ b) : 2 * (n / 2 / b) * b ≤ n := by
  have h1 := Nat.div_mul_le_self (n / 2) b
  have h2 := Nat.div_mul_le_self n 2
  rw [Nat.mul_assoc]
  omega
theorem lN_div {a b : Nat} (ha : a < 2 ^ 63) (hb0 : 0 < b) (hb : b < 2 ^ 63) : lN a / lN b = lN (a / b) := by
  apply Int64.toInt_inj.mp
  rw [Int64.toInt_div, show (lN a).toInt = (a : Int).bmod (2 ^ 64) from Int64.toInt_ofNat', show (lN b).toInt = (b : Int).bmod (2 ^ 64) from Int64.toInt_ofNat', show (lN (a / b)).toInt = ((a / b : Nat) : Int).bmod (2 ^ 64) from Int64.toInt_ofNat']
  have e1 : (a : Int).bmod (2 ^ 64) = a := by simp only [Int.bmod]; omega
  have e2 : (b : Int).bmod (2 ^ 64) = b := by simp only [Int.bmod]; omega
  rw [e1, e2, ← Int.ofNat_tdiv]
theorem fd_bi (x : Int32) : ((by_b x : Nat) : Int) = x.toInt % 256 := by
  unfold by_b
  have h : x.toInt = x.toBitVec.toInt := rfl
  rw [h, BitVec.toInt_eq_toNat_cond]
  have := x.toBitVec.isLt
  split <;> omega
theorem fd_b (v : Int32) : ∀ j, j < 4 → by_b (v >>> ((24 - 8 * nI j) &&& 31)) = (by_4 v).getD j 0 := by
  have h : v.toInt = v.toBitVec.toInt := rfl
  have hv := v.toBitVec.isLt
  intro j hj
  have key : ∀ (s : Int32) (k : Nat), (s.toBitVec.smod 32).toNat = k → (k = 24 ∨ k = 16 ∨ k = 8 ∨ k = 0) → by_b (v >>> s) = v.toBitVec.toNat / 2 ^ k % 256 := by
    intro s k hs hk
    have e := fd_bi (v >>> s)
    rw [pk_shr v s k hs, Int.shiftRight_eq_div_pow, h, BitVec.toInt_eq_toNat_cond] at e
    rcases hk with rfl | rfl | rfl | rfl <;> (split at e <;> omega)
  rcases (show j = 0 ∨ j = 1 ∨ j = 2 ∨ j = 3 by omega) with rfl | rfl | rfl | rfl
  · rw [key _ 24 (by decide) (by decide)]
    show _ = by_b _
    unfold by_b
    rw [pk_ushr v 24 24 (by decide)]
  · rw [key _ 16 (by decide) (by decide)]
    show _ = by_b _
    unfold by_b
    rw [pk_ushr v 16 16 (by decide)]
  · rw [key _ 8 (by decide) (by decide)]
    show _ = by_b _
    unfold by_b
    rw [pk_ushr v 8 8 (by decide)]
  · rw [key _ 0 (by decide) (by decide)]
    show _ = by_b _
    unfold by_b
    rw [Nat.pow_zero, Nat.div_one]
theorem fd_k {a b c d e : Int32} : ∀ k, k < 20 → (fd_5 a b c d e).getD k 0 = if k < 4 then (by_4 a).getD (k % 4) 0 else if k < 8 then (by_4 b).getD (k % 4) 0 else if k < 12 then (by_4 c).getD (k % 4) 0 else if k < 16 then (by_4 d).getD (k % 4) 0 else (by_4 e).getD (k % 4) 0 := by
  intro k hk
  rcases (show k = 0 ∨ k = 1 ∨ k = 2 ∨ k = 3 ∨ k = 4 ∨ k = 5 ∨ k = 6 ∨ k = 7 ∨ k = 8 ∨ k = 9 ∨ k = 10 ∨ k = 11 ∨ k = 12 ∨ k = 13 ∨ k = 14 ∨ k = 15 ∨ k = 16 ∨ k = 17 ∨ k = 18 ∨ k = 19 by omega) with rfl | rfl | rfl | rfl | rfl | rfl | rfl | rfl | rfl | rfl | rfl | rfl | rfl | rfl | rfl | rfl | rfl | rfl | rfl | rfl <;> rfl
theorem fd_t {a b c d e : Int32} {F : List Nat} {k : Nat} {x : Nat} (hk : k < 20) (hx : x = (fd_5 a b c d e).getD k 0) : (F ++ (fd_5 a b c d e).take k) ++ [x] = F ++ (fd_5 a b c d e).take (k + 1) := by
  rw [List.append_assoc, List.take_succ, hx, List.getD_eq_getElem?_getD, List.getElem?_eq_getElem (show k < (fd_5 a b c d e).length from hk)]; rfl
theorem fd_ye {F : List Nat} {a b c d e : Int32} {k : Nat} (h : F.length + 20 ≤ 4096) (hk : k = 20) : F ++ (fd_5 a b c d e).take k = fd_l F a b c d e := by
  rw [fd_l, if_pos h, List.take_of_length_le (by rw [hk]; exact Nat.le_refl _)]
theorem lz_nz {b : Nat} (h0 : 0 < b) (h : b < 1000) : lN b ≠ 0 := fun z => by
  have := congrArg (fun w : Int64 => w.toBitVec.toNat) z
  have h3 : (lN b).toBitVec.toNat = b := wb_tn (by omega)
  have h4 : (lN b).toBitVec.toNat = (0 : Int64).toBitVec.toNat := this
  have h2 : (0 : Int64).toBitVec.toNat = 0 := rfl
  omega
theorem mo_sg {i j : Nat} {P : List Nat} (hi : i < kxN) (hj : j < (kxB i).length) : (P ++ by_sg (kxB i) 0 j) ++ [by_b (nI ((kxB i).getD j 0))] = P ++ by_sg (kxB i) 0 (j + 1) := by
  rw [by_b_n (kx_bd hi hj), List.append_assoc]
  unfold by_sg
  rw [List.drop_zero, List.take_succ, List.getD_eq_getElem?_getD, List.getElem?_eq_getElem hj]; rfl
abbrev y_Mo_thrown : MethodName := ⟨"TextForgeModel", "thrown", "()I"⟩
abbrev w_Mo_thrown : List Cond := Cond.code y_Mo_thrown prog_12_method_2_code 1 (some .int) :: gw
theorem d_Mo_thrown_0 : decode prog_12_method_2_code 0 = .ok (.aload_n 0, 1) := by decide +kernel
theorem d_Mo_thrown_1 : decode prog_12_method_2_code 1 = .ok (.getfield 43, 3) := by decide +kernel
theorem d_Mo_thrown_4 : decode prog_12_method_2_code 4 = .ok (.ireturn, 1) := by decide +kernel
set_option maxHeartbeats 4000000 in
set_option maxRecDepth 100000 in
theorem c_Mo_thrown (l : Launch) (dC : Nat → ClassId) (dI : Nat → Nat → Nat) (mo rt rk rv rw ro rr ra rc rl rb : Nat) (th fd mn md pt : Int32) (pz : Int64) (kc la ca : Int32)  : zR_i l y_Mo_thrown w_Mo_thrown { frames := 0, cells := 0, slots := 0, locals := 0 } (dC, dI) vwCl [.ref mo] [(mo, .inr (8, [.int th, .int fd, .ref rt, .int mn, .ref rk, .ref rv, .ref rw, .ref ro, .int md, .ref rr, .int pt, .ref ra, .long pz, .int kc, .ref rc, .ref rl, .ref rb, .int la, .int ca]))] [] (fun r : Int32 => r = th) := by
  refine zz_enterR (cc := prog_12_method_2_code) (nL := 1) (ret := (some .int)) (by decide) rfl (Nat.le_of_ble_eq_true rfl) ?_
  intro p e s m below meth c ls C0 hP hK hl
  obtain ⟨hx, hb, hml, hown, hg, hr, hlocks, hin⟩ := C0
  have hS : va_S (fun _ => False) s.heap s.heap [] := va_S.rf
  have hown : s.vm.findClass "TextForgeModel" = some m.cls := hown
  have hP : va_P (dC, dI) vwCl [(mo, .inr (8, [.int th, .int fd, .ref rt, .int mn, .ref rk, .ref rv, .ref rw, .ref ro, .int md, .ref rr, .int pt, .ref ra, .long pz, .int kc, .ref rc, .ref rl, .ref rb, .int la, .int ca]))] s.heap := hP
  have hK : va_K (dC, dI) vwCl [] s := hK
  have hl : lv_has ls 1 [(0, .ref mo)] := hl
  refine lv_aload_n hx hb d_Mo_thrown_0 rfl (lv_at hl 0 rfl) ?_
  refine va_get (D := (dC, dI)) (ci := 8) (v := .int th) (C := "TextForgeModel") (T := TX8) (N := 19) hx hb hg iwX8 hown hK hP 0 rfl rfl 0 (by decide) (hg _ kw_726) (fun _ h9 => h9) rfl d_Mo_thrown_1 ?_
  exact zz_iretR hx hb hr hlocks d_Mo_thrown_4 rfl
abbrev y_Mo_fail : MethodName := ⟨"TextForgeModel", "fail", "(I)I"⟩
abbrev w_Mo_fail : List Cond := Cond.code y_Mo_fail prog_12_method_3_code 2 (some .int) :: gw
theorem d_Mo_fail_0 : decode prog_12_method_3_code 0 = .ok (.aload_n 0, 1) := by decide +kernel
theorem d_Mo_fail_1 : decode prog_12_method_3_code 1 = .ok (.iload_n 1, 1) := by decide +kernel
theorem d_Mo_fail_2 : decode prog_12_method_3_code 2 = .ok (.putfield 43, 3) := by decide +kernel
theorem d_Mo_fail_5 : decode prog_12_method_3_code 5 = .ok (.iconst 0, 1) := by decide +kernel
theorem d_Mo_fail_6 : decode prog_12_method_3_code 6 = .ok (.ireturn, 1) := by decide +kernel
set_option maxHeartbeats 4000000 in
set_option maxRecDepth 100000 in
theorem c_Mo_fail (l : Launch) (dC : Nat → ClassId) (dI : Nat → Nat → Nat) (mo rt rk rv rw ro rr ra rc rl rb : Nat) (th fd mn md pt : Int32) (pz : Int64) (kc la ca : Int32) (v : Int32)  : zM_i (S := Unit) l y_Mo_fail w_Mo_fail { frames := 0, cells := 0, slots := 0, locals := 0 } (dC, dI) vwCl [.ref mo, .int v] [(mo, .inr (8, [.int th, .int fd, .ref rt, .int mn, .ref rk, .ref rv, .ref rw, .ref ro, .int md, .ref rr, .int pt, .ref ra, .long pz, .int kc, .ref rc, .ref rl, .ref rb, .int la, .int ca]))] [] (fun (r : Int32) (u : Unit) => r = 0) (fun u => [(mo, .inr (8, [.int v, .int fd, .ref rt, .int mn, .ref rk, .ref rv, .ref rw, .ref ro, .int md, .ref rr, .int pt, .ref ra, .long pz, .int kc, .ref rc, .ref rl, .ref rb, .int la, .int ca]))]) (fun u => []) 0 0 := by
  refine zz_enteri (cc := prog_12_method_3_code) (nL := 2) (ret := (some .int)) (by decide) rfl (Nat.le_of_ble_eq_true rfl) ?_
  intro p e s m below meth c A ls C0 hA hS hP hK hD hl
  obtain ⟨hx, hb, hml, hown, hg, hr, hlocks, hin⟩ := C0
  have hown : s.vm.findClass "TextForgeModel" = some m.cls := hown
  have hP : va_P (dC, dI) vwCl [(mo, .inr (8, [.int th, .int fd, .ref rt, .int mn, .ref rk, .ref rv, .ref rw, .ref ro, .int md, .ref rr, .int pt, .ref ra, .long pz, .int kc, .ref rc, .ref rl, .ref rb, .int la, .int ca]))] s.heap := hP
  have hK : va_K (dC, dI) vwCl [] s := hK
  have hD : va_D A [(mo, .inr (8, [.int th, .int fd, .ref rt, .int mn, .ref rk, .ref rv, .ref rw, .ref ro, .int md, .ref rr, .int pt, .ref ra, .long pz, .int kc, .ref rc, .ref rl, .ref rb, .int la, .int ca]))] := hD
  have hl : lv_has ls 2 [(0, .ref mo), (1, .int v)] := hl
  refine lv_aload_n hx hb d_Mo_fail_0 rfl (lv_at hl 0 rfl) ?_
  refine lv_iload_n hx hb d_Mo_fail_1 rfl (lv_at hl 1 rfl) ?_
  refine va_put (D := (dC, dI)) (ci := 8) (v := .int v) (ty := .int) (C := "TextForgeModel") (T := TX8) (N := 19) hx hb hg iwX8 tyX8 tyX8_ok nmX8 hown hK hP hD hS 0 rfl rfl 0 (by decide) (hg _ kw_726) (fun _ h9 => h9) rfl (by decide +kernel) rfl rfl (Nat.le_of_ble_eq_true rfl) d_Mo_fail_2 (fun H locs hP hD hS => ?_)
  have hP : va_P (dC, dI) vwCl [(mo, .inr (8, [.int v, .int fd, .ref rt, .int mn, .ref rk, .ref rv, .ref rw, .ref ro, .int md, .ref rr, .int pt, .ref ra, .long pz, .int kc, .ref rc, .ref rl, .ref rb, .int la, .int ca]))] H := hP
  have hD : va_D A [(mo, .inr (8, [.int v, .int fd, .ref rt, .int mn, .ref rk, .ref rv, .ref rw, .ref ro, .int md, .ref rr, .int pt, .ref ra, .long pz, .int kc, .ref rc, .ref rl, .ref rb, .int la, .int ca]))] := hD
  refine lv_iconst (v := 0) hx hb d_Mo_fail_5 (by decide) ?_
  have hP9 := hP.sub (ws' := [(mo, .inr (8, [.int v, .int fd, .ref rt, .int mn, .ref rk, .ref rv, .ref rw, .ref ro, .int md, .ref rr, .int pt, .ref ra, .long pz, .int kc, .ref rc, .ref rl, .ref rb, .int la, .int ca]))]) [0] rfl
  have hD9 := hD.sub (ws' := [(mo, .inr (8, [.int v, .int fd, .ref rt, .int mn, .ref rk, .ref rv, .ref rw, .ref ro, .int md, .ref rr, .int pt, .ref ra, .long pz, .int kc, .ref rc, .ref rl, .ref rb, .int la, .int ca]))]) [0] (by decide) rfl
  have hK9 := hK.sub (tys' := []) [] rfl
  exact zz_iret hx hb hr hlocks d_Mo_fail_6 hS (by first | exact Nat.le_refl _ | decide | omega | (dsimp only; omega)) (by first | exact Nat.le_refl _ | decide | omega | (dsimp only; omega)) () rfl hP9 hK9 hD9
abbrev y_Mo_feed : MethodName := ⟨"TextForgeModel", "feed", "(IIIII)Z"⟩
abbrev w_Mo_feed : List Cond := Cond.code y_Mo_feed prog_12_method_4_code 8 (some .boolean) :: gw
theorem d_Mo_feed_0 : decode prog_12_method_4_code 0 = .ok (.aload_n 0, 1) := by decide +kernel
theorem d_Mo_feed_1 : decode prog_12_method_4_code 1 = .ok (.iconst 0, 1) := by decide +kernel
theorem d_Mo_feed_2 : decode prog_12_method_4_code 2 = .ok (.putfield 43, 3) := by decide +kernel
theorem d_Mo_feed_5 : decode prog_12_method_4_code 5 = .ok (.aload_n 0, 1) := by decide +kernel
theorem d_Mo_feed_6 : decode prog_12_method_4_code 6 = .ok (.getfield 47, 3) := by decide +kernel
theorem d_Mo_feed_9 : decode prog_12_method_4_code 9 = .ok (.bipush 20, 2) := by decide +kernel
theorem d_Mo_feed_11 : decode prog_12_method_4_code 11 = .ok (.iadd, 1) := by decide +kernel
theorem d_Mo_feed_12 : decode prog_12_method_4_code 12 = .ok (.sipush 4096, 3) := by decide +kernel
theorem d_Mo_feed_15 : decode prog_12_method_4_code 15 = .ok (.if_icmp .le 5, 3) := by decide +kernel
theorem d_Mo_feed_18 : decode prog_12_method_4_code 18 = .ok (.iconst 0, 1) := by decide +kernel
theorem d_Mo_feed_19 : decode prog_12_method_4_code 19 = .ok (.ireturn, 1) := by decide +kernel
theorem d_Mo_feed_20 : decode prog_12_method_4_code 20 = .ok (.iconst 0, 1) := by decide +kernel
theorem d_Mo_feed_21 : decode prog_12_method_4_code 21 = .ok (.istore 6, 2) := by decide +kernel
theorem d_Mo_feed_23 : decode prog_12_method_4_code 23 = .ok (.iload 6, 2) := by decide +kernel
theorem d_Mo_feed_25 : decode prog_12_method_4_code 25 = .ok (.bipush 20, 2) := by decide +kernel
theorem d_Mo_feed_27 : decode prog_12_method_4_code 27 = .ok (.if_icmp .ge 90, 3) := by decide +kernel
theorem d_Mo_feed_30 : decode prog_12_method_4_code 30 = .ok (.iload 6, 2) := by decide +kernel
theorem d_Mo_feed_32 : decode prog_12_method_4_code 32 = .ok (.iconst 4, 1) := by decide +kernel
theorem d_Mo_feed_33 : decode prog_12_method_4_code 33 = .ok (.if_icmp .ge 7, 3) := by decide +kernel
theorem d_Mo_feed_36 : decode prog_12_method_4_code 36 = .ok (.iload_n 1, 1) := by decide +kernel
theorem d_Mo_feed_37 : decode prog_12_method_4_code 37 = .ok (.goto 39, 3) := by decide +kernel
theorem d_Mo_feed_40 : decode prog_12_method_4_code 40 = .ok (.iload 6, 2) := by decide +kernel
theorem d_Mo_feed_42 : decode prog_12_method_4_code 42 = .ok (.bipush 8, 2) := by decide +kernel
theorem d_Mo_feed_44 : decode prog_12_method_4_code 44 = .ok (.if_icmp .ge 7, 3) := by decide +kernel
theorem d_Mo_feed_47 : decode prog_12_method_4_code 47 = .ok (.iload_n 2, 1) := by decide +kernel
theorem d_Mo_feed_48 : decode prog_12_method_4_code 48 = .ok (.goto 28, 3) := by decide +kernel
theorem d_Mo_feed_51 : decode prog_12_method_4_code 51 = .ok (.iload 6, 2) := by decide +kernel
theorem d_Mo_feed_53 : decode prog_12_method_4_code 53 = .ok (.bipush 12, 2) := by decide +kernel
theorem d_Mo_feed_55 : decode prog_12_method_4_code 55 = .ok (.if_icmp .ge 7, 3) := by decide +kernel
theorem d_Mo_feed_58 : decode prog_12_method_4_code 58 = .ok (.iload_n 3, 1) := by decide +kernel
theorem d_Mo_feed_59 : decode prog_12_method_4_code 59 = .ok (.goto 17, 3) := by decide +kernel
theorem d_Mo_feed_62 : decode prog_12_method_4_code 62 = .ok (.iload 6, 2) := by decide +kernel
theorem d_Mo_feed_64 : decode prog_12_method_4_code 64 = .ok (.bipush 16, 2) := by decide +kernel
theorem d_Mo_feed_66 : decode prog_12_method_4_code 66 = .ok (.if_icmp .ge 8, 3) := by decide +kernel
theorem d_Mo_feed_69 : decode prog_12_method_4_code 69 = .ok (.iload 4, 2) := by decide +kernel
theorem d_Mo_feed_71 : decode prog_12_method_4_code 71 = .ok (.goto 5, 3) := by decide +kernel
theorem d_Mo_feed_74 : decode prog_12_method_4_code 74 = .ok (.iload 5, 2) := by decide +kernel
theorem d_Mo_feed_76 : decode prog_12_method_4_code 76 = .ok (.istore 7, 2) := by decide +kernel
theorem d_Mo_feed_78 : decode prog_12_method_4_code 78 = .ok (.aload_n 0, 1) := by decide +kernel
theorem d_Mo_feed_79 : decode prog_12_method_4_code 79 = .ok (.getfield 7, 3) := by decide +kernel
theorem d_Mo_feed_82 : decode prog_12_method_4_code 82 = .ok (.aload_n 0, 1) := by decide +kernel
theorem d_Mo_feed_83 : decode prog_12_method_4_code 83 = .ok (.getfield 47, 3) := by decide +kernel
theorem d_Mo_feed_86 : decode prog_12_method_4_code 86 = .ok (.iload 7, 2) := by decide +kernel
theorem d_Mo_feed_88 : decode prog_12_method_4_code 88 = .ok (.bipush 24, 2) := by decide +kernel
theorem d_Mo_feed_90 : decode prog_12_method_4_code 90 = .ok (.bipush 8, 2) := by decide +kernel
theorem d_Mo_feed_92 : decode prog_12_method_4_code 92 = .ok (.iload 6, 2) := by decide +kernel
theorem d_Mo_feed_94 : decode prog_12_method_4_code 94 = .ok (.iconst 4, 1) := by decide +kernel
theorem d_Mo_feed_95 : decode prog_12_method_4_code 95 = .ok (.irem, 1) := by decide +kernel
theorem d_Mo_feed_96 : decode prog_12_method_4_code 96 = .ok (.imul, 1) := by decide +kernel
theorem d_Mo_feed_97 : decode prog_12_method_4_code 97 = .ok (.isub, 1) := by decide +kernel
theorem d_Mo_feed_98 : decode prog_12_method_4_code 98 = .ok (.ishr, 1) := by decide +kernel
theorem d_Mo_feed_99 : decode prog_12_method_4_code 99 = .ok (.i2b, 1) := by decide +kernel
theorem d_Mo_feed_100 : decode prog_12_method_4_code 100 = .ok (.bastore, 1) := by decide +kernel
theorem d_Mo_feed_101 : decode prog_12_method_4_code 101 = .ok (.aload_n 0, 1) := by decide +kernel
theorem d_Mo_feed_102 : decode prog_12_method_4_code 102 = .ok (.dup, 1) := by decide +kernel
theorem d_Mo_feed_103 : decode prog_12_method_4_code 103 = .ok (.getfield 47, 3) := by decide +kernel
theorem d_Mo_feed_106 : decode prog_12_method_4_code 106 = .ok (.iconst 1, 1) := by decide +kernel
theorem d_Mo_feed_107 : decode prog_12_method_4_code 107 = .ok (.iadd, 1) := by decide +kernel
theorem d_Mo_feed_108 : decode prog_12_method_4_code 108 = .ok (.putfield 47, 3) := by decide +kernel
theorem d_Mo_feed_111 : decode prog_12_method_4_code 111 = .ok (.iinc 6 1, 3) := by decide +kernel
theorem d_Mo_feed_114 : decode prog_12_method_4_code 114 = .ok (.goto (-91), 3) := by decide +kernel
theorem d_Mo_feed_117 : decode prog_12_method_4_code 117 = .ok (.iconst 1, 1) := by decide +kernel
theorem d_Mo_feed_118 : decode prog_12_method_4_code 118 = .ok (.ireturn, 1) := by decide +kernel
set_option maxHeartbeats 4000000 in
set_option maxRecDepth 100000 in
theorem c_Mo_feed (l : Launch) (dC : Nat → ClassId) (dI : Nat → Nat → Nat) (mo rt rk rv rw ro rr ra rc rl rb : Nat) (th fd mn md pt : Int32) (pz : Int64) (kc la ca : Int32) (cB : ClassId) (ft : Nat → Int32) (F : List Nat) (v1 v2 v3 v4 v5 : Int32) (hLt : by_L F ft) (hct : F.length ≤ 4096) : zM_i (S := Nat → Int32) l y_Mo_feed w_Mo_feed { frames := 0, cells := 0, slots := 0, locals := 0 } (dC, dI) vwCl [.ref mo, .int v1, .int v2, .int v3, .int v4, .int v5] [(mo, .inr (8, [.int th, .int (nI F.length), .ref rt, .int mn, .ref rk, .ref rv, .ref rw, .ref ro, .int md, .ref rr, .int pt, .ref ra, .long pz, .int kc, .ref rc, .ref rl, .ref rb, .int la, .int ca])), (rt, .inl (cB, 4096, .inl ft))] [(cB, .byte)] (fun (r : Int32) (u : Nat → Int32) => r = by_z (decide (F.length + 20 ≤ 4096)) ∧ by_L (fd_l F v1 v2 v3 v4 v5) u) (fun u => [(mo, .inr (8, [.int 0, .int (nI (fd_l F v1 v2 v3 v4 v5).length), .ref rt, .int mn, .ref rk, .ref rv, .ref rw, .ref ro, .int md, .ref rr, .int pt, .ref ra, .long pz, .int kc, .ref rc, .ref rl, .ref rb, .int la, .int ca])), (rt, .inl (cB, 4096, .inl u))]) (fun u => [(cB, .byte)]) 0 0 := by
  refine zz_enteri (cc := prog_12_method_4_code) (nL := 8) (ret := (some .boolean)) (by decide) rfl (Nat.le_of_ble_eq_true rfl) ?_
  intro p e s m below meth c A ls C0 hA hS hP hK hD hl
  obtain ⟨hx, hb, hml, hown, hg, hr, hlocks, hin⟩ := C0
  have hown : s.vm.findClass "TextForgeModel" = some m.cls := hown
  have hP : va_P (dC, dI) vwCl [(mo, .inr (8, [.int th, .int (nI F.length), .ref rt, .int mn, .ref rk, .ref rv, .ref rw, .ref ro, .int md, .ref rr, .int pt, .ref ra, .long pz, .int kc, .ref rc, .ref rl, .ref rb, .int la, .int ca])), (rt, .inl (cB, 4096, .inl ft))] s.heap := hP
  have hK : va_K (dC, dI) vwCl [(cB, .byte)] s := hK
  have hD : va_D A [(mo, .inr (8, [.int th, .int (nI F.length), .ref rt, .int mn, .ref rk, .ref rv, .ref rw, .ref ro, .int md, .ref rr, .int pt, .ref ra, .long pz, .int kc, .ref rc, .ref rl, .ref rb, .int la, .int ca])), (rt, .inl (cB, 4096, .inl ft))] := hD
  have hl : lv_has ls 8 [(0, .ref mo), (1, .int v1), (2, .int v2), (3, .int v3), (4, .int v4), (5, .int v5)] := hl
  refine lv_aload_n hx hb d_Mo_feed_0 rfl (lv_at hl 0 rfl) ?_
  refine lv_iconst (v := 0) hx hb d_Mo_feed_1 (by decide) ?_
  refine va_put (D := (dC, dI)) (ci := 8) (v := .int 0) (ty := .int) (C := "TextForgeModel") (T := TX8) (N := 19) hx hb hg iwX8 tyX8 tyX8_ok nmX8 hown hK hP hD hS 0 rfl rfl 0 (by decide) (hg _ kw_726) (fun _ h9 => h9) rfl (by decide +kernel) rfl rfl (Nat.le_of_ble_eq_true rfl) d_Mo_feed_2 (fun H locs hP hD hS => ?_)
  have hP : va_P (dC, dI) vwCl [(mo, .inr (8, [.int 0, .int (nI F.length), .ref rt, .int mn, .ref rk, .ref rv, .ref rw, .ref ro, .int md, .ref rr, .int pt, .ref ra, .long pz, .int kc, .ref rc, .ref rl, .ref rb, .int la, .int ca])), (rt, .inl (cB, 4096, .inl ft))] H := hP
  have hD : va_D A [(mo, .inr (8, [.int 0, .int (nI F.length), .ref rt, .int mn, .ref rk, .ref rv, .ref rw, .ref ro, .int md, .ref rr, .int pt, .ref ra, .long pz, .int kc, .ref rc, .ref rl, .ref rb, .int la, .int ca])), (rt, .inl (cB, 4096, .inl ft))] := hD
  refine lv_aload_n hx hb d_Mo_feed_5 rfl (lv_at hl 0 rfl) ?_
  refine va_get (D := (dC, dI)) (ci := 8) (v := .int (nI F.length)) (C := "TextForgeModel") (T := TX8) (N := 19) hx hb hg iwX8 hown hK hP 0 rfl rfl 1 (by decide) (hg _ kw_727) (fun _ h9 => h9) rfl d_Mo_feed_6 ?_
  refine lv_bipush (v := 20) hx hb d_Mo_feed_9 (by decide) ?_
  refine lv_iadd hx hb d_Mo_feed_11 ?_
  rw [show nI F.length + 20 = nI (F.length + 20) from nI_add _ 20]
  refine lv_sipush (v := 4096) hx hb d_Mo_feed_12 (by decide) ?_
  refine lv_icmp_le (tgt := 20) hx hb d_Mo_feed_15 (by decide) (fun c_15 => ?_) (fun c_15 => ?_)
  · skip
    have f_15 : F.length + 20 ≤ 4096 := (nI_leI (b := 4096) (by omega) (by omega)).mp c_15
    refine lv_iconst (v := 0) hx hb d_Mo_feed_20 (by decide) ?_
    refine lv_istore (lv' := [(6, .int 0), (0, .ref mo), (1, .int v1), (2, .int v2), (3, .int v3), (4, .int v4), (5, .int v5)]) hx hb d_Mo_feed_21 hl (by decide) rfl (fun ls hl => ?_)
    rw [show nI F.length = nI (F ++ (fd_5 v1 v2 v3 v4 v5).take 0).length by rw [List.take_zero, List.append_nil]] at hP hD
    refine zz_loop (fun (x : Nat × (Nat → Int32)) H locs ls => match x with | (k, g) => va_P (dC, dI) vwCl [(mo, .inr (8, [.int 0, .int (nI (F ++ (fd_5 v1 v2 v3 v4 v5).take k).length), .ref rt, .int mn, .ref rk, .ref rv, .ref rw, .ref ro, .int md, .ref rr, .int pt, .ref ra, .long pz, .int kc, .ref rc, .ref rl, .ref rb, .int la, .int ca])), (rt, .inl (cB, 4096, .inl g))] H ∧ va_D A [(mo, .inr (8, [.int 0, .int (nI (F ++ (fd_5 v1 v2 v3 v4 v5).take k).length), .ref rt, .int mn, .ref rk, .ref rv, .ref rw, .ref ro, .int md, .ref rr, .int pt, .ref ra, .long pz, .int kc, .ref rc, .ref rl, .ref rb, .int la, .int ca])), (rt, .inl (cB, 4096, .inl g))] ∧ va_S A s.heap H locs ∧ lv_has ls 8 [(0, .ref mo), (1, .int v1), (2, .int v2), (3, .int v3), (4, .int v4), (5, .int v5), (6, .int (nI k))] ∧ by_L (F ++ (fd_5 v1 v2 v3 v4 v5).take k) g ∧ k ≤ 20) (fun x => match x with | (k, g) => 20 - k) ?_ (0, ft) ⟨hP.sub [0, 1] rfl, hD.sub [0, 1] (by decide) rfl, hS, lv_sub hl [1, 2, 3, 4, 5, 6, 0] rfl, (by rw [List.take_zero, List.append_nil]; exact hLt), (Nat.zero_le _)⟩
    intro x H locs ls hI ih_23
    obtain ⟨k, g⟩ := x
    try dsimp only at hI
    obtain ⟨hP, hD, hS, hl, hLk, hk20⟩ := hI
    refine lv_iload hx hb d_Mo_feed_23 (lv_at hl 6 rfl) ?_
    refine lv_bipush (v := 20) hx hb d_Mo_feed_25 (by decide) ?_
    refine lv_icmp_ge (tgt := 117) hx hb d_Mo_feed_27 (by decide) (fun c_27 => ?_) (fun c_27 => ?_)
    · skip
      have f_27 : 20 ≤ k := Nat.le_of_not_lt (fun z => nI_ge (b := 20) z (by omega) c_27)
      refine lv_iconst (v := 1) hx hb d_Mo_feed_117 (by decide) ?_
      have hP9 := hP.sub (ws' := [(mo, .inr (8, [.int 0, .int (nI (F ++ (fd_5 v1 v2 v3 v4 v5).take k).length), .ref rt, .int mn, .ref rk, .ref rv, .ref rw, .ref ro, .int md, .ref rr, .int pt, .ref ra, .long pz, .int kc, .ref rc, .ref rl, .ref rb, .int la, .int ca])), (rt, .inl (cB, 4096, .inl g))]) [0, 1] rfl
      have hD9 := hD.sub (ws' := [(mo, .inr (8, [.int 0, .int (nI (F ++ (fd_5 v1 v2 v3 v4 v5).take k).length), .ref rt, .int mn, .ref rk, .ref rv, .ref rw, .ref ro, .int md, .ref rr, .int pt, .ref ra, .long pz, .int kc, .ref rc, .ref rl, .ref rb, .int la, .int ca])), (rt, .inl (cB, 4096, .inl g))]) [0, 1] (by decide) rfl
      have hK9 := hK.sub (tys' := [(cB, .byte)]) [0] rfl
      rw [fd_ye f_15 (show k = 20 by omega)] at hP9 hD9
      exact zz_zret hx hb hr hlocks d_Mo_feed_118 (by decide) hS (by first | exact Nat.le_refl _ | decide | omega | (dsimp only; omega)) (by first | exact Nat.le_refl _ | decide | omega | (dsimp only; omega)) g ⟨(by rw [decide_eq_true f_15]; rfl), (by rw [← fd_ye f_15 (show k = 20 by omega)]; exact hLk)⟩ hP9 hK9 hD9
    · skip
      have f_27 : k < 20 := Nat.lt_of_not_le (fun z => c_27 (nI_le (a := 20) z (by omega)))
      refine lv_iload hx hb d_Mo_feed_30 (lv_at hl 6 rfl) ?_
      refine lv_iconst (v := 4) hx hb d_Mo_feed_32 (by decide) ?_
      refine lv_icmp_ge (tgt := 40) hx hb d_Mo_feed_33 (by decide) (fun c_33 => ?_) (fun c_33 => ?_)
      · skip
        have f_33 : 4 ≤ k := Nat.le_of_not_lt (fun z => nI_ge (b := 4) z (by omega) c_33)
        refine lv_iload hx hb d_Mo_feed_40 (lv_at hl 6 rfl) ?_
        refine lv_bipush (v := 8) hx hb d_Mo_feed_42 (by decide) ?_
        refine lv_icmp_ge (tgt := 51) hx hb d_Mo_feed_44 (by decide) (fun c_44 => ?_) (fun c_44 => ?_)
        · skip
          have f_44 : 8 ≤ k := Nat.le_of_not_lt (fun z => nI_ge (b := 8) z (by omega) c_44)
          refine lv_iload hx hb d_Mo_feed_51 (lv_at hl 6 rfl) ?_
          refine lv_bipush (v := 12) hx hb d_Mo_feed_53 (by decide) ?_
          refine lv_icmp_ge (tgt := 62) hx hb d_Mo_feed_55 (by decide) (fun c_55 => ?_) (fun c_55 => ?_)
          · skip
            have f_55 : 12 ≤ k := Nat.le_of_not_lt (fun z => nI_ge (b := 12) z (by omega) c_55)
            refine lv_iload hx hb d_Mo_feed_62 (lv_at hl 6 rfl) ?_
            refine lv_bipush (v := 16) hx hb d_Mo_feed_64 (by decide) ?_
            refine lv_icmp_ge (tgt := 74) hx hb d_Mo_feed_66 (by decide) (fun c_66 => ?_) (fun c_66 => ?_)
            · skip
              have f_66 : 16 ≤ k := Nat.le_of_not_lt (fun z => nI_ge (b := 16) z (by omega) c_66)
              refine lv_iload hx hb d_Mo_feed_74 (lv_at hl 5 rfl) ?_
              refine lv_istore (lv' := [(7, .int v5), (0, .ref mo), (1, .int v1), (2, .int v2), (3, .int v3), (4, .int v4), (5, .int v5), (6, .int (nI k))]) hx hb d_Mo_feed_76 hl (by decide) rfl (fun ls hl => ?_)
              have hi9 : vp_in (nI (F ++ (fd_5 v1 v2 v3 v4 v5).take k).length) 4096 := vp_in_nI (by rw [List.length_append, List.length_take]; omega) (by decide)
              refine lv_aload_n hx hb d_Mo_feed_78 rfl (lv_at hl 1 rfl) ?_
              refine va_get (D := (dC, dI)) (ci := 8) (v := .ref rt) (C := "TextForgeModel") (T := TX8) (N := 19) hx hb hg iwX8 hown hK hP 0 rfl rfl 2 (by decide) (hg _ kw_728) (fun _ h9 => h9) rfl d_Mo_feed_79 ?_
              refine lv_aload_n hx hb d_Mo_feed_82 rfl (lv_at hl 1 rfl) ?_
              refine va_get (D := (dC, dI)) (ci := 8) (v := .int (nI (F ++ (fd_5 v1 v2 v3 v4 v5).take k).length)) (C := "TextForgeModel") (T := TX8) (N := 19) hx hb hg iwX8 hown hK hP 0 rfl rfl 1 (by decide) (hg _ kw_727) (fun _ h9 => h9) rfl d_Mo_feed_83 ?_
              refine lv_iload hx hb d_Mo_feed_86 (lv_at hl 0 rfl) ?_
              refine lv_bipush (v := 24) hx hb d_Mo_feed_88 (by decide) ?_
              refine lv_bipush (v := 8) hx hb d_Mo_feed_90 (by decide) ?_
              refine lv_iload hx hb d_Mo_feed_92 (lv_at hl 7 rfl) ?_
              refine lv_iconst (v := 4) hx hb d_Mo_feed_94 (by decide) ?_
              refine lv_irem hx hb d_Mo_feed_95 (by decide) ?_
              rw [show nI k - nI k / 4 * 4 = nI (k % 4) from pk_rem (d := 4) (by omega) (by decide) (by decide)]
              refine lv_imul hx hb d_Mo_feed_96 ?_
              refine lv_isub hx hb d_Mo_feed_97 ?_
              refine lv_ishr hx hb d_Mo_feed_98 ?_
              refine lv_i2b hx hb d_Mo_feed_99 rfl ?_
              refine va_bast hx hb hK hP hD hS 1 0 rfl rfl hi9 d_Mo_feed_100 (fun H locs hP hD hS => ?_)
              have hP : va_P (dC, dI) vwCl [(mo, .inr (8, [.int 0, .int (nI (F ++ (fd_5 v1 v2 v3 v4 v5).take k).length), .ref rt, .int mn, .ref rk, .ref rv, .ref rw, .ref ro, .int md, .ref rr, .int pt, .ref ra, .long pz, .int kc, .ref rc, .ref rl, .ref rb, .int la, .int ca])), (rt, .inl (cB, 4096, .inl (upd g (nI (F ++ (fd_5 v1 v2 v3 v4 v5).take k).length).toNatClampNeg (vp_nar .byte ((v5 >>> ((24 - (8 * (nI (k % 4)))) &&& 31)).toInt8.toInt32)))))] H := hP
              have hD : va_D A [(mo, .inr (8, [.int 0, .int (nI (F ++ (fd_5 v1 v2 v3 v4 v5).take k).length), .ref rt, .int mn, .ref rk, .ref rv, .ref rw, .ref ro, .int md, .ref rr, .int pt, .ref ra, .long pz, .int kc, .ref rc, .ref rl, .ref rb, .int la, .int ca])), (rt, .inl (cB, 4096, .inl (upd g (nI (F ++ (fd_5 v1 v2 v3 v4 v5).take k).length).toNatClampNeg (vp_nar .byte ((v5 >>> ((24 - (8 * (nI (k % 4)))) &&& 31)).toInt8.toInt32)))))] := hD
              refine lv_aload_n hx hb d_Mo_feed_101 rfl (lv_at hl 1 rfl) ?_
              refine lv_dup hx hb d_Mo_feed_102 rfl ?_
              refine va_get (D := (dC, dI)) (ci := 8) (v := .int (nI (F ++ (fd_5 v1 v2 v3 v4 v5).take k).length)) (C := "TextForgeModel") (T := TX8) (N := 19) hx hb hg iwX8 hown hK hP 0 rfl rfl 1 (by decide) (hg _ kw_727) (fun _ h9 => h9) rfl d_Mo_feed_103 ?_
              refine lv_iconst (v := 1) hx hb d_Mo_feed_106 (by decide) ?_
              refine lv_iadd hx hb d_Mo_feed_107 ?_
              refine va_put (D := (dC, dI)) (ci := 8) (v := .int ((nI (F ++ (fd_5 v1 v2 v3 v4 v5).take k).length) + 1)) (ty := .int) (C := "TextForgeModel") (T := TX8) (N := 19) hx hb hg iwX8 tyX8 tyX8_ok nmX8 hown hK hP hD hS 0 rfl rfl 1 (by decide) (hg _ kw_727) (fun _ h9 => h9) rfl (by decide +kernel) rfl rfl (Nat.le_of_ble_eq_true rfl) d_Mo_feed_108 (fun H locs hP hD hS => ?_)
              have hP : va_P (dC, dI) vwCl [(mo, .inr (8, [.int 0, .int ((nI (F ++ (fd_5 v1 v2 v3 v4 v5).take k).length) + 1), .ref rt, .int mn, .ref rk, .ref rv, .ref rw, .ref ro, .int md, .ref rr, .int pt, .ref ra, .long pz, .int kc, .ref rc, .ref rl, .ref rb, .int la, .int ca])), (rt, .inl (cB, 4096, .inl (upd g (nI (F ++ (fd_5 v1 v2 v3 v4 v5).take k).length).toNatClampNeg (vp_nar .byte ((v5 >>> ((24 - (8 * (nI (k % 4)))) &&& 31)).toInt8.toInt32)))))] H := hP
              have hD : va_D A [(mo, .inr (8, [.int 0, .int ((nI (F ++ (fd_5 v1 v2 v3 v4 v5).take k).length) + 1), .ref rt, .int mn, .ref rk, .ref rv, .ref rw, .ref ro, .int md, .ref rr, .int pt, .ref ra, .long pz, .int kc, .ref rc, .ref rl, .ref rb, .int la, .int ca])), (rt, .inl (cB, 4096, .inl (upd g (nI (F ++ (fd_5 v1 v2 v3 v4 v5).take k).length).toNatClampNeg (vp_nar .byte ((v5 >>> ((24 - (8 * (nI (k % 4)))) &&& 31)).toInt8.toInt32)))))] := hD
              refine lv_iinc (v := (nI k) + 1) (lv' := [(6, .int ((nI k) + 1)), (7, .int v5), (0, .ref mo), (1, .int v1), (2, .int v2), (3, .int v3), (4, .int v4), (5, .int v5)]) hx hb d_Mo_feed_111 hl (k := 7) rfl rfl (by decide) rfl (fun ls hl => ?_)
              refine lv_goto (tgt := 23) hx hb d_Mo_feed_114 (by decide) ?_
              have hsx : by_b (v5 >>> ((24 - (8 * (nI (k % 4)))) &&& 31)) = (fd_5 v1 v2 v3 v4 v5).getD k 0 := by rw [fd_b _ _ (Nat.mod_lt _ (by decide)), fd_k k f_27, if_neg (by omega), if_neg (by omega), if_neg (by omega), if_neg (by omega)]
              have hnl : nI (F ++ (fd_5 v1 v2 v3 v4 v5).take k).length + 1 = nI (F ++ (fd_5 v1 v2 v3 v4 v5).take (k + 1)).length := by rw [← fd_t f_27 hsx]; exact mo_n1
              have hLn : by_L (F ++ (fd_5 v1 v2 v3 v4 v5).take (k + 1)) (upd g (nI (F ++ (fd_5 v1 v2 v3 v4 v5).take k).length).toNatClampNeg (vp_nar .byte ((v5 >>> ((24 - (8 * (nI (k % 4)))) &&& 31)).toInt8.toInt32))) := by rw [← fd_t f_27 hsx, ← by_ap_lt (cap := 4096) (by rw [List.length_append, List.length_take]; omega)]; exact by_addp hLk (by rw [List.length_append, List.length_take]; omega) (by decide)
              rw [hnl] at hP hD
              rw [nI_1] at hl
              exact ih_23 (k + 1, (upd g (nI (F ++ (fd_5 v1 v2 v3 v4 v5).take k).length).toNatClampNeg (vp_nar .byte ((v5 >>> ((24 - (8 * (nI (k % 4)))) &&& 31)).toInt8.toInt32)))) H locs ls ⟨hP.sub [0, 1] rfl, hD.sub [0, 1] (by decide) rfl, hS, lv_sub hl [2, 3, 4, 5, 6, 7, 0] rfl, hLn, f_27⟩ (by dsimp only; omega)
            · skip
              have f_66 : k < 16 := Nat.lt_of_not_le (fun z => c_66 (nI_le (a := 16) z (by omega)))
              refine lv_iload hx hb d_Mo_feed_69 (lv_at hl 4 rfl) ?_
              refine lv_goto (tgt := 76) hx hb d_Mo_feed_71 (by decide) ?_
              refine lv_istore (lv' := [(7, .int v4), (0, .ref mo), (1, .int v1), (2, .int v2), (3, .int v3), (4, .int v4), (5, .int v5), (6, .int (nI k))]) hx hb d_Mo_feed_76 hl (by decide) rfl (fun ls hl => ?_)
              have hi9 : vp_in (nI (F ++ (fd_5 v1 v2 v3 v4 v5).take k).length) 4096 := vp_in_nI (by rw [List.length_append, List.length_take]; omega) (by decide)
              refine lv_aload_n hx hb d_Mo_feed_78 rfl (lv_at hl 1 rfl) ?_
              refine va_get (D := (dC, dI)) (ci := 8) (v := .ref rt) (C := "TextForgeModel") (T := TX8) (N := 19) hx hb hg iwX8 hown hK hP 0 rfl rfl 2 (by decide) (hg _ kw_728) (fun _ h9 => h9) rfl d_Mo_feed_79 ?_
              refine lv_aload_n hx hb d_Mo_feed_82 rfl (lv_at hl 1 rfl) ?_
              refine va_get (D := (dC, dI)) (ci := 8) (v := .int (nI (F ++ (fd_5 v1 v2 v3 v4 v5).take k).length)) (C := "TextForgeModel") (T := TX8) (N := 19) hx hb hg iwX8 hown hK hP 0 rfl rfl 1 (by decide) (hg _ kw_727) (fun _ h9 => h9) rfl d_Mo_feed_83 ?_
              refine lv_iload hx hb d_Mo_feed_86 (lv_at hl 0 rfl) ?_
              refine lv_bipush (v := 24) hx hb d_Mo_feed_88 (by decide) ?_
              refine lv_bipush (v := 8) hx hb d_Mo_feed_90 (by decide) ?_
              refine lv_iload hx hb d_Mo_feed_92 (lv_at hl 7 rfl) ?_
              refine lv_iconst (v := 4) hx hb d_Mo_feed_94 (by decide) ?_
              refine lv_irem hx hb d_Mo_feed_95 (by decide) ?_
              rw [show nI k - nI k / 4 * 4 = nI (k % 4) from pk_rem (d := 4) (by omega) (by decide) (by decide)]
              refine lv_imul hx hb d_Mo_feed_96 ?_
              refine lv_isub hx hb d_Mo_feed_97 ?_
              refine lv_ishr hx hb d_Mo_feed_98 ?_
              refine lv_i2b hx hb d_Mo_feed_99 rfl ?_
              refine va_bast hx hb hK hP hD hS 1 0 rfl rfl hi9 d_Mo_feed_100 (fun H locs hP hD hS => ?_)
              have hP : va_P (dC, dI) vwCl [(mo, .inr (8, [.int 0, .int (nI (F ++ (fd_5 v1 v2 v3 v4 v5).take k).length), .ref rt, .int mn, .ref rk, .ref rv, .ref rw, .ref ro, .int md, .ref rr, .int pt, .ref ra, .long pz, .int kc, .ref rc, .ref rl, .ref rb, .int la, .int ca])), (rt, .inl (cB, 4096, .inl (upd g (nI (F ++ (fd_5 v1 v2 v3 v4 v5).take k).length).toNatClampNeg (vp_nar .byte ((v4 >>> ((24 - (8 * (nI (k % 4)))) &&& 31)).toInt8.toInt32)))))] H := hP
              have hD : va_D A [(mo, .inr (8, [.int 0, .int (nI (F ++ (fd_5 v1 v2 v3 v4 v5).take k).length), .ref rt, .int mn, .ref rk, .ref rv, .ref rw, .ref ro, .int md, .ref rr, .int pt, .ref ra, .long pz, .int kc, .ref rc, .ref rl, .ref rb, .int la, .int ca])), (rt, .inl (cB, 4096, .inl (upd g (nI (F ++ (fd_5 v1 v2 v3 v4 v5).take k).length).toNatClampNeg (vp_nar .byte ((v4 >>> ((24 - (8 * (nI (k % 4)))) &&& 31)).toInt8.toInt32)))))] := hD
              refine lv_aload_n hx hb d_Mo_feed_101 rfl (lv_at hl 1 rfl) ?_
              refine lv_dup hx hb d_Mo_feed_102 rfl ?_
              refine va_get (D := (dC, dI)) (ci := 8) (v := .int (nI (F ++ (fd_5 v1 v2 v3 v4 v5).take k).length)) (C := "TextForgeModel") (T := TX8) (N := 19) hx hb hg iwX8 hown hK hP 0 rfl rfl 1 (by decide) (hg _ kw_727) (fun _ h9 => h9) rfl d_Mo_feed_103 ?_
              refine lv_iconst (v := 1) hx hb d_Mo_feed_106 (by decide) ?_
              refine lv_iadd hx hb d_Mo_feed_107 ?_
              refine va_put (D := (dC, dI)) (ci := 8) (v := .int ((nI (F ++ (fd_5 v1 v2 v3 v4 v5).take k).length) + 1)) (ty := .int) (C := "TextForgeModel") (T := TX8) (N := 19) hx hb hg iwX8 tyX8 tyX8_ok nmX8 hown hK hP hD hS 0 rfl rfl 1 (by decide) (hg _ kw_727) (fun _ h9 => h9) rfl (by decide +kernel) rfl rfl (Nat.le_of_ble_eq_true rfl) d_Mo_feed_108 (fun H locs hP hD hS => ?_)
              have hP : va_P (dC, dI) vwCl [(mo, .inr (8, [.int 0, .int ((nI (F ++ (fd_5 v1 v2 v3 v4 v5).take k).length) + 1), .ref rt, .int mn, .ref rk, .ref rv, .ref rw, .ref ro, .int md, .ref rr, .int pt, .ref ra, .long pz, .int kc, .ref rc, .ref rl, .ref rb, .int la, .int ca])), (rt, .inl (cB, 4096, .inl (upd g (nI (F ++ (fd_5 v1 v2 v3 v4 v5).take k).length).toNatClampNeg (vp_nar .byte ((v4 >>> ((24 - (8 * (nI (k % 4)))) &&& 31)).toInt8.toInt32)))))] H := hP
              have hD : va_D A [(mo, .inr (8, [.int 0, .int ((nI (F ++ (fd_5 v1 v2 v3 v4 v5).take k).length) + 1), .ref rt, .int mn, .ref rk, .ref rv, .ref rw, .ref ro, .int md, .ref rr, .int pt, .ref ra, .long pz, .int kc, .ref rc, .ref rl, .ref rb, .int la, .int ca])), (rt, .inl (cB, 4096, .inl (upd g (nI (F ++ (fd_5 v1 v2 v3 v4 v5).take k).length).toNatClampNeg (vp_nar .byte ((v4 >>> ((24 - (8 * (nI (k % 4)))) &&& 31)).toInt8.toInt32)))))] := hD
              refine lv_iinc (v := (nI k) + 1) (lv' := [(6, .int ((nI k) + 1)), (7, .int v4), (0, .ref mo), (1, .int v1), (2, .int v2), (3, .int v3), (4, .int v4), (5, .int v5)]) hx hb d_Mo_feed_111 hl (k := 7) rfl rfl (by decide) rfl (fun ls hl => ?_)
              refine lv_goto (tgt := 23) hx hb d_Mo_feed_114 (by decide) ?_
              have hsx : by_b (v4 >>> ((24 - (8 * (nI (k % 4)))) &&& 31)) = (fd_5 v1 v2 v3 v4 v5).getD k 0 := by rw [fd_b _ _ (Nat.mod_lt _ (by decide)), fd_k k f_27, if_neg (by omega), if_neg (by omega), if_neg (by omega), if_pos f_66]
              have hnl : nI (F ++ (fd_5 v1 v2 v3 v4 v5).take k).length + 1 = nI (F ++ (fd_5 v1 v2 v3 v4 v5).take (k + 1)).length := by rw [← fd_t f_27 hsx]; exact mo_n1
              have hLn : by_L (F ++ (fd_5 v1 v2 v3 v4 v5).take (k + 1)) (upd g (nI (F ++ (fd_5 v1 v2 v3 v4 v5).take k).length).toNatClampNeg (vp_nar .byte ((v4 >>> ((24 - (8 * (nI (k % 4)))) &&& 31)).toInt8.toInt32))) := by rw [← fd_t f_27 hsx, ← by_ap_lt (cap := 4096) (by rw [List.length_append, List.length_take]; omega)]; exact by_addp hLk (by rw [List.length_append, List.length_take]; omega) (by decide)
              rw [hnl] at hP hD
              rw [nI_1] at hl
              exact ih_23 (k + 1, (upd g (nI (F ++ (fd_5 v1 v2 v3 v4 v5).take k).length).toNatClampNeg (vp_nar .byte ((v4 >>> ((24 - (8 * (nI (k % 4)))) &&& 31)).toInt8.toInt32)))) H locs ls ⟨hP.sub [0, 1] rfl, hD.sub [0, 1] (by decide) rfl, hS, lv_sub hl [2, 3, 4, 5, 6, 7, 0] rfl, hLn, f_27⟩ (by dsimp only; omega)
          · skip
            have f_55 : k < 12 := Nat.lt_of_not_le (fun z => c_55 (nI_le (a := 12) z (by omega)))
            refine lv_iload_n hx hb d_Mo_feed_58 rfl (lv_at hl 3 rfl) ?_
            refine lv_goto (tgt := 76) hx hb d_Mo_feed_59 (by decide) ?_
            refine lv_istore (lv' := [(7, .int v3), (0, .ref mo), (1, .int v1), (2, .int v2), (3, .int v3), (4, .int v4), (5, .int v5), (6, .int (nI k))]) hx hb d_Mo_feed_76 hl (by decide) rfl (fun ls hl => ?_)
            have hi9 : vp_in (nI (F ++ (fd_5 v1 v2 v3 v4 v5).take k).length) 4096 := vp_in_nI (by rw [List.length_append, List.length_take]; omega) (by decide)
            refine lv_aload_n hx hb d_Mo_feed_78 rfl (lv_at hl 1 rfl) ?_
            refine va_get (D := (dC, dI)) (ci := 8) (v := .ref rt) (C := "TextForgeModel") (T := TX8) (N := 19) hx hb hg iwX8 hown hK hP 0 rfl rfl 2 (by decide) (hg _ kw_728) (fun _ h9 => h9) rfl d_Mo_feed_79 ?_
            refine lv_aload_n hx hb d_Mo_feed_82 rfl (lv_at hl 1 rfl) ?_
            refine va_get (D := (dC, dI)) (ci := 8) (v := .int (nI (F ++ (fd_5 v1 v2 v3 v4 v5).take k).length)) (C := "TextForgeModel") (T := TX8) (N := 19) hx hb hg iwX8 hown hK hP 0 rfl rfl 1 (by decide) (hg _ kw_727) (fun _ h9 => h9) rfl d_Mo_feed_83 ?_
            refine lv_iload hx hb d_Mo_feed_86 (lv_at hl 0 rfl) ?_
            refine lv_bipush (v := 24) hx hb d_Mo_feed_88 (by decide) ?_
            refine lv_bipush (v := 8) hx hb d_Mo_feed_90 (by decide) ?_
            refine lv_iload hx hb d_Mo_feed_92 (lv_at hl 7 rfl) ?_
            refine lv_iconst (v := 4) hx hb d_Mo_feed_94 (by decide) ?_
            refine lv_irem hx hb d_Mo_feed_95 (by decide) ?_
            rw [show nI k - nI k / 4 * 4 = nI (k % 4) from pk_rem (d := 4) (by omega) (by decide) (by decide)]
            refine lv_imul hx hb d_Mo_feed_96 ?_
            refine lv_isub hx hb d_Mo_feed_97 ?_
            refine lv_ishr hx hb d_Mo_feed_98 ?_
            refine lv_i2b hx hb d_Mo_feed_99 rfl ?_
            refine va_bast hx hb hK hP hD hS 1 0 rfl rfl hi9 d_Mo_feed_100 (fun H locs hP hD hS => ?_)
            have hP : va_P (dC, dI) vwCl [(mo, .inr (8, [.int 0, .int (nI (F ++ (fd_5 v1 v2 v3 v4 v5).take k).length), .ref rt, .int mn, .ref rk, .ref rv, .ref rw, .ref ro, .int md, .ref rr, .int pt, .ref ra, .long pz, .int kc, .ref rc, .ref rl, .ref rb, .int la, .int ca])), (rt, .inl (cB, 4096, .inl (upd g (nI (F ++ (fd_5 v1 v2 v3 v4 v5).take k).length).toNatClampNeg (vp_nar .byte ((v3 >>> ((24 - (8 * (nI (k % 4)))) &&& 31)).toInt8.toInt32)))))] H := hP
            have hD : va_D A [(mo, .inr (8, [.int 0, .int (nI (F ++ (fd_5 v1 v2 v3 v4 v5).take k).length), .ref rt, .int mn, .ref rk, .ref rv, .ref rw, .ref ro, .int md, .ref rr, .int pt, .ref ra, .long pz, .int kc, .ref rc, .ref rl, .ref rb, .int la, .int ca])), (rt, .inl (cB, 4096, .inl (upd g (nI (F ++ (fd_5 v1 v2 v3 v4 v5).take k).length).toNatClampNeg (vp_nar .byte ((v3 >>> ((24 - (8 * (nI (k % 4)))) &&& 31)).toInt8.toInt32)))))] := hD
            refine lv_aload_n hx hb d_Mo_feed_101 rfl (lv_at hl 1 rfl) ?_
            refine lv_dup hx hb d_Mo_feed_102 rfl ?_
            refine va_get (D := (dC, dI)) (ci := 8) (v := .int (nI (F ++ (fd_5 v1 v2 v3 v4 v5).take k).length)) (C := "TextForgeModel") (T := TX8) (N := 19) hx hb hg iwX8 hown hK hP 0 rfl rfl 1 (by decide) (hg _ kw_727) (fun _ h9 => h9) rfl d_Mo_feed_103 ?_
            refine lv_iconst (v := 1) hx hb d_Mo_feed_106 (by decide) ?_
            refine lv_iadd hx hb d_Mo_feed_107 ?_
            refine va_put (D := (dC, dI)) (ci := 8) (v := .int ((nI (F ++ (fd_5 v1 v2 v3 v4 v5).take k).length) + 1)) (ty := .int) (C := "TextForgeModel") (T := TX8) (N := 19) hx hb hg iwX8 tyX8 tyX8_ok nmX8 hown hK hP hD hS 0 rfl rfl 1 (by decide) (hg _ kw_727) (fun _ h9 => h9) rfl (by decide +kernel) rfl rfl (Nat.le_of_ble_eq_true rfl) d_Mo_feed_108 (fun H locs hP hD hS => ?_)
            have hP : va_P (dC, dI) vwCl [(mo, .inr (8, [.int 0, .int ((nI (F ++ (fd_5 v1 v2 v3 v4 v5).take k).length) + 1), .ref rt, .int mn, .ref rk, .ref rv, .ref rw, .ref ro, .int md, .ref rr, .int pt, .ref ra, .long pz, .int kc, .ref rc, .ref rl, .ref rb, .int la, .int ca])), (rt, .inl (cB, 4096, .inl (upd g (nI (F ++ (fd_5 v1 v2 v3 v4 v5).take k).length).toNatClampNeg (vp_nar .byte ((v3 >>> ((24 - (8 * (nI (k % 4)))) &&& 31)).toInt8.toInt32)))))] H := hP
            have hD : va_D A [(mo, .inr (8, [.int 0, .int ((nI (F ++ (fd_5 v1 v2 v3 v4 v5).take k).length) + 1), .ref rt, .int mn, .ref rk, .ref rv, .ref rw, .ref ro, .int md, .ref rr, .int pt, .ref ra, .long pz, .int kc, .ref rc, .ref rl, .ref rb, .int la, .int ca])), (rt, .inl (cB, 4096, .inl (upd g (nI (F ++ (fd_5 v1 v2 v3 v4 v5).take k).length).toNatClampNeg (vp_nar .byte ((v3 >>> ((24 - (8 * (nI (k % 4)))) &&& 31)).toInt8.toInt32)))))] := hD
            refine lv_iinc (v := (nI k) + 1) (lv' := [(6, .int ((nI k) + 1)), (7, .int v3), (0, .ref mo), (1, .int v1), (2, .int v2), (3, .int v3), (4, .int v4), (5, .int v5)]) hx hb d_Mo_feed_111 hl (k := 7) rfl rfl (by decide) rfl (fun ls hl => ?_)
            refine lv_goto (tgt := 23) hx hb d_Mo_feed_114 (by decide) ?_
            have hsx : by_b (v3 >>> ((24 - (8 * (nI (k % 4)))) &&& 31)) = (fd_5 v1 v2 v3 v4 v5).getD k 0 := by rw [fd_b _ _ (Nat.mod_lt _ (by decide)), fd_k k f_27, if_neg (by omega), if_neg (by omega), if_pos f_55]
            have hnl : nI (F ++ (fd_5 v1 v2 v3 v4 v5).take k).length + 1 = nI (F ++ (fd_5 v1 v2 v3 v4 v5).take (k + 1)).length := by rw [← fd_t f_27 hsx]; exact mo_n1
            have hLn : by_L (F ++ (fd_5 v1 v2 v3 v4 v5).take (k + 1)) (upd g (nI (F ++ (fd_5 v1 v2 v3 v4 v5).take k).length).toNatClampNeg (vp_nar .byte ((v3 >>> ((24 - (8 * (nI (k % 4)))) &&& 31)).toInt8.toInt32))) := by rw [← fd_t f_27 hsx, ← by_ap_lt (cap := 4096) (by rw [List.length_append, List.length_take]; omega)]; exact by_addp hLk (by rw [List.length_append, List.length_take]; omega) (by decide)
            rw [hnl] at hP hD
            rw [nI_1] at hl
            exact ih_23 (k + 1, (upd g (nI (F ++ (fd_5 v1 v2 v3 v4 v5).take k).length).toNatClampNeg (vp_nar .byte ((v3 >>> ((24 - (8 * (nI (k % 4)))) &&& 31)).toInt8.toInt32)))) H locs ls ⟨hP.sub [0, 1] rfl, hD.sub [0, 1] (by decide) rfl, hS, lv_sub hl [2, 3, 4, 5, 6, 7, 0] rfl, hLn, f_27⟩ (by dsimp only; omega)
        · skip
          have f_44 : k < 8 := Nat.lt_of_not_le (fun z => c_44 (nI_le (a := 8) z (by omega)))
          refine lv_iload_n hx hb d_Mo_feed_47 rfl (lv_at hl 2 rfl) ?_
          refine lv_goto (tgt := 76) hx hb d_Mo_feed_48 (by decide) ?_
          refine lv_istore (lv' := [(7, .int v2), (0, .ref mo), (1, .int v1), (2, .int v2), (3, .int v3), (4, .int v4), (5, .int v5), (6, .int (nI k))]) hx hb d_Mo_feed_76 hl (by decide) rfl (fun ls hl => ?_)
          have hi9 : vp_in (nI (F ++ (fd_5 v1 v2 v3 v4 v5).take k).length) 4096 := vp_in_nI (by rw [List.length_append, List.length_take]; omega) (by decide)
          refine lv_aload_n hx hb d_Mo_feed_78 rfl (lv_at hl 1 rfl) ?_
          refine va_get (D := (dC, dI)) (ci := 8) (v := .ref rt) (C := "TextForgeModel") (T := TX8) (N := 19) hx hb hg iwX8 hown hK hP 0 rfl rfl 2 (by decide) (hg _ kw_728) (fun _ h9 => h9) rfl d_Mo_feed_79 ?_
          refine lv_aload_n hx hb d_Mo_feed_82 rfl (lv_at hl 1 rfl) ?_
          refine va_get (D := (dC, dI)) (ci := 8) (v := .int (nI (F ++ (fd_5 v1 v2 v3 v4 v5).take k).length)) (C := "TextForgeModel") (T := TX8) (N := 19) hx hb hg iwX8 hown hK hP 0 rfl rfl 1 (by decide) (hg _ kw_727) (fun _ h9 => h9) rfl d_Mo_feed_83 ?_
          refine lv_iload hx hb d_Mo_feed_86 (lv_at hl 0 rfl) ?_
          refine lv_bipush (v := 24) hx hb d_Mo_feed_88 (by decide) ?_
          refine lv_bipush (v := 8) hx hb d_Mo_feed_90 (by decide) ?_
          refine lv_iload hx hb d_Mo_feed_92 (lv_at hl 7 rfl) ?_
          refine lv_iconst (v := 4) hx hb d_Mo_feed_94 (by decide) ?_
          refine lv_irem hx hb d_Mo_feed_95 (by decide) ?_
          rw [show nI k - nI k / 4 * 4 = nI (k % 4) from pk_rem (d := 4) (by omega) (by decide) (by decide)]
          refine lv_imul hx hb d_Mo_feed_96 ?_
          refine lv_isub hx hb d_Mo_feed_97 ?_
          refine lv_ishr hx hb d_Mo_feed_98 ?_
          refine lv_i2b hx hb d_Mo_feed_99 rfl ?_
          refine va_bast hx hb hK hP hD hS 1 0 rfl rfl hi9 d_Mo_feed_100 (fun H locs hP hD hS => ?_)
          have hP : va_P (dC, dI) vwCl [(mo, .inr (8, [.int 0, .int (nI (F ++ (fd_5 v1 v2 v3 v4 v5).take k).length), .ref rt, .int mn, .ref rk, .ref rv, .ref rw, .ref ro, .int md, .ref rr, .int pt, .ref ra, .long pz, .int kc, .ref rc, .ref rl, .ref rb, .int la, .int ca])), (rt, .inl (cB, 4096, .inl (upd g (nI (F ++ (fd_5 v1 v2 v3 v4 v5).take k).length).toNatClampNeg (vp_nar .byte ((v2 >>> ((24 - (8 * (nI (k % 4)))) &&& 31)).toInt8.toInt32)))))] H := hP
          have hD : va_D A [(mo, .inr (8, [.int 0, .int (nI (F ++ (fd_5 v1 v2 v3 v4 v5).take k).length), .ref rt, .int mn, .ref rk, .ref rv, .ref rw, .ref ro, .int md, .ref rr, .int pt, .ref ra, .long pz, .int kc, .ref rc, .ref rl, .ref rb, .int la, .int ca])), (rt, .inl (cB, 4096, .inl (upd g (nI (F ++ (fd_5 v1 v2 v3 v4 v5).take k).length).toNatClampNeg (vp_nar .byte ((v2 >>> ((24 - (8 * (nI (k % 4)))) &&& 31)).toInt8.toInt32)))))] := hD
          refine lv_aload_n hx hb d_Mo_feed_101 rfl (lv_at hl 1 rfl) ?_
          refine lv_dup hx hb d_Mo_feed_102 rfl ?_
          refine va_get (D := (dC, dI)) (ci := 8) (v := .int (nI (F ++ (fd_5 v1 v2 v3 v4 v5).take k).length)) (C := "TextForgeModel") (T := TX8) (N := 19) hx hb hg iwX8 hown hK hP 0 rfl rfl 1 (by decide) (hg _ kw_727) (fun _ h9 => h9) rfl d_Mo_feed_103 ?_
          refine lv_iconst (v := 1) hx hb d_Mo_feed_106 (by decide) ?_
          refine lv_iadd hx hb d_Mo_feed_107 ?_
          refine va_put (D := (dC, dI)) (ci := 8) (v := .int ((nI (F ++ (fd_5 v1 v2 v3 v4 v5).take k).length) + 1)) (ty := .int) (C := "TextForgeModel") (T := TX8) (N := 19) hx hb hg iwX8 tyX8 tyX8_ok nmX8 hown hK hP hD hS 0 rfl rfl 1 (by decide) (hg _ kw_727) (fun _ h9 => h9) rfl (by decide +kernel) rfl rfl (Nat.le_of_ble_eq_true rfl) d_Mo_feed_108 (fun H locs hP hD hS => ?_)
          have hP : va_P (dC, dI) vwCl [(mo, .inr (8, [.int 0, .int ((nI (F ++ (fd_5 v1 v2 v3 v4 v5).take k).length) + 1), .ref rt, .int mn, .ref rk, .ref rv, .ref rw, .ref ro, .int md, .ref rr, .int pt, .ref ra, .long pz, .int kc, .ref rc, .ref rl, .ref rb, .int la, .int ca])), (rt, .inl (cB, 4096, .inl (upd g (nI (F ++ (fd_5 v1 v2 v3 v4 v5).take k).length).toNatClampNeg (vp_nar .byte ((v2 >>> ((24 - (8 * (nI (k % 4)))) &&& 31)).toInt8.toInt32)))))] H := hP
          have hD : va_D A [(mo, .inr (8, [.int 0, .int ((nI (F ++ (fd_5 v1 v2 v3 v4 v5).take k).length) + 1), .ref rt, .int mn, .ref rk, .ref rv, .ref rw, .ref ro, .int md, .ref rr, .int pt, .ref ra, .long pz, .int kc, .ref rc, .ref rl, .ref rb, .int la, .int ca])), (rt, .inl (cB, 4096, .inl (upd g (nI (F ++ (fd_5 v1 v2 v3 v4 v5).take k).length).toNatClampNeg (vp_nar .byte ((v2 >>> ((24 - (8 * (nI (k % 4)))) &&& 31)).toInt8.toInt32)))))] := hD
          refine lv_iinc (v := (nI k) + 1) (lv' := [(6, .int ((nI k) + 1)), (7, .int v2), (0, .ref mo), (1, .int v1), (2, .int v2), (3, .int v3), (4, .int v4), (5, .int v5)]) hx hb d_Mo_feed_111 hl (k := 7) rfl rfl (by decide) rfl (fun ls hl => ?_)
          refine lv_goto (tgt := 23) hx hb d_Mo_feed_114 (by decide) ?_
          have hsx : by_b (v2 >>> ((24 - (8 * (nI (k % 4)))) &&& 31)) = (fd_5 v1 v2 v3 v4 v5).getD k 0 := by rw [fd_b _ _ (Nat.mod_lt _ (by decide)), fd_k k f_27, if_neg (by omega), if_pos f_44]
          have hnl : nI (F ++ (fd_5 v1 v2 v3 v4 v5).take k).length + 1 = nI (F ++ (fd_5 v1 v2 v3 v4 v5).take (k + 1)).length := by rw [← fd_t f_27 hsx]; exact mo_n1
          have hLn : by_L (F ++ (fd_5 v1 v2 v3 v4 v5).take (k + 1)) (upd g (nI (F ++ (fd_5 v1 v2 v3 v4 v5).take k).length).toNatClampNeg (vp_nar .byte ((v2 >>> ((24 - (8 * (nI (k % 4)))) &&& 31)).toInt8.toInt32))) := by rw [← fd_t f_27 hsx, ← by_ap_lt (cap := 4096) (by rw [List.length_append, List.length_take]; omega)]; exact by_addp hLk (by rw [List.length_append, List.length_take]; omega) (by decide)
          rw [hnl] at hP hD
          rw [nI_1] at hl
          exact ih_23 (k + 1, (upd g (nI (F ++ (fd_5 v1 v2 v3 v4 v5).take k).length).toNatClampNeg (vp_nar .byte ((v2 >>> ((24 - (8 * (nI (k % 4)))) &&& 31)).toInt8.toInt32)))) H locs ls ⟨hP.sub [0, 1] rfl, hD.sub [0, 1] (by decide) rfl, hS, lv_sub hl [2, 3, 4, 5, 6, 7, 0] rfl, hLn, f_27⟩ (by dsimp only; omega)
      · skip
        have f_33 : k < 4 := Nat.lt_of_not_le (fun z => c_33 (nI_le (a := 4) z (by omega)))
        refine lv_iload_n hx hb d_Mo_feed_36 rfl (lv_at hl 1 rfl) ?_
        refine lv_goto (tgt := 76) hx hb d_Mo_feed_37 (by decide) ?_
        refine lv_istore (lv' := [(7, .int v1), (0, .ref mo), (1, .int v1), (2, .int v2), (3, .int v3), (4, .int v4), (5, .int v5), (6, .int (nI k))]) hx hb d_Mo_feed_76 hl (by decide) rfl (fun ls hl => ?_)
        have hi9 : vp_in (nI (F ++ (fd_5 v1 v2 v3 v4 v5).take k).length) 4096 := vp_in_nI (by rw [List.length_append, List.length_take]; omega) (by decide)
        refine lv_aload_n hx hb d_Mo_feed_78 rfl (lv_at hl 1 rfl) ?_
        refine va_get (D := (dC, dI)) (ci := 8) (v := .ref rt) (C := "TextForgeModel") (T := TX8) (N := 19) hx hb hg iwX8 hown hK hP 0 rfl rfl 2 (by decide) (hg _ kw_728) (fun _ h9 => h9) rfl d_Mo_feed_79 ?_
        refine lv_aload_n hx hb d_Mo_feed_82 rfl (lv_at hl 1 rfl) ?_
        refine va_get (D := (dC, dI)) (ci := 8) (v := .int (nI (F ++ (fd_5 v1 v2 v3 v4 v5).take k).length)) (C := "TextForgeModel") (T := TX8) (N := 19) hx hb hg iwX8 hown hK hP 0 rfl rfl 1 (by decide) (hg _ kw_727) (fun _ h9 => h9) rfl d_Mo_feed_83 ?_
        refine lv_iload hx hb d_Mo_feed_86 (lv_at hl 0 rfl) ?_
        refine lv_bipush (v := 24) hx hb d_Mo_feed_88 (by decide) ?_
        refine lv_bipush (v := 8) hx hb d_Mo_feed_90 (by decide) ?_
        refine lv_iload hx hb d_Mo_feed_92 (lv_at hl 7 rfl) ?_
        refine lv_iconst (v := 4) hx hb d_Mo_feed_94 (by decide) ?_
        refine lv_irem hx hb d_Mo_feed_95 (by decide) ?_
        rw [show nI k - nI k / 4 * 4 = nI (k % 4) from pk_rem (d := 4) (by omega) (by decide) (by decide)]
        refine lv_imul hx hb d_Mo_feed_96 ?_
        refine lv_isub hx hb d_Mo_feed_97 ?_
        refine lv_ishr hx hb d_Mo_feed_98 ?_
        refine lv_i2b hx hb d_Mo_feed_99 rfl ?_
        refine va_bast hx hb hK hP hD hS 1 0 rfl rfl hi9 d_Mo_feed_100 (fun H locs hP hD hS => ?_)
        have hP : va_P (dC, dI) vwCl [(mo, .inr (8, [.int 0, .int (nI (F ++ (fd_5 v1 v2 v3 v4 v5).take k).length), .ref rt, .int mn, .ref rk, .ref rv, .ref rw, .ref ro, .int md, .ref rr, .int pt, .ref ra, .long pz, .int kc, .ref rc, .ref rl, .ref rb, .int la, .int ca])), (rt, .inl (cB, 4096, .inl (upd g (nI (F ++ (fd_5 v1 v2 v3 v4 v5).take k).length).toNatClampNeg (vp_nar .byte ((v1 >>> ((24 - (8 * (nI (k % 4)))) &&& 31)).toInt8.toInt32)))))] H := hP
        have hD : va_D A [(mo, .inr (8, [.int 0, .int (nI (F ++ (fd_5 v1 v2 v3 v4 v5).take k).length), .ref rt, .int mn, .ref rk, .ref rv, .ref rw, .ref ro, .int md, .ref rr, .int pt, .ref ra, .long pz, .int kc, .ref rc, .ref rl, .ref rb, .int la, .int ca])), (rt, .inl (cB, 4096, .inl (upd g (nI (F ++ (fd_5 v1 v2 v3 v4 v5).take k).length).toNatClampNeg (vp_nar .byte ((v1 >>> ((24 - (8 * (nI (k % 4)))) &&& 31)).toInt8.toInt32)))))] := hD
        refine lv_aload_n hx hb d_Mo_feed_101 rfl (lv_at hl 1 rfl) ?_
        refine lv_dup hx hb d_Mo_feed_102 rfl ?_
        refine va_get (D := (dC, dI)) (ci := 8) (v := .int (nI (F ++ (fd_5 v1 v2 v3 v4 v5).take k).length)) (C := "TextForgeModel") (T := TX8) (N := 19) hx hb hg iwX8 hown hK hP 0 rfl rfl 1 (by decide) (hg _ kw_727) (fun _ h9 => h9) rfl d_Mo_feed_103 ?_
        refine lv_iconst (v := 1) hx hb d_Mo_feed_106 (by decide) ?_
        refine lv_iadd hx hb d_Mo_feed_107 ?_
        refine va_put (D := (dC, dI)) (ci := 8) (v := .int ((nI (F ++ (fd_5 v1 v2 v3 v4 v5).take k).length) + 1)) (ty := .int) (C := "TextForgeModel") (T := TX8) (N := 19) hx hb hg iwX8 tyX8 tyX8_ok nmX8 hown hK hP hD hS 0 rfl rfl 1 (by decide) (hg _ kw_727) (fun _ h9 => h9) rfl (by decide +kernel) rfl rfl (Nat.le_of_ble_eq_true rfl) d_Mo_feed_108 (fun H locs hP hD hS => ?_)
        have hP : va_P (dC, dI) vwCl [(mo, .inr (8, [.int 0, .int ((nI (F ++ (fd_5 v1 v2 v3 v4 v5).take k).length) + 1), .ref rt, .int mn, .ref rk, .ref rv, .ref rw, .ref ro, .int md, .ref rr, .int pt, .ref ra, .long pz, .int kc, .ref rc, .ref rl, .ref rb, .int la, .int ca])), (rt, .inl (cB, 4096, .inl (upd g (nI (F ++ (fd_5 v1 v2 v3 v4 v5).take k).length).toNatClampNeg (vp_nar .byte ((v1 >>> ((24 - (8 * (nI (k % 4)))) &&& 31)).toInt8.toInt32)))))] H := hP
        have hD : va_D A [(mo, .inr (8, [.int 0, .int ((nI (F ++ (fd_5 v1 v2 v3 v4 v5).take k).length) + 1), .ref rt, .int mn, .ref rk, .ref rv, .ref rw, .ref ro, .int md, .ref rr, .int pt, .ref ra, .long pz, .int kc, .ref rc, .ref rl, .ref rb, .int la, .int ca])), (rt, .inl (cB, 4096, .inl (upd g (nI (F ++ (fd_5 v1 v2 v3 v4 v5).take k).length).toNatClampNeg (vp_nar .byte ((v1 >>> ((24 - (8 * (nI (k % 4)))) &&& 31)).toInt8.toInt32)))))] := hD
        refine lv_iinc (v := (nI k) + 1) (lv' := [(6, .int ((nI k) + 1)), (7, .int v1), (0, .ref mo), (1, .int v1), (2, .int v2), (3, .int v3), (4, .int v4), (5, .int v5)]) hx hb d_Mo_feed_111 hl (k := 7) rfl rfl (by decide) rfl (fun ls hl => ?_)
        refine lv_goto (tgt := 23) hx hb d_Mo_feed_114 (by decide) ?_
        have hsx : by_b (v1 >>> ((24 - (8 * (nI (k % 4)))) &&& 31)) = (fd_5 v1 v2 v3 v4 v5).getD k 0 := by rw [fd_b _ _ (Nat.mod_lt _ (by decide)), fd_k k f_27, if_pos f_33]
        have hnl : nI (F ++ (fd_5 v1 v2 v3 v4 v5).take k).length + 1 = nI (F ++ (fd_5 v1 v2 v3 v4 v5).take (k + 1)).length := by rw [← fd_t f_27 hsx]; exact mo_n1
        have hLn : by_L (F ++ (fd_5 v1 v2 v3 v4 v5).take (k + 1)) (upd g (nI (F ++ (fd_5 v1 v2 v3 v4 v5).take k).length).toNatClampNeg (vp_nar .byte ((v1 >>> ((24 - (8 * (nI (k % 4)))) &&& 31)).toInt8.toInt32))) := by rw [← fd_t f_27 hsx, ← by_ap_lt (cap := 4096) (by rw [List.length_append, List.length_take]; omega)]; exact by_addp hLk (by rw [List.length_append, List.length_take]; omega) (by decide)
        rw [hnl] at hP hD
        rw [nI_1] at hl
        exact ih_23 (k + 1, (upd g (nI (F ++ (fd_5 v1 v2 v3 v4 v5).take k).length).toNatClampNeg (vp_nar .byte ((v1 >>> ((24 - (8 * (nI (k % 4)))) &&& 31)).toInt8.toInt32)))) H locs ls ⟨hP.sub [0, 1] rfl, hD.sub [0, 1] (by decide) rfl, hS, lv_sub hl [2, 3, 4, 5, 6, 7, 0] rfl, hLn, f_27⟩ (by dsimp only; omega)
  · skip
    have f_15 : 4096 < F.length + 20 := Nat.lt_of_not_le (fun z => c_15 (nI_le (b := 4096) z (by omega)))
    refine lv_iconst (v := 0) hx hb d_Mo_feed_18 (by decide) ?_
    have hP9 := hP.sub (ws' := [(mo, .inr (8, [.int 0, .int (nI F.length), .ref rt, .int mn, .ref rk, .ref rv, .ref rw, .ref ro, .int md, .ref rr, .int pt, .ref ra, .long pz, .int kc, .ref rc, .ref rl, .ref rb, .int la, .int ca])), (rt, .inl (cB, 4096, .inl ft))]) [0, 1] rfl
    have hD9 := hD.sub (ws' := [(mo, .inr (8, [.int 0, .int (nI F.length), .ref rt, .int mn, .ref rk, .ref rv, .ref rw, .ref ro, .int md, .ref rr, .int pt, .ref ra, .long pz, .int kc, .ref rc, .ref rl, .ref rb, .int la, .int ca])), (rt, .inl (cB, 4096, .inl ft))]) [0, 1] (by decide) rfl
    have hK9 := hK.sub (tys' := [(cB, .byte)]) [0] rfl
    rw [show nI F.length = nI (fd_l F v1 v2 v3 v4 v5).length by rw [fd_no (by omega)]] at hP9 hD9
    exact zz_zret hx hb hr hlocks d_Mo_feed_19 (by decide) hS (by first | exact Nat.le_refl _ | decide | omega | (dsimp only; omega)) (by first | exact Nat.le_refl _ | decide | omega | (dsimp only; omega)) ft ⟨(by rw [decide_eq_false (by omega)]; rfl), (by rw [fd_no (by omega)]; exact hLt)⟩ hP9 hK9 hD9
abbrev y_Mo_end : MethodName := ⟨"TextForgeModel", "end", "(I)Z"⟩
abbrev w_Mo_end : List Cond := Cond.code y_Mo_end prog_12_method_5_code 2 (some .boolean) :: gw
theorem d_Mo_end_0 : decode prog_12_method_5_code 0 = .ok (.aload_n 0, 1) := by decide +kernel
theorem d_Mo_end_1 : decode prog_12_method_5_code 1 = .ok (.iconst 0, 1) := by decide +kernel
theorem d_Mo_end_2 : decode prog_12_method_5_code 2 = .ok (.putfield 43, 3) := by decide +kernel
theorem d_Mo_end_5 : decode prog_12_method_5_code 5 = .ok (.iload_n 1, 1) := by decide +kernel
theorem d_Mo_end_6 : decode prog_12_method_5_code 6 = .ok (.ifCond .lt 11, 3) := by decide +kernel
theorem d_Mo_end_9 : decode prog_12_method_5_code 9 = .ok (.iload_n 1, 1) := by decide +kernel
theorem d_Mo_end_10 : decode prog_12_method_5_code 10 = .ok (.aload_n 0, 1) := by decide +kernel
theorem d_Mo_end_11 : decode prog_12_method_5_code 11 = .ok (.getfield 47, 3) := by decide +kernel
theorem d_Mo_end_14 : decode prog_12_method_5_code 14 = .ok (.if_icmp .le 5, 3) := by decide +kernel
theorem d_Mo_end_17 : decode prog_12_method_5_code 17 = .ok (.iconst 0, 1) := by decide +kernel
theorem d_Mo_end_18 : decode prog_12_method_5_code 18 = .ok (.ireturn, 1) := by decide +kernel
theorem d_Mo_end_19 : decode prog_12_method_5_code 19 = .ok (.aload_n 0, 1) := by decide +kernel
theorem d_Mo_end_20 : decode prog_12_method_5_code 20 = .ok (.iload_n 1, 1) := by decide +kernel
theorem d_Mo_end_21 : decode prog_12_method_5_code 21 = .ok (.putfield 47, 3) := by decide +kernel
theorem d_Mo_end_24 : decode prog_12_method_5_code 24 = .ok (.iconst 1, 1) := by decide +kernel
theorem d_Mo_end_25 : decode prog_12_method_5_code 25 = .ok (.ireturn, 1) := by decide +kernel
set_option maxHeartbeats 4000000 in
set_option maxRecDepth 100000 in
theorem c_Mo_end (l : Launch) (dC : Nat → ClassId) (dI : Nat → Nat → Nat) (mo rt rk rv rw ro rr ra rc rl rb : Nat) (th fd mn md pt : Int32) (pz : Int64) (kc la ca : Int32) (cB : ClassId) (ft : Nat → Int32) (F : List Nat) (v : Int32) (hLt : by_L F ft) (hct : F.length ≤ 4096) : zM_i (S := Unit) l y_Mo_end w_Mo_end { frames := 0, cells := 0, slots := 0, locals := 0 } (dC, dI) vwCl [.ref mo, .int v] [(mo, .inr (8, [.int th, .int (nI F.length), .ref rt, .int mn, .ref rk, .ref rv, .ref rw, .ref ro, .int md, .ref rr, .int pt, .ref ra, .long pz, .int kc, .ref rc, .ref rl, .ref rb, .int la, .int ca]))] [] (fun (r : Int32) (u : Unit) => r = by_z (en_b F v)) (fun u => [(mo, .inr (8, [.int 0, .int (nI (en_l F v).length), .ref rt, .int mn, .ref rk, .ref rv, .ref rw, .ref ro, .int md, .ref rr, .int pt, .ref ra, .long pz, .int kc, .ref rc, .ref rl, .ref rb, .int la, .int ca]))]) (fun u => []) 0 0 := by
  refine zz_enteri (cc := prog_12_method_5_code) (nL := 2) (ret := (some .boolean)) (by decide) rfl (Nat.le_of_ble_eq_true rfl) ?_
  intro p e s m below meth c A ls C0 hA hS hP hK hD hl
  obtain ⟨hx, hb, hml, hown, hg, hr, hlocks, hin⟩ := C0
  have hown : s.vm.findClass "TextForgeModel" = some m.cls := hown
  have hP : va_P (dC, dI) vwCl [(mo, .inr (8, [.int th, .int (nI F.length), .ref rt, .int mn, .ref rk, .ref rv, .ref rw, .ref ro, .int md, .ref rr, .int pt, .ref ra, .long pz, .int kc, .ref rc, .ref rl, .ref rb, .int la, .int ca]))] s.heap := hP
  have hK : va_K (dC, dI) vwCl [] s := hK
  have hD : va_D A [(mo, .inr (8, [.int th, .int (nI F.length), .ref rt, .int mn, .ref rk, .ref rv, .ref rw, .ref ro, .int md, .ref rr, .int pt, .ref ra, .long pz, .int kc, .ref rc, .ref rl, .ref rb, .int la, .int ca]))] := hD
  have hl : lv_has ls 2 [(0, .ref mo), (1, .int v)] := hl
  refine lv_aload_n hx hb d_Mo_end_0 rfl (lv_at hl 0 rfl) ?_
  refine lv_iconst (v := 0) hx hb d_Mo_end_1 (by decide) ?_
  refine va_put (D := (dC, dI)) (ci := 8) (v := .int 0) (ty := .int) (C := "TextForgeModel") (T := TX8) (N := 19) hx hb hg iwX8 tyX8 tyX8_ok nmX8 hown hK hP hD hS 0 rfl rfl 0 (by decide) (hg _ kw_726) (fun _ h9 => h9) rfl (by decide +kernel) rfl rfl (Nat.le_of_ble_eq_true rfl) d_Mo_end_2 (fun H locs hP hD hS => ?_)
  have hP : va_P (dC, dI) vwCl [(mo, .inr (8, [.int 0, .int (nI F.length), .ref rt, .int mn, .ref rk, .ref rv, .ref rw, .ref ro, .int md, .ref rr, .int pt, .ref ra, .long pz, .int kc, .ref rc, .ref rl, .ref rb, .int la, .int ca]))] H := hP
  have hD : va_D A [(mo, .inr (8, [.int 0, .int (nI F.length), .ref rt, .int mn, .ref rk, .ref rv, .ref rw, .ref ro, .int md, .ref rr, .int pt, .ref ra, .long pz, .int kc, .ref rc, .ref rl, .ref rb, .int la, .int ca]))] := hD
  refine lv_iload_n hx hb d_Mo_end_5 rfl (lv_at hl 1 rfl) ?_
  refine lv_if_lt (tgt := 17) hx hb d_Mo_end_6 (by decide) (fun c_6 => ?_) (fun c_6 => ?_)
  · skip
    refine lv_iconst (v := 0) hx hb d_Mo_end_17 (by decide) ?_
    have hP9 := hP.sub (ws' := [(mo, .inr (8, [.int 0, .int (nI F.length), .ref rt, .int mn, .ref rk, .ref rv, .ref rw, .ref ro, .int md, .ref rr, .int pt, .ref ra, .long pz, .int kc, .ref rc, .ref rl, .ref rb, .int la, .int ca]))]) [0] rfl
    have hD9 := hD.sub (ws' := [(mo, .inr (8, [.int 0, .int (nI F.length), .ref rt, .int mn, .ref rk, .ref rv, .ref rw, .ref ro, .int md, .ref rr, .int pt, .ref ra, .long pz, .int kc, .ref rc, .ref rl, .ref rb, .int la, .int ca]))]) [0] (by decide) rfl
    have hK9 := hK.sub (tys' := []) [] rfl
    rw [show nI F.length = nI (en_l F v).length by rw [en_l0 c_6]] at hP9 hD9
    exact zz_zret hx hb hr hlocks d_Mo_end_18 (by decide) hS (by first | exact Nat.le_refl _ | decide | omega | (dsimp only; omega)) (by first | exact Nat.le_refl _ | decide | omega | (dsimp only; omega)) () (by rw [en_b0 c_6]; rfl) hP9 hK9 hD9
  · skip
    refine lv_iload_n hx hb d_Mo_end_9 rfl (lv_at hl 1 rfl) ?_
    refine lv_aload_n hx hb d_Mo_end_10 rfl (lv_at hl 0 rfl) ?_
    refine va_get (D := (dC, dI)) (ci := 8) (v := .int (nI F.length)) (C := "TextForgeModel") (T := TX8) (N := 19) hx hb hg iwX8 hown hK hP 0 rfl rfl 1 (by decide) (hg _ kw_727) (fun _ h9 => h9) rfl d_Mo_end_11 ?_
    refine lv_icmp_le (tgt := 19) hx hb d_Mo_end_14 (by decide) (fun c_14 => ?_) (fun c_14 => ?_)
    · skip
      obtain ⟨k, hk, hvk⟩ := nI_of c_6
      have f_14 : k ≤ F.length := (nI_leI hk (by omega)).mp (by rw [← hvk]; exact c_14)
      refine lv_aload_n hx hb d_Mo_end_19 rfl (lv_at hl 0 rfl) ?_
      refine lv_iload_n hx hb d_Mo_end_20 rfl (lv_at hl 1 rfl) ?_
      refine va_put (D := (dC, dI)) (ci := 8) (v := .int v) (ty := .int) (C := "TextForgeModel") (T := TX8) (N := 19) hx hb hg iwX8 tyX8 tyX8_ok nmX8 hown hK hP hD hS 0 rfl rfl 1 (by decide) (hg _ kw_727) (fun _ h9 => h9) rfl (by decide +kernel) rfl rfl (Nat.le_of_ble_eq_true rfl) d_Mo_end_21 (fun H locs hP hD hS => ?_)
      have hP : va_P (dC, dI) vwCl [(mo, .inr (8, [.int 0, .int v, .ref rt, .int mn, .ref rk, .ref rv, .ref rw, .ref ro, .int md, .ref rr, .int pt, .ref ra, .long pz, .int kc, .ref rc, .ref rl, .ref rb, .int la, .int ca]))] H := hP
      have hD : va_D A [(mo, .inr (8, [.int 0, .int v, .ref rt, .int mn, .ref rk, .ref rv, .ref rw, .ref ro, .int md, .ref rr, .int pt, .ref ra, .long pz, .int kc, .ref rc, .ref rl, .ref rb, .int la, .int ca]))] := hD
      refine lv_iconst (v := 1) hx hb d_Mo_end_24 (by decide) ?_
      have hP9 := hP.sub (ws' := [(mo, .inr (8, [.int 0, .int v, .ref rt, .int mn, .ref rk, .ref rv, .ref rw, .ref ro, .int md, .ref rr, .int pt, .ref ra, .long pz, .int kc, .ref rc, .ref rl, .ref rb, .int la, .int ca]))]) [0] rfl
      have hD9 := hD.sub (ws' := [(mo, .inr (8, [.int 0, .int v, .ref rt, .int mn, .ref rk, .ref rv, .ref rw, .ref ro, .int md, .ref rr, .int pt, .ref ra, .long pz, .int kc, .ref rc, .ref rl, .ref rb, .int la, .int ca]))]) [0] (by decide) rfl
      have hK9 := hK.sub (tys' := []) [] rfl
      rw [show Value.int v = Value.int (nI (en_l F v).length) by rw [en_l2 hk hvk f_14, List.length_take, Nat.min_eq_left f_14, hvk]] at hP9 hD9
      exact zz_zret hx hb hr hlocks d_Mo_end_25 (by decide) hS (by first | exact Nat.le_refl _ | decide | omega | (dsimp only; omega)) (by first | exact Nat.le_refl _ | decide | omega | (dsimp only; omega)) () (by rw [en_b2 hk hvk f_14]; rfl) hP9 hK9 hD9
    · skip
      obtain ⟨k, hk, hvk⟩ := nI_of c_6
      have f_14 : F.length < k := Nat.lt_of_not_le (fun z => c_14 (by rw [hvk]; exact nI_le z (by omega)))
      refine lv_iconst (v := 0) hx hb d_Mo_end_17 (by decide) ?_
      have hP9 := hP.sub (ws' := [(mo, .inr (8, [.int 0, .int (nI F.length), .ref rt, .int mn, .ref rk, .ref rv, .ref rw, .ref ro, .int md, .ref rr, .int pt, .ref ra, .long pz, .int kc, .ref rc, .ref rl, .ref rb, .int la, .int ca]))]) [0] rfl
      have hD9 := hD.sub (ws' := [(mo, .inr (8, [.int 0, .int (nI F.length), .ref rt, .int mn, .ref rk, .ref rv, .ref rw, .ref ro, .int md, .ref rr, .int pt, .ref ra, .long pz, .int kc, .ref rc, .ref rl, .ref rb, .int la, .int ca]))]) [0] (by decide) rfl
      have hK9 := hK.sub (tys' := []) [] rfl
      rw [show nI F.length = nI (en_l F v).length by rw [en_l1 hk hvk f_14]] at hP9 hD9
      exact zz_zret hx hb hr hlocks d_Mo_end_18 (by decide) hS (by first | exact Nat.le_refl _ | decide | omega | (dsimp only; omega)) (by first | exact Nat.le_refl _ | decide | omega | (dsimp only; omega)) () (by rw [en_b1 hk hvk f_14]; rfl) hP9 hK9 hD9
abbrev y_Mo_put : MethodName := ⟨"TextForgeModel", "put", "(I)V"⟩
abbrev w_Mo_put : List Cond := Cond.code y_Mo_put prog_12_method_12_code 2 none :: gw
theorem d_Mo_put_0 : decode prog_12_method_12_code 0 = .ok (.aload_n 0, 1) := by decide +kernel
theorem d_Mo_put_1 : decode prog_12_method_12_code 1 = .ok (.getfield 31, 3) := by decide +kernel
theorem d_Mo_put_4 : decode prog_12_method_12_code 4 = .ok (.aload_n 0, 1) := by decide +kernel
theorem d_Mo_put_5 : decode prog_12_method_12_code 5 = .ok (.getfield 61, 3) := by decide +kernel
theorem d_Mo_put_8 : decode prog_12_method_12_code 8 = .ok (.iload_n 1, 1) := by decide +kernel
theorem d_Mo_put_9 : decode prog_12_method_12_code 9 = .ok (.i2b, 1) := by decide +kernel
theorem d_Mo_put_10 : decode prog_12_method_12_code 10 = .ok (.bastore, 1) := by decide +kernel
theorem d_Mo_put_11 : decode prog_12_method_12_code 11 = .ok (.aload_n 0, 1) := by decide +kernel
theorem d_Mo_put_12 : decode prog_12_method_12_code 12 = .ok (.dup, 1) := by decide +kernel
theorem d_Mo_put_13 : decode prog_12_method_12_code 13 = .ok (.getfield 61, 3) := by decide +kernel
theorem d_Mo_put_16 : decode prog_12_method_12_code 16 = .ok (.iconst 1, 1) := by decide +kernel
theorem d_Mo_put_17 : decode prog_12_method_12_code 17 = .ok (.iadd, 1) := by decide +kernel
theorem d_Mo_put_18 : decode prog_12_method_12_code 18 = .ok (.putfield 61, 3) := by decide +kernel
theorem d_Mo_put_21 : decode prog_12_method_12_code 21 = .ok (.return_, 1) := by decide +kernel
set_option maxHeartbeats 4000000 in
set_option maxRecDepth 100000 in
theorem c_Mo_put (l : Launch) (dC : Nat → ClassId) (dI : Nat → Nat → Nat) (mo rt rk rv rw ro rr ra rc rl rb : Nat) (th fd mn md pt : Int32) (pz : Int64) (kc la ca : Int32) (cB : ClassId) (fa : Nat → Int32) (P : List Nat) (v : Int32) (hLa : by_L P fa) (hpa : P.length + 1 ≤ 16400) : zM_v (S := Nat → Int32) l y_Mo_put w_Mo_put { frames := 0, cells := 0, slots := 0, locals := 0 } (dC, dI) vwCl [.ref mo, .int v] [(mo, .inr (8, [.int th, .int fd, .ref rt, .int mn, .ref rk, .ref rv, .ref rw, .ref ro, .int md, .ref rr, .int (nI P.length), .ref ra, .long pz, .int kc, .ref rc, .ref rl, .ref rb, .int la, .int ca])), (ra, .inl (cB, 16400, .inl fa))] [(cB, .byte)] (fun (u : Nat → Int32) => by_L (P ++ [by_b v]) u) (fun u => [(mo, .inr (8, [.int th, .int fd, .ref rt, .int mn, .ref rk, .ref rv, .ref rw, .ref ro, .int md, .ref rr, .int (nI (P ++ [by_b v]).length), .ref ra, .long pz, .int kc, .ref rc, .ref rl, .ref rb, .int la, .int ca])), (ra, .inl (cB, 16400, .inl u))]) (fun u => [(cB, .byte)]) 0 0 := by
  refine zz_enterv (cc := prog_12_method_12_code) (nL := 2) (ret := none) (by decide) rfl (Nat.le_of_ble_eq_true rfl) ?_
  intro p e s m below meth c A ls C0 hA hS hP hK hD hl
  obtain ⟨hx, hb, hml, hown, hg, hr, hlocks, hin⟩ := C0
  have hown : s.vm.findClass "TextForgeModel" = some m.cls := hown
  have hP : va_P (dC, dI) vwCl [(mo, .inr (8, [.int th, .int fd, .ref rt, .int mn, .ref rk, .ref rv, .ref rw, .ref ro, .int md, .ref rr, .int (nI P.length), .ref ra, .long pz, .int kc, .ref rc, .ref rl, .ref rb, .int la, .int ca])), (ra, .inl (cB, 16400, .inl fa))] s.heap := hP
  have hK : va_K (dC, dI) vwCl [(cB, .byte)] s := hK
  have hD : va_D A [(mo, .inr (8, [.int th, .int fd, .ref rt, .int mn, .ref rk, .ref rv, .ref rw, .ref ro, .int md, .ref rr, .int (nI P.length), .ref ra, .long pz, .int kc, .ref rc, .ref rl, .ref rb, .int la, .int ca])), (ra, .inl (cB, 16400, .inl fa))] := hD
  have hl : lv_has ls 2 [(0, .ref mo), (1, .int v)] := hl
  refine lv_aload_n hx hb d_Mo_put_0 rfl (lv_at hl 0 rfl) ?_
  refine va_get (D := (dC, dI)) (ci := 8) (v := .ref ra) (C := "TextForgeModel") (T := TX8) (N := 19) hx hb hg iwX8 hown hK hP 0 rfl rfl 11 (by decide) (hg _ kw_737) (fun _ h9 => h9) rfl d_Mo_put_1 ?_
  refine lv_aload_n hx hb d_Mo_put_4 rfl (lv_at hl 0 rfl) ?_
  refine va_get (D := (dC, dI)) (ci := 8) (v := .int (nI P.length)) (C := "TextForgeModel") (T := TX8) (N := 19) hx hb hg iwX8 hown hK hP 0 rfl rfl 10 (by decide) (hg _ kw_736) (fun _ h9 => h9) rfl d_Mo_put_5 ?_
  refine lv_iload_n hx hb d_Mo_put_8 rfl (lv_at hl 1 rfl) ?_
  refine lv_i2b hx hb d_Mo_put_9 rfl ?_
  have hi9 : vp_in (nI P.length) 16400 := vp_in_nI (by omega) (by decide)
  refine va_bast hx hb hK hP hD hS 1 0 rfl rfl hi9 d_Mo_put_10 (fun H locs hP hD hS => ?_)
  have hP : va_P (dC, dI) vwCl [(mo, .inr (8, [.int th, .int fd, .ref rt, .int mn, .ref rk, .ref rv, .ref rw, .ref ro, .int md, .ref rr, .int (nI P.length), .ref ra, .long pz, .int kc, .ref rc, .ref rl, .ref rb, .int la, .int ca])), (ra, .inl (cB, 16400, .inl (upd fa (nI P.length).toNatClampNeg (vp_nar .byte v.toInt8.toInt32))))] H := hP
  have hD : va_D A [(mo, .inr (8, [.int th, .int fd, .ref rt, .int mn, .ref rk, .ref rv, .ref rw, .ref ro, .int md, .ref rr, .int (nI P.length), .ref ra, .long pz, .int kc, .ref rc, .ref rl, .ref rb, .int la, .int ca])), (ra, .inl (cB, 16400, .inl (upd fa (nI P.length).toNatClampNeg (vp_nar .byte v.toInt8.toInt32))))] := hD
  refine lv_aload_n hx hb d_Mo_put_11 rfl (lv_at hl 0 rfl) ?_
  refine lv_dup hx hb d_Mo_put_12 rfl ?_
  refine va_get (D := (dC, dI)) (ci := 8) (v := .int (nI P.length)) (C := "TextForgeModel") (T := TX8) (N := 19) hx hb hg iwX8 hown hK hP 0 rfl rfl 10 (by decide) (hg _ kw_736) (fun _ h9 => h9) rfl d_Mo_put_13 ?_
  refine lv_iconst (v := 1) hx hb d_Mo_put_16 (by decide) ?_
  refine lv_iadd hx hb d_Mo_put_17 ?_
  refine va_put (D := (dC, dI)) (ci := 8) (v := .int ((nI P.length) + 1)) (ty := .int) (C := "TextForgeModel") (T := TX8) (N := 19) hx hb hg iwX8 tyX8 tyX8_ok nmX8 hown hK hP hD hS 0 rfl rfl 10 (by decide) (hg _ kw_736) (fun _ h9 => h9) rfl (by decide +kernel) rfl rfl (Nat.le_of_ble_eq_true rfl) d_Mo_put_18 (fun H locs hP hD hS => ?_)
  have hP : va_P (dC, dI) vwCl [(mo, .inr (8, [.int th, .int fd, .ref rt, .int mn, .ref rk, .ref rv, .ref rw, .ref ro, .int md, .ref rr, .int ((nI P.length) + 1), .ref ra, .long pz, .int kc, .ref rc, .ref rl, .ref rb, .int la, .int ca])), (ra, .inl (cB, 16400, .inl (upd fa (nI P.length).toNatClampNeg (vp_nar .byte v.toInt8.toInt32))))] H := hP
  have hD : va_D A [(mo, .inr (8, [.int th, .int fd, .ref rt, .int mn, .ref rk, .ref rv, .ref rw, .ref ro, .int md, .ref rr, .int ((nI P.length) + 1), .ref ra, .long pz, .int kc, .ref rc, .ref rl, .ref rb, .int la, .int ca])), (ra, .inl (cB, 16400, .inl (upd fa (nI P.length).toNatClampNeg (vp_nar .byte v.toInt8.toInt32))))] := hD
  have hP9 := hP.sub (ws' := [(mo, .inr (8, [.int th, .int fd, .ref rt, .int mn, .ref rk, .ref rv, .ref rw, .ref ro, .int md, .ref rr, .int ((nI P.length) + 1), .ref ra, .long pz, .int kc, .ref rc, .ref rl, .ref rb, .int la, .int ca])), (ra, .inl (cB, 16400, .inl (upd fa (nI P.length).toNatClampNeg (vp_nar .byte v.toInt8.toInt32))))]) [0, 1] rfl
  have hD9 := hD.sub (ws' := [(mo, .inr (8, [.int th, .int fd, .ref rt, .int mn, .ref rk, .ref rv, .ref rw, .ref ro, .int md, .ref rr, .int ((nI P.length) + 1), .ref ra, .long pz, .int kc, .ref rc, .ref rl, .ref rb, .int la, .int ca])), (ra, .inl (cB, 16400, .inl (upd fa (nI P.length).toNatClampNeg (vp_nar .byte v.toInt8.toInt32))))]) [0, 1] (by decide) rfl
  have hK9 := hK.sub (tys' := [(cB, .byte)]) [0] rfl
  rw [show nI P.length + 1 = nI (P ++ [by_b v]).length from mo_n1] at hP9 hD9
  exact zz_vret hx hb hr hlocks d_Mo_put_21 hS (by first | exact Nat.le_refl _ | decide | omega | (dsimp only; omega)) (by first | exact Nat.le_refl _ | decide | omega | (dsimp only; omega)) (upd fa (nI P.length).toNatClampNeg (vp_nar .byte v.toInt8.toInt32)) (by rw [← by_ap_lt (cap := 16400) (by omega)]; exact by_addp hLa (by omega) (by decide)) hP9 hK9 hD9
abbrev y_Mo_putS : MethodName := ⟨"TextForgeModel", "put", "(Ljava/lang/String;)V"⟩
abbrev w_Mo_putS : List Cond := Cond.code y_Mo_putS prog_12_method_13_code 3 none :: gw
theorem d_Mo_putS_0 : decode prog_12_method_13_code 0 = .ok (.iconst 0, 1) := by decide +kernel
theorem d_Mo_putS_1 : decode prog_12_method_13_code 1 = .ok (.istore_n 2, 1) := by decide +kernel
theorem d_Mo_putS_2 : decode prog_12_method_13_code 2 = .ok (.iload_n 2, 1) := by decide +kernel
theorem d_Mo_putS_3 : decode prog_12_method_13_code 3 = .ok (.aload_n 1, 1) := by decide +kernel
theorem d_Mo_putS_4 : decode prog_12_method_13_code 4 = .ok (.invokevirtual 64, 3) := by decide +kernel
theorem d_Mo_putS_7 : decode prog_12_method_13_code 7 = .ok (.if_icmp .ge 18, 3) := by decide +kernel
theorem d_Mo_putS_10 : decode prog_12_method_13_code 10 = .ok (.aload_n 0, 1) := by decide +kernel
theorem d_Mo_putS_11 : decode prog_12_method_13_code 11 = .ok (.aload_n 1, 1) := by decide +kernel
theorem d_Mo_putS_12 : decode prog_12_method_13_code 12 = .ok (.iload_n 2, 1) := by decide +kernel
theorem d_Mo_putS_13 : decode prog_12_method_13_code 13 = .ok (.invokevirtual 70, 3) := by decide +kernel
theorem d_Mo_putS_16 : decode prog_12_method_13_code 16 = .ok (.invokevirtual 74, 3) := by decide +kernel
theorem d_Mo_putS_19 : decode prog_12_method_13_code 19 = .ok (.iinc 2 1, 3) := by decide +kernel
theorem d_Mo_putS_22 : decode prog_12_method_13_code 22 = .ok (.goto (-20), 3) := by decide +kernel
theorem d_Mo_putS_25 : decode prog_12_method_13_code 25 = .ok (.return_, 1) := by decide +kernel
set_option maxHeartbeats 4000000 in
set_option maxRecDepth 100000 in
theorem c_Mo_putS (l : Launch) (dC : Nat → ClassId) (dI : Nat → Nat → Nat) (ad : Nat → Nat) (mo rt rk rv rw ro rr ra rc rl rb : Nat) (th fd mn md pt : Int32) (pz : Int64) (kc la ca : Int32) (cB : ClassId) (fa : Nat → Int32) (P : List Nat) (i : Nat) (hLa : by_L P fa) (hpa : P.length + 100 ≤ 16400) (hi : i < kxN) : yM_v (S := Nat → Int32) ad l y_Mo_putS w_Mo_putS { frames := 4, cells := 0, slots := 0, locals := 85 } (dC, dI) vwCl [.ref mo, .ref (ad i)] [(mo, .inr (8, [.int th, .int fd, .ref rt, .int mn, .ref rk, .ref rv, .ref rw, .ref ro, .int md, .ref rr, .int (nI P.length), .ref ra, .long pz, .int kc, .ref rc, .ref rl, .ref rb, .int la, .int ca])), (ra, .inl (cB, 16400, .inl fa))] [(cB, .byte)] (fun (u : Nat → Int32) => by_L (P ++ (kxB i)) u) (fun u => [(mo, .inr (8, [.int th, .int fd, .ref rt, .int mn, .ref rk, .ref rv, .ref rw, .ref ro, .int md, .ref rr, .int (nI (P ++ (kxB i)).length), .ref ra, .long pz, .int kc, .ref rc, .ref rl, .ref rb, .int la, .int ca])), (ra, .inl (cB, 16400, .inl u))]) (fun u => [(cB, .byte)]) 0 0 := by
  refine zy_enterv (cc := prog_12_method_13_code) (nL := 3) (ret := none) (by decide) rfl (Nat.le_of_ble_eq_true rfl) ?_
  intro p e s m below meth c A ls C0 hA hS hP hK hD hl hX
  obtain ⟨hx, hb, hml, hown, hg, hr, hlocks, hin⟩ := C0
  have hown : s.vm.findClass "TextForgeModel" = some m.cls := hown
  have hP : va_P (dC, dI) vwCl [(mo, .inr (8, [.int th, .int fd, .ref rt, .int mn, .ref rk, .ref rv, .ref rw, .ref ro, .int md, .ref rr, .int (nI P.length), .ref ra, .long pz, .int kc, .ref rc, .ref rl, .ref rb, .int la, .int ca])), (ra, .inl (cB, 16400, .inl fa))] s.heap := hP
  have hK : va_K (dC, dI) vwCl [(cB, .byte)] s := hK
  have hD : va_D A [(mo, .inr (8, [.int th, .int fd, .ref rt, .int mn, .ref rk, .ref rv, .ref rw, .ref ro, .int md, .ref rr, .int (nI P.length), .ref ra, .long pz, .int kc, .ref rc, .ref rl, .ref rb, .int la, .int ca])), (ra, .inl (cB, 16400, .inl fa))] := hD
  have hl : lv_has ls 3 [(0, .ref mo), (1, .ref (ad i))] := hl
  refine lv_iconst (v := 0) hx hb d_Mo_putS_0 (by decide) ?_
  refine lv_istore_n (lv' := [(2, .int 0), (0, .ref mo), (1, .ref (ad i))]) hx hb d_Mo_putS_1 rfl hl (by decide) rfl (fun ls hl => ?_)
  rw [show nI P.length = nI (P ++ by_sg (kxB i) 0 0).length by rw [by_sg_0, List.append_nil]] at hP hD
  have hlen := kx_len i hi
  have hlen2 := (kx_all0 i hi).1
  refine zz_loop (fun (x : Nat × (Nat → Int32)) H locs ls => match x with | (j, g) => va_P (dC, dI) vwCl [(mo, .inr (8, [.int th, .int fd, .ref rt, .int mn, .ref rk, .ref rv, .ref rw, .ref ro, .int md, .ref rr, .int (nI (P ++ by_sg (kxB i) 0 j).length), .ref ra, .long pz, .int kc, .ref rc, .ref rl, .ref rb, .int la, .int ca])), (ra, .inl (cB, 16400, .inl g))] H ∧ va_D A [(mo, .inr (8, [.int th, .int fd, .ref rt, .int mn, .ref rk, .ref rv, .ref rw, .ref ro, .int md, .ref rr, .int (nI (P ++ by_sg (kxB i) 0 j).length), .ref ra, .long pz, .int kc, .ref rc, .ref rl, .ref rb, .int la, .int ca])), (ra, .inl (cB, 16400, .inl g))] ∧ va_S A s.heap H locs ∧ lv_has ls 3 [(0, .ref mo), (1, .ref (ad i)), (2, .int (nI j))] ∧ by_L (P ++ by_sg (kxB i) 0 j) g ∧ j ≤ (kxB i).length) (fun x => match x with | (j, g) => (kxB i).length - j) ?_ (0, fa) ⟨hP.sub [0, 1] rfl, hD.sub [0, 1] (by decide) rfl, hS, lv_sub hl [1, 2, 0] rfl, (by rw [by_sg_0, List.append_nil]; exact hLa), (Nat.zero_le _)⟩
  intro x H locs ls hI ih_2
  obtain ⟨j, g⟩ := x
  try dsimp only at hI
  obtain ⟨hP, hD, hS, hl, hLj, hj⟩ := hI
  refine lv_iload_n hx hb d_Mo_putS_2 rfl (lv_at hl 2 rfl) ?_
  refine lv_aload_n hx hb d_Mo_putS_3 rfl (lv_at hl 1 rfl) ?_
  have hPc := hP.sub (ws' := []) [] rfl
  have hKc := hK.sub (tys' := []) [] rfl
  refine vp_callSi (W.runV (As := []) (rest := [.int (nI j)]) ⟨hx, hb, hml, hown, hg⟩ (c_St_length l dC dI ad i hi) (cwV 0 hg (gi_V kw_918 kw_305 kw_306 kw_16 kw_307) rfl rfl rfl (by decide +kernel) ⟨Nat.le_of_ble_eq_true rfl, Nat.le_of_ble_eq_true rfl⟩) (zy_prSt hi hX hS hPc hKc _) rfl rfl hl.1 rfl (lv_room (Nat.le_of_ble_eq_true rfl)) d_Mo_putS_4 ⟨Nat.le_of_ble_eq_true rfl, Nat.le_of_ble_eq_true rfl⟩) (fun r_1 hr_1 => ?_)
  subst hr_1
  refine lv_icmp_ge (tgt := 25) hx hb d_Mo_putS_7 (by decide) (fun c_7 => ?_) (fun c_7 => ?_)
  · skip
    have ej : j = (kxB i).length := by have := Nat.le_of_not_lt (fun z => nI_ge (a := j) (b := (kxB i).length) z hlen c_7); omega
    have hP9 := hP.sub (ws' := [(mo, .inr (8, [.int th, .int fd, .ref rt, .int mn, .ref rk, .ref rv, .ref rw, .ref ro, .int md, .ref rr, .int (nI (P ++ by_sg (kxB i) 0 j).length), .ref ra, .long pz, .int kc, .ref rc, .ref rl, .ref rb, .int la, .int ca])), (ra, .inl (cB, 16400, .inl g))]) [0, 1] rfl
    have hD9 := hD.sub (ws' := [(mo, .inr (8, [.int th, .int fd, .ref rt, .int mn, .ref rk, .ref rv, .ref rw, .ref ro, .int md, .ref rr, .int (nI (P ++ by_sg (kxB i) 0 j).length), .ref ra, .long pz, .int kc, .ref rc, .ref rl, .ref rb, .int la, .int ca])), (ra, .inl (cB, 16400, .inl g))]) [0, 1] (by decide) rfl
    have hK9 := hK.sub (tys' := [(cB, .byte)]) [0] rfl
    rw [ej] at hP9 hD9
    rw [kx_all] at hP9 hD9
    exact zz_vret hx hb hr hlocks d_Mo_putS_25 hS (by first | exact Nat.le_refl _ | decide | omega | (dsimp only; omega)) (by first | exact Nat.le_refl _ | decide | omega | (dsimp only; omega)) g (by rw [ej, kx_all] at hLj; exact hLj) hP9 hK9 hD9
  · skip
    have hj2 : j < (kxB i).length := Nat.lt_of_not_le (fun z => c_7 (nI_le z (by omega)))
    have hsl : (by_sg (kxB i) 0 j).length ≤ j := List.length_take_le _ _
    refine lv_aload_n hx hb d_Mo_putS_10 rfl (lv_at hl 0 rfl) ?_
    refine lv_aload_n hx hb d_Mo_putS_11 rfl (lv_at hl 1 rfl) ?_
    refine lv_iload_n hx hb d_Mo_putS_12 rfl (lv_at hl 2 rfl) ?_
    have hPc := hP.sub (ws' := []) [] rfl
    have hKc := hK.sub (tys' := []) [] rfl
    refine vp_callSi (W.runV (As := [.int (nI j)]) (rest := [.ref mo]) ⟨hx, hb, hml, hown, hg⟩ (c_St_charAt l dC dI ad i j hi hj2) (cwV 1 hg (gi_V kw_899 kw_315 kw_316 kw_16 kw_317) rfl rfl rfl (by decide +kernel) ⟨Nat.le_of_ble_eq_true rfl, Nat.le_of_ble_eq_true rfl⟩) (zy_prSt hi hX hS hPc hKc _) rfl rfl hl.1 rfl (lv_room (Nat.le_of_ble_eq_true rfl)) d_Mo_putS_13 ⟨Nat.le_of_ble_eq_true rfl, Nat.le_of_ble_eq_true rfl⟩) (fun r_2 hr_2 => ?_)
    subst hr_2
    have hPc := hP.sub (ws' := [(mo, .inr (8, [.int th, .int fd, .ref rt, .int mn, .ref rk, .ref rv, .ref rw, .ref ro, .int md, .ref rr, .int (nI (P ++ by_sg (kxB i) 0 j).length), .ref ra, .long pz, .int kc, .ref rc, .ref rl, .ref rb, .int la, .int ca])), (ra, .inl (cB, 16400, .inl g))]) [0, 1] rfl
    have hKc := hK.sub (tys' := [(cB, .byte)]) [0] rfl
    have hDc := hD.sub (ws' := [(mo, .inr (8, [.int th, .int fd, .ref rt, .int mn, .ref rk, .ref rv, .ref rw, .ref ro, .int md, .ref rr, .int (nI (P ++ by_sg (kxB i) 0 j).length), .ref ra, .long pz, .int kc, .ref rc, .ref rl, .ref rb, .int la, .int ca])), (ra, .inl (cB, 16400, .inl g))]) [0, 1] (by decide) rfl
    have hFc := va_free (wc := [(mo, .inr (8, [.int th, .int fd, .ref rt, .int mn, .ref rk, .ref rv, .ref rw, .ref ro, .int md, .ref rr, .int (nI (P ++ by_sg (kxB i) 0 j).length), .ref ra, .long pz, .int kc, .ref rc, .ref rl, .ref rb, .int la, .int ca])), (ra, .inl (cB, 16400, .inl g))]) hD hS hA [0, 1] rfl
    refine zz_callv (va_runV (As := [.int (nI ((kxB i).getD j 0))]) (rest := []) ⟨hx, hb, hml, hown, hg⟩ (c_Mo_put l dC dI mo rt rk rv rw ro rr ra rc rl rb th fd mn md (nI (P ++ by_sg (kxB i) 0 j).length) pz kc la ca cB g (P ++ by_sg (kxB i) 0 j) (nI ((kxB i).getD j 0)) hLj (by (try simp only [List.length_append, List.length_cons, List.length_nil]); omega) H.size) (cwV 1 hg (gi_V kw_863 kw_865 sw_16 kw_9 kw_866) rfl rfl rfl (by decide +kernel) ⟨Nat.le_of_ble_eq_true rfl, Nat.le_of_ble_eq_true rfl⟩) (zz_preV hPc hKc hDc _ (q0 := 0) (ci := 8) rfl rfl) rfl rfl hl.1 rfl (lv_room (Nat.le_of_ble_eq_true rfl)) d_Mo_putS_16 ⟨Nat.le_of_ble_eq_true rfl, Nat.le_of_ble_eq_true rfl⟩) hS hFc (fun u H1 k9 p9 d9 => va_join (wr := []) hP hD [0, 1] [] rfl rfl (by decide) (by decide) k9 hFc p9 d9) (fun u H locs hw hP hD hK1 hS => ?_)
    obtain ⟨u_3, rfl⟩ : ∃ z, z = u := ⟨_, rfl⟩
    try dsimp only at hw
    have hP : va_P (dC, dI) vwCl [(mo, .inr (8, [.int th, .int fd, .ref rt, .int mn, .ref rk, .ref rv, .ref rw, .ref ro, .int md, .ref rr, .int (nI ((P ++ by_sg (kxB i) 0 j) ++ [by_b (nI ((kxB i).getD j 0))]).length), .ref ra, .long pz, .int kc, .ref rc, .ref rl, .ref rb, .int la, .int ca])), (ra, .inl (cB, 16400, .inl u_3))] H := hP
    have hD : va_D A [(mo, .inr (8, [.int th, .int fd, .ref rt, .int mn, .ref rk, .ref rv, .ref rw, .ref ro, .int md, .ref rr, .int (nI ((P ++ by_sg (kxB i) 0 j) ++ [by_b (nI ((kxB i).getD j 0))]).length), .ref ra, .long pz, .int kc, .ref rc, .ref rl, .ref rb, .int la, .int ca])), (ra, .inl (cB, 16400, .inl u_3))] := hD
    have hL_5 := hw
    refine lv_iinc (v := (nI j) + 1) (lv' := [(2, .int ((nI j) + 1)), (0, .ref mo), (1, .ref (ad i))]) hx hb d_Mo_putS_19 hl (k := 2) rfl rfl (by decide) rfl (fun ls hl => ?_)
    refine lv_goto (tgt := 2) hx hb d_Mo_putS_22 (by decide) ?_
    have hsg : (P ++ by_sg (kxB i) 0 j) ++ [by_b (nI ((kxB i).getD j 0))] = (P ++ by_sg (kxB i) 0 (j + 1)) := mo_sg hi hj2
    rw [hsg] at hP hD hL_5
    rw [nI_1] at hl
    exact ih_2 (j + 1, u_3) H locs ls ⟨hP.sub [0, 1] rfl, hD.sub [0, 1] (by decide) rfl, hS, lv_sub hl [1, 2, 0] rfl, hL_5, hj2⟩ (by dsimp only; omega)
abbrev y_Mo_give : MethodName := ⟨"TextForgeModel", "give", "(I)V"⟩
abbrev w_Mo_give : List Cond := Cond.code y_Mo_give prog_12_method_14_code 2 none :: gw
theorem d_Mo_give_0 : decode prog_12_method_14_code 0 = .ok (.aload_n 0, 1) := by decide +kernel
theorem d_Mo_give_1 : decode prog_12_method_14_code 1 = .ok (.getfield 78, 3) := by decide +kernel
theorem d_Mo_give_4 : decode prog_12_method_14_code 4 = .ok (.sipush 4096, 3) := by decide +kernel
theorem d_Mo_give_7 : decode prog_12_method_14_code 7 = .ok (.if_icmp .ne 4, 3) := by decide +kernel
theorem d_Mo_give_10 : decode prog_12_method_14_code 10 = .ok (.return_, 1) := by decide +kernel
theorem d_Mo_give_11 : decode prog_12_method_14_code 11 = .ok (.aload_n 0, 1) := by decide +kernel
theorem d_Mo_give_12 : decode prog_12_method_14_code 12 = .ok (.getfield 28, 3) := by decide +kernel
theorem d_Mo_give_15 : decode prog_12_method_14_code 15 = .ok (.aload_n 0, 1) := by decide +kernel
theorem d_Mo_give_16 : decode prog_12_method_14_code 16 = .ok (.getfield 78, 3) := by decide +kernel
theorem d_Mo_give_19 : decode prog_12_method_14_code 19 = .ok (.iload_n 1, 1) := by decide +kernel
theorem d_Mo_give_20 : decode prog_12_method_14_code 20 = .ok (.i2b, 1) := by decide +kernel
theorem d_Mo_give_21 : decode prog_12_method_14_code 21 = .ok (.bastore, 1) := by decide +kernel
theorem d_Mo_give_22 : decode prog_12_method_14_code 22 = .ok (.aload_n 0, 1) := by decide +kernel
theorem d_Mo_give_23 : decode prog_12_method_14_code 23 = .ok (.dup, 1) := by decide +kernel
theorem d_Mo_give_24 : decode prog_12_method_14_code 24 = .ok (.getfield 78, 3) := by decide +kernel
theorem d_Mo_give_27 : decode prog_12_method_14_code 27 = .ok (.iconst 1, 1) := by decide +kernel
theorem d_Mo_give_28 : decode prog_12_method_14_code 28 = .ok (.iadd, 1) := by decide +kernel
theorem d_Mo_give_29 : decode prog_12_method_14_code 29 = .ok (.putfield 78, 3) := by decide +kernel
theorem d_Mo_give_32 : decode prog_12_method_14_code 32 = .ok (.return_, 1) := by decide +kernel
set_option maxHeartbeats 4000000 in
set_option maxRecDepth 100000 in
theorem c_Mo_give (l : Launch) (dC : Nat → ClassId) (dI : Nat → Nat → Nat) (mo rt rk rv rw ro rr ra rc rl rb : Nat) (th fd mn md pt : Int32) (pz : Int64) (kc la ca : Int32) (cB : ClassId) (fr : Nat → Int32) (M : List Nat) (v : Int32) (hLr : by_L M fr) (hcr : M.length ≤ 4096) : zM_v (S := Nat → Int32) l y_Mo_give w_Mo_give { frames := 0, cells := 0, slots := 0, locals := 0 } (dC, dI) vwCl [.ref mo, .int v] [(mo, .inr (8, [.int th, .int fd, .ref rt, .int mn, .ref rk, .ref rv, .ref rw, .ref ro, .int (nI M.length), .ref rr, .int pt, .ref ra, .long pz, .int kc, .ref rc, .ref rl, .ref rb, .int la, .int ca])), (rr, .inl (cB, 4096, .inl fr))] [(cB, .byte)] (fun (u : Nat → Int32) => by_L (by_ap 4096 M [by_b v]) u) (fun u => [(mo, .inr (8, [.int th, .int fd, .ref rt, .int mn, .ref rk, .ref rv, .ref rw, .ref ro, .int (nI (by_ap 4096 M [by_b v]).length), .ref rr, .int pt, .ref ra, .long pz, .int kc, .ref rc, .ref rl, .ref rb, .int la, .int ca])), (rr, .inl (cB, 4096, .inl u))]) (fun u => [(cB, .byte)]) 0 0 := by
  refine zz_enterv (cc := prog_12_method_14_code) (nL := 2) (ret := none) (by decide) rfl (Nat.le_of_ble_eq_true rfl) ?_
  intro p e s m below meth c A ls C0 hA hS hP hK hD hl
  obtain ⟨hx, hb, hml, hown, hg, hr, hlocks, hin⟩ := C0
  have hown : s.vm.findClass "TextForgeModel" = some m.cls := hown
  have hP : va_P (dC, dI) vwCl [(mo, .inr (8, [.int th, .int fd, .ref rt, .int mn, .ref rk, .ref rv, .ref rw, .ref ro, .int (nI M.length), .ref rr, .int pt, .ref ra, .long pz, .int kc, .ref rc, .ref rl, .ref rb, .int la, .int ca])), (rr, .inl (cB, 4096, .inl fr))] s.heap := hP
  have hK : va_K (dC, dI) vwCl [(cB, .byte)] s := hK
  have hD : va_D A [(mo, .inr (8, [.int th, .int fd, .ref rt, .int mn, .ref rk, .ref rv, .ref rw, .ref ro, .int (nI M.length), .ref rr, .int pt, .ref ra, .long pz, .int kc, .ref rc, .ref rl, .ref rb, .int la, .int ca])), (rr, .inl (cB, 4096, .inl fr))] := hD
  have hl : lv_has ls 2 [(0, .ref mo), (1, .int v)] := hl
  refine lv_aload_n hx hb d_Mo_give_0 rfl (lv_at hl 0 rfl) ?_
  refine va_get (D := (dC, dI)) (ci := 8) (v := .int (nI M.length)) (C := "TextForgeModel") (T := TX8) (N := 19) hx hb hg iwX8 hown hK hP 0 rfl rfl 8 (by decide) (hg _ kw_734) (fun _ h9 => h9) rfl d_Mo_give_1 ?_
  refine lv_sipush (v := 4096) hx hb d_Mo_give_4 (by decide) ?_
  refine lv_icmp_ne (tgt := 11) hx hb d_Mo_give_7 (by decide) (fun c_7 => ?_) (fun c_7 => ?_)
  · skip
    have hlt : M.length < 4096 := by have := nI_ne (b := 4096) c_7; omega
    have hi9 : vp_in (nI M.length) 4096 := vp_in_nI hlt (by decide)
    refine lv_aload_n hx hb d_Mo_give_11 rfl (lv_at hl 0 rfl) ?_
    refine va_get (D := (dC, dI)) (ci := 8) (v := .ref rr) (C := "TextForgeModel") (T := TX8) (N := 19) hx hb hg iwX8 hown hK hP 0 rfl rfl 9 (by decide) (hg _ kw_735) (fun _ h9 => h9) rfl d_Mo_give_12 ?_
    refine lv_aload_n hx hb d_Mo_give_15 rfl (lv_at hl 0 rfl) ?_
    refine va_get (D := (dC, dI)) (ci := 8) (v := .int (nI M.length)) (C := "TextForgeModel") (T := TX8) (N := 19) hx hb hg iwX8 hown hK hP 0 rfl rfl 8 (by decide) (hg _ kw_734) (fun _ h9 => h9) rfl d_Mo_give_16 ?_
    refine lv_iload_n hx hb d_Mo_give_19 rfl (lv_at hl 1 rfl) ?_
    refine lv_i2b hx hb d_Mo_give_20 rfl ?_
    refine va_bast hx hb hK hP hD hS 1 0 rfl rfl hi9 d_Mo_give_21 (fun H locs hP hD hS => ?_)
    have hP : va_P (dC, dI) vwCl [(mo, .inr (8, [.int th, .int fd, .ref rt, .int mn, .ref rk, .ref rv, .ref rw, .ref ro, .int (nI M.length), .ref rr, .int pt, .ref ra, .long pz, .int kc, .ref rc, .ref rl, .ref rb, .int la, .int ca])), (rr, .inl (cB, 4096, .inl (upd fr (nI M.length).toNatClampNeg (vp_nar .byte v.toInt8.toInt32))))] H := hP
    have hD : va_D A [(mo, .inr (8, [.int th, .int fd, .ref rt, .int mn, .ref rk, .ref rv, .ref rw, .ref ro, .int (nI M.length), .ref rr, .int pt, .ref ra, .long pz, .int kc, .ref rc, .ref rl, .ref rb, .int la, .int ca])), (rr, .inl (cB, 4096, .inl (upd fr (nI M.length).toNatClampNeg (vp_nar .byte v.toInt8.toInt32))))] := hD
    refine lv_aload_n hx hb d_Mo_give_22 rfl (lv_at hl 0 rfl) ?_
    refine lv_dup hx hb d_Mo_give_23 rfl ?_
    refine va_get (D := (dC, dI)) (ci := 8) (v := .int (nI M.length)) (C := "TextForgeModel") (T := TX8) (N := 19) hx hb hg iwX8 hown hK hP 0 rfl rfl 8 (by decide) (hg _ kw_734) (fun _ h9 => h9) rfl d_Mo_give_24 ?_
    refine lv_iconst (v := 1) hx hb d_Mo_give_27 (by decide) ?_
    refine lv_iadd hx hb d_Mo_give_28 ?_
    refine va_put (D := (dC, dI)) (ci := 8) (v := .int ((nI M.length) + 1)) (ty := .int) (C := "TextForgeModel") (T := TX8) (N := 19) hx hb hg iwX8 tyX8 tyX8_ok nmX8 hown hK hP hD hS 0 rfl rfl 8 (by decide) (hg _ kw_734) (fun _ h9 => h9) rfl (by decide +kernel) rfl rfl (Nat.le_of_ble_eq_true rfl) d_Mo_give_29 (fun H locs hP hD hS => ?_)
    have hP : va_P (dC, dI) vwCl [(mo, .inr (8, [.int th, .int fd, .ref rt, .int mn, .ref rk, .ref rv, .ref rw, .ref ro, .int ((nI M.length) + 1), .ref rr, .int pt, .ref ra, .long pz, .int kc, .ref rc, .ref rl, .ref rb, .int la, .int ca])), (rr, .inl (cB, 4096, .inl (upd fr (nI M.length).toNatClampNeg (vp_nar .byte v.toInt8.toInt32))))] H := hP
    have hD : va_D A [(mo, .inr (8, [.int th, .int fd, .ref rt, .int mn, .ref rk, .ref rv, .ref rw, .ref ro, .int ((nI M.length) + 1), .ref rr, .int pt, .ref ra, .long pz, .int kc, .ref rc, .ref rl, .ref rb, .int la, .int ca])), (rr, .inl (cB, 4096, .inl (upd fr (nI M.length).toNatClampNeg (vp_nar .byte v.toInt8.toInt32))))] := hD
    have hP9 := hP.sub (ws' := [(mo, .inr (8, [.int th, .int fd, .ref rt, .int mn, .ref rk, .ref rv, .ref rw, .ref ro, .int ((nI M.length) + 1), .ref rr, .int pt, .ref ra, .long pz, .int kc, .ref rc, .ref rl, .ref rb, .int la, .int ca])), (rr, .inl (cB, 4096, .inl (upd fr (nI M.length).toNatClampNeg (vp_nar .byte v.toInt8.toInt32))))]) [0, 1] rfl
    have hD9 := hD.sub (ws' := [(mo, .inr (8, [.int th, .int fd, .ref rt, .int mn, .ref rk, .ref rv, .ref rw, .ref ro, .int ((nI M.length) + 1), .ref rr, .int pt, .ref ra, .long pz, .int kc, .ref rc, .ref rl, .ref rb, .int la, .int ca])), (rr, .inl (cB, 4096, .inl (upd fr (nI M.length).toNatClampNeg (vp_nar .byte v.toInt8.toInt32))))]) [0, 1] (by decide) rfl
    have hK9 := hK.sub (tys' := [(cB, .byte)]) [0] rfl
    rw [by_addn (v := v) hlt] at hP9 hD9
    exact zz_vret hx hb hr hlocks d_Mo_give_32 hS (by first | exact Nat.le_refl _ | decide | omega | (dsimp only; omega)) (by first | exact Nat.le_refl _ | decide | omega | (dsimp only; omega)) (upd fr (nI M.length).toNatClampNeg (vp_nar .byte v.toInt8.toInt32)) (by_addp hLr hlt (by decide)) hP9 hK9 hD9
  · skip
    have hn : ¬ M.length < 4096 := by have := nI_e1 (b := 4096) c_7 (by omega) (by decide); omega
    have hP9 := hP.sub (ws' := [(mo, .inr (8, [.int th, .int fd, .ref rt, .int mn, .ref rk, .ref rv, .ref rw, .ref ro, .int (nI M.length), .ref rr, .int pt, .ref ra, .long pz, .int kc, .ref rc, .ref rl, .ref rb, .int la, .int ca])), (rr, .inl (cB, 4096, .inl fr))]) [0, 1] rfl
    have hD9 := hD.sub (ws' := [(mo, .inr (8, [.int th, .int fd, .ref rt, .int mn, .ref rk, .ref rv, .ref rw, .ref ro, .int (nI M.length), .ref rr, .int pt, .ref ra, .long pz, .int kc, .ref rc, .ref rl, .ref rb, .int la, .int ca])), (rr, .inl (cB, 4096, .inl fr))]) [0, 1] (by decide) rfl
    have hK9 := hK.sub (tys' := [(cB, .byte)]) [0] rfl
    rw [show nI M.length = nI (by_ap 4096 M [by_b v]).length by rw [by_ap_full hcr hn]] at hP9 hD9
    exact zz_vret hx hb hr hlocks d_Mo_give_10 hS (by first | exact Nat.le_refl _ | decide | omega | (dsimp only; omega)) (by first | exact Nat.le_refl _ | decide | omega | (dsimp only; omega)) fr (by rw [by_ap_full hcr hn]; exact hLr) hP9 hK9 hD9
abbrev y_Mo_less : MethodName := ⟨"TextForgeModel", "less", "(JJ)Z"⟩
abbrev w_Mo_less : List Cond := Cond.code y_Mo_less prog_12_method_15_code 4 (some .boolean) :: gw
theorem d_Mo_less_0 : decode prog_12_method_15_code 0 = .ok (.lload_n 0, 1) := by decide +kernel
theorem d_Mo_less_1 : decode prog_12_method_15_code 1 = .ok (.ldc2_w 83, 3) := by decide +kernel
theorem d_Mo_less_4 : decode prog_12_method_15_code 4 = .ok (.ladd, 1) := by decide +kernel
theorem d_Mo_less_5 : decode prog_12_method_15_code 5 = .ok (.lload_n 2, 1) := by decide +kernel
theorem d_Mo_less_6 : decode prog_12_method_15_code 6 = .ok (.ldc2_w 83, 3) := by decide +kernel
theorem d_Mo_less_9 : decode prog_12_method_15_code 9 = .ok (.ladd, 1) := by decide +kernel
theorem d_Mo_less_10 : decode prog_12_method_15_code 10 = .ok (.lcmp, 1) := by decide +kernel
theorem d_Mo_less_11 : decode prog_12_method_15_code 11 = .ok (.ifCond .ge 7, 3) := by decide +kernel
theorem d_Mo_less_14 : decode prog_12_method_15_code 14 = .ok (.iconst 1, 1) := by decide +kernel
theorem d_Mo_less_15 : decode prog_12_method_15_code 15 = .ok (.goto 4, 3) := by decide +kernel
theorem d_Mo_less_18 : decode prog_12_method_15_code 18 = .ok (.iconst 0, 1) := by decide +kernel
theorem d_Mo_less_19 : decode prog_12_method_15_code 19 = .ok (.ireturn, 1) := by decide +kernel
set_option maxHeartbeats 4000000 in
set_option maxRecDepth 100000 in
theorem c_Mo_less (l : Launch) (dC : Nat → ClassId) (dI : Nat → Nat → Nat) (a b : Nat) (ha : a < 2 ^ 64) (hb0 : b < 2 ^ 64) : zR_i l y_Mo_less w_Mo_less { frames := 0, cells := 0, slots := 0, locals := 0 } (dC, dI) vwCl [.long (lN a), .long (lN b)] [] [] (fun r : Int32 => r = by_z (decide (a < b))) := by
  refine zz_enterR (cc := prog_12_method_15_code) (nL := 4) (ret := (some .boolean)) (by decide) rfl (Nat.le_of_ble_eq_true rfl) ?_
  intro p e s m below meth c ls C0 hP hK hl
  obtain ⟨hx, hb, hml, hown, hg, hr, hlocks, hin⟩ := C0
  have hS : va_S (fun _ => False) s.heap s.heap [] := va_S.rf
  have hown : s.vm.findClass "TextForgeModel" = some m.cls := hown
  have hP : va_P (dC, dI) vwCl [] s.heap := hP
  have hK : va_K (dC, dI) vwCl [] s := hK
  have hl : lv_has ls 4 [(0, .long (lN a)), (2, .long (lN b))] := hl
  refine lv_lload_n hx hb d_Mo_less_0 rfl (lv_at hl 0 rfl) ?_
  refine W.ldc2 (v := (-9223372036854775808)) hx hb hown (hg _ kw_881) rfl d_Mo_less_1 ?_
  refine W.eq (g2 := F0 m 4 ls [.long (-9223372036854775808), .long (lN a)]) rfl ?_
  refine lv_ladd hx hb d_Mo_less_4 ?_
  refine lv_lload_n hx hb d_Mo_less_5 rfl (lv_at hl 1 rfl) ?_
  refine W.ldc2 (v := (-9223372036854775808)) hx hb hown (hg _ kw_881) rfl d_Mo_less_6 ?_
  refine W.eq (g2 := F0 m 9 ls [.long (-9223372036854775808), .long (lN b), .long ((lN a) + (-9223372036854775808))]) rfl ?_
  refine lv_ladd hx hb d_Mo_less_9 ?_
  refine W.lcmp hx hb d_Mo_less_10 ?_
  refine lv_if_ge (tgt := 18) hx hb d_Mo_less_11 (by decide) (fun c_11 => ?_) (fun c_11 => ?_)
  · skip
    refine lv_iconst (v := 0) hx hb d_Mo_less_18 (by decide) ?_
    exact zz_zretR hx hb hr hlocks d_Mo_less_19 rfl (by rw [decide_eq_false (by have := (ls_c ha hb0).mp c_11; omega)]; rfl)
  · skip
    refine lv_iconst (v := 1) hx hb d_Mo_less_14 (by decide) ?_
    refine lv_goto (tgt := 19) hx hb d_Mo_less_15 (by decide) ?_
    exact zz_zretR hx hb hr hlocks d_Mo_less_19 rfl (by rw [decide_eq_true (Nat.lt_of_not_le (fun z => c_11 ((ls_c ha hb0).mpr z)))]; rfl)
abbrev y_Mo_goes : MethodName := ⟨"TextForgeModel", "goes", "(JI)J"⟩
abbrev w_Mo_goes : List Cond := Cond.code y_Mo_goes prog_12_method_16_code 5 (some .long) :: gw
theorem d_Mo_goes_0 : decode prog_12_method_16_code 0 = .ok (.lload_n 0, 1) := by decide +kernel
theorem d_Mo_goes_1 : decode prog_12_method_16_code 1 = .ok (.iconst 1, 1) := by decide +kernel
theorem d_Mo_goes_2 : decode prog_12_method_16_code 2 = .ok (.lushr, 1) := by decide +kernel
theorem d_Mo_goes_3 : decode prog_12_method_16_code 3 = .ok (.iload_n 2, 1) := by decide +kernel
theorem d_Mo_goes_4 : decode prog_12_method_16_code 4 = .ok (.i2l, 1) := by decide +kernel
theorem d_Mo_goes_5 : decode prog_12_method_16_code 5 = .ok (.ldiv, 1) := by decide +kernel
theorem d_Mo_goes_6 : decode prog_12_method_16_code 6 = .ok (.iconst 1, 1) := by decide +kernel
theorem d_Mo_goes_7 : decode prog_12_method_16_code 7 = .ok (.lshl, 1) := by decide +kernel
theorem d_Mo_goes_8 : decode prog_12_method_16_code 8 = .ok (.lstore_n 3, 1) := by decide +kernel
theorem d_Mo_goes_9 : decode prog_12_method_16_code 9 = .ok (.lload_n 0, 1) := by decide +kernel
theorem d_Mo_goes_10 : decode prog_12_method_16_code 10 = .ok (.lload_n 3, 1) := by decide +kernel
theorem d_Mo_goes_11 : decode prog_12_method_16_code 11 = .ok (.iload_n 2, 1) := by decide +kernel
theorem d_Mo_goes_12 : decode prog_12_method_16_code 12 = .ok (.i2l, 1) := by decide +kernel
theorem d_Mo_goes_13 : decode prog_12_method_16_code 13 = .ok (.lmul, 1) := by decide +kernel
theorem d_Mo_goes_14 : decode prog_12_method_16_code 14 = .ok (.lsub, 1) := by decide +kernel
theorem d_Mo_goes_15 : decode prog_12_method_16_code 15 = .ok (.iload_n 2, 1) := by decide +kernel
theorem d_Mo_goes_16 : decode prog_12_method_16_code 16 = .ok (.i2l, 1) := by decide +kernel
theorem d_Mo_goes_17 : decode prog_12_method_16_code 17 = .ok (.invokestatic 85, 3) := by decide +kernel
theorem d_Mo_goes_20 : decode prog_12_method_16_code 20 = .ok (.ifCond .eq 7, 3) := by decide +kernel
theorem d_Mo_goes_23 : decode prog_12_method_16_code 23 = .ok (.lload_n 3, 1) := by decide +kernel
theorem d_Mo_goes_24 : decode prog_12_method_16_code 24 = .ok (.goto 6, 3) := by decide +kernel
theorem d_Mo_goes_27 : decode prog_12_method_16_code 27 = .ok (.lload_n 3, 1) := by decide +kernel
theorem d_Mo_goes_28 : decode prog_12_method_16_code 28 = .ok (.lconst 1, 1) := by decide +kernel
theorem d_Mo_goes_29 : decode prog_12_method_16_code 29 = .ok (.ladd, 1) := by decide +kernel
theorem d_Mo_goes_30 : decode prog_12_method_16_code 30 = .ok (.lreturn, 1) := by decide +kernel
set_option maxHeartbeats 4000000 in
set_option maxRecDepth 100000 in
theorem c_Mo_goes (l : Launch) (dC : Nat → ClassId) (dI : Nat → Nat → Nat) (n b : Nat) (hn : n < 2 ^ 64) (hb2 : 2 ≤ b) (hb36 : b ≤ 36) : zR_l l y_Mo_goes w_Mo_goes { frames := 1, cells := 0, slots := 0, locals := 23 } (dC, dI) vwCl [.long (lN n), .int (nI b)] [] [] (fun r : Int64 => r = lN (n / b)) := by
  refine zz_enterR (cc := prog_12_method_16_code) (nL := 5) (ret := (some .long)) (by decide) rfl (Nat.le_of_ble_eq_true rfl) ?_
  intro p e s m below meth c ls C0 hP hK hl
  obtain ⟨hx, hb, hml, hown, hg, hr, hlocks, hin⟩ := C0
  have hS : va_S (fun _ => False) s.heap s.heap [] := va_S.rf
  have hown : s.vm.findClass "TextForgeModel" = some m.cls := hown
  have hP : va_P (dC, dI) vwCl [] s.heap := hP
  have hK : va_K (dC, dI) vwCl [] s := hK
  have hl : lv_has ls 5 [(0, .long (lN n)), (2, .int (nI b))] := hl
  refine lv_lload_n hx hb d_Mo_goes_0 rfl (lv_at hl 0 rfl) ?_
  refine lv_iconst (v := 1) hx hb d_Mo_goes_1 (by decide) ?_
  refine lv_lushr hx hb d_Mo_goes_2 rfl ?_
  rw [show ((lN n).toUInt64 >>> ((1 : Int32).toInt64.toUInt64 &&& Int64.toUInt64 63)).toInt64 = lN (n / 2) from wb_shr (k := 1) hn (by decide)]
  refine lv_iload_n hx hb d_Mo_goes_3 rfl (lv_at hl 1 rfl) ?_
  refine lv_i2l hx hb d_Mo_goes_4 rfl ?_
  rw [show (nI b).toInt64 = lN b from nI_l (by omega)]
  refine lv_ldiv hx hb d_Mo_goes_5 (lz_nz (by omega) (by omega)) ?_
  rw [show lN (n / 2) / lN b = lN (n / 2 / b) from lN_div (by omega) (by omega) (by omega)]
  refine lv_iconst (v := 1) hx hb d_Mo_goes_6 (by decide) ?_
  refine lv_lshl hx hb d_Mo_goes_7 rfl ?_
  rw [show lN (n / 2 / b) <<< ((1 : Int32).toInt64 &&& 63) = lN (2 * (n / 2 / b)) from (wb_shl (n / 2 / b) (k := 1) (by decide)).trans (by rw [Nat.mul_comm])]
  refine lv_lstore_n (lv' := [(3, .long (lN (2 * (n / 2 / b)))), (0, .long (lN n)), (2, .int (nI b))]) hx hb d_Mo_goes_8 rfl hl (by decide) rfl (fun ls hl => ?_)
  refine lv_lload_n hx hb d_Mo_goes_9 rfl (lv_at hl 1 rfl) ?_
  refine lv_lload_n hx hb d_Mo_goes_10 rfl (lv_at hl 0 rfl) ?_
  refine lv_iload_n hx hb d_Mo_goes_11 rfl (lv_at hl 2 rfl) ?_
  refine lv_i2l hx hb d_Mo_goes_12 rfl ?_
  rw [show (nI b).toInt64 = lN b from nI_l (by omega)]
  refine lv_lmul hx hb d_Mo_goes_13 ?_
  rw [lN_mul]
  refine lv_lsub hx hb d_Mo_goes_14 ?_
  rw [lN_sub (go_le hb2)]
  refine lv_iload_n hx hb d_Mo_goes_15 rfl (lv_at hl 2 rfl) ?_
  refine lv_i2l hx hb d_Mo_goes_16 rfl ?_
  rw [show (nI b).toInt64 = lN b from nI_l (by omega)]
  have hPc := hP.sub (ws' := []) [] rfl
  have hKc := hK.sub (tys' := []) [] rfl
  refine vp_callSi (W.runS (As := [.long (lN (n - (2 * (n / 2 / b)) * b)), .long (lN b)]) (rest := []) ⟨hx, hb, hml, hown, hg⟩ (c_Mo_less l dC dI (n - (2 * (n / 2 / b)) * b) b (by omega) (by omega)) (va_cwS 2 hg (gi_S kw_878 kw_879 kw_9 kw_880) rfl rfl rfl (by decide +kernel) ⟨Nat.le_of_ble_eq_true rfl, Nat.le_of_ble_eq_true rfl⟩) (zz_prJS hPc hKc _) rfl rfl hl.1 rfl (lv_room (Nat.le_of_ble_eq_true rfl)) d_Mo_goes_17 ⟨Nat.le_of_ble_eq_true rfl, Nat.le_of_ble_eq_true rfl⟩) (fun r_1 hr_1 => ?_)
  refine lv_if_eq (tgt := 27) hx hb d_Mo_goes_20 (by decide) (fun c_20 => ?_) (fun c_20 => ?_)
  · skip
    have hno : ¬ n - (2 * (n / 2 / b)) * b < b := fun z => by rw [hr_1, decide_eq_true z] at c_20; exact absurd c_20 (by decide)
    refine lv_lload_n hx hb d_Mo_goes_27 rfl (lv_at hl 0 rfl) ?_
    refine lv_lconst (v := 1) hx hb d_Mo_goes_28 (by decide) ?_
    refine lv_ladd hx hb d_Mo_goes_29 ?_
    exact zz_lretR hx hb hr hlocks d_Mo_goes_30 (by rw [lN_1]; rcases go_q (n := n) hb2 with z | z; exact absurd z.1 hno; rw [z.2])
  · skip
    have hno : n - (2 * (n / 2 / b)) * b < b := by by_cases z : n - (2 * (n / 2 / b)) * b < b; exact z; exact absurd (by rw [hr_1, decide_eq_false z]; rfl) c_20
    refine lv_lload_n hx hb d_Mo_goes_23 rfl (lv_at hl 0 rfl) ?_
    refine lv_goto (tgt := 30) hx hb d_Mo_goes_24 (by decide) ?_
    exact zz_lretR hx hb hr hlocks d_Mo_goes_30 (by rcases go_q (n := n) hb2 with z | z; rw [z.2]; exact absurd hno (by omega))
abbrev y_Mo_isCode : MethodName := ⟨"TextForgeModel", "isCode", "(J)Z"⟩
abbrev w_Mo_isCode : List Cond := Cond.code y_Mo_isCode prog_12_method_18_code 2 (some .boolean) :: gw
theorem d_Mo_isCode_0 : decode prog_12_method_18_code 0 = .ok (.lload_n 0, 1) := by decide +kernel
theorem d_Mo_isCode_1 : decode prog_12_method_18_code 1 = .ok (.lconst 0, 1) := by decide +kernel
theorem d_Mo_isCode_2 : decode prog_12_method_18_code 2 = .ok (.lcmp, 1) := by decide +kernel
theorem d_Mo_isCode_3 : decode prog_12_method_18_code 3 = .ok (.ifCond .lt 31, 3) := by decide +kernel
theorem d_Mo_isCode_6 : decode prog_12_method_18_code 6 = .ok (.lload_n 0, 1) := by decide +kernel
theorem d_Mo_isCode_7 : decode prog_12_method_18_code 7 = .ok (.ldc2_w 93, 3) := by decide +kernel
theorem d_Mo_isCode_10 : decode prog_12_method_18_code 10 = .ok (.lcmp, 1) := by decide +kernel
theorem d_Mo_isCode_11 : decode prog_12_method_18_code 11 = .ok (.ifCond .gt 23, 3) := by decide +kernel
theorem d_Mo_isCode_14 : decode prog_12_method_18_code 14 = .ok (.lload_n 0, 1) := by decide +kernel
theorem d_Mo_isCode_15 : decode prog_12_method_18_code 15 = .ok (.ldc2_w 95, 3) := by decide +kernel
theorem d_Mo_isCode_18 : decode prog_12_method_18_code 18 = .ok (.lcmp, 1) := by decide +kernel
theorem d_Mo_isCode_19 : decode prog_12_method_18_code 19 = .ok (.ifCond .lt 11, 3) := by decide +kernel
theorem d_Mo_isCode_22 : decode prog_12_method_18_code 22 = .ok (.lload_n 0, 1) := by decide +kernel
theorem d_Mo_isCode_23 : decode prog_12_method_18_code 23 = .ok (.ldc2_w 97, 3) := by decide +kernel
theorem d_Mo_isCode_26 : decode prog_12_method_18_code 26 = .ok (.lcmp, 1) := by decide +kernel
theorem d_Mo_isCode_27 : decode prog_12_method_18_code 27 = .ok (.ifCond .le 7, 3) := by decide +kernel
theorem d_Mo_isCode_30 : decode prog_12_method_18_code 30 = .ok (.iconst 1, 1) := by decide +kernel
theorem d_Mo_isCode_31 : decode prog_12_method_18_code 31 = .ok (.goto 4, 3) := by decide +kernel
theorem d_Mo_isCode_34 : decode prog_12_method_18_code 34 = .ok (.iconst 0, 1) := by decide +kernel
theorem d_Mo_isCode_35 : decode prog_12_method_18_code 35 = .ok (.ireturn, 1) := by decide +kernel
set_option maxHeartbeats 4000000 in
set_option maxRecDepth 100000 in
theorem c_Mo_isCode (l : Launch) (dC : Nat → ClassId) (dI : Nat → Nat → Nat) (x : Int64)  : zR_i l y_Mo_isCode w_Mo_isCode { frames := 0, cells := 0, slots := 0, locals := 0 } (dC, dI) vwCl [.long x] [] [] (fun r : Int32 => r = by_z (ut_ok x.toInt)) := by
  refine zz_enterR (cc := prog_12_method_18_code) (nL := 2) (ret := (some .boolean)) (by decide) rfl (Nat.le_of_ble_eq_true rfl) ?_
  intro p e s m below meth c ls C0 hP hK hl
  obtain ⟨hx, hb, hml, hown, hg, hr, hlocks, hin⟩ := C0
  have hS : va_S (fun _ => False) s.heap s.heap [] := va_S.rf
  have hown : s.vm.findClass "TextForgeModel" = some m.cls := hown
  have hP : va_P (dC, dI) vwCl [] s.heap := hP
  have hK : va_K (dC, dI) vwCl [] s := hK
  have hl : lv_has ls 2 [(0, .long x)] := hl
  refine lv_lload_n hx hb d_Mo_isCode_0 rfl (lv_at hl 0 rfl) ?_
  refine lv_lconst (v := 0) hx hb d_Mo_isCode_1 (by decide) ?_
  refine W.lcmp hx hb d_Mo_isCode_2 ?_
  refine lv_if_lt (tgt := 34) hx hb d_Mo_isCode_3 (by decide) (fun c_3 => ?_) (fun c_3 => ?_)
  · skip
    have i_3 := li_lt (k := 0) (by decide) c_3
    refine lv_iconst (v := 0) hx hb d_Mo_isCode_34 (by decide) ?_
    exact zz_zretR hx hb hr hlocks d_Mo_isCode_35 rfl (by rw [show ut_ok x.toInt = false from decide_eq_false (by omega)]; rfl)
  · skip
    have i_3 := li_nlt (k := 0) (by decide) c_3
    refine lv_lload_n hx hb d_Mo_isCode_6 rfl (lv_at hl 0 rfl) ?_
    refine W.ldc2 (v := 1114111) hx hb hown (hg _ kw_837) rfl d_Mo_isCode_7 ?_
    refine W.eq (g2 := F0 m 10 ls [.long 1114111, .long x]) rfl ?_
    refine W.lcmp hx hb d_Mo_isCode_10 ?_
    refine lv_if_gt (tgt := 34) hx hb d_Mo_isCode_11 (by decide) (fun c_11 => ?_) (fun c_11 => ?_)
    · skip
      have i_11 := li_gt (k := 1114111) (by decide) c_11
      refine lv_iconst (v := 0) hx hb d_Mo_isCode_34 (by decide) ?_
      exact zz_zretR hx hb hr hlocks d_Mo_isCode_35 rfl (by rw [show ut_ok x.toInt = false from decide_eq_false (by omega)]; rfl)
    · skip
      have i_11 := li_ngt (k := 1114111) (by decide) c_11
      refine lv_lload_n hx hb d_Mo_isCode_14 rfl (lv_at hl 0 rfl) ?_
      refine W.ldc2 (v := 55296) hx hb hown (hg _ kw_838) rfl d_Mo_isCode_15 ?_
      refine W.eq (g2 := F0 m 18 ls [.long 55296, .long x]) rfl ?_
      refine W.lcmp hx hb d_Mo_isCode_18 ?_
      refine lv_if_lt (tgt := 30) hx hb d_Mo_isCode_19 (by decide) (fun c_19 => ?_) (fun c_19 => ?_)
      · skip
        have i_19 := li_lt (k := 55296) (by decide) c_19
        refine lv_iconst (v := 1) hx hb d_Mo_isCode_30 (by decide) ?_
        refine lv_goto (tgt := 35) hx hb d_Mo_isCode_31 (by decide) ?_
        exact zz_zretR hx hb hr hlocks d_Mo_isCode_35 rfl (by rw [show ut_ok x.toInt = true from decide_eq_true (by omega)]; rfl)
      · skip
        have i_19 := li_nlt (k := 55296) (by decide) c_19
        refine lv_lload_n hx hb d_Mo_isCode_22 rfl (lv_at hl 0 rfl) ?_
        refine W.ldc2 (v := 57343) hx hb hown (hg _ kw_839) rfl d_Mo_isCode_23 ?_
        refine W.eq (g2 := F0 m 26 ls [.long 57343, .long x]) rfl ?_
        refine W.lcmp hx hb d_Mo_isCode_26 ?_
        refine lv_if_le (tgt := 34) hx hb d_Mo_isCode_27 (by decide) (fun c_27 => ?_) (fun c_27 => ?_)
        · skip
          have i_27 := li_le (k := 57343) (by decide) c_27
          refine lv_iconst (v := 0) hx hb d_Mo_isCode_34 (by decide) ?_
          exact zz_zretR hx hb hr hlocks d_Mo_isCode_35 rfl (by rw [show ut_ok x.toInt = false from decide_eq_false (by omega)]; rfl)
        · skip
          have i_27 := li_nle (k := 57343) (by decide) c_27
          refine lv_iconst (v := 1) hx hb d_Mo_isCode_30 (by decide) ?_
          refine lv_goto (tgt := 35) hx hb d_Mo_isCode_31 (by decide) ?_
          exact zz_zretR hx hb hr hlocks d_Mo_isCode_35 rfl (by rw [show ut_ok x.toInt = true from decide_eq_true (by omega)]; rfl)
