/-! PRINTER: an argument by a directive -/
theorem pa_nve {cap v k w : Nat} {x : Int64} {q : Bool} {L : List Nat} (h : v = 118) : by_ap cap L (pp_n k x) = by_ap cap L ((pa_n v k x w q).getD []) := by subst h; rfl
theorem pa_nv {cap v k w : Nat} {x : Int64} {q : Bool} {L : List Nat} {f : Nat → Int32} (h : v = 118) (hL : by_L (by_ap cap L (pp_n k x)) f) : 1 = by_z (pa_n v k x w q).isSome ∧ by_L (by_ap cap L ((pa_n v k x w q).getD [])) f := by subst h; exact ⟨rfl, hL⟩
theorem pa_nne {cap v k w : Nat} {x : Int64} {q : Bool} {L : List Nat} (h : v ≠ 118) : by_ap cap L ((pp_x v k x w q).getD []) = by_ap cap L ((pa_n v k x w q).getD []) := by unfold pa_n; rw [if_neg h]
theorem pa_nn {cap v k w : Nat} {x : Int64} {q : Bool} {L : List Nat} {f : Nat → Int32} {r : Int32} (h : v ≠ 118) (hr : r = by_z (pp_x v k x w q).isSome) (hL : by_L (by_ap cap L ((pp_x v k x w q).getD [])) f) : r = by_z (pa_n v k x w q).isSome ∧ by_L (by_ap cap L ((pa_n v k x w q).getD [])) f := by unfold pa_n; rw [if_neg h]; exact ⟨hr, hL⟩
theorem pa_1 {r : Int32} {b : Bool} (h : r = by_z b) (c : ¬ r = 0) : r = 1 := by rw [h, by_z_t h c]; rfl
theorem pa_tve {cap v : Nat} {L B : List Nat} (h : v = 118) : by_ap cap L B = by_ap cap L ((pa_t v B).getD []) := by subst h; rfl
theorem pa_tv {cap v : Nat} {L B : List Nat} {f : Nat → Int32} (h : v = 118) (hL : by_L (by_ap cap L B) f) : 1 = by_z (pa_t v B).isSome ∧ by_L (by_ap cap L ((pa_t v B).getD [])) f := by subst h; exact ⟨rfl, hL⟩
theorem pa_tne {cap v : Nat} {L B : List Nat} (h : v ≠ 118) : by_ap cap L ((px_t v B).getD []) = by_ap cap L ((pa_t v B).getD []) := by unfold pa_t; rw [if_neg h]
theorem pa_tn {cap v : Nat} {L B : List Nat} {f : Nat → Int32} {r : Int32} (h : v ≠ 118) (hr : r = by_z (px_t v B).isSome) (hL : by_L (by_ap cap L ((px_t v B).getD [])) f) : r = by_z (pa_t v B).isSome ∧ by_L (by_ap cap L ((pa_t v B).getD [])) f := by unfold pa_t; rw [if_neg h]; exact ⟨hr, hL⟩
theorem pa_wve {cap v k : Nat} {x : Int64} {L : List Nat} (h : v = 118 ∨ (v = 116 ∧ k = 2)) : by_ap cap L (kxB (ar_w k x)) = by_ap cap L ((pa_w v k x).getD []) := by unfold pa_w; rw [if_pos h]; rfl
theorem pa_wv {cap v k : Nat} {x : Int64} {L : List Nat} {f : Nat → Int32} (h : v = 118 ∨ (v = 116 ∧ k = 2)) (hL : by_L (by_ap cap L (kxB (ar_w k x))) f) : 1 = by_z (pa_w v k x).isSome ∧ by_L (by_ap cap L ((pa_w v k x).getD [])) f := by unfold pa_w; rw [if_pos h]; exact ⟨rfl, hL⟩
theorem pa_w0 {v k : Nat} {x : Int64} (h : v ≠ 118) (h2 : v ≠ 116 ∨ ¬ k = 2) : pa_w v k x = none := by
  unfold pa_w; rw [if_neg (fun z => z.elim h (fun q => h2.elim (fun a => a q.1) (fun a => a q.2)))]
theorem pa_w0e {cap v k : Nat} {x : Int64} {L : List Nat} (hc : L.length ≤ cap) (h : v ≠ 118) (h2 : v ≠ 116 ∨ ¬ k = 2) : nI L.length = nI (by_ap cap L ((pa_w v k x).getD [])).length := by
  rw [pa_w0 h h2]; show _ = nI (by_ap cap L []).length; rw [by_ap_nil hc]
theorem pa_kl {k : Nat} {x : Int64} (h : (k = 2 ∧ (x = 0 ∨ x = 1)) ∨ (k = 4 ∧ ∃ j, j < 10 ∧ x = (nI j - 1).toInt64)) : k < 2 ^ 31 := by rcases h with ⟨rfl, _⟩ | ⟨rfl, _⟩ <;> decide
abbrev y_Pr_putArgument : MethodName := ⟨"TextForge$Printer", "putArgument", "(LTextForge$Directive;LTextForge$Argument;LTextForge$Bytes;)Z"⟩
abbrev w_Pr_putArgument : List Cond := Cond.code y_Pr_putArgument prog_8_method_4_code 6 (some .boolean) :: gw
theorem d_Pr_putArgument_0 : decode prog_8_method_4_code 0 = .ok (.aload_n 2, 1) := by decide +kernel
theorem d_Pr_putArgument_1 : decode prog_8_method_4_code 1 = .ok (.ifnonnull 5, 3) := by decide +kernel
theorem d_Pr_putArgument_4 : decode prog_8_method_4_code 4 = .ok (.iconst 0, 1) := by decide +kernel
theorem d_Pr_putArgument_5 : decode prog_8_method_4_code 5 = .ok (.ireturn, 1) := by decide +kernel
theorem d_Pr_putArgument_6 : decode prog_8_method_4_code 6 = .ok (.aload_n 1, 1) := by decide +kernel
theorem d_Pr_putArgument_7 : decode prog_8_method_4_code 7 = .ok (.invokevirtual 59, 3) := by decide +kernel
theorem d_Pr_putArgument_10 : decode prog_8_method_4_code 10 = .ok (.istore 4, 2) := by decide +kernel
theorem d_Pr_putArgument_12 : decode prog_8_method_4_code 12 = .ok (.iload 4, 2) := by decide +kernel
theorem d_Pr_putArgument_14 : decode prog_8_method_4_code 14 = .ok (.bipush 118, 2) := by decide +kernel
theorem d_Pr_putArgument_16 : decode prog_8_method_4_code 16 = .ok (.if_icmp .eq 17, 3) := by decide +kernel
theorem d_Pr_putArgument_19 : decode prog_8_method_4_code 19 = .ok (.iload 4, 2) := by decide +kernel
theorem d_Pr_putArgument_21 : decode prog_8_method_4_code 21 = .ok (.bipush 116, 2) := by decide +kernel
theorem d_Pr_putArgument_23 : decode prog_8_method_4_code 23 = .ok (.if_icmp .ne 18, 3) := by decide +kernel
theorem d_Pr_putArgument_26 : decode prog_8_method_4_code 26 = .ok (.aload_n 2, 1) := by decide +kernel
theorem d_Pr_putArgument_27 : decode prog_8_method_4_code 27 = .ok (.invokevirtual 90, 3) := by decide +kernel
theorem d_Pr_putArgument_30 : decode prog_8_method_4_code 30 = .ok (.ifCond .eq 11, 3) := by decide +kernel
theorem d_Pr_putArgument_33 : decode prog_8_method_4_code 33 = .ok (.aload_n 0, 1) := by decide +kernel
theorem d_Pr_putArgument_34 : decode prog_8_method_4_code 34 = .ok (.aload_n 2, 1) := by decide +kernel
theorem d_Pr_putArgument_35 : decode prog_8_method_4_code 35 = .ok (.aload_n 3, 1) := by decide +kernel
theorem d_Pr_putArgument_36 : decode prog_8_method_4_code 36 = .ok (.invokevirtual 93, 3) := by decide +kernel
theorem d_Pr_putArgument_39 : decode prog_8_method_4_code 39 = .ok (.iconst 1, 1) := by decide +kernel
theorem d_Pr_putArgument_40 : decode prog_8_method_4_code 40 = .ok (.ireturn, 1) := by decide +kernel
theorem d_Pr_putArgument_41 : decode prog_8_method_4_code 41 = .ok (.aload_n 2, 1) := by decide +kernel
theorem d_Pr_putArgument_42 : decode prog_8_method_4_code 42 = .ok (.invokevirtual 16, 3) := by decide +kernel
theorem d_Pr_putArgument_45 : decode prog_8_method_4_code 45 = .ok (.astore 5, 2) := by decide +kernel
theorem d_Pr_putArgument_47 : decode prog_8_method_4_code 47 = .ok (.aload 5, 2) := by decide +kernel
theorem d_Pr_putArgument_49 : decode prog_8_method_4_code 49 = .ok (.ifnull 12, 3) := by decide +kernel
theorem d_Pr_putArgument_52 : decode prog_8_method_4_code 52 = .ok (.iload 4, 2) := by decide +kernel
theorem d_Pr_putArgument_54 : decode prog_8_method_4_code 54 = .ok (.aload 5, 2) := by decide +kernel
theorem d_Pr_putArgument_56 : decode prog_8_method_4_code 56 = .ok (.aload_n 3, 1) := by decide +kernel
theorem d_Pr_putArgument_57 : decode prog_8_method_4_code 57 = .ok (.invokestatic 97, 3) := by decide +kernel
theorem d_Pr_putArgument_60 : decode prog_8_method_4_code 60 = .ok (.ireturn, 1) := by decide +kernel
theorem d_Pr_putArgument_61 : decode prog_8_method_4_code 61 = .ok (.aload_n 2, 1) := by decide +kernel
theorem d_Pr_putArgument_62 : decode prog_8_method_4_code 62 = .ok (.invokevirtual 32, 3) := by decide +kernel
theorem d_Pr_putArgument_65 : decode prog_8_method_4_code 65 = .ok (.ifCond .eq 17, 3) := by decide +kernel
theorem d_Pr_putArgument_68 : decode prog_8_method_4_code 68 = .ok (.aload_n 0, 1) := by decide +kernel
theorem d_Pr_putArgument_69 : decode prog_8_method_4_code 69 = .ok (.aload_n 1, 1) := by decide +kernel
theorem d_Pr_putArgument_70 : decode prog_8_method_4_code 70 = .ok (.aload_n 2, 1) := by decide +kernel
theorem d_Pr_putArgument_71 : decode prog_8_method_4_code 71 = .ok (.aload_n 3, 1) := by decide +kernel
theorem d_Pr_putArgument_72 : decode prog_8_method_4_code 72 = .ok (.invokevirtual 101, 3) := by decide +kernel
theorem d_Pr_putArgument_75 : decode prog_8_method_4_code 75 = .ok (.ifCond .eq 7, 3) := by decide +kernel
theorem d_Pr_putArgument_78 : decode prog_8_method_4_code 78 = .ok (.iconst 1, 1) := by decide +kernel
theorem d_Pr_putArgument_79 : decode prog_8_method_4_code 79 = .ok (.goto 4, 3) := by decide +kernel
theorem d_Pr_putArgument_82 : decode prog_8_method_4_code 82 = .ok (.iconst 0, 1) := by decide +kernel
theorem d_Pr_putArgument_83 : decode prog_8_method_4_code 83 = .ok (.ireturn, 1) := by decide +kernel
set_option maxHeartbeats 4000000 in
set_option maxRecDepth 100000 in
theorem c_Pr_arg0 (l : Launch) (dC : Nat → ClassId) (dI : Nat → Nat → Nat) (ad : Nat → Nat) (hp hn rn : Nat) (cN : ClassId) (fN : Nat → Int32) (kN : Int32) (hd : Nat) (dq : Int32) (bm bp bz : Bool) (wd v : Nat) (h r : Nat) (cA : ClassId) (cap : Nat) (f : Nat → Int32) (L : List Nat)  : yM_i (S := (Nat → Int32) × Int32 × (Nat → Int32)) ad l y_Pr_putArgument w_Pr_putArgument { frames := 0, cells := 0, slots := 0, locals := 0 } (dC, dI) vwCl [.ref hp, .ref hd, .null, .ref h] [(hp, .inr (6, [.ref hn])), (hn, .inr (5, [.ref rn, .int kN])), (rn, .inl (cN, 64, .inl fN)), (hd, .inr (4, [.int dq, .int (by_z bm), .int (by_z bp), .int (by_z bz), .int (nI wd), .int (nI v)])), (h, .inr (2, [.ref r, .int (nI L.length)])), (r, .inl (cA, cap, .inl f))] [(cN, .byte), (cA, .byte)] (fun (r : Int32) (u : (Nat → Int32) × Int32 × (Nat → Int32)) => match u with | (f1, k1, f3) => r = 0 ∧ (f1, k1, f3) = (fN, kN, f)) (fun u => match u with | (f1, k1, f3) => [(hp, .inr (6, [.ref hn])), (hn, .inr (5, [.ref rn, .int k1])), (rn, .inl (cN, 64, .inl f1)), (hd, .inr (4, [.int dq, .int (by_z bm), .int (by_z bp), .int (by_z bz), .int (nI wd), .int (nI v)])), (h, .inr (2, [.ref r, .int (nI L.length)])), (r, .inl (cA, cap, .inl f3))]) (fun u => match u with | (f1, k1, f3) => [(cN, .byte), (cA, .byte)]) 0 0 := by
  refine zy_enteri (cc := prog_8_method_4_code) (nL := 6) (ret := (some .boolean)) (by decide) rfl (Nat.le_of_ble_eq_true rfl) ?_
  intro p e s m below meth c A ls C0 hA hS hP hK hD hl hX
  obtain ⟨hx, hb, hml, hown, hg, hr, hlocks, hin⟩ := C0
  have hown : s.vm.findClass "TextForge$Printer" = some m.cls := hown
  have hP : va_P (dC, dI) vwCl [(hp, .inr (6, [.ref hn])), (hn, .inr (5, [.ref rn, .int kN])), (rn, .inl (cN, 64, .inl fN)), (hd, .inr (4, [.int dq, .int (by_z bm), .int (by_z bp), .int (by_z bz), .int (nI wd), .int (nI v)])), (h, .inr (2, [.ref r, .int (nI L.length)])), (r, .inl (cA, cap, .inl f))] s.heap := hP
  have hK : va_K (dC, dI) vwCl [(cN, .byte), (cA, .byte)] s := hK
  have hD : va_D A [(hp, .inr (6, [.ref hn])), (hn, .inr (5, [.ref rn, .int kN])), (rn, .inl (cN, 64, .inl fN)), (hd, .inr (4, [.int dq, .int (by_z bm), .int (by_z bp), .int (by_z bz), .int (nI wd), .int (nI v)])), (h, .inr (2, [.ref r, .int (nI L.length)])), (r, .inl (cA, cap, .inl f))] := hD
  have hl : lv_has ls 6 [(0, .ref hp), (1, .ref hd), (2, .null), (3, .ref h)] := hl
  refine lv_aload_nN hx hb d_Pr_putArgument_0 rfl (lv_at hl 2 rfl) ?_
  refine lv_ifnonnullN hx hb d_Pr_putArgument_1 ?_
  refine lv_iconst (v := 0) hx hb d_Pr_putArgument_4 (by decide) ?_
  have hP9 := hP.sub (ws' := [(hp, .inr (6, [.ref hn])), (hn, .inr (5, [.ref rn, .int kN])), (rn, .inl (cN, 64, .inl fN)), (hd, .inr (4, [.int dq, .int (by_z bm), .int (by_z bp), .int (by_z bz), .int (nI wd), .int (nI v)])), (h, .inr (2, [.ref r, .int (nI L.length)])), (r, .inl (cA, cap, .inl f))]) [0, 1, 2, 3, 4, 5] rfl
  have hD9 := hD.sub (ws' := [(hp, .inr (6, [.ref hn])), (hn, .inr (5, [.ref rn, .int kN])), (rn, .inl (cN, 64, .inl fN)), (hd, .inr (4, [.int dq, .int (by_z bm), .int (by_z bp), .int (by_z bz), .int (nI wd), .int (nI v)])), (h, .inr (2, [.ref r, .int (nI L.length)])), (r, .inl (cA, cap, .inl f))]) [0, 1, 2, 3, 4, 5] (by decide) rfl
  have hK9 := hK.sub (tys' := [(cN, .byte), (cA, .byte)]) [0, 1] rfl
  exact zz_zret hx hb hr hlocks d_Pr_putArgument_5 (by decide) hS (by first | exact Nat.le_refl _ | decide | omega | (dsimp only; omega)) (by first | exact Nat.le_refl _ | decide | omega | (dsimp only; omega)) (fN, kN, f) ⟨rfl, rfl⟩ hP9 hK9 hD9
set_option maxHeartbeats 4000000 in
set_option maxRecDepth 100000 in
theorem c_Pr_argN (l : Launch) (dC : Nat → ClassId) (dI : Nat → Nat → Nat) (ad : Nat → Nat) (hp hn rn : Nat) (cN : ClassId) (fN : Nat → Int32) (kN : Int32) (hd : Nat) (dq : Int32) (bm bp bz : Bool) (wd v : Nat) (ha : Nat) (kk : Nat) (xv : Int64) (h r : Nat) (cA : ClassId) (cap : Nat) (f : Nat → Int32) (L : List Nat) (hv : v < 256) (hwd0 : wd < 1000) (hkk : kk = 0 ∨ kk = 1) (hL : by_L L f) (hc : L.length ≤ cap) (hk : cap < 2147483648) : yM_i (S := (Nat → Int32) × Int32 × (Nat → Int32)) ad l y_Pr_putArgument w_Pr_putArgument { frames := 7, cells := 0, slots := 0, locals := 153 } (dC, dI) vwCl [.ref hp, .ref hd, .ref ha, .ref h] [(hp, .inr (6, [.ref hn])), (hn, .inr (5, [.ref rn, .int kN])), (rn, .inl (cN, 64, .inl fN)), (hd, .inr (4, [.int dq, .int (by_z bm), .int (by_z bp), .int (by_z bz), .int (nI wd), .int (nI v)])), (ha, .inr (0, [.int (nI kk), .long xv, .null])), (h, .inr (2, [.ref r, .int (nI L.length)])), (r, .inl (cA, cap, .inl f))] [(cN, .byte), (cA, .byte)] (fun (r : Int32) (u : (Nat → Int32) × Int32 × (Nat → Int32)) => match u with | (f1, k1, f3) => r = by_z (pa_n v kk xv (pp_w bz bm wd) bp).isSome ∧ by_L (by_ap cap L ((pa_n v kk xv (pp_w bz bm wd) bp).getD [])) f3) (fun u => match u with | (f1, k1, f3) => [(hp, .inr (6, [.ref hn])), (hn, .inr (5, [.ref rn, .int k1])), (rn, .inl (cN, 64, .inl f1)), (hd, .inr (4, [.int dq, .int (by_z bm), .int (by_z bp), .int (by_z bz), .int (nI wd), .int (nI v)])), (ha, .inr (0, [.int (nI kk), .long xv, .null])), (h, .inr (2, [.ref r, .int (nI (by_ap cap L ((pa_n v kk xv (pp_w bz bm wd) bp).getD [])).length)])), (r, .inl (cA, cap, .inl f3))]) (fun u => match u with | (f1, k1, f3) => [(cN, .byte), (cA, .byte)]) 0 0 := by
  refine zy_enteri (cc := prog_8_method_4_code) (nL := 6) (ret := (some .boolean)) (by decide) rfl (Nat.le_of_ble_eq_true rfl) ?_
  intro p e s m below meth c A ls C0 hA hS hP hK hD hl hX
  obtain ⟨hx, hb, hml, hown, hg, hr, hlocks, hin⟩ := C0
  have hown : s.vm.findClass "TextForge$Printer" = some m.cls := hown
  have hP : va_P (dC, dI) vwCl [(hp, .inr (6, [.ref hn])), (hn, .inr (5, [.ref rn, .int kN])), (rn, .inl (cN, 64, .inl fN)), (hd, .inr (4, [.int dq, .int (by_z bm), .int (by_z bp), .int (by_z bz), .int (nI wd), .int (nI v)])), (ha, .inr (0, [.int (nI kk), .long xv, .null])), (h, .inr (2, [.ref r, .int (nI L.length)])), (r, .inl (cA, cap, .inl f))] s.heap := hP
  have hK : va_K (dC, dI) vwCl [(cN, .byte), (cA, .byte)] s := hK
  have hD : va_D A [(hp, .inr (6, [.ref hn])), (hn, .inr (5, [.ref rn, .int kN])), (rn, .inl (cN, 64, .inl fN)), (hd, .inr (4, [.int dq, .int (by_z bm), .int (by_z bp), .int (by_z bz), .int (nI wd), .int (nI v)])), (ha, .inr (0, [.int (nI kk), .long xv, .null])), (h, .inr (2, [.ref r, .int (nI L.length)])), (r, .inl (cA, cap, .inl f))] := hD
  have hl : lv_has ls 6 [(0, .ref hp), (1, .ref hd), (2, .ref ha), (3, .ref h)] := hl
  refine lv_aload_n hx hb d_Pr_putArgument_0 rfl (lv_at hl 2 rfl) ?_
  refine lv_ifnonnull (tgt := 6) hx hb d_Pr_putArgument_1 (by decide) ?_
  refine lv_aload_n hx hb d_Pr_putArgument_6 rfl (lv_at hl 1 rfl) ?_
  have hPc := hP.sub (ws' := [(hd, .inr (4, [.int dq, .int (by_z bm), .int (by_z bp), .int (by_z bz), .int (nI wd), .int (nI v)]))]) [3] rfl
  have hKc := hK.sub (tys' := []) [] rfl
  refine vp_callSi (W.runV (As := []) (rest := []) ⟨hx, hb, hml, hown, hg⟩ (c_Di_letter l dC dI hd dq (by_z bm) (by_z bp) (by_z bz) (nI wd) (nI v) ) (cwV 0 hg (gi_V kw_209 kw_210 kw_211 kw_5 kw_212) rfl rfl rfl (by decide +kernel) ⟨Nat.le_of_ble_eq_true rfl, Nat.le_of_ble_eq_true rfl⟩) (zz_prJV hPc hKc _ (q0 := 0) (ci := 4) rfl rfl) rfl rfl hl.1 rfl (lv_room (Nat.le_of_ble_eq_true rfl)) d_Pr_putArgument_7 ⟨Nat.le_of_ble_eq_true rfl, Nat.le_of_ble_eq_true rfl⟩) (fun r_1 hr_1 => ?_)
  subst hr_1
  refine lv_istore (lv' := [(4, .int (nI v)), (0, .ref hp), (1, .ref hd), (2, .ref ha), (3, .ref h)]) hx hb d_Pr_putArgument_10 hl (by decide) rfl (fun ls hl => ?_)
  refine lv_iload hx hb d_Pr_putArgument_12 (lv_at hl 0 rfl) ?_
  refine lv_bipush (v := 118) hx hb d_Pr_putArgument_14 (by decide) ?_
  refine lv_icmp_eq (tgt := 33) hx hb d_Pr_putArgument_16 (by decide) (fun c_16 => ?_) (fun c_16 => ?_)
  · skip
    have f_16 : v = 118 := nI_e1 (b := 118) c_16 (by omega) (by omega)
    refine lv_aload_n hx hb d_Pr_putArgument_33 rfl (lv_at hl 1 rfl) ?_
    refine lv_aload_n hx hb d_Pr_putArgument_34 rfl (lv_at hl 3 rfl) ?_
    refine lv_aload_n hx hb d_Pr_putArgument_35 rfl (lv_at hl 4 rfl) ?_
    have hPc := hP.sub (ws' := [(hp, .inr (6, [.ref hn])), (hn, .inr (5, [.ref rn, .int kN])), (rn, .inl (cN, 64, .inl fN)), (ha, .inr (0, [.int (nI kk), .long xv, .null])), (h, .inr (2, [.ref r, .int (nI L.length)])), (r, .inl (cA, cap, .inl f))]) [0, 1, 2, 4, 5, 6] rfl
    have hKc := hK.sub (tys' := [(cN, .byte), (cA, .byte)]) [0, 1] rfl
    have hDc := hD.sub (ws' := [(hp, .inr (6, [.ref hn])), (hn, .inr (5, [.ref rn, .int kN])), (rn, .inl (cN, 64, .inl fN)), (ha, .inr (0, [.int (nI kk), .long xv, .null])), (h, .inr (2, [.ref r, .int (nI L.length)])), (r, .inl (cA, cap, .inl f))]) [0, 1, 2, 4, 5, 6] (by decide) rfl
    have hFc := va_free (wc := [(hp, .inr (6, [.ref hn])), (hn, .inr (5, [.ref rn, .int kN])), (rn, .inl (cN, 64, .inl fN)), (ha, .inr (0, [.int (nI kk), .long xv, .null])), (h, .inr (2, [.ref r, .int (nI L.length)])), (r, .inl (cA, cap, .inl f))]) hD hS hA [0, 1, 2, 4, 5, 6] rfl
    refine zz_callv (va_runV (As := [.ref ha, .ref h]) (rest := []) ⟨hx, hb, hml, hown, hg⟩ (c_Pr_plainN l dC dI ad hp hn rn cN fN kN ha kk xv h r cA cap f L hkk hL hc hk s.heap.size) (cwV 2 hg (gi_V kw_231 kw_232 kw_233 kw_6 kw_234) rfl rfl rfl (by decide +kernel) ⟨Nat.le_of_ble_eq_true rfl, Nat.le_of_ble_eq_true rfl⟩) (zy_preV hX hS hFc hPc hKc hDc _ (q0 := 0) (ci := 6) rfl rfl) rfl rfl hl.1 rfl (lv_room (Nat.le_of_ble_eq_true rfl)) d_Pr_putArgument_36 ⟨Nat.le_of_ble_eq_true rfl, Nat.le_of_ble_eq_true rfl⟩) hS hFc (fun u H1 k9 p9 d9 => va_join (wr := [(hd, .inr (4, [.int dq, .int (by_z bm), .int (by_z bp), .int (by_z bz), .int (nI wd), .int (nI v)]))]) hP hD [0, 1, 2, 4, 5, 6] [3] rfl rfl (by decide) (by decide) k9 hFc p9 d9) (fun u H locs hw hP hD hK1 hS => ?_)
    obtain ⟨f1, k1, f3⟩ := u
    try dsimp only at hw
    have hP : va_P (dC, dI) vwCl [(hd, .inr (4, [.int dq, .int (by_z bm), .int (by_z bp), .int (by_z bz), .int (nI wd), .int (nI v)])), (hp, .inr (6, [.ref hn])), (hn, .inr (5, [.ref rn, .int k1])), (rn, .inl (cN, 64, .inl f1)), (ha, .inr (0, [.int (nI kk), .long xv, .null])), (h, .inr (2, [.ref r, .int (nI (by_ap cap L (pp_n kk xv)).length)])), (r, .inl (cA, cap, .inl f3))] H := hP
    have hD : va_D A [(hd, .inr (4, [.int dq, .int (by_z bm), .int (by_z bp), .int (by_z bz), .int (nI wd), .int (nI v)])), (hp, .inr (6, [.ref hn])), (hn, .inr (5, [.ref rn, .int k1])), (rn, .inl (cN, 64, .inl f1)), (ha, .inr (0, [.int (nI kk), .long xv, .null])), (h, .inr (2, [.ref r, .int (nI (by_ap cap L (pp_n kk xv)).length)])), (r, .inl (cA, cap, .inl f3))] := hD
    have hLp := hw
    refine lv_iconst (v := 1) hx hb d_Pr_putArgument_39 (by decide) ?_
    have hP9 := hP.sub (ws' := [(hp, .inr (6, [.ref hn])), (hn, .inr (5, [.ref rn, .int k1])), (rn, .inl (cN, 64, .inl f1)), (hd, .inr (4, [.int dq, .int (by_z bm), .int (by_z bp), .int (by_z bz), .int (nI wd), .int (nI v)])), (ha, .inr (0, [.int (nI kk), .long xv, .null])), (h, .inr (2, [.ref r, .int (nI (by_ap cap L (pp_n kk xv)).length)])), (r, .inl (cA, cap, .inl f3))]) [1, 2, 3, 0, 4, 5, 6] rfl
    have hD9 := hD.sub (ws' := [(hp, .inr (6, [.ref hn])), (hn, .inr (5, [.ref rn, .int k1])), (rn, .inl (cN, 64, .inl f1)), (hd, .inr (4, [.int dq, .int (by_z bm), .int (by_z bp), .int (by_z bz), .int (nI wd), .int (nI v)])), (ha, .inr (0, [.int (nI kk), .long xv, .null])), (h, .inr (2, [.ref r, .int (nI (by_ap cap L (pp_n kk xv)).length)])), (r, .inl (cA, cap, .inl f3))]) [1, 2, 3, 0, 4, 5, 6] (by decide) rfl
    have hK9 := hK.sub (tys' := [(cN, .byte), (cA, .byte)]) [0, 1] rfl
    rw [pa_nve f_16] at hP9 hD9
    exact zz_zret hx hb hr hlocks d_Pr_putArgument_40 (by decide) hS (by first | exact Nat.le_refl _ | decide | omega | (dsimp only; omega)) (by first | exact Nat.le_refl _ | decide | omega | (dsimp only; omega)) (f1, k1, f3) (pa_nv f_16 hLp) hP9 hK9 hD9
  · skip
    have f_16 : v ≠ 118 := nI_ne (b := 118) c_16
    refine lv_iload hx hb d_Pr_putArgument_19 (lv_at hl 0 rfl) ?_
    refine lv_bipush (v := 116) hx hb d_Pr_putArgument_21 (by decide) ?_
    refine lv_icmp_ne (tgt := 41) hx hb d_Pr_putArgument_23 (by decide) (fun c_23 => ?_) (fun c_23 => ?_)
    · skip
      have f_23 : v ≠ 116 := nI_ne (b := 116) c_23
      refine lv_aload_n hx hb d_Pr_putArgument_41 rfl (lv_at hl 3 rfl) ?_
      have hPc := hP.sub (ws' := [(ha, .inr (0, [.int (nI kk), .long xv, .null]))]) [4] rfl
      have hKc := hK.sub (tys' := []) [] rfl
      refine va_csq (W.runV (As := []) (rest := []) ⟨hx, hb, hml, hown, hg⟩ (c_Ar_content0 l dC dI ha (nI kk) xv ) (cwV 0 hg (gi_V kw_235 kw_236 kw_237 kw_14 kw_238) rfl rfl rfl (by decide +kernel) ⟨Nat.le_of_ble_eq_true rfl, Nat.le_of_ble_eq_true rfl⟩) (zz_prJV hPc hKc _ (q0 := 0) (ci := 0) rfl rfl) rfl rfl hl.1 rfl (lv_room (Nat.le_of_ble_eq_true rfl)) d_Pr_putArgument_42 ⟨Nat.le_of_ble_eq_true rfl, Nat.le_of_ble_eq_true rfl⟩) (fun r_3 hr_3 => ?_)
      subst hr_3
      refine W.eq (g2 := F0 m 45 ls [.null]) rfl ?_
      refine lv_astoreN (lv' := [(5, .null), (4, .int (nI v)), (0, .ref hp), (1, .ref hd), (2, .ref ha), (3, .ref h)]) hx hb d_Pr_putArgument_45 hl (by decide) rfl (fun ls hl => ?_)
      refine lv_aloadN hx hb d_Pr_putArgument_47 (lv_at hl 0 rfl) ?_
      refine lv_ifnullN (tgt := 61) hx hb d_Pr_putArgument_49 (by decide) ?_
      refine lv_aload_n hx hb d_Pr_putArgument_61 rfl (lv_at hl 4 rfl) ?_
      have hPc := hP.sub (ws' := [(ha, .inr (0, [.int (nI kk), .long xv, .null]))]) [4] rfl
      have hKc := hK.sub (tys' := []) [] rfl
      refine vp_callSi (W.runV (As := []) (rest := []) ⟨hx, hb, hml, hown, hg⟩ (c_Ar_isNumber l dC dI ha (nI kk) xv .null ) (cwV 0 hg (gi_V kw_244 kw_245 kw_246 kw_14 kw_247) rfl rfl rfl (by decide +kernel) ⟨Nat.le_of_ble_eq_true rfl, Nat.le_of_ble_eq_true rfl⟩) (zz_prJV hPc hKc _ (q0 := 0) (ci := 0) rfl rfl) rfl rfl hl.1 rfl (lv_room (Nat.le_of_ble_eq_true rfl)) d_Pr_putArgument_62 ⟨Nat.le_of_ble_eq_true rfl, Nat.le_of_ble_eq_true rfl⟩) (fun r_4 hr_4 => ?_)
      rw [pp_i1 hkk] at hr_4
      subst hr_4
      refine lv_if_eq (tgt := 82) hx hb d_Pr_putArgument_65 (by decide) (fun c9 => by first | exact absurd c9 (by decide) | exact absurd (by decide) c9) (fun _ => ?_)
      refine lv_aload_n hx hb d_Pr_putArgument_68 rfl (lv_at hl 2 rfl) ?_
      refine lv_aload_n hx hb d_Pr_putArgument_69 rfl (lv_at hl 3 rfl) ?_
      refine lv_aload_n hx hb d_Pr_putArgument_70 rfl (lv_at hl 4 rfl) ?_
      refine lv_aload_n hx hb d_Pr_putArgument_71 rfl (lv_at hl 5 rfl) ?_
      have hPc := hP.sub (ws' := [(hp, .inr (6, [.ref hn])), (hn, .inr (5, [.ref rn, .int kN])), (rn, .inl (cN, 64, .inl fN)), (hd, .inr (4, [.int dq, .int (by_z bm), .int (by_z bp), .int (by_z bz), .int (nI wd), .int (nI v)])), (ha, .inr (0, [.int (nI kk), .long xv, .null])), (h, .inr (2, [.ref r, .int (nI L.length)])), (r, .inl (cA, cap, .inl f))]) [0, 1, 2, 3, 4, 5, 6] rfl
      have hKc := hK.sub (tys' := [(cN, .byte), (cA, .byte)]) [0, 1] rfl
      have hDc := hD.sub (ws' := [(hp, .inr (6, [.ref hn])), (hn, .inr (5, [.ref rn, .int kN])), (rn, .inl (cN, 64, .inl fN)), (hd, .inr (4, [.int dq, .int (by_z bm), .int (by_z bp), .int (by_z bz), .int (nI wd), .int (nI v)])), (ha, .inr (0, [.int (nI kk), .long xv, .null])), (h, .inr (2, [.ref r, .int (nI L.length)])), (r, .inl (cA, cap, .inl f))]) [0, 1, 2, 3, 4, 5, 6] (by decide) rfl
      have hFc := va_free (wc := [(hp, .inr (6, [.ref hn])), (hn, .inr (5, [.ref rn, .int kN])), (rn, .inl (cN, 64, .inl fN)), (hd, .inr (4, [.int dq, .int (by_z bm), .int (by_z bp), .int (by_z bz), .int (nI wd), .int (nI v)])), (ha, .inr (0, [.int (nI kk), .long xv, .null])), (h, .inr (2, [.ref r, .int (nI L.length)])), (r, .inl (cA, cap, .inl f))]) hD hS hA [0, 1, 2, 3, 4, 5, 6] rfl
      refine zz_calli (va_runV (As := [.ref hd, .ref ha, .ref h]) (rest := []) ⟨hx, hb, hml, hown, hg⟩ (c_Pr_putNumber l dC dI ad hp hn rn cN fN kN hd dq bm bp bz wd v ha kk xv h r cA cap f L hv hwd0 hkk hL hc hk s.heap.size) (cwV 3 hg (gi_V kw_394 kw_396 sw_2 kw_6 kw_397) rfl rfl rfl (by decide +kernel) ⟨Nat.le_of_ble_eq_true rfl, Nat.le_of_ble_eq_true rfl⟩) (zy_preV hX hS hFc hPc hKc hDc _ (q0 := 0) (ci := 6) rfl rfl) rfl rfl hl.1 rfl (lv_room (Nat.le_of_ble_eq_true rfl)) d_Pr_putArgument_72 ⟨Nat.le_of_ble_eq_true rfl, Nat.le_of_ble_eq_true rfl⟩) hS hFc (fun u H1 k9 p9 d9 => va_join (wr := []) hP hD [0, 1, 2, 3, 4, 5, 6] [] rfl rfl (by decide) (by decide) k9 hFc p9 d9) (fun r_5 u H locs hw hP hD hK1 hS => ?_)
      obtain ⟨f1, k1, f3⟩ := u
      try dsimp only at hw
      have hP : va_P (dC, dI) vwCl [(hp, .inr (6, [.ref hn])), (hn, .inr (5, [.ref rn, .int k1])), (rn, .inl (cN, 64, .inl f1)), (hd, .inr (4, [.int dq, .int (by_z bm), .int (by_z bp), .int (by_z bz), .int (nI wd), .int (nI v)])), (ha, .inr (0, [.int (nI kk), .long xv, .null])), (h, .inr (2, [.ref r, .int (nI (by_ap cap L ((pp_x v kk xv (pp_w bz bm wd) bp).getD [])).length)])), (r, .inl (cA, cap, .inl f3))] H := hP
      have hD : va_D A [(hp, .inr (6, [.ref hn])), (hn, .inr (5, [.ref rn, .int k1])), (rn, .inl (cN, 64, .inl f1)), (hd, .inr (4, [.int dq, .int (by_z bm), .int (by_z bp), .int (by_z bz), .int (nI wd), .int (nI v)])), (ha, .inr (0, [.int (nI kk), .long xv, .null])), (h, .inr (2, [.ref r, .int (nI (by_ap cap L ((pp_x v kk xv (pp_w bz bm wd) bp).getD [])).length)])), (r, .inl (cA, cap, .inl f3))] := hD
      obtain ⟨hrn, hLp⟩ := hw
      refine lv_if_eq (tgt := 82) hx hb d_Pr_putArgument_75 (by decide) (fun c_75 => ?_) (fun c_75 => ?_)
      · skip
        have hzz : r_5 = 0 := c_75
        refine lv_iconst (v := 0) hx hb d_Pr_putArgument_82 (by decide) ?_
        have hP9 := hP.sub (ws' := [(hp, .inr (6, [.ref hn])), (hn, .inr (5, [.ref rn, .int k1])), (rn, .inl (cN, 64, .inl f1)), (hd, .inr (4, [.int dq, .int (by_z bm), .int (by_z bp), .int (by_z bz), .int (nI wd), .int (nI v)])), (ha, .inr (0, [.int (nI kk), .long xv, .null])), (h, .inr (2, [.ref r, .int (nI (by_ap cap L ((pp_x v kk xv (pp_w bz bm wd) bp).getD [])).length)])), (r, .inl (cA, cap, .inl f3))]) [0, 1, 2, 3, 4, 5, 6] rfl
        have hD9 := hD.sub (ws' := [(hp, .inr (6, [.ref hn])), (hn, .inr (5, [.ref rn, .int k1])), (rn, .inl (cN, 64, .inl f1)), (hd, .inr (4, [.int dq, .int (by_z bm), .int (by_z bp), .int (by_z bz), .int (nI wd), .int (nI v)])), (ha, .inr (0, [.int (nI kk), .long xv, .null])), (h, .inr (2, [.ref r, .int (nI (by_ap cap L ((pp_x v kk xv (pp_w bz bm wd) bp).getD [])).length)])), (r, .inl (cA, cap, .inl f3))]) [0, 1, 2, 3, 4, 5, 6] (by decide) rfl
        have hK9 := hK.sub (tys' := [(cN, .byte), (cA, .byte)]) [0, 1] rfl
        rw [pa_nne f_16] at hP9 hD9
        exact zz_zret hx hb hr hlocks d_Pr_putArgument_83 (by decide) hS (by first | exact Nat.le_refl _ | decide | omega | (dsimp only; omega)) (by first | exact Nat.le_refl _ | decide | omega | (dsimp only; omega)) (f1, k1, f3) (pa_nn f_16 (hzz.symm.trans hrn) hLp) hP9 hK9 hD9
      · skip
        have hzz : r_5 = 1 := pa_1 hrn c_75
        refine lv_iconst (v := 1) hx hb d_Pr_putArgument_78 (by decide) ?_
        refine lv_goto (tgt := 83) hx hb d_Pr_putArgument_79 (by decide) ?_
        have hP9 := hP.sub (ws' := [(hp, .inr (6, [.ref hn])), (hn, .inr (5, [.ref rn, .int k1])), (rn, .inl (cN, 64, .inl f1)), (hd, .inr (4, [.int dq, .int (by_z bm), .int (by_z bp), .int (by_z bz), .int (nI wd), .int (nI v)])), (ha, .inr (0, [.int (nI kk), .long xv, .null])), (h, .inr (2, [.ref r, .int (nI (by_ap cap L ((pp_x v kk xv (pp_w bz bm wd) bp).getD [])).length)])), (r, .inl (cA, cap, .inl f3))]) [0, 1, 2, 3, 4, 5, 6] rfl
        have hD9 := hD.sub (ws' := [(hp, .inr (6, [.ref hn])), (hn, .inr (5, [.ref rn, .int k1])), (rn, .inl (cN, 64, .inl f1)), (hd, .inr (4, [.int dq, .int (by_z bm), .int (by_z bp), .int (by_z bz), .int (nI wd), .int (nI v)])), (ha, .inr (0, [.int (nI kk), .long xv, .null])), (h, .inr (2, [.ref r, .int (nI (by_ap cap L ((pp_x v kk xv (pp_w bz bm wd) bp).getD [])).length)])), (r, .inl (cA, cap, .inl f3))]) [0, 1, 2, 3, 4, 5, 6] (by decide) rfl
        have hK9 := hK.sub (tys' := [(cN, .byte), (cA, .byte)]) [0, 1] rfl
        rw [pa_nne f_16] at hP9 hD9
        exact zz_zret hx hb hr hlocks d_Pr_putArgument_83 (by decide) hS (by first | exact Nat.le_refl _ | decide | omega | (dsimp only; omega)) (by first | exact Nat.le_refl _ | decide | omega | (dsimp only; omega)) (f1, k1, f3) (pa_nn f_16 (hzz.symm.trans hrn) hLp) hP9 hK9 hD9
    · skip
      have f_23 : v = 116 := nI_e1 (b := 116) c_23 (by omega) (by omega)
      refine lv_aload_n hx hb d_Pr_putArgument_26 rfl (lv_at hl 3 rfl) ?_
      have hPc := hP.sub (ws' := [(ha, .inr (0, [.int (nI kk), .long xv, .null]))]) [4] rfl
      have hKc := hK.sub (tys' := []) [] rfl
      refine vp_callSi (W.runV (As := []) (rest := []) ⟨hx, hb, hml, hown, hg⟩ (c_Ar_isTruth l dC dI ha (nI kk) xv .null ) (cwV 0 hg (gi_V kw_227 kw_228 kw_229 kw_14 kw_230) rfl rfl rfl (by decide +kernel) ⟨Nat.le_of_ble_eq_true rfl, Nat.le_of_ble_eq_true rfl⟩) (zz_prJV hPc hKc _ (q0 := 0) (ci := 0) rfl rfl) rfl rfl hl.1 rfl (lv_room (Nat.le_of_ble_eq_true rfl)) d_Pr_putArgument_27 ⟨Nat.le_of_ble_eq_true rfl, Nat.le_of_ble_eq_true rfl⟩) (fun r_6 hr_6 => ?_)
      rw [show decide (nI kk = 2) = false from by rcases hkk with rfl | rfl <;> decide] at hr_6
      subst hr_6
      refine lv_if_eq (tgt := 41) hx hb d_Pr_putArgument_30 (by decide) (fun _ => ?_) (fun c9 => by first | exact absurd c9 (by decide) | exact absurd (by decide) c9)
      refine lv_aload_n hx hb d_Pr_putArgument_41 rfl (lv_at hl 3 rfl) ?_
      have hPc := hP.sub (ws' := [(ha, .inr (0, [.int (nI kk), .long xv, .null]))]) [4] rfl
      have hKc := hK.sub (tys' := []) [] rfl
      refine va_csq (W.runV (As := []) (rest := []) ⟨hx, hb, hml, hown, hg⟩ (c_Ar_content0 l dC dI ha (nI kk) xv ) (cwV 0 hg (gi_V kw_235 kw_236 kw_237 kw_14 kw_238) rfl rfl rfl (by decide +kernel) ⟨Nat.le_of_ble_eq_true rfl, Nat.le_of_ble_eq_true rfl⟩) (zz_prJV hPc hKc _ (q0 := 0) (ci := 0) rfl rfl) rfl rfl hl.1 rfl (lv_room (Nat.le_of_ble_eq_true rfl)) d_Pr_putArgument_42 ⟨Nat.le_of_ble_eq_true rfl, Nat.le_of_ble_eq_true rfl⟩) (fun r_7 hr_7 => ?_)
      subst hr_7
      refine W.eq (g2 := F0 m 45 ls [.null]) rfl ?_
      refine lv_astoreN (lv' := [(5, .null), (4, .int (nI v)), (0, .ref hp), (1, .ref hd), (2, .ref ha), (3, .ref h)]) hx hb d_Pr_putArgument_45 hl (by decide) rfl (fun ls hl => ?_)
      refine lv_aloadN hx hb d_Pr_putArgument_47 (lv_at hl 0 rfl) ?_
      refine lv_ifnullN (tgt := 61) hx hb d_Pr_putArgument_49 (by decide) ?_
      refine lv_aload_n hx hb d_Pr_putArgument_61 rfl (lv_at hl 4 rfl) ?_
      have hPc := hP.sub (ws' := [(ha, .inr (0, [.int (nI kk), .long xv, .null]))]) [4] rfl
      have hKc := hK.sub (tys' := []) [] rfl
      refine vp_callSi (W.runV (As := []) (rest := []) ⟨hx, hb, hml, hown, hg⟩ (c_Ar_isNumber l dC dI ha (nI kk) xv .null ) (cwV 0 hg (gi_V kw_244 kw_245 kw_246 kw_14 kw_247) rfl rfl rfl (by decide +kernel) ⟨Nat.le_of_ble_eq_true rfl, Nat.le_of_ble_eq_true rfl⟩) (zz_prJV hPc hKc _ (q0 := 0) (ci := 0) rfl rfl) rfl rfl hl.1 rfl (lv_room (Nat.le_of_ble_eq_true rfl)) d_Pr_putArgument_62 ⟨Nat.le_of_ble_eq_true rfl, Nat.le_of_ble_eq_true rfl⟩) (fun r_8 hr_8 => ?_)
      rw [pp_i1 hkk] at hr_8
      subst hr_8
      refine lv_if_eq (tgt := 82) hx hb d_Pr_putArgument_65 (by decide) (fun c9 => by first | exact absurd c9 (by decide) | exact absurd (by decide) c9) (fun _ => ?_)
      refine lv_aload_n hx hb d_Pr_putArgument_68 rfl (lv_at hl 2 rfl) ?_
      refine lv_aload_n hx hb d_Pr_putArgument_69 rfl (lv_at hl 3 rfl) ?_
      refine lv_aload_n hx hb d_Pr_putArgument_70 rfl (lv_at hl 4 rfl) ?_
      refine lv_aload_n hx hb d_Pr_putArgument_71 rfl (lv_at hl 5 rfl) ?_
      have hPc := hP.sub (ws' := [(hp, .inr (6, [.ref hn])), (hn, .inr (5, [.ref rn, .int kN])), (rn, .inl (cN, 64, .inl fN)), (hd, .inr (4, [.int dq, .int (by_z bm), .int (by_z bp), .int (by_z bz), .int (nI wd), .int (nI v)])), (ha, .inr (0, [.int (nI kk), .long xv, .null])), (h, .inr (2, [.ref r, .int (nI L.length)])), (r, .inl (cA, cap, .inl f))]) [0, 1, 2, 3, 4, 5, 6] rfl
      have hKc := hK.sub (tys' := [(cN, .byte), (cA, .byte)]) [0, 1] rfl
      have hDc := hD.sub (ws' := [(hp, .inr (6, [.ref hn])), (hn, .inr (5, [.ref rn, .int kN])), (rn, .inl (cN, 64, .inl fN)), (hd, .inr (4, [.int dq, .int (by_z bm), .int (by_z bp), .int (by_z bz), .int (nI wd), .int (nI v)])), (ha, .inr (0, [.int (nI kk), .long xv, .null])), (h, .inr (2, [.ref r, .int (nI L.length)])), (r, .inl (cA, cap, .inl f))]) [0, 1, 2, 3, 4, 5, 6] (by decide) rfl
      have hFc := va_free (wc := [(hp, .inr (6, [.ref hn])), (hn, .inr (5, [.ref rn, .int kN])), (rn, .inl (cN, 64, .inl fN)), (hd, .inr (4, [.int dq, .int (by_z bm), .int (by_z bp), .int (by_z bz), .int (nI wd), .int (nI v)])), (ha, .inr (0, [.int (nI kk), .long xv, .null])), (h, .inr (2, [.ref r, .int (nI L.length)])), (r, .inl (cA, cap, .inl f))]) hD hS hA [0, 1, 2, 3, 4, 5, 6] rfl
      refine zz_calli (va_runV (As := [.ref hd, .ref ha, .ref h]) (rest := []) ⟨hx, hb, hml, hown, hg⟩ (c_Pr_putNumber l dC dI ad hp hn rn cN fN kN hd dq bm bp bz wd v ha kk xv h r cA cap f L hv hwd0 hkk hL hc hk s.heap.size) (cwV 3 hg (gi_V kw_394 kw_396 sw_2 kw_6 kw_397) rfl rfl rfl (by decide +kernel) ⟨Nat.le_of_ble_eq_true rfl, Nat.le_of_ble_eq_true rfl⟩) (zy_preV hX hS hFc hPc hKc hDc _ (q0 := 0) (ci := 6) rfl rfl) rfl rfl hl.1 rfl (lv_room (Nat.le_of_ble_eq_true rfl)) d_Pr_putArgument_72 ⟨Nat.le_of_ble_eq_true rfl, Nat.le_of_ble_eq_true rfl⟩) hS hFc (fun u H1 k9 p9 d9 => va_join (wr := []) hP hD [0, 1, 2, 3, 4, 5, 6] [] rfl rfl (by decide) (by decide) k9 hFc p9 d9) (fun r_9 u H locs hw hP hD hK1 hS => ?_)
      obtain ⟨f1, k1, f3⟩ := u
      try dsimp only at hw
      have hP : va_P (dC, dI) vwCl [(hp, .inr (6, [.ref hn])), (hn, .inr (5, [.ref rn, .int k1])), (rn, .inl (cN, 64, .inl f1)), (hd, .inr (4, [.int dq, .int (by_z bm), .int (by_z bp), .int (by_z bz), .int (nI wd), .int (nI v)])), (ha, .inr (0, [.int (nI kk), .long xv, .null])), (h, .inr (2, [.ref r, .int (nI (by_ap cap L ((pp_x v kk xv (pp_w bz bm wd) bp).getD [])).length)])), (r, .inl (cA, cap, .inl f3))] H := hP
      have hD : va_D A [(hp, .inr (6, [.ref hn])), (hn, .inr (5, [.ref rn, .int k1])), (rn, .inl (cN, 64, .inl f1)), (hd, .inr (4, [.int dq, .int (by_z bm), .int (by_z bp), .int (by_z bz), .int (nI wd), .int (nI v)])), (ha, .inr (0, [.int (nI kk), .long xv, .null])), (h, .inr (2, [.ref r, .int (nI (by_ap cap L ((pp_x v kk xv (pp_w bz bm wd) bp).getD [])).length)])), (r, .inl (cA, cap, .inl f3))] := hD
      obtain ⟨hrn, hLp⟩ := hw
      refine lv_if_eq (tgt := 82) hx hb d_Pr_putArgument_75 (by decide) (fun c_75 => ?_) (fun c_75 => ?_)
      · skip
        have hzz : r_9 = 0 := c_75
        refine lv_iconst (v := 0) hx hb d_Pr_putArgument_82 (by decide) ?_
        have hP9 := hP.sub (ws' := [(hp, .inr (6, [.ref hn])), (hn, .inr (5, [.ref rn, .int k1])), (rn, .inl (cN, 64, .inl f1)), (hd, .inr (4, [.int dq, .int (by_z bm), .int (by_z bp), .int (by_z bz), .int (nI wd), .int (nI v)])), (ha, .inr (0, [.int (nI kk), .long xv, .null])), (h, .inr (2, [.ref r, .int (nI (by_ap cap L ((pp_x v kk xv (pp_w bz bm wd) bp).getD [])).length)])), (r, .inl (cA, cap, .inl f3))]) [0, 1, 2, 3, 4, 5, 6] rfl
        have hD9 := hD.sub (ws' := [(hp, .inr (6, [.ref hn])), (hn, .inr (5, [.ref rn, .int k1])), (rn, .inl (cN, 64, .inl f1)), (hd, .inr (4, [.int dq, .int (by_z bm), .int (by_z bp), .int (by_z bz), .int (nI wd), .int (nI v)])), (ha, .inr (0, [.int (nI kk), .long xv, .null])), (h, .inr (2, [.ref r, .int (nI (by_ap cap L ((pp_x v kk xv (pp_w bz bm wd) bp).getD [])).length)])), (r, .inl (cA, cap, .inl f3))]) [0, 1, 2, 3, 4, 5, 6] (by decide) rfl
        have hK9 := hK.sub (tys' := [(cN, .byte), (cA, .byte)]) [0, 1] rfl
        rw [pa_nne f_16] at hP9 hD9
        exact zz_zret hx hb hr hlocks d_Pr_putArgument_83 (by decide) hS (by first | exact Nat.le_refl _ | decide | omega | (dsimp only; omega)) (by first | exact Nat.le_refl _ | decide | omega | (dsimp only; omega)) (f1, k1, f3) (pa_nn f_16 (hzz.symm.trans hrn) hLp) hP9 hK9 hD9
      · skip
        have hzz : r_9 = 1 := pa_1 hrn c_75
        refine lv_iconst (v := 1) hx hb d_Pr_putArgument_78 (by decide) ?_
        refine lv_goto (tgt := 83) hx hb d_Pr_putArgument_79 (by decide) ?_
        have hP9 := hP.sub (ws' := [(hp, .inr (6, [.ref hn])), (hn, .inr (5, [.ref rn, .int k1])), (rn, .inl (cN, 64, .inl f1)), (hd, .inr (4, [.int dq, .int (by_z bm), .int (by_z bp), .int (by_z bz), .int (nI wd), .int (nI v)])), (ha, .inr (0, [.int (nI kk), .long xv, .null])), (h, .inr (2, [.ref r, .int (nI (by_ap cap L ((pp_x v kk xv (pp_w bz bm wd) bp).getD [])).length)])), (r, .inl (cA, cap, .inl f3))]) [0, 1, 2, 3, 4, 5, 6] rfl
        have hD9 := hD.sub (ws' := [(hp, .inr (6, [.ref hn])), (hn, .inr (5, [.ref rn, .int k1])), (rn, .inl (cN, 64, .inl f1)), (hd, .inr (4, [.int dq, .int (by_z bm), .int (by_z bp), .int (by_z bz), .int (nI wd), .int (nI v)])), (ha, .inr (0, [.int (nI kk), .long xv, .null])), (h, .inr (2, [.ref r, .int (nI (by_ap cap L ((pp_x v kk xv (pp_w bz bm wd) bp).getD [])).length)])), (r, .inl (cA, cap, .inl f3))]) [0, 1, 2, 3, 4, 5, 6] (by decide) rfl
        have hK9 := hK.sub (tys' := [(cN, .byte), (cA, .byte)]) [0, 1] rfl
        rw [pa_nne f_16] at hP9 hD9
        exact zz_zret hx hb hr hlocks d_Pr_putArgument_83 (by decide) hS (by first | exact Nat.le_refl _ | decide | omega | (dsimp only; omega)) (by first | exact Nat.le_refl _ | decide | omega | (dsimp only; omega)) (f1, k1, f3) (pa_nn f_16 (hzz.symm.trans hrn) hLp) hP9 hK9 hD9
set_option maxHeartbeats 4000000 in
set_option maxRecDepth 100000 in
theorem c_Pr_argT (l : Launch) (dC : Nat → ClassId) (dI : Nat → Nat → Nat) (ad : Nat → Nat) (hp hn rn : Nat) (cN : ClassId) (fN : Nat → Int32) (kN : Int32) (hd : Nat) (dq : Int32) (bm bp bz : Bool) (wd v : Nat) (ha : Nat) (xv : Int64) (h2 r2 : Nat) (cA2 : ClassId) (cap2 : Nat) (f2 : Nat → Int32) (L2 : List Nat) (h r : Nat) (cA : ClassId) (cap : Nat) (f : Nat → Int32) (L : List Nat) (hv : v < 256) (hwd0 : wd < 1000) (hL2 : by_L L2 f2) (hc2 : L2.length ≤ cap2) (hk2 : cap2 < 1000000) (hL : by_L L f) (hc : L.length ≤ cap) (hk : cap < 2147483648) : yM_i (S := (Nat → Int32) × Int32 × (Nat → Int32)) ad l y_Pr_putArgument w_Pr_putArgument { frames := 7, cells := 0, slots := 0, locals := 153 } (dC, dI) vwCl [.ref hp, .ref hd, .ref ha, .ref h] [(hp, .inr (6, [.ref hn])), (hn, .inr (5, [.ref rn, .int kN])), (rn, .inl (cN, 64, .inl fN)), (hd, .inr (4, [.int dq, .int (by_z bm), .int (by_z bp), .int (by_z bz), .int (nI wd), .int (nI v)])), (ha, .inr (0, [.int (nI 3), .long xv, .ref h2])), (h2, .inr (2, [.ref r2, .int (nI L2.length)])), (r2, .inl (cA2, cap2, .inl f2)), (h, .inr (2, [.ref r, .int (nI L.length)])), (r, .inl (cA, cap, .inl f))] [(cN, .byte), (cA, .byte), (cA2, .byte)] (fun (r : Int32) (u : (Nat → Int32) × Int32 × (Nat → Int32)) => match u with | (f1, k1, f3) => r = by_z (pa_t v L2).isSome ∧ by_L (by_ap cap L ((pa_t v L2).getD [])) f3) (fun u => match u with | (f1, k1, f3) => [(hp, .inr (6, [.ref hn])), (hn, .inr (5, [.ref rn, .int k1])), (rn, .inl (cN, 64, .inl f1)), (hd, .inr (4, [.int dq, .int (by_z bm), .int (by_z bp), .int (by_z bz), .int (nI wd), .int (nI v)])), (ha, .inr (0, [.int (nI 3), .long xv, .ref h2])), (h2, .inr (2, [.ref r2, .int (nI L2.length)])), (r2, .inl (cA2, cap2, .inl f2)), (h, .inr (2, [.ref r, .int (nI (by_ap cap L ((pa_t v L2).getD [])).length)])), (r, .inl (cA, cap, .inl f3))]) (fun u => match u with | (f1, k1, f3) => [(cN, .byte), (cA, .byte), (cA2, .byte)]) 0 0 := by
  refine zy_enteri (cc := prog_8_method_4_code) (nL := 6) (ret := (some .boolean)) (by decide) rfl (Nat.le_of_ble_eq_true rfl) ?_
  intro p e s m below meth c A ls C0 hA hS hP hK hD hl hX
  obtain ⟨hx, hb, hml, hown, hg, hr, hlocks, hin⟩ := C0
  have hown : s.vm.findClass "TextForge$Printer" = some m.cls := hown
  have hP : va_P (dC, dI) vwCl [(hp, .inr (6, [.ref hn])), (hn, .inr (5, [.ref rn, .int kN])), (rn, .inl (cN, 64, .inl fN)), (hd, .inr (4, [.int dq, .int (by_z bm), .int (by_z bp), .int (by_z bz), .int (nI wd), .int (nI v)])), (ha, .inr (0, [.int (nI 3), .long xv, .ref h2])), (h2, .inr (2, [.ref r2, .int (nI L2.length)])), (r2, .inl (cA2, cap2, .inl f2)), (h, .inr (2, [.ref r, .int (nI L.length)])), (r, .inl (cA, cap, .inl f))] s.heap := hP
  have hK : va_K (dC, dI) vwCl [(cN, .byte), (cA, .byte), (cA2, .byte)] s := hK
  have hD : va_D A [(hp, .inr (6, [.ref hn])), (hn, .inr (5, [.ref rn, .int kN])), (rn, .inl (cN, 64, .inl fN)), (hd, .inr (4, [.int dq, .int (by_z bm), .int (by_z bp), .int (by_z bz), .int (nI wd), .int (nI v)])), (ha, .inr (0, [.int (nI 3), .long xv, .ref h2])), (h2, .inr (2, [.ref r2, .int (nI L2.length)])), (r2, .inl (cA2, cap2, .inl f2)), (h, .inr (2, [.ref r, .int (nI L.length)])), (r, .inl (cA, cap, .inl f))] := hD
  have hl : lv_has ls 6 [(0, .ref hp), (1, .ref hd), (2, .ref ha), (3, .ref h)] := hl
  refine lv_aload_n hx hb d_Pr_putArgument_0 rfl (lv_at hl 2 rfl) ?_
  refine lv_ifnonnull (tgt := 6) hx hb d_Pr_putArgument_1 (by decide) ?_
  refine lv_aload_n hx hb d_Pr_putArgument_6 rfl (lv_at hl 1 rfl) ?_
  have hPc := hP.sub (ws' := [(hd, .inr (4, [.int dq, .int (by_z bm), .int (by_z bp), .int (by_z bz), .int (nI wd), .int (nI v)]))]) [3] rfl
  have hKc := hK.sub (tys' := []) [] rfl
  refine vp_callSi (W.runV (As := []) (rest := []) ⟨hx, hb, hml, hown, hg⟩ (c_Di_letter l dC dI hd dq (by_z bm) (by_z bp) (by_z bz) (nI wd) (nI v) ) (cwV 0 hg (gi_V kw_209 kw_210 kw_211 kw_5 kw_212) rfl rfl rfl (by decide +kernel) ⟨Nat.le_of_ble_eq_true rfl, Nat.le_of_ble_eq_true rfl⟩) (zz_prJV hPc hKc _ (q0 := 0) (ci := 4) rfl rfl) rfl rfl hl.1 rfl (lv_room (Nat.le_of_ble_eq_true rfl)) d_Pr_putArgument_7 ⟨Nat.le_of_ble_eq_true rfl, Nat.le_of_ble_eq_true rfl⟩) (fun r_1 hr_1 => ?_)
  subst hr_1
  refine lv_istore (lv' := [(4, .int (nI v)), (0, .ref hp), (1, .ref hd), (2, .ref ha), (3, .ref h)]) hx hb d_Pr_putArgument_10 hl (by decide) rfl (fun ls hl => ?_)
  refine lv_iload hx hb d_Pr_putArgument_12 (lv_at hl 0 rfl) ?_
  refine lv_bipush (v := 118) hx hb d_Pr_putArgument_14 (by decide) ?_
  refine lv_icmp_eq (tgt := 33) hx hb d_Pr_putArgument_16 (by decide) (fun c_16 => ?_) (fun c_16 => ?_)
  · skip
    have f_16 : v = 118 := nI_e1 (b := 118) c_16 (by omega) (by omega)
    refine lv_aload_n hx hb d_Pr_putArgument_33 rfl (lv_at hl 1 rfl) ?_
    refine lv_aload_n hx hb d_Pr_putArgument_34 rfl (lv_at hl 3 rfl) ?_
    refine lv_aload_n hx hb d_Pr_putArgument_35 rfl (lv_at hl 4 rfl) ?_
    have hPc := hP.sub (ws' := [(hp, .inr (6, [.ref hn])), (hn, .inr (5, [.ref rn, .int kN])), (rn, .inl (cN, 64, .inl fN)), (ha, .inr (0, [.int (nI 3), .long xv, .ref h2])), (h2, .inr (2, [.ref r2, .int (nI L2.length)])), (r2, .inl (cA2, cap2, .inl f2)), (h, .inr (2, [.ref r, .int (nI L.length)])), (r, .inl (cA, cap, .inl f))]) [0, 1, 2, 4, 5, 6, 7, 8] rfl
    have hKc := hK.sub (tys' := [(cN, .byte), (cA, .byte), (cA2, .byte)]) [0, 1, 2] rfl
    have hDc := hD.sub (ws' := [(hp, .inr (6, [.ref hn])), (hn, .inr (5, [.ref rn, .int kN])), (rn, .inl (cN, 64, .inl fN)), (ha, .inr (0, [.int (nI 3), .long xv, .ref h2])), (h2, .inr (2, [.ref r2, .int (nI L2.length)])), (r2, .inl (cA2, cap2, .inl f2)), (h, .inr (2, [.ref r, .int (nI L.length)])), (r, .inl (cA, cap, .inl f))]) [0, 1, 2, 4, 5, 6, 7, 8] (by decide) rfl
    have hFc := va_free (wc := [(hp, .inr (6, [.ref hn])), (hn, .inr (5, [.ref rn, .int kN])), (rn, .inl (cN, 64, .inl fN)), (ha, .inr (0, [.int (nI 3), .long xv, .ref h2])), (h2, .inr (2, [.ref r2, .int (nI L2.length)])), (r2, .inl (cA2, cap2, .inl f2)), (h, .inr (2, [.ref r, .int (nI L.length)])), (r, .inl (cA, cap, .inl f))]) hD hS hA [0, 1, 2, 4, 5, 6, 7, 8] rfl
    refine zz_callv (va_runV (As := [.ref ha, .ref h]) (rest := []) ⟨hx, hb, hml, hown, hg⟩ (c_Pr_plainT l dC dI ad hp hn rn cN fN kN ha xv h2 r2 cA2 cap2 f2 L2 h r cA cap f L hL2 hc2 hk2 hL hc hk s.heap.size) (cwV 2 hg (gi_V kw_231 kw_232 kw_233 kw_6 kw_234) rfl rfl rfl (by decide +kernel) ⟨Nat.le_of_ble_eq_true rfl, Nat.le_of_ble_eq_true rfl⟩) (zy_preV hX hS hFc hPc hKc hDc _ (q0 := 0) (ci := 6) rfl rfl) rfl rfl hl.1 rfl (lv_room (Nat.le_of_ble_eq_true rfl)) d_Pr_putArgument_36 ⟨Nat.le_of_ble_eq_true rfl, Nat.le_of_ble_eq_true rfl⟩) hS hFc (fun u H1 k9 p9 d9 => va_join (wr := [(hd, .inr (4, [.int dq, .int (by_z bm), .int (by_z bp), .int (by_z bz), .int (nI wd), .int (nI v)]))]) hP hD [0, 1, 2, 4, 5, 6, 7, 8] [3] rfl rfl (by decide) (by decide) k9 hFc p9 d9) (fun u H locs hw hP hD hK1 hS => ?_)
    obtain ⟨f1, k1, f3⟩ := u
    try dsimp only at hw
    have hP : va_P (dC, dI) vwCl [(hd, .inr (4, [.int dq, .int (by_z bm), .int (by_z bp), .int (by_z bz), .int (nI wd), .int (nI v)])), (hp, .inr (6, [.ref hn])), (hn, .inr (5, [.ref rn, .int k1])), (rn, .inl (cN, 64, .inl f1)), (ha, .inr (0, [.int (nI 3), .long xv, .ref h2])), (h2, .inr (2, [.ref r2, .int (nI L2.length)])), (r2, .inl (cA2, cap2, .inl f2)), (h, .inr (2, [.ref r, .int (nI (by_ap cap L L2).length)])), (r, .inl (cA, cap, .inl f3))] H := hP
    have hD : va_D A [(hd, .inr (4, [.int dq, .int (by_z bm), .int (by_z bp), .int (by_z bz), .int (nI wd), .int (nI v)])), (hp, .inr (6, [.ref hn])), (hn, .inr (5, [.ref rn, .int k1])), (rn, .inl (cN, 64, .inl f1)), (ha, .inr (0, [.int (nI 3), .long xv, .ref h2])), (h2, .inr (2, [.ref r2, .int (nI L2.length)])), (r2, .inl (cA2, cap2, .inl f2)), (h, .inr (2, [.ref r, .int (nI (by_ap cap L L2).length)])), (r, .inl (cA, cap, .inl f3))] := hD
    have hLp := hw
    refine lv_iconst (v := 1) hx hb d_Pr_putArgument_39 (by decide) ?_
    have hP9 := hP.sub (ws' := [(hp, .inr (6, [.ref hn])), (hn, .inr (5, [.ref rn, .int k1])), (rn, .inl (cN, 64, .inl f1)), (hd, .inr (4, [.int dq, .int (by_z bm), .int (by_z bp), .int (by_z bz), .int (nI wd), .int (nI v)])), (ha, .inr (0, [.int (nI 3), .long xv, .ref h2])), (h2, .inr (2, [.ref r2, .int (nI L2.length)])), (r2, .inl (cA2, cap2, .inl f2)), (h, .inr (2, [.ref r, .int (nI (by_ap cap L L2).length)])), (r, .inl (cA, cap, .inl f3))]) [1, 2, 3, 0, 4, 5, 6, 7, 8] rfl
    have hD9 := hD.sub (ws' := [(hp, .inr (6, [.ref hn])), (hn, .inr (5, [.ref rn, .int k1])), (rn, .inl (cN, 64, .inl f1)), (hd, .inr (4, [.int dq, .int (by_z bm), .int (by_z bp), .int (by_z bz), .int (nI wd), .int (nI v)])), (ha, .inr (0, [.int (nI 3), .long xv, .ref h2])), (h2, .inr (2, [.ref r2, .int (nI L2.length)])), (r2, .inl (cA2, cap2, .inl f2)), (h, .inr (2, [.ref r, .int (nI (by_ap cap L L2).length)])), (r, .inl (cA, cap, .inl f3))]) [1, 2, 3, 0, 4, 5, 6, 7, 8] (by decide) rfl
    have hK9 := hK.sub (tys' := [(cN, .byte), (cA, .byte), (cA2, .byte)]) [0, 1, 2] rfl
    rw [pa_tve f_16] at hP9 hD9
    exact zz_zret hx hb hr hlocks d_Pr_putArgument_40 (by decide) hS (by first | exact Nat.le_refl _ | decide | omega | (dsimp only; omega)) (by first | exact Nat.le_refl _ | decide | omega | (dsimp only; omega)) (f1, k1, f3) (pa_tv f_16 hLp) hP9 hK9 hD9
  · skip
    have f_16 : v ≠ 118 := nI_ne (b := 118) c_16
    refine lv_iload hx hb d_Pr_putArgument_19 (lv_at hl 0 rfl) ?_
    refine lv_bipush (v := 116) hx hb d_Pr_putArgument_21 (by decide) ?_
    refine lv_icmp_ne (tgt := 41) hx hb d_Pr_putArgument_23 (by decide) (fun c_23 => ?_) (fun c_23 => ?_)
    · skip
      have f_23 : v ≠ 116 := nI_ne (b := 116) c_23
      refine lv_aload_n hx hb d_Pr_putArgument_41 rfl (lv_at hl 3 rfl) ?_
      have hPc := hP.sub (ws' := [(ha, .inr (0, [.int (nI 3), .long xv, .ref h2]))]) [4] rfl
      have hKc := hK.sub (tys' := []) [] rfl
      refine va_csq (W.runV (As := []) (rest := []) ⟨hx, hb, hml, hown, hg⟩ (c_Ar_contentR l dC dI ha (nI 3) xv h2 ) (cwV 0 hg (gi_V kw_235 kw_236 kw_237 kw_14 kw_238) rfl rfl rfl (by decide +kernel) ⟨Nat.le_of_ble_eq_true rfl, Nat.le_of_ble_eq_true rfl⟩) (zz_prJV hPc hKc _ (q0 := 0) (ci := 0) rfl rfl) rfl rfl hl.1 rfl (lv_room (Nat.le_of_ble_eq_true rfl)) d_Pr_putArgument_42 ⟨Nat.le_of_ble_eq_true rfl, Nat.le_of_ble_eq_true rfl⟩) (fun r_3 hr_3 => ?_)
      subst hr_3
      refine W.eq (g2 := F0 m 45 ls [.ref h2]) rfl ?_
      refine lv_astore (lv' := [(5, .ref h2), (4, .int (nI v)), (0, .ref hp), (1, .ref hd), (2, .ref ha), (3, .ref h)]) hx hb d_Pr_putArgument_45 hl (by decide) rfl (fun ls hl => ?_)
      refine lv_aload hx hb d_Pr_putArgument_47 (lv_at hl 0 rfl) ?_
      refine lv_ifnull hx hb d_Pr_putArgument_49 ?_
      refine lv_iload hx hb d_Pr_putArgument_52 (lv_at hl 1 rfl) ?_
      refine lv_aload hx hb d_Pr_putArgument_54 (lv_at hl 0 rfl) ?_
      refine lv_aload_n hx hb d_Pr_putArgument_56 rfl (lv_at hl 5 rfl) ?_
      have hPc := hP.sub (ws' := [(h2, .inr (2, [.ref r2, .int (nI L2.length)])), (r2, .inl (cA2, cap2, .inl f2)), (h, .inr (2, [.ref r, .int (nI L.length)])), (r, .inl (cA, cap, .inl f))]) [5, 6, 7, 8] rfl
      have hKc := hK.sub (tys' := [(cA2, .byte), (cA, .byte)]) [2, 1] rfl
      have hDc := hD.sub (ws' := [(h2, .inr (2, [.ref r2, .int (nI L2.length)])), (r2, .inl (cA2, cap2, .inl f2)), (h, .inr (2, [.ref r, .int (nI L.length)])), (r, .inl (cA, cap, .inl f))]) [5, 6, 7, 8] (by decide) rfl
      have hFc := va_free (wc := [(h2, .inr (2, [.ref r2, .int (nI L2.length)])), (r2, .inl (cA2, cap2, .inl f2)), (h, .inr (2, [.ref r, .int (nI L.length)])), (r, .inl (cA, cap, .inl f))]) hD hS hA [5, 6, 7, 8] rfl
      refine zz_calli (va_runS (As := [.int (nI v), .ref h2, .ref h]) (rest := []) ⟨hx, hb, hml, hown, hg⟩ (c_Pr_putText l dC dI ad v h2 r2 cA2 cap2 f2 L2 h r cA cap f L hv hL2 hc2 hk2 hL hc hk s.heap.size) (va_cwS 3 hg (gi_S kw_352 kw_353 kw_6 kw_354) rfl rfl rfl (by decide +kernel) ⟨Nat.le_of_ble_eq_true rfl, Nat.le_of_ble_eq_true rfl⟩) (zy_preS hX hS hFc hPc hKc hDc _) rfl rfl hl.1 rfl (lv_room (Nat.le_of_ble_eq_true rfl)) d_Pr_putArgument_57 ⟨Nat.le_of_ble_eq_true rfl, Nat.le_of_ble_eq_true rfl⟩) hS hFc (fun u H1 k9 p9 d9 => va_join (wr := [(hp, .inr (6, [.ref hn])), (hn, .inr (5, [.ref rn, .int kN])), (rn, .inl (cN, 64, .inl fN)), (hd, .inr (4, [.int dq, .int (by_z bm), .int (by_z bp), .int (by_z bz), .int (nI wd), .int (nI v)])), (ha, .inr (0, [.int (nI 3), .long xv, .ref h2]))]) hP hD [5, 6, 7, 8] [0, 1, 2, 3, 4] rfl rfl (by decide) (by decide) k9 hFc p9 d9) (fun r_5 u H locs hw hP hD hK1 hS => ?_)
      obtain ⟨u_4, rfl⟩ : ∃ z, z = u := ⟨_, rfl⟩
      try dsimp only at hw
      have hP : va_P (dC, dI) vwCl [(hp, .inr (6, [.ref hn])), (hn, .inr (5, [.ref rn, .int kN])), (rn, .inl (cN, 64, .inl fN)), (hd, .inr (4, [.int dq, .int (by_z bm), .int (by_z bp), .int (by_z bz), .int (nI wd), .int (nI v)])), (ha, .inr (0, [.int (nI 3), .long xv, .ref h2])), (h2, .inr (2, [.ref r2, .int (nI L2.length)])), (r2, .inl (cA2, cap2, .inl f2)), (h, .inr (2, [.ref r, .int (nI (by_ap cap L ((px_t v L2).getD [])).length)])), (r, .inl (cA, cap, .inl u_4))] H := hP
      have hD : va_D A [(hp, .inr (6, [.ref hn])), (hn, .inr (5, [.ref rn, .int kN])), (rn, .inl (cN, 64, .inl fN)), (hd, .inr (4, [.int dq, .int (by_z bm), .int (by_z bp), .int (by_z bz), .int (nI wd), .int (nI v)])), (ha, .inr (0, [.int (nI 3), .long xv, .ref h2])), (h2, .inr (2, [.ref r2, .int (nI L2.length)])), (r2, .inl (cA2, cap2, .inl f2)), (h, .inr (2, [.ref r, .int (nI (by_ap cap L ((px_t v L2).getD [])).length)])), (r, .inl (cA, cap, .inl u_4))] := hD
      obtain ⟨hrn, hLp⟩ := hw
      have hP9 := hP.sub (ws' := [(hp, .inr (6, [.ref hn])), (hn, .inr (5, [.ref rn, .int kN])), (rn, .inl (cN, 64, .inl fN)), (hd, .inr (4, [.int dq, .int (by_z bm), .int (by_z bp), .int (by_z bz), .int (nI wd), .int (nI v)])), (ha, .inr (0, [.int (nI 3), .long xv, .ref h2])), (h2, .inr (2, [.ref r2, .int (nI L2.length)])), (r2, .inl (cA2, cap2, .inl f2)), (h, .inr (2, [.ref r, .int (nI (by_ap cap L ((px_t v L2).getD [])).length)])), (r, .inl (cA, cap, .inl u_4))]) [0, 1, 2, 3, 4, 5, 6, 7, 8] rfl
      have hD9 := hD.sub (ws' := [(hp, .inr (6, [.ref hn])), (hn, .inr (5, [.ref rn, .int kN])), (rn, .inl (cN, 64, .inl fN)), (hd, .inr (4, [.int dq, .int (by_z bm), .int (by_z bp), .int (by_z bz), .int (nI wd), .int (nI v)])), (ha, .inr (0, [.int (nI 3), .long xv, .ref h2])), (h2, .inr (2, [.ref r2, .int (nI L2.length)])), (r2, .inl (cA2, cap2, .inl f2)), (h, .inr (2, [.ref r, .int (nI (by_ap cap L ((px_t v L2).getD [])).length)])), (r, .inl (cA, cap, .inl u_4))]) [0, 1, 2, 3, 4, 5, 6, 7, 8] (by decide) rfl
      have hK9 := hK.sub (tys' := [(cN, .byte), (cA, .byte), (cA2, .byte)]) [0, 1, 2] rfl
      rw [pa_tne f_16] at hP9 hD9
      exact zz_zret hx hb hr hlocks d_Pr_putArgument_60 (by rw [hrn]; exact by_zn) hS (by first | exact Nat.le_refl _ | decide | omega | (dsimp only; omega)) (by first | exact Nat.le_refl _ | decide | omega | (dsimp only; omega)) (fN, kN, u_4) (pa_tn f_16 hrn hLp) hP9 hK9 hD9
    · skip
      have f_23 : v = 116 := nI_e1 (b := 116) c_23 (by omega) (by omega)
      refine lv_aload_n hx hb d_Pr_putArgument_26 rfl (lv_at hl 3 rfl) ?_
      have hPc := hP.sub (ws' := [(ha, .inr (0, [.int (nI 3), .long xv, .ref h2]))]) [4] rfl
      have hKc := hK.sub (tys' := []) [] rfl
      refine vp_callSi (W.runV (As := []) (rest := []) ⟨hx, hb, hml, hown, hg⟩ (c_Ar_isTruth l dC dI ha (nI 3) xv (.ref h2) ) (cwV 0 hg (gi_V kw_227 kw_228 kw_229 kw_14 kw_230) rfl rfl rfl (by decide +kernel) ⟨Nat.le_of_ble_eq_true rfl, Nat.le_of_ble_eq_true rfl⟩) (zz_prJV hPc hKc _ (q0 := 0) (ci := 0) rfl rfl) rfl rfl hl.1 rfl (lv_room (Nat.le_of_ble_eq_true rfl)) d_Pr_putArgument_27 ⟨Nat.le_of_ble_eq_true rfl, Nat.le_of_ble_eq_true rfl⟩) (fun r_6 hr_6 => ?_)
      rw [show decide (nI 3 = 2) = false from by decide] at hr_6
      subst hr_6
      refine lv_if_eq (tgt := 41) hx hb d_Pr_putArgument_30 (by decide) (fun _ => ?_) (fun c9 => by first | exact absurd c9 (by decide) | exact absurd (by decide) c9)
      refine lv_aload_n hx hb d_Pr_putArgument_41 rfl (lv_at hl 3 rfl) ?_
      have hPc := hP.sub (ws' := [(ha, .inr (0, [.int (nI 3), .long xv, .ref h2]))]) [4] rfl
      have hKc := hK.sub (tys' := []) [] rfl
      refine va_csq (W.runV (As := []) (rest := []) ⟨hx, hb, hml, hown, hg⟩ (c_Ar_contentR l dC dI ha (nI 3) xv h2 ) (cwV 0 hg (gi_V kw_235 kw_236 kw_237 kw_14 kw_238) rfl rfl rfl (by decide +kernel) ⟨Nat.le_of_ble_eq_true rfl, Nat.le_of_ble_eq_true rfl⟩) (zz_prJV hPc hKc _ (q0 := 0) (ci := 0) rfl rfl) rfl rfl hl.1 rfl (lv_room (Nat.le_of_ble_eq_true rfl)) d_Pr_putArgument_42 ⟨Nat.le_of_ble_eq_true rfl, Nat.le_of_ble_eq_true rfl⟩) (fun r_7 hr_7 => ?_)
      subst hr_7
      refine W.eq (g2 := F0 m 45 ls [.ref h2]) rfl ?_
      refine lv_astore (lv' := [(5, .ref h2), (4, .int (nI v)), (0, .ref hp), (1, .ref hd), (2, .ref ha), (3, .ref h)]) hx hb d_Pr_putArgument_45 hl (by decide) rfl (fun ls hl => ?_)
      refine lv_aload hx hb d_Pr_putArgument_47 (lv_at hl 0 rfl) ?_
      refine lv_ifnull hx hb d_Pr_putArgument_49 ?_
      refine lv_iload hx hb d_Pr_putArgument_52 (lv_at hl 1 rfl) ?_
      refine lv_aload hx hb d_Pr_putArgument_54 (lv_at hl 0 rfl) ?_
      refine lv_aload_n hx hb d_Pr_putArgument_56 rfl (lv_at hl 5 rfl) ?_
      have hPc := hP.sub (ws' := [(h2, .inr (2, [.ref r2, .int (nI L2.length)])), (r2, .inl (cA2, cap2, .inl f2)), (h, .inr (2, [.ref r, .int (nI L.length)])), (r, .inl (cA, cap, .inl f))]) [5, 6, 7, 8] rfl
      have hKc := hK.sub (tys' := [(cA2, .byte), (cA, .byte)]) [2, 1] rfl
      have hDc := hD.sub (ws' := [(h2, .inr (2, [.ref r2, .int (nI L2.length)])), (r2, .inl (cA2, cap2, .inl f2)), (h, .inr (2, [.ref r, .int (nI L.length)])), (r, .inl (cA, cap, .inl f))]) [5, 6, 7, 8] (by decide) rfl
      have hFc := va_free (wc := [(h2, .inr (2, [.ref r2, .int (nI L2.length)])), (r2, .inl (cA2, cap2, .inl f2)), (h, .inr (2, [.ref r, .int (nI L.length)])), (r, .inl (cA, cap, .inl f))]) hD hS hA [5, 6, 7, 8] rfl
      refine zz_calli (va_runS (As := [.int (nI v), .ref h2, .ref h]) (rest := []) ⟨hx, hb, hml, hown, hg⟩ (c_Pr_putText l dC dI ad v h2 r2 cA2 cap2 f2 L2 h r cA cap f L hv hL2 hc2 hk2 hL hc hk s.heap.size) (va_cwS 3 hg (gi_S kw_352 kw_353 kw_6 kw_354) rfl rfl rfl (by decide +kernel) ⟨Nat.le_of_ble_eq_true rfl, Nat.le_of_ble_eq_true rfl⟩) (zy_preS hX hS hFc hPc hKc hDc _) rfl rfl hl.1 rfl (lv_room (Nat.le_of_ble_eq_true rfl)) d_Pr_putArgument_57 ⟨Nat.le_of_ble_eq_true rfl, Nat.le_of_ble_eq_true rfl⟩) hS hFc (fun u H1 k9 p9 d9 => va_join (wr := [(hp, .inr (6, [.ref hn])), (hn, .inr (5, [.ref rn, .int kN])), (rn, .inl (cN, 64, .inl fN)), (hd, .inr (4, [.int dq, .int (by_z bm), .int (by_z bp), .int (by_z bz), .int (nI wd), .int (nI v)])), (ha, .inr (0, [.int (nI 3), .long xv, .ref h2]))]) hP hD [5, 6, 7, 8] [0, 1, 2, 3, 4] rfl rfl (by decide) (by decide) k9 hFc p9 d9) (fun r_9 u H locs hw hP hD hK1 hS => ?_)
      obtain ⟨u_8, rfl⟩ : ∃ z, z = u := ⟨_, rfl⟩
      try dsimp only at hw
      have hP : va_P (dC, dI) vwCl [(hp, .inr (6, [.ref hn])), (hn, .inr (5, [.ref rn, .int kN])), (rn, .inl (cN, 64, .inl fN)), (hd, .inr (4, [.int dq, .int (by_z bm), .int (by_z bp), .int (by_z bz), .int (nI wd), .int (nI v)])), (ha, .inr (0, [.int (nI 3), .long xv, .ref h2])), (h2, .inr (2, [.ref r2, .int (nI L2.length)])), (r2, .inl (cA2, cap2, .inl f2)), (h, .inr (2, [.ref r, .int (nI (by_ap cap L ((px_t v L2).getD [])).length)])), (r, .inl (cA, cap, .inl u_8))] H := hP
      have hD : va_D A [(hp, .inr (6, [.ref hn])), (hn, .inr (5, [.ref rn, .int kN])), (rn, .inl (cN, 64, .inl fN)), (hd, .inr (4, [.int dq, .int (by_z bm), .int (by_z bp), .int (by_z bz), .int (nI wd), .int (nI v)])), (ha, .inr (0, [.int (nI 3), .long xv, .ref h2])), (h2, .inr (2, [.ref r2, .int (nI L2.length)])), (r2, .inl (cA2, cap2, .inl f2)), (h, .inr (2, [.ref r, .int (nI (by_ap cap L ((px_t v L2).getD [])).length)])), (r, .inl (cA, cap, .inl u_8))] := hD
      obtain ⟨hrn, hLp⟩ := hw
      have hP9 := hP.sub (ws' := [(hp, .inr (6, [.ref hn])), (hn, .inr (5, [.ref rn, .int kN])), (rn, .inl (cN, 64, .inl fN)), (hd, .inr (4, [.int dq, .int (by_z bm), .int (by_z bp), .int (by_z bz), .int (nI wd), .int (nI v)])), (ha, .inr (0, [.int (nI 3), .long xv, .ref h2])), (h2, .inr (2, [.ref r2, .int (nI L2.length)])), (r2, .inl (cA2, cap2, .inl f2)), (h, .inr (2, [.ref r, .int (nI (by_ap cap L ((px_t v L2).getD [])).length)])), (r, .inl (cA, cap, .inl u_8))]) [0, 1, 2, 3, 4, 5, 6, 7, 8] rfl
      have hD9 := hD.sub (ws' := [(hp, .inr (6, [.ref hn])), (hn, .inr (5, [.ref rn, .int kN])), (rn, .inl (cN, 64, .inl fN)), (hd, .inr (4, [.int dq, .int (by_z bm), .int (by_z bp), .int (by_z bz), .int (nI wd), .int (nI v)])), (ha, .inr (0, [.int (nI 3), .long xv, .ref h2])), (h2, .inr (2, [.ref r2, .int (nI L2.length)])), (r2, .inl (cA2, cap2, .inl f2)), (h, .inr (2, [.ref r, .int (nI (by_ap cap L ((px_t v L2).getD [])).length)])), (r, .inl (cA, cap, .inl u_8))]) [0, 1, 2, 3, 4, 5, 6, 7, 8] (by decide) rfl
      have hK9 := hK.sub (tys' := [(cN, .byte), (cA, .byte), (cA2, .byte)]) [0, 1, 2] rfl
      rw [pa_tne f_16] at hP9 hD9
      exact zz_zret hx hb hr hlocks d_Pr_putArgument_60 (by rw [hrn]; exact by_zn) hS (by first | exact Nat.le_refl _ | decide | omega | (dsimp only; omega)) (by first | exact Nat.le_refl _ | decide | omega | (dsimp only; omega)) (fN, kN, u_8) (pa_tn f_16 hrn hLp) hP9 hK9 hD9
set_option maxHeartbeats 4000000 in
set_option maxRecDepth 100000 in
theorem c_Pr_argW (l : Launch) (dC : Nat → ClassId) (dI : Nat → Nat → Nat) (ad : Nat → Nat) (hp hn rn : Nat) (cN : ClassId) (fN : Nat → Int32) (kN : Int32) (hd : Nat) (dq : Int32) (bm bp bz : Bool) (wd v : Nat) (ha : Nat) (kk : Nat) (xv : Int64) (h r : Nat) (cA : ClassId) (cap : Nat) (f : Nat → Int32) (L : List Nat) (hv : v < 256) (hwd0 : wd < 1000) (hwd : (kk = 2 ∧ (xv = 0 ∨ xv = 1)) ∨ (kk = 4 ∧ ∃ j, j < 10 ∧ xv = (nI j - 1).toInt64)) (hL : by_L L f) (hc : L.length ≤ cap) (hk : cap < 2147483648) : yM_i (S := (Nat → Int32) × Int32 × (Nat → Int32)) ad l y_Pr_putArgument w_Pr_putArgument { frames := 6, cells := 0, slots := 0, locals := 130 } (dC, dI) vwCl [.ref hp, .ref hd, .ref ha, .ref h] [(hp, .inr (6, [.ref hn])), (hn, .inr (5, [.ref rn, .int kN])), (rn, .inl (cN, 64, .inl fN)), (hd, .inr (4, [.int dq, .int (by_z bm), .int (by_z bp), .int (by_z bz), .int (nI wd), .int (nI v)])), (ha, .inr (0, [.int (nI kk), .long xv, .null])), (h, .inr (2, [.ref r, .int (nI L.length)])), (r, .inl (cA, cap, .inl f))] [(cN, .byte), (cA, .byte)] (fun (r : Int32) (u : (Nat → Int32) × Int32 × (Nat → Int32)) => match u with | (f1, k1, f3) => r = by_z (pa_w v kk xv).isSome ∧ by_L (by_ap cap L ((pa_w v kk xv).getD [])) f3) (fun u => match u with | (f1, k1, f3) => [(hp, .inr (6, [.ref hn])), (hn, .inr (5, [.ref rn, .int k1])), (rn, .inl (cN, 64, .inl f1)), (hd, .inr (4, [.int dq, .int (by_z bm), .int (by_z bp), .int (by_z bz), .int (nI wd), .int (nI v)])), (ha, .inr (0, [.int (nI kk), .long xv, .null])), (h, .inr (2, [.ref r, .int (nI (by_ap cap L ((pa_w v kk xv).getD [])).length)])), (r, .inl (cA, cap, .inl f3))]) (fun u => match u with | (f1, k1, f3) => [(cN, .byte), (cA, .byte)]) 0 0 := by
  refine zy_enteri (cc := prog_8_method_4_code) (nL := 6) (ret := (some .boolean)) (by decide) rfl (Nat.le_of_ble_eq_true rfl) ?_
  intro p e s m below meth c A ls C0 hA hS hP hK hD hl hX
  obtain ⟨hx, hb, hml, hown, hg, hr, hlocks, hin⟩ := C0
  have hown : s.vm.findClass "TextForge$Printer" = some m.cls := hown
  have hP : va_P (dC, dI) vwCl [(hp, .inr (6, [.ref hn])), (hn, .inr (5, [.ref rn, .int kN])), (rn, .inl (cN, 64, .inl fN)), (hd, .inr (4, [.int dq, .int (by_z bm), .int (by_z bp), .int (by_z bz), .int (nI wd), .int (nI v)])), (ha, .inr (0, [.int (nI kk), .long xv, .null])), (h, .inr (2, [.ref r, .int (nI L.length)])), (r, .inl (cA, cap, .inl f))] s.heap := hP
  have hK : va_K (dC, dI) vwCl [(cN, .byte), (cA, .byte)] s := hK
  have hD : va_D A [(hp, .inr (6, [.ref hn])), (hn, .inr (5, [.ref rn, .int kN])), (rn, .inl (cN, 64, .inl fN)), (hd, .inr (4, [.int dq, .int (by_z bm), .int (by_z bp), .int (by_z bz), .int (nI wd), .int (nI v)])), (ha, .inr (0, [.int (nI kk), .long xv, .null])), (h, .inr (2, [.ref r, .int (nI L.length)])), (r, .inl (cA, cap, .inl f))] := hD
  have hl : lv_has ls 6 [(0, .ref hp), (1, .ref hd), (2, .ref ha), (3, .ref h)] := hl
  refine lv_aload_n hx hb d_Pr_putArgument_0 rfl (lv_at hl 2 rfl) ?_
  refine lv_ifnonnull (tgt := 6) hx hb d_Pr_putArgument_1 (by decide) ?_
  refine lv_aload_n hx hb d_Pr_putArgument_6 rfl (lv_at hl 1 rfl) ?_
  have hPc := hP.sub (ws' := [(hd, .inr (4, [.int dq, .int (by_z bm), .int (by_z bp), .int (by_z bz), .int (nI wd), .int (nI v)]))]) [3] rfl
  have hKc := hK.sub (tys' := []) [] rfl
  refine vp_callSi (W.runV (As := []) (rest := []) ⟨hx, hb, hml, hown, hg⟩ (c_Di_letter l dC dI hd dq (by_z bm) (by_z bp) (by_z bz) (nI wd) (nI v) ) (cwV 0 hg (gi_V kw_209 kw_210 kw_211 kw_5 kw_212) rfl rfl rfl (by decide +kernel) ⟨Nat.le_of_ble_eq_true rfl, Nat.le_of_ble_eq_true rfl⟩) (zz_prJV hPc hKc _ (q0 := 0) (ci := 4) rfl rfl) rfl rfl hl.1 rfl (lv_room (Nat.le_of_ble_eq_true rfl)) d_Pr_putArgument_7 ⟨Nat.le_of_ble_eq_true rfl, Nat.le_of_ble_eq_true rfl⟩) (fun r_1 hr_1 => ?_)
  subst hr_1
  refine lv_istore (lv' := [(4, .int (nI v)), (0, .ref hp), (1, .ref hd), (2, .ref ha), (3, .ref h)]) hx hb d_Pr_putArgument_10 hl (by decide) rfl (fun ls hl => ?_)
  refine lv_iload hx hb d_Pr_putArgument_12 (lv_at hl 0 rfl) ?_
  refine lv_bipush (v := 118) hx hb d_Pr_putArgument_14 (by decide) ?_
  refine lv_icmp_eq (tgt := 33) hx hb d_Pr_putArgument_16 (by decide) (fun c_16 => ?_) (fun c_16 => ?_)
  · skip
    have f_16 : v = 118 := nI_e1 (b := 118) c_16 (by omega) (by omega)
    refine lv_aload_n hx hb d_Pr_putArgument_33 rfl (lv_at hl 1 rfl) ?_
    refine lv_aload_n hx hb d_Pr_putArgument_34 rfl (lv_at hl 3 rfl) ?_
    refine lv_aload_n hx hb d_Pr_putArgument_35 rfl (lv_at hl 4 rfl) ?_
    have hPc := hP.sub (ws' := [(hp, .inr (6, [.ref hn])), (hn, .inr (5, [.ref rn, .int kN])), (rn, .inl (cN, 64, .inl fN)), (ha, .inr (0, [.int (nI kk), .long xv, .null])), (h, .inr (2, [.ref r, .int (nI L.length)])), (r, .inl (cA, cap, .inl f))]) [0, 1, 2, 4, 5, 6] rfl
    have hKc := hK.sub (tys' := [(cN, .byte), (cA, .byte)]) [0, 1] rfl
    have hDc := hD.sub (ws' := [(hp, .inr (6, [.ref hn])), (hn, .inr (5, [.ref rn, .int kN])), (rn, .inl (cN, 64, .inl fN)), (ha, .inr (0, [.int (nI kk), .long xv, .null])), (h, .inr (2, [.ref r, .int (nI L.length)])), (r, .inl (cA, cap, .inl f))]) [0, 1, 2, 4, 5, 6] (by decide) rfl
    have hFc := va_free (wc := [(hp, .inr (6, [.ref hn])), (hn, .inr (5, [.ref rn, .int kN])), (rn, .inl (cN, 64, .inl fN)), (ha, .inr (0, [.int (nI kk), .long xv, .null])), (h, .inr (2, [.ref r, .int (nI L.length)])), (r, .inl (cA, cap, .inl f))]) hD hS hA [0, 1, 2, 4, 5, 6] rfl
    refine zz_callv (va_runV (As := [.ref ha, .ref h]) (rest := []) ⟨hx, hb, hml, hown, hg⟩ (c_Pr_plainW l dC dI ad hp hn rn cN fN kN ha kk xv h r cA cap f L hwd hL hc hk s.heap.size) (cwV 2 hg (gi_V kw_231 kw_232 kw_233 kw_6 kw_234) rfl rfl rfl (by decide +kernel) ⟨Nat.le_of_ble_eq_true rfl, Nat.le_of_ble_eq_true rfl⟩) (zy_preV hX hS hFc hPc hKc hDc _ (q0 := 0) (ci := 6) rfl rfl) rfl rfl hl.1 rfl (lv_room (Nat.le_of_ble_eq_true rfl)) d_Pr_putArgument_36 ⟨Nat.le_of_ble_eq_true rfl, Nat.le_of_ble_eq_true rfl⟩) hS hFc (fun u H1 k9 p9 d9 => va_join (wr := [(hd, .inr (4, [.int dq, .int (by_z bm), .int (by_z bp), .int (by_z bz), .int (nI wd), .int (nI v)]))]) hP hD [0, 1, 2, 4, 5, 6] [3] rfl rfl (by decide) (by decide) k9 hFc p9 d9) (fun u H locs hw hP hD hK1 hS => ?_)
    obtain ⟨f1, k1, f3⟩ := u
    try dsimp only at hw
    have hP : va_P (dC, dI) vwCl [(hd, .inr (4, [.int dq, .int (by_z bm), .int (by_z bp), .int (by_z bz), .int (nI wd), .int (nI v)])), (hp, .inr (6, [.ref hn])), (hn, .inr (5, [.ref rn, .int k1])), (rn, .inl (cN, 64, .inl f1)), (ha, .inr (0, [.int (nI kk), .long xv, .null])), (h, .inr (2, [.ref r, .int (nI (by_ap cap L (kxB (ar_w kk xv))).length)])), (r, .inl (cA, cap, .inl f3))] H := hP
    have hD : va_D A [(hd, .inr (4, [.int dq, .int (by_z bm), .int (by_z bp), .int (by_z bz), .int (nI wd), .int (nI v)])), (hp, .inr (6, [.ref hn])), (hn, .inr (5, [.ref rn, .int k1])), (rn, .inl (cN, 64, .inl f1)), (ha, .inr (0, [.int (nI kk), .long xv, .null])), (h, .inr (2, [.ref r, .int (nI (by_ap cap L (kxB (ar_w kk xv))).length)])), (r, .inl (cA, cap, .inl f3))] := hD
    have hLp := hw
    refine lv_iconst (v := 1) hx hb d_Pr_putArgument_39 (by decide) ?_
    have hP9 := hP.sub (ws' := [(hp, .inr (6, [.ref hn])), (hn, .inr (5, [.ref rn, .int k1])), (rn, .inl (cN, 64, .inl f1)), (hd, .inr (4, [.int dq, .int (by_z bm), .int (by_z bp), .int (by_z bz), .int (nI wd), .int (nI v)])), (ha, .inr (0, [.int (nI kk), .long xv, .null])), (h, .inr (2, [.ref r, .int (nI (by_ap cap L (kxB (ar_w kk xv))).length)])), (r, .inl (cA, cap, .inl f3))]) [1, 2, 3, 0, 4, 5, 6] rfl
    have hD9 := hD.sub (ws' := [(hp, .inr (6, [.ref hn])), (hn, .inr (5, [.ref rn, .int k1])), (rn, .inl (cN, 64, .inl f1)), (hd, .inr (4, [.int dq, .int (by_z bm), .int (by_z bp), .int (by_z bz), .int (nI wd), .int (nI v)])), (ha, .inr (0, [.int (nI kk), .long xv, .null])), (h, .inr (2, [.ref r, .int (nI (by_ap cap L (kxB (ar_w kk xv))).length)])), (r, .inl (cA, cap, .inl f3))]) [1, 2, 3, 0, 4, 5, 6] (by decide) rfl
    have hK9 := hK.sub (tys' := [(cN, .byte), (cA, .byte)]) [0, 1] rfl
    rw [pa_wve (Or.inl f_16)] at hP9 hD9
    exact zz_zret hx hb hr hlocks d_Pr_putArgument_40 (by decide) hS (by first | exact Nat.le_refl _ | decide | omega | (dsimp only; omega)) (by first | exact Nat.le_refl _ | decide | omega | (dsimp only; omega)) (f1, k1, f3) (pa_wv (Or.inl f_16) hLp) hP9 hK9 hD9
  · skip
    have f_16 : v ≠ 118 := nI_ne (b := 118) c_16
    refine lv_iload hx hb d_Pr_putArgument_19 (lv_at hl 0 rfl) ?_
    refine lv_bipush (v := 116) hx hb d_Pr_putArgument_21 (by decide) ?_
    refine lv_icmp_ne (tgt := 41) hx hb d_Pr_putArgument_23 (by decide) (fun c_23 => ?_) (fun c_23 => ?_)
    · skip
      have f_23 : v ≠ 116 := nI_ne (b := 116) c_23
      refine lv_aload_n hx hb d_Pr_putArgument_41 rfl (lv_at hl 3 rfl) ?_
      have hPc := hP.sub (ws' := [(ha, .inr (0, [.int (nI kk), .long xv, .null]))]) [4] rfl
      have hKc := hK.sub (tys' := []) [] rfl
      refine va_csq (W.runV (As := []) (rest := []) ⟨hx, hb, hml, hown, hg⟩ (c_Ar_content0 l dC dI ha (nI kk) xv ) (cwV 0 hg (gi_V kw_235 kw_236 kw_237 kw_14 kw_238) rfl rfl rfl (by decide +kernel) ⟨Nat.le_of_ble_eq_true rfl, Nat.le_of_ble_eq_true rfl⟩) (zz_prJV hPc hKc _ (q0 := 0) (ci := 0) rfl rfl) rfl rfl hl.1 rfl (lv_room (Nat.le_of_ble_eq_true rfl)) d_Pr_putArgument_42 ⟨Nat.le_of_ble_eq_true rfl, Nat.le_of_ble_eq_true rfl⟩) (fun r_3 hr_3 => ?_)
      subst hr_3
      refine W.eq (g2 := F0 m 45 ls [.null]) rfl ?_
      refine lv_astoreN (lv' := [(5, .null), (4, .int (nI v)), (0, .ref hp), (1, .ref hd), (2, .ref ha), (3, .ref h)]) hx hb d_Pr_putArgument_45 hl (by decide) rfl (fun ls hl => ?_)
      refine lv_aloadN hx hb d_Pr_putArgument_47 (lv_at hl 0 rfl) ?_
      refine lv_ifnullN (tgt := 61) hx hb d_Pr_putArgument_49 (by decide) ?_
      refine lv_aload_n hx hb d_Pr_putArgument_61 rfl (lv_at hl 4 rfl) ?_
      have hPc := hP.sub (ws' := [(ha, .inr (0, [.int (nI kk), .long xv, .null]))]) [4] rfl
      have hKc := hK.sub (tys' := []) [] rfl
      refine vp_callSi (W.runV (As := []) (rest := []) ⟨hx, hb, hml, hown, hg⟩ (c_Ar_isNumber l dC dI ha (nI kk) xv .null ) (cwV 0 hg (gi_V kw_244 kw_245 kw_246 kw_14 kw_247) rfl rfl rfl (by decide +kernel) ⟨Nat.le_of_ble_eq_true rfl, Nat.le_of_ble_eq_true rfl⟩) (zz_prJV hPc hKc _ (q0 := 0) (ci := 0) rfl rfl) rfl rfl hl.1 rfl (lv_room (Nat.le_of_ble_eq_true rfl)) d_Pr_putArgument_62 ⟨Nat.le_of_ble_eq_true rfl, Nat.le_of_ble_eq_true rfl⟩) (fun r_4 hr_4 => ?_)
      rw [pp_i0 hwd] at hr_4
      subst hr_4
      refine lv_if_eq (tgt := 82) hx hb d_Pr_putArgument_65 (by decide) (fun _ => ?_) (fun c9 => by first | exact absurd c9 rfl | exact absurd rfl c9)
      refine lv_iconst (v := 0) hx hb d_Pr_putArgument_82 (by decide) ?_
      have hP9 := hP.sub (ws' := [(hp, .inr (6, [.ref hn])), (hn, .inr (5, [.ref rn, .int kN])), (rn, .inl (cN, 64, .inl fN)), (hd, .inr (4, [.int dq, .int (by_z bm), .int (by_z bp), .int (by_z bz), .int (nI wd), .int (nI v)])), (ha, .inr (0, [.int (nI kk), .long xv, .null])), (h, .inr (2, [.ref r, .int (nI L.length)])), (r, .inl (cA, cap, .inl f))]) [0, 1, 2, 3, 4, 5, 6] rfl
      have hD9 := hD.sub (ws' := [(hp, .inr (6, [.ref hn])), (hn, .inr (5, [.ref rn, .int kN])), (rn, .inl (cN, 64, .inl fN)), (hd, .inr (4, [.int dq, .int (by_z bm), .int (by_z bp), .int (by_z bz), .int (nI wd), .int (nI v)])), (ha, .inr (0, [.int (nI kk), .long xv, .null])), (h, .inr (2, [.ref r, .int (nI L.length)])), (r, .inl (cA, cap, .inl f))]) [0, 1, 2, 3, 4, 5, 6] (by decide) rfl
      have hK9 := hK.sub (tys' := [(cN, .byte), (cA, .byte)]) [0, 1] rfl
      rw [pa_w0e (v := v) (x := xv) hc f_16 (Or.inl f_23)] at hP9 hD9
      exact zz_zret hx hb hr hlocks d_Pr_putArgument_83 (by decide) hS (by first | exact Nat.le_refl _ | decide | omega | (dsimp only; omega)) (by first | exact Nat.le_refl _ | decide | omega | (dsimp only; omega)) (fN, kN, f) (px_t0 (pa_w0 f_16 (Or.inl f_23)) hc hL rfl) hP9 hK9 hD9
    · skip
      have f_23 : v = 116 := nI_e1 (b := 116) c_23 (by omega) (by omega)
      refine lv_aload_n hx hb d_Pr_putArgument_26 rfl (lv_at hl 3 rfl) ?_
      have hPc := hP.sub (ws' := [(ha, .inr (0, [.int (nI kk), .long xv, .null]))]) [4] rfl
      have hKc := hK.sub (tys' := []) [] rfl
      refine vp_callSi (W.runV (As := []) (rest := []) ⟨hx, hb, hml, hown, hg⟩ (c_Ar_isTruth l dC dI ha (nI kk) xv .null ) (cwV 0 hg (gi_V kw_227 kw_228 kw_229 kw_14 kw_230) rfl rfl rfl (by decide +kernel) ⟨Nat.le_of_ble_eq_true rfl, Nat.le_of_ble_eq_true rfl⟩) (zz_prJV hPc hKc _ (q0 := 0) (ci := 0) rfl rfl) rfl rfl hl.1 rfl (lv_room (Nat.le_of_ble_eq_true rfl)) d_Pr_putArgument_27 ⟨Nat.le_of_ble_eq_true rfl, Nat.le_of_ble_eq_true rfl⟩) (fun r_5 hr_5 => ?_)
      refine lv_if_eq (tgt := 41) hx hb d_Pr_putArgument_30 (by decide) (fun c_30 => ?_) (fun c_30 => ?_)
      · skip
        have hnt : ¬ kk = 2 := fun z => by have := by_z_f hr_5 c_30; rw [z] at this; exact absurd this (by decide)
        refine lv_aload_n hx hb d_Pr_putArgument_41 rfl (lv_at hl 3 rfl) ?_
        have hPc := hP.sub (ws' := [(ha, .inr (0, [.int (nI kk), .long xv, .null]))]) [4] rfl
        have hKc := hK.sub (tys' := []) [] rfl
        refine va_csq (W.runV (As := []) (rest := []) ⟨hx, hb, hml, hown, hg⟩ (c_Ar_content0 l dC dI ha (nI kk) xv ) (cwV 0 hg (gi_V kw_235 kw_236 kw_237 kw_14 kw_238) rfl rfl rfl (by decide +kernel) ⟨Nat.le_of_ble_eq_true rfl, Nat.le_of_ble_eq_true rfl⟩) (zz_prJV hPc hKc _ (q0 := 0) (ci := 0) rfl rfl) rfl rfl hl.1 rfl (lv_room (Nat.le_of_ble_eq_true rfl)) d_Pr_putArgument_42 ⟨Nat.le_of_ble_eq_true rfl, Nat.le_of_ble_eq_true rfl⟩) (fun r_6 hr_6 => ?_)
        subst hr_6
        refine W.eq (g2 := F0 m 45 ls [.null]) rfl ?_
        refine lv_astoreN (lv' := [(5, .null), (4, .int (nI v)), (0, .ref hp), (1, .ref hd), (2, .ref ha), (3, .ref h)]) hx hb d_Pr_putArgument_45 hl (by decide) rfl (fun ls hl => ?_)
        refine lv_aloadN hx hb d_Pr_putArgument_47 (lv_at hl 0 rfl) ?_
        refine lv_ifnullN (tgt := 61) hx hb d_Pr_putArgument_49 (by decide) ?_
        refine lv_aload_n hx hb d_Pr_putArgument_61 rfl (lv_at hl 4 rfl) ?_
        have hPc := hP.sub (ws' := [(ha, .inr (0, [.int (nI kk), .long xv, .null]))]) [4] rfl
        have hKc := hK.sub (tys' := []) [] rfl
        refine vp_callSi (W.runV (As := []) (rest := []) ⟨hx, hb, hml, hown, hg⟩ (c_Ar_isNumber l dC dI ha (nI kk) xv .null ) (cwV 0 hg (gi_V kw_244 kw_245 kw_246 kw_14 kw_247) rfl rfl rfl (by decide +kernel) ⟨Nat.le_of_ble_eq_true rfl, Nat.le_of_ble_eq_true rfl⟩) (zz_prJV hPc hKc _ (q0 := 0) (ci := 0) rfl rfl) rfl rfl hl.1 rfl (lv_room (Nat.le_of_ble_eq_true rfl)) d_Pr_putArgument_62 ⟨Nat.le_of_ble_eq_true rfl, Nat.le_of_ble_eq_true rfl⟩) (fun r_7 hr_7 => ?_)
        rw [pp_i0 hwd] at hr_7
        subst hr_7
        refine lv_if_eq (tgt := 82) hx hb d_Pr_putArgument_65 (by decide) (fun _ => ?_) (fun c9 => by first | exact absurd c9 rfl | exact absurd rfl c9)
        refine lv_iconst (v := 0) hx hb d_Pr_putArgument_82 (by decide) ?_
        have hP9 := hP.sub (ws' := [(hp, .inr (6, [.ref hn])), (hn, .inr (5, [.ref rn, .int kN])), (rn, .inl (cN, 64, .inl fN)), (hd, .inr (4, [.int dq, .int (by_z bm), .int (by_z bp), .int (by_z bz), .int (nI wd), .int (nI v)])), (ha, .inr (0, [.int (nI kk), .long xv, .null])), (h, .inr (2, [.ref r, .int (nI L.length)])), (r, .inl (cA, cap, .inl f))]) [0, 1, 2, 3, 4, 5, 6] rfl
        have hD9 := hD.sub (ws' := [(hp, .inr (6, [.ref hn])), (hn, .inr (5, [.ref rn, .int kN])), (rn, .inl (cN, 64, .inl fN)), (hd, .inr (4, [.int dq, .int (by_z bm), .int (by_z bp), .int (by_z bz), .int (nI wd), .int (nI v)])), (ha, .inr (0, [.int (nI kk), .long xv, .null])), (h, .inr (2, [.ref r, .int (nI L.length)])), (r, .inl (cA, cap, .inl f))]) [0, 1, 2, 3, 4, 5, 6] (by decide) rfl
        have hK9 := hK.sub (tys' := [(cN, .byte), (cA, .byte)]) [0, 1] rfl
        rw [pa_w0e (v := v) (x := xv) hc f_16 (Or.inr hnt)] at hP9 hD9
        exact zz_zret hx hb hr hlocks d_Pr_putArgument_83 (by decide) hS (by first | exact Nat.le_refl _ | decide | omega | (dsimp only; omega)) (by first | exact Nat.le_refl _ | decide | omega | (dsimp only; omega)) (fN, kN, f) (px_t0 (pa_w0 f_16 (Or.inr hnt)) hc hL rfl) hP9 hK9 hD9
      · skip
        have hnt : kk = 2 := nI_e1 (b := 2) (of_decide_eq_true (by_z_t hr_5 c_30)) (pa_kl hwd) (by decide)
        refine lv_aload_n hx hb d_Pr_putArgument_33 rfl (lv_at hl 1 rfl) ?_
        refine lv_aload_n hx hb d_Pr_putArgument_34 rfl (lv_at hl 3 rfl) ?_
        refine lv_aload_n hx hb d_Pr_putArgument_35 rfl (lv_at hl 4 rfl) ?_
        have hPc := hP.sub (ws' := [(hp, .inr (6, [.ref hn])), (hn, .inr (5, [.ref rn, .int kN])), (rn, .inl (cN, 64, .inl fN)), (ha, .inr (0, [.int (nI kk), .long xv, .null])), (h, .inr (2, [.ref r, .int (nI L.length)])), (r, .inl (cA, cap, .inl f))]) [0, 1, 2, 4, 5, 6] rfl
        have hKc := hK.sub (tys' := [(cN, .byte), (cA, .byte)]) [0, 1] rfl
        have hDc := hD.sub (ws' := [(hp, .inr (6, [.ref hn])), (hn, .inr (5, [.ref rn, .int kN])), (rn, .inl (cN, 64, .inl fN)), (ha, .inr (0, [.int (nI kk), .long xv, .null])), (h, .inr (2, [.ref r, .int (nI L.length)])), (r, .inl (cA, cap, .inl f))]) [0, 1, 2, 4, 5, 6] (by decide) rfl
        have hFc := va_free (wc := [(hp, .inr (6, [.ref hn])), (hn, .inr (5, [.ref rn, .int kN])), (rn, .inl (cN, 64, .inl fN)), (ha, .inr (0, [.int (nI kk), .long xv, .null])), (h, .inr (2, [.ref r, .int (nI L.length)])), (r, .inl (cA, cap, .inl f))]) hD hS hA [0, 1, 2, 4, 5, 6] rfl
        refine zz_callv (va_runV (As := [.ref ha, .ref h]) (rest := []) ⟨hx, hb, hml, hown, hg⟩ (c_Pr_plainW l dC dI ad hp hn rn cN fN kN ha kk xv h r cA cap f L hwd hL hc hk s.heap.size) (cwV 2 hg (gi_V kw_231 kw_232 kw_233 kw_6 kw_234) rfl rfl rfl (by decide +kernel) ⟨Nat.le_of_ble_eq_true rfl, Nat.le_of_ble_eq_true rfl⟩) (zy_preV hX hS hFc hPc hKc hDc _ (q0 := 0) (ci := 6) rfl rfl) rfl rfl hl.1 rfl (lv_room (Nat.le_of_ble_eq_true rfl)) d_Pr_putArgument_36 ⟨Nat.le_of_ble_eq_true rfl, Nat.le_of_ble_eq_true rfl⟩) hS hFc (fun u H1 k9 p9 d9 => va_join (wr := [(hd, .inr (4, [.int dq, .int (by_z bm), .int (by_z bp), .int (by_z bz), .int (nI wd), .int (nI v)]))]) hP hD [0, 1, 2, 4, 5, 6] [3] rfl rfl (by decide) (by decide) k9 hFc p9 d9) (fun u H locs hw hP hD hK1 hS => ?_)
        obtain ⟨f1, k1, f3⟩ := u
        try dsimp only at hw
        have hP : va_P (dC, dI) vwCl [(hd, .inr (4, [.int dq, .int (by_z bm), .int (by_z bp), .int (by_z bz), .int (nI wd), .int (nI v)])), (hp, .inr (6, [.ref hn])), (hn, .inr (5, [.ref rn, .int k1])), (rn, .inl (cN, 64, .inl f1)), (ha, .inr (0, [.int (nI kk), .long xv, .null])), (h, .inr (2, [.ref r, .int (nI (by_ap cap L (kxB (ar_w kk xv))).length)])), (r, .inl (cA, cap, .inl f3))] H := hP
        have hD : va_D A [(hd, .inr (4, [.int dq, .int (by_z bm), .int (by_z bp), .int (by_z bz), .int (nI wd), .int (nI v)])), (hp, .inr (6, [.ref hn])), (hn, .inr (5, [.ref rn, .int k1])), (rn, .inl (cN, 64, .inl f1)), (ha, .inr (0, [.int (nI kk), .long xv, .null])), (h, .inr (2, [.ref r, .int (nI (by_ap cap L (kxB (ar_w kk xv))).length)])), (r, .inl (cA, cap, .inl f3))] := hD
        have hLp := hw
        refine lv_iconst (v := 1) hx hb d_Pr_putArgument_39 (by decide) ?_
        have hP9 := hP.sub (ws' := [(hp, .inr (6, [.ref hn])), (hn, .inr (5, [.ref rn, .int k1])), (rn, .inl (cN, 64, .inl f1)), (hd, .inr (4, [.int dq, .int (by_z bm), .int (by_z bp), .int (by_z bz), .int (nI wd), .int (nI v)])), (ha, .inr (0, [.int (nI kk), .long xv, .null])), (h, .inr (2, [.ref r, .int (nI (by_ap cap L (kxB (ar_w kk xv))).length)])), (r, .inl (cA, cap, .inl f3))]) [1, 2, 3, 0, 4, 5, 6] rfl
        have hD9 := hD.sub (ws' := [(hp, .inr (6, [.ref hn])), (hn, .inr (5, [.ref rn, .int k1])), (rn, .inl (cN, 64, .inl f1)), (hd, .inr (4, [.int dq, .int (by_z bm), .int (by_z bp), .int (by_z bz), .int (nI wd), .int (nI v)])), (ha, .inr (0, [.int (nI kk), .long xv, .null])), (h, .inr (2, [.ref r, .int (nI (by_ap cap L (kxB (ar_w kk xv))).length)])), (r, .inl (cA, cap, .inl f3))]) [1, 2, 3, 0, 4, 5, 6] (by decide) rfl
        have hK9 := hK.sub (tys' := [(cN, .byte), (cA, .byte)]) [0, 1] rfl
        rw [pa_wve (Or.inr ⟨f_23, hnt⟩)] at hP9 hD9
        exact zz_zret hx hb hr hlocks d_Pr_putArgument_40 (by decide) hS (by first | exact Nat.le_refl _ | decide | omega | (dsimp only; omega)) (by first | exact Nat.le_refl _ | decide | omega | (dsimp only; omega)) (f1, k1, f3) (pa_wv (Or.inr ⟨f_23, hnt⟩) hLp) hP9 hK9 hD9
