/-! PRINTER: plain, numbers -/
/-- a number plain -/
def pp_n (k : Nat) (x : Int64) : List Nat := pn_l (ar_b (nI k) x) false 0 (nu_f 10 97 64 (ar_m (nI k) x))
def pp_w (bz bm : Bool) (wd : Nat) : Nat := if bz && !bm then wd else 0
/-- a number by a letter -/
def pp_x (v k : Nat) (x : Int64) (w : Nat) (q : Bool) : Option (List Nat) :=
  if v = 99 then some (ut_8 (ut_cn x.toInt)) else if v = 113 then some (qu_c (ut_cn x.toInt)) else (nu_s v (ar_m (nI k) x)).map (fun D => pn_l (ar_b (nI k) x) q w D)
theorem pp_i1 {k : Nat} (h : k = 0 ∨ k = 1) : by_z (decide (nI k = 0 ∨ nI k = 1)) = 1 := by rcases h with rfl | rfl <;> decide
theorem pp_i0 {k : Nat} {x : Int64} (h : (k = 2 ∧ (x = 0 ∨ x = 1)) ∨ (k = 4 ∧ ∃ j, j < 10 ∧ x = (nI j - 1).toInt64)) : by_z (decide (nI k = 0 ∨ nI k = 1)) = 0 := by rcases h with ⟨rfl, _⟩ | ⟨rfl, _⟩ <;> decide
theorem ar_wl {k : Nat} {x : Int64} (h : (k = 2 ∧ (x = 0 ∨ x = 1)) ∨ (k = 4 ∧ ∃ j, j < 10 ∧ x = (nI j - 1).toInt64)) : ar_w k x < kxN := by
  rcases h with ⟨rfl, rfl | rfl⟩ | ⟨rfl, j, hj, rfl⟩
  · decide
  · decide
  · rcases ar_j hj with rfl | rfl | rfl | rfl | rfl | rfl | rfl | rfl | rfl | rfl <;> decide
theorem pn_S0 {v n : Nat} {r : Int32} {f : Nat → Int32} {k : Int32} (h : pn_S v n r f k) (c : r = 0) : nu_s v n = none := by
  unfold pn_S at h
  cases e : nu_s v n with
  | none => rfl
  | some D => rw [e] at h; rw [h.1] at c; exact absurd c (by decide)
theorem pn_S1 {v n : Nat} {r : Int32} {f : Nat → Int32} {k : Int32} (h : pn_S v n r f k) (c : ¬ r = 0) : ∃ D, nu_s v n = some D ∧ by_L D f ∧ k = nI D.length := by
  unfold pn_S at h
  cases e : nu_s v n with
  | none => rw [e] at h; exact absurd h c
  | some D => rw [e] at h; exact ⟨D, rfl, h.2⟩
theorem pp_x0 {v k w : Nat} {x : Int64} {q : Bool} (h1 : v ≠ 99) (h2 : v ≠ 113) (h : nu_s v (ar_m (nI k) x) = none) : pp_x v k x w q = none := by
  unfold pp_x; rw [if_neg h1, if_neg h2, h]; rfl
theorem pp_we {bz bm : Bool} {wd : Nat} (hw : wd < 1000) : (if by_z bz ≠ 0 ∧ by_z bm = 0 then nI wd else 0) = nI (pp_w bz bm wd) := by
  cases bz <;> cases bm <;> first | rfl | (rw [if_pos (by decide)]; rfl) | (rw [if_neg (by decide)]; rfl)
theorem pp_wl {bz bm : Bool} {wd : Nat} (hw : wd < 1000) : pp_w bz bm wd < 1000 := by unfold pp_w; split <;> omega
theorem pp_cn (n : Int) : ut_cn n ≤ 1114111 := by
  unfold ut_cn
  by_cases h : ut_ok n = true
  · rw [if_pos h]; have := of_decide_eq_true h; omega
  · rw [if_neg h]; decide
theorem pp_xce {cap v k w : Nat} {x : Int64} {q : Bool} {L : List Nat} (h : v = 99) : by_ap cap L (ut_8 (ut_cn x.toInt)) = by_ap cap L ((pp_x v k x w q).getD []) := by subst h; rfl
theorem pp_xc {cap v k w : Nat} {x : Int64} {q : Bool} {L : List Nat} {f : Nat → Int32} (h : v = 99) (hL : by_L (by_ap cap L (ut_8 (ut_cn x.toInt))) f) : 1 = by_z (pp_x v k x w q).isSome ∧ by_L (by_ap cap L ((pp_x v k x w q).getD [])) f := by subst h; exact ⟨rfl, hL⟩
theorem pp_xqe {cap v k w : Nat} {x : Int64} {q : Bool} {L : List Nat} (h : v = 113) : by_ap cap L (qu_c (ut_cn x.toInt)) = by_ap cap L ((pp_x v k x w q).getD []) := by subst h; rfl
theorem pp_xq {cap v k w : Nat} {x : Int64} {q : Bool} {L : List Nat} {f : Nat → Int32} (h : v = 113) (hL : by_L (by_ap cap L (qu_c (ut_cn x.toInt))) f) : 1 = by_z (pp_x v k x w q).isSome ∧ by_L (by_ap cap L ((pp_x v k x w q).getD [])) f := by subst h; exact ⟨rfl, hL⟩
theorem pp_xD {v k w : Nat} {x : Int64} {q : Bool} {D : List Nat} (h1 : v ≠ 99) (h2 : v ≠ 113) (h : nu_s v (ar_m (nI k) x) = some D) : pp_x v k x w q = some (pn_l (ar_b (nI k) x) q w D) := by
  unfold pp_x; rw [if_neg h1, if_neg h2, h]; rfl
theorem pp_xde {cap v k w : Nat} {x : Int64} {q : Bool} {L D : List Nat} (h1 : v ≠ 99) (h2 : v ≠ 113) (h : nu_s v (ar_m (nI k) x) = some D) : by_ap cap L (pn_l (ar_b (nI k) x) q w D) = by_ap cap L ((pp_x v k x w q).getD []) := by rw [pp_xD h1 h2 h]; rfl
theorem pp_xd {cap v k w : Nat} {x : Int64} {q : Bool} {L D : List Nat} {f : Nat → Int32} (h1 : v ≠ 99) (h2 : v ≠ 113) (h : nu_s v (ar_m (nI k) x) = some D) (hL : by_L (by_ap cap L (pn_l (ar_b (nI k) x) q w D)) f) : 1 = by_z (pp_x v k x w q).isSome ∧ by_L (by_ap cap L ((pp_x v k x w q).getD [])) f := by
  rw [pp_xD h1 h2 h]; exact ⟨rfl, hL⟩
theorem pp_dl {v n : Nat} {D : List Nat} (h : nu_s v n = some D) : D.length ≤ 64 := by
  unfold nu_s at h
  split at h
  · rw [← Option.some.inj h]; exact nu_fl64 _ _
  split at h
  · rw [← Option.some.inj h]; exact nu_fl64 _ _
  split at h
  · rw [← Option.some.inj h]; exact nu_fl64 _ _
  split at h
  · rw [← Option.some.inj h]; exact nu_fl64 _ _
  split at h
  · rw [← Option.some.inj h]; exact nu_fl64 _ _
  · cases h
def pa_n (v k : Nat) (x : Int64) (w : Nat) (q : Bool) : Option (List Nat) := if v = 118 then some (pp_n k x) else pp_x v k x w q
def pa_t (v : Nat) (B : List Nat) : Option (List Nat) := if v = 118 then some B else px_t v B
def pa_w (v k : Nat) (x : Int64) : Option (List Nat) := if v = 118 ∨ (v = 116 ∧ k = 2) then some (kxB (ar_w k x)) else none
abbrev y_Pr_putPlain : MethodName := ⟨"TextForge$Printer", "putPlain", "(LTextForge$Argument;LTextForge$Bytes;)V"⟩
abbrev w_Pr_putPlain : List Cond := Cond.code y_Pr_putPlain prog_8_method_2_code 4 none :: gw
theorem d_Pr_putPlain_0 : decode prog_8_method_2_code 0 = .ok (.aload_n 1, 1) := by decide +kernel
theorem d_Pr_putPlain_1 : decode prog_8_method_2_code 1 = .ok (.ifnonnull 4, 3) := by decide +kernel
theorem d_Pr_putPlain_4 : decode prog_8_method_2_code 4 = .ok (.return_, 1) := by decide +kernel
theorem d_Pr_putPlain_5 : decode prog_8_method_2_code 5 = .ok (.aload_n 1, 1) := by decide +kernel
theorem d_Pr_putPlain_6 : decode prog_8_method_2_code 6 = .ok (.invokevirtual 16, 3) := by decide +kernel
theorem d_Pr_putPlain_9 : decode prog_8_method_2_code 9 = .ok (.astore_n 3, 1) := by decide +kernel
theorem d_Pr_putPlain_10 : decode prog_8_method_2_code 10 = .ok (.aload_n 3, 1) := by decide +kernel
theorem d_Pr_putPlain_11 : decode prog_8_method_2_code 11 = .ok (.ifnull 16, 3) := by decide +kernel
theorem d_Pr_putPlain_14 : decode prog_8_method_2_code 14 = .ok (.aload_n 2, 1) := by decide +kernel
theorem d_Pr_putPlain_15 : decode prog_8_method_2_code 15 = .ok (.aload_n 3, 1) := by decide +kernel
theorem d_Pr_putPlain_16 : decode prog_8_method_2_code 16 = .ok (.iconst 0, 1) := by decide +kernel
theorem d_Pr_putPlain_17 : decode prog_8_method_2_code 17 = .ok (.aload_n 3, 1) := by decide +kernel
theorem d_Pr_putPlain_18 : decode prog_8_method_2_code 18 = .ok (.invokevirtual 22, 3) := by decide +kernel
theorem d_Pr_putPlain_21 : decode prog_8_method_2_code 21 = .ok (.invokevirtual 28, 3) := by decide +kernel
theorem d_Pr_putPlain_24 : decode prog_8_method_2_code 24 = .ok (.goto 43, 3) := by decide +kernel
theorem d_Pr_putPlain_27 : decode prog_8_method_2_code 27 = .ok (.aload_n 1, 1) := by decide +kernel
theorem d_Pr_putPlain_28 : decode prog_8_method_2_code 28 = .ok (.invokevirtual 32, 3) := by decide +kernel
theorem d_Pr_putPlain_31 : decode prog_8_method_2_code 31 = .ok (.ifCond .eq 28, 3) := by decide +kernel
theorem d_Pr_putPlain_34 : decode prog_8_method_2_code 34 = .ok (.aload_n 0, 1) := by decide +kernel
theorem d_Pr_putPlain_35 : decode prog_8_method_2_code 35 = .ok (.getfield 10, 3) := by decide +kernel
theorem d_Pr_putPlain_38 : decode prog_8_method_2_code 38 = .ok (.aload_n 1, 1) := by decide +kernel
theorem d_Pr_putPlain_39 : decode prog_8_method_2_code 39 = .ok (.invokevirtual 36, 3) := by decide +kernel
theorem d_Pr_putPlain_42 : decode prog_8_method_2_code 42 = .ok (.invokevirtual 40, 3) := by decide +kernel
theorem d_Pr_putPlain_45 : decode prog_8_method_2_code 45 = .ok (.aload_n 0, 1) := by decide +kernel
theorem d_Pr_putPlain_46 : decode prog_8_method_2_code 46 = .ok (.aload_n 1, 1) := by decide +kernel
theorem d_Pr_putPlain_47 : decode prog_8_method_2_code 47 = .ok (.invokevirtual 44, 3) := by decide +kernel
theorem d_Pr_putPlain_50 : decode prog_8_method_2_code 50 = .ok (.iconst 0, 1) := by decide +kernel
theorem d_Pr_putPlain_51 : decode prog_8_method_2_code 51 = .ok (.iconst 0, 1) := by decide +kernel
theorem d_Pr_putPlain_52 : decode prog_8_method_2_code 52 = .ok (.aload_n 2, 1) := by decide +kernel
theorem d_Pr_putPlain_53 : decode prog_8_method_2_code 53 = .ok (.invokevirtual 47, 3) := by decide +kernel
theorem d_Pr_putPlain_56 : decode prog_8_method_2_code 56 = .ok (.goto 11, 3) := by decide +kernel
theorem d_Pr_putPlain_59 : decode prog_8_method_2_code 59 = .ok (.aload_n 2, 1) := by decide +kernel
theorem d_Pr_putPlain_60 : decode prog_8_method_2_code 60 = .ok (.aload_n 1, 1) := by decide +kernel
theorem d_Pr_putPlain_61 : decode prog_8_method_2_code 61 = .ok (.invokevirtual 51, 3) := by decide +kernel
theorem d_Pr_putPlain_64 : decode prog_8_method_2_code 64 = .ok (.invokevirtual 55, 3) := by decide +kernel
theorem d_Pr_putPlain_67 : decode prog_8_method_2_code 67 = .ok (.return_, 1) := by decide +kernel
set_option maxHeartbeats 4000000 in
set_option maxRecDepth 100000 in
theorem c_Pr_plainT (l : Launch) (dC : Nat → ClassId) (dI : Nat → Nat → Nat) (ad : Nat → Nat) (hp hn rn : Nat) (cN : ClassId) (fN : Nat → Int32) (kN : Int32) (ha : Nat) (xv : Int64) (h2 r2 : Nat) (cA2 : ClassId) (cap2 : Nat) (f2 : Nat → Int32) (L2 : List Nat) (h r : Nat) (cA : ClassId) (cap : Nat) (f : Nat → Int32) (L : List Nat) (hL2 : by_L L2 f2) (hc2 : L2.length ≤ cap2) (hk2 : cap2 < 1000000) (hL : by_L L f) (hc : L.length ≤ cap) (hk : cap < 2147483648) : yM_v (S := (Nat → Int32) × Int32 × (Nat → Int32)) ad l y_Pr_putPlain w_Pr_putPlain { frames := 2, cells := 0, slots := 0, locals := 45 } (dC, dI) vwCl [.ref hp, .ref ha, .ref h] [(hp, .inr (6, [.ref hn])), (hn, .inr (5, [.ref rn, .int kN])), (rn, .inl (cN, 64, .inl fN)), (ha, .inr (0, [.int (nI 3), .long xv, .ref h2])), (h2, .inr (2, [.ref r2, .int (nI L2.length)])), (r2, .inl (cA2, cap2, .inl f2)), (h, .inr (2, [.ref r, .int (nI L.length)])), (r, .inl (cA, cap, .inl f))] [(cN, .byte), (cA, .byte), (cA2, .byte)] (fun (u : (Nat → Int32) × Int32 × (Nat → Int32)) => match u with | (f1, k1, f3) => by_L (by_ap cap L L2) f3) (fun u => match u with | (f1, k1, f3) => [(hp, .inr (6, [.ref hn])), (hn, .inr (5, [.ref rn, .int k1])), (rn, .inl (cN, 64, .inl f1)), (ha, .inr (0, [.int (nI 3), .long xv, .ref h2])), (h2, .inr (2, [.ref r2, .int (nI L2.length)])), (r2, .inl (cA2, cap2, .inl f2)), (h, .inr (2, [.ref r, .int (nI (by_ap cap L L2).length)])), (r, .inl (cA, cap, .inl f3))]) (fun u => match u with | (f1, k1, f3) => [(cN, .byte), (cA, .byte), (cA2, .byte)]) 0 0 := by
  refine zy_enterv (cc := prog_8_method_2_code) (nL := 4) (ret := none) (by decide) rfl (Nat.le_of_ble_eq_true rfl) ?_
  intro p e s m below meth c A ls C0 hA hS hP hK hD hl hX
  obtain ⟨hx, hb, hml, hown, hg, hr, hlocks, hin⟩ := C0
  have hown : s.vm.findClass "TextForge$Printer" = some m.cls := hown
  have hP : va_P (dC, dI) vwCl [(hp, .inr (6, [.ref hn])), (hn, .inr (5, [.ref rn, .int kN])), (rn, .inl (cN, 64, .inl fN)), (ha, .inr (0, [.int (nI 3), .long xv, .ref h2])), (h2, .inr (2, [.ref r2, .int (nI L2.length)])), (r2, .inl (cA2, cap2, .inl f2)), (h, .inr (2, [.ref r, .int (nI L.length)])), (r, .inl (cA, cap, .inl f))] s.heap := hP
  have hK : va_K (dC, dI) vwCl [(cN, .byte), (cA, .byte), (cA2, .byte)] s := hK
  have hD : va_D A [(hp, .inr (6, [.ref hn])), (hn, .inr (5, [.ref rn, .int kN])), (rn, .inl (cN, 64, .inl fN)), (ha, .inr (0, [.int (nI 3), .long xv, .ref h2])), (h2, .inr (2, [.ref r2, .int (nI L2.length)])), (r2, .inl (cA2, cap2, .inl f2)), (h, .inr (2, [.ref r, .int (nI L.length)])), (r, .inl (cA, cap, .inl f))] := hD
  have hl : lv_has ls 4 [(0, .ref hp), (1, .ref ha), (2, .ref h)] := hl
  refine lv_aload_n hx hb d_Pr_putPlain_0 rfl (lv_at hl 1 rfl) ?_
  refine lv_ifnonnull (tgt := 5) hx hb d_Pr_putPlain_1 (by decide) ?_
  refine lv_aload_n hx hb d_Pr_putPlain_5 rfl (lv_at hl 1 rfl) ?_
  have hPc := hP.sub (ws' := [(ha, .inr (0, [.int (nI 3), .long xv, .ref h2]))]) [3] rfl
  have hKc := hK.sub (tys' := []) [] rfl
  refine va_csq (W.runV (As := []) (rest := []) ⟨hx, hb, hml, hown, hg⟩ (c_Ar_contentR l dC dI ha (nI 3) xv h2 ) (cwV 0 hg (gi_V kw_235 kw_236 kw_237 kw_14 kw_238) rfl rfl rfl (by decide +kernel) ⟨Nat.le_of_ble_eq_true rfl, Nat.le_of_ble_eq_true rfl⟩) (zz_prJV hPc hKc _ (q0 := 0) (ci := 0) rfl rfl) rfl rfl hl.1 rfl (lv_room (Nat.le_of_ble_eq_true rfl)) d_Pr_putPlain_6 ⟨Nat.le_of_ble_eq_true rfl, Nat.le_of_ble_eq_true rfl⟩) (fun r_1 hr_1 => ?_)
  subst hr_1
  refine W.eq (g2 := F0 m 9 ls [.ref h2]) rfl ?_
  refine lv_astore_n (lv' := [(3, .ref h2), (0, .ref hp), (1, .ref ha), (2, .ref h)]) hx hb d_Pr_putPlain_9 rfl hl (by decide) rfl (fun ls hl => ?_)
  refine lv_aload_n hx hb d_Pr_putPlain_10 rfl (lv_at hl 0 rfl) ?_
  refine lv_ifnull hx hb d_Pr_putPlain_11 ?_
  refine lv_aload_n hx hb d_Pr_putPlain_14 rfl (lv_at hl 3 rfl) ?_
  refine lv_aload_n hx hb d_Pr_putPlain_15 rfl (lv_at hl 0 rfl) ?_
  refine lv_iconst (v := 0) hx hb d_Pr_putPlain_16 (by decide) ?_
  refine lv_aload_n hx hb d_Pr_putPlain_17 rfl (lv_at hl 0 rfl) ?_
  have hPc := hP.sub (ws' := [(h2, .inr (2, [.ref r2, .int (nI L2.length)]))]) [4] rfl
  have hKc := hK.sub (tys' := []) [] rfl
  refine vp_callSi (W.runV (As := []) (rest := [.int 0, .ref h2, .ref h]) ⟨hx, hb, hml, hown, hg⟩ (c_By_length l dC dI h2 (.ref r2) (nI L2.length) ) (cwV 0 hg (gi_V kw_214 kw_158 kw_159 kw_2 kw_160) rfl rfl rfl (by decide +kernel) ⟨Nat.le_of_ble_eq_true rfl, Nat.le_of_ble_eq_true rfl⟩) (zz_prJV hPc hKc _ (q0 := 0) (ci := 2) rfl rfl) rfl rfl hl.1 rfl (lv_room (Nat.le_of_ble_eq_true rfl)) d_Pr_putPlain_18 ⟨Nat.le_of_ble_eq_true rfl, Nat.le_of_ble_eq_true rfl⟩) (fun r_2 hr_2 => ?_)
  subst hr_2
  have hPc := hP.sub (ws' := [(h, .inr (2, [.ref r, .int (nI L.length)])), (r, .inl (cA, cap, .inl f)), (h2, .inr (2, [.ref r2, .int (nI L2.length)])), (r2, .inl (cA2, cap2, .inl f2))]) [6, 7, 4, 5] rfl
  have hKc := hK.sub (tys' := [(cA, .byte), (cA2, .byte)]) [1, 2] rfl
  have hDc := hD.sub (ws' := [(h, .inr (2, [.ref r, .int (nI L.length)])), (r, .inl (cA, cap, .inl f)), (h2, .inr (2, [.ref r2, .int (nI L2.length)])), (r2, .inl (cA2, cap2, .inl f2))]) [6, 7, 4, 5] (by decide) rfl
  have hFc := va_free (wc := [(h, .inr (2, [.ref r, .int (nI L.length)])), (r, .inl (cA, cap, .inl f)), (h2, .inr (2, [.ref r2, .int (nI L2.length)])), (r2, .inl (cA2, cap2, .inl f2))]) hD hS hA [6, 7, 4, 5] rfl
  refine zz_callv (va_runV (As := [.ref h2, .int 0, .int (nI L2.length)]) (rest := []) ⟨hx, hb, hml, hown, hg⟩ (c_By_addPart l dC dI h r cA cap f L h2 r2 cA2 cap2 f2 L2 0 L2.length 0 (nI L2.length) hL hc hk hL2 hc2 (by omega) rfl (by rw [Nat.zero_add]) (by omega) s.heap.size) (cwV 3 hg (gi_V kw_239 kw_240 kw_241 kw_2 kw_242) rfl rfl rfl (by decide +kernel) ⟨Nat.le_of_ble_eq_true rfl, Nat.le_of_ble_eq_true rfl⟩) (zz_preV hPc hKc hDc _ (q0 := 0) (ci := 2) rfl rfl) rfl rfl hl.1 rfl (lv_room (Nat.le_of_ble_eq_true rfl)) d_Pr_putPlain_21 ⟨Nat.le_of_ble_eq_true rfl, Nat.le_of_ble_eq_true rfl⟩) hS hFc (fun u H1 k9 p9 d9 => va_join (wr := [(hp, .inr (6, [.ref hn])), (hn, .inr (5, [.ref rn, .int kN])), (rn, .inl (cN, 64, .inl fN)), (ha, .inr (0, [.int (nI 3), .long xv, .ref h2]))]) hP hD [6, 7, 4, 5] [0, 1, 2, 3] rfl rfl (by decide) (by decide) k9 hFc p9 d9) (fun u H locs hw hP hD hK1 hS => ?_)
  obtain ⟨u_3, rfl⟩ : ∃ z, z = u := ⟨_, rfl⟩
  try dsimp only at hw
  have hP : va_P (dC, dI) vwCl [(hp, .inr (6, [.ref hn])), (hn, .inr (5, [.ref rn, .int kN])), (rn, .inl (cN, 64, .inl fN)), (ha, .inr (0, [.int (nI 3), .long xv, .ref h2])), (h, .inr (2, [.ref r, .int (nI (by_ap cap L (by_sg L2 0 L2.length)).length)])), (r, .inl (cA, cap, .inl u_3)), (h2, .inr (2, [.ref r2, .int (nI L2.length)])), (r2, .inl (cA2, cap2, .inl f2))] H := hP
  have hD : va_D A [(hp, .inr (6, [.ref hn])), (hn, .inr (5, [.ref rn, .int kN])), (rn, .inl (cN, 64, .inl fN)), (ha, .inr (0, [.int (nI 3), .long xv, .ref h2])), (h, .inr (2, [.ref r, .int (nI (by_ap cap L (by_sg L2 0 L2.length)).length)])), (r, .inl (cA, cap, .inl u_3)), (h2, .inr (2, [.ref r2, .int (nI L2.length)])), (r2, .inl (cA2, cap2, .inl f2))] := hD
  have hLp := hw
  refine lv_goto (tgt := 67) hx hb d_Pr_putPlain_24 (by decide) ?_
  have hP9 := hP.sub (ws' := [(hp, .inr (6, [.ref hn])), (hn, .inr (5, [.ref rn, .int kN])), (rn, .inl (cN, 64, .inl fN)), (ha, .inr (0, [.int (nI 3), .long xv, .ref h2])), (h2, .inr (2, [.ref r2, .int (nI L2.length)])), (r2, .inl (cA2, cap2, .inl f2)), (h, .inr (2, [.ref r, .int (nI (by_ap cap L (by_sg L2 0 L2.length)).length)])), (r, .inl (cA, cap, .inl u_3))]) [0, 1, 2, 3, 6, 7, 4, 5] rfl
  have hD9 := hD.sub (ws' := [(hp, .inr (6, [.ref hn])), (hn, .inr (5, [.ref rn, .int kN])), (rn, .inl (cN, 64, .inl fN)), (ha, .inr (0, [.int (nI 3), .long xv, .ref h2])), (h2, .inr (2, [.ref r2, .int (nI L2.length)])), (r2, .inl (cA2, cap2, .inl f2)), (h, .inr (2, [.ref r, .int (nI (by_ap cap L (by_sg L2 0 L2.length)).length)])), (r, .inl (cA, cap, .inl u_3))]) [0, 1, 2, 3, 6, 7, 4, 5] (by decide) rfl
  have hK9 := hK.sub (tys' := [(cN, .byte), (cA, .byte), (cA2, .byte)]) [0, 1, 2] rfl
  rw [px_all] at hP9 hD9
  exact zz_vret hx hb hr hlocks d_Pr_putPlain_67 hS (by first | exact Nat.le_refl _ | decide | omega | (dsimp only; omega)) (by first | exact Nat.le_refl _ | decide | omega | (dsimp only; omega)) (fN, kN, u_3) (by rw [px_all] at hLp; exact hLp) hP9 hK9 hD9
set_option maxHeartbeats 4000000 in
set_option maxRecDepth 100000 in
theorem c_Pr_plainW (l : Launch) (dC : Nat → ClassId) (dI : Nat → Nat → Nat) (ad : Nat → Nat) (hp hn rn : Nat) (cN : ClassId) (fN : Nat → Int32) (kN : Int32) (ha : Nat) (kk : Nat) (xv : Int64) (h r : Nat) (cA : ClassId) (cap : Nat) (f : Nat → Int32) (L : List Nat) (hwd : (kk = 2 ∧ (xv = 0 ∨ xv = 1)) ∨ (kk = 4 ∧ ∃ j, j < 10 ∧ xv = (nI j - 1).toInt64)) (hL : by_L L f) (hc : L.length ≤ cap) (hk : cap < 2147483648) : yM_v (S := (Nat → Int32) × Int32 × (Nat → Int32)) ad l y_Pr_putPlain w_Pr_putPlain { frames := 5, cells := 0, slots := 0, locals := 107 } (dC, dI) vwCl [.ref hp, .ref ha, .ref h] [(hp, .inr (6, [.ref hn])), (hn, .inr (5, [.ref rn, .int kN])), (rn, .inl (cN, 64, .inl fN)), (ha, .inr (0, [.int (nI kk), .long xv, .null])), (h, .inr (2, [.ref r, .int (nI L.length)])), (r, .inl (cA, cap, .inl f))] [(cN, .byte), (cA, .byte)] (fun (u : (Nat → Int32) × Int32 × (Nat → Int32)) => match u with | (f1, k1, f3) => by_L (by_ap cap L (kxB (ar_w kk xv))) f3) (fun u => match u with | (f1, k1, f3) => [(hp, .inr (6, [.ref hn])), (hn, .inr (5, [.ref rn, .int k1])), (rn, .inl (cN, 64, .inl f1)), (ha, .inr (0, [.int (nI kk), .long xv, .null])), (h, .inr (2, [.ref r, .int (nI (by_ap cap L (kxB (ar_w kk xv))).length)])), (r, .inl (cA, cap, .inl f3))]) (fun u => match u with | (f1, k1, f3) => [(cN, .byte), (cA, .byte)]) 0 0 := by
  refine zy_enterv (cc := prog_8_method_2_code) (nL := 4) (ret := none) (by decide) rfl (Nat.le_of_ble_eq_true rfl) ?_
  intro p e s m below meth c A ls C0 hA hS hP hK hD hl hX
  obtain ⟨hx, hb, hml, hown, hg, hr, hlocks, hin⟩ := C0
  have hown : s.vm.findClass "TextForge$Printer" = some m.cls := hown
  have hP : va_P (dC, dI) vwCl [(hp, .inr (6, [.ref hn])), (hn, .inr (5, [.ref rn, .int kN])), (rn, .inl (cN, 64, .inl fN)), (ha, .inr (0, [.int (nI kk), .long xv, .null])), (h, .inr (2, [.ref r, .int (nI L.length)])), (r, .inl (cA, cap, .inl f))] s.heap := hP
  have hK : va_K (dC, dI) vwCl [(cN, .byte), (cA, .byte)] s := hK
  have hD : va_D A [(hp, .inr (6, [.ref hn])), (hn, .inr (5, [.ref rn, .int kN])), (rn, .inl (cN, 64, .inl fN)), (ha, .inr (0, [.int (nI kk), .long xv, .null])), (h, .inr (2, [.ref r, .int (nI L.length)])), (r, .inl (cA, cap, .inl f))] := hD
  have hl : lv_has ls 4 [(0, .ref hp), (1, .ref ha), (2, .ref h)] := hl
  refine lv_aload_n hx hb d_Pr_putPlain_0 rfl (lv_at hl 1 rfl) ?_
  refine lv_ifnonnull (tgt := 5) hx hb d_Pr_putPlain_1 (by decide) ?_
  refine lv_aload_n hx hb d_Pr_putPlain_5 rfl (lv_at hl 1 rfl) ?_
  have hPc := hP.sub (ws' := [(ha, .inr (0, [.int (nI kk), .long xv, .null]))]) [3] rfl
  have hKc := hK.sub (tys' := []) [] rfl
  refine va_csq (W.runV (As := []) (rest := []) ⟨hx, hb, hml, hown, hg⟩ (c_Ar_content0 l dC dI ha (nI kk) xv ) (cwV 0 hg (gi_V kw_235 kw_236 kw_237 kw_14 kw_238) rfl rfl rfl (by decide +kernel) ⟨Nat.le_of_ble_eq_true rfl, Nat.le_of_ble_eq_true rfl⟩) (zz_prJV hPc hKc _ (q0 := 0) (ci := 0) rfl rfl) rfl rfl hl.1 rfl (lv_room (Nat.le_of_ble_eq_true rfl)) d_Pr_putPlain_6 ⟨Nat.le_of_ble_eq_true rfl, Nat.le_of_ble_eq_true rfl⟩) (fun r_1 hr_1 => ?_)
  subst hr_1
  refine W.eq (g2 := F0 m 9 ls [.null]) rfl ?_
  refine lv_astore_nN (lv' := [(3, .null), (0, .ref hp), (1, .ref ha), (2, .ref h)]) hx hb d_Pr_putPlain_9 rfl hl (by decide) rfl (fun ls hl => ?_)
  refine lv_aload_nN hx hb d_Pr_putPlain_10 rfl (lv_at hl 0 rfl) ?_
  refine lv_ifnullN (tgt := 27) hx hb d_Pr_putPlain_11 (by decide) ?_
  refine lv_aload_n hx hb d_Pr_putPlain_27 rfl (lv_at hl 2 rfl) ?_
  have hPc := hP.sub (ws' := [(ha, .inr (0, [.int (nI kk), .long xv, .null]))]) [3] rfl
  have hKc := hK.sub (tys' := []) [] rfl
  refine vp_callSi (W.runV (As := []) (rest := []) ⟨hx, hb, hml, hown, hg⟩ (c_Ar_isNumber l dC dI ha (nI kk) xv .null ) (cwV 0 hg (gi_V kw_244 kw_245 kw_246 kw_14 kw_247) rfl rfl rfl (by decide +kernel) ⟨Nat.le_of_ble_eq_true rfl, Nat.le_of_ble_eq_true rfl⟩) (zz_prJV hPc hKc _ (q0 := 0) (ci := 0) rfl rfl) rfl rfl hl.1 rfl (lv_room (Nat.le_of_ble_eq_true rfl)) d_Pr_putPlain_28 ⟨Nat.le_of_ble_eq_true rfl, Nat.le_of_ble_eq_true rfl⟩) (fun r_2 hr_2 => ?_)
  rw [pp_i0 hwd] at hr_2
  subst hr_2
  refine lv_if_eq (tgt := 59) hx hb d_Pr_putPlain_31 (by decide) (fun _ => ?_) (fun c9 => by first | exact absurd c9 rfl | exact absurd rfl c9)
  refine lv_aload_n hx hb d_Pr_putPlain_59 rfl (lv_at hl 3 rfl) ?_
  refine lv_aload_n hx hb d_Pr_putPlain_60 rfl (lv_at hl 2 rfl) ?_
  have hPc := hP.sub (ws' := [(ha, .inr (0, [.int (nI kk), .long xv, .null]))]) [3] rfl
  have hKc := hK.sub (tys' := []) [] rfl
  refine va_csq (W.runV (As := []) (rest := [.ref h]) ⟨hx, hb, hml, hown, hg⟩ (c_Ar_word l dC dI ad ha kk xv hwd) (cwV 0 hg (gi_V kw_284 kw_285 kw_286 kw_14 kw_287) rfl rfl rfl (by decide +kernel) ⟨Nat.le_of_ble_eq_true rfl, Nat.le_of_ble_eq_true rfl⟩) (zy_prJV hX hS hPc hKc _ (q0 := 0) (ci := 0) rfl rfl) rfl rfl hl.1 rfl (lv_room (Nat.le_of_ble_eq_true rfl)) d_Pr_putPlain_61 ⟨Nat.le_of_ble_eq_true rfl, Nat.le_of_ble_eq_true rfl⟩) (fun r_3 hr_3 => ?_)
  subst hr_3
  refine W.eq (g2 := F0 m 64 ls [.ref (ad (ar_w kk xv)), .ref h]) rfl ?_
  have hPc := hP.sub (ws' := [(h, .inr (2, [.ref r, .int (nI L.length)])), (r, .inl (cA, cap, .inl f))]) [4, 5] rfl
  have hKc := hK.sub (tys' := [(cA, .byte)]) [1] rfl
  have hDc := hD.sub (ws' := [(h, .inr (2, [.ref r, .int (nI L.length)])), (r, .inl (cA, cap, .inl f))]) [4, 5] (by decide) rfl
  have hFc := va_free (wc := [(h, .inr (2, [.ref r, .int (nI L.length)])), (r, .inl (cA, cap, .inl f))]) hD hS hA [4, 5] rfl
  refine zz_callv (va_runV (As := [.ref (ad (ar_w kk xv))]) (rest := []) ⟨hx, hb, hml, hown, hg⟩ (c_By_addWord l dC dI ad h r cA cap f L (ar_w kk xv) hL hc hk (ar_wl hwd) s.heap.size) (cwV 1 hg (gi_V kw_300 kw_301 kw_302 kw_2 kw_303) rfl rfl rfl (by decide +kernel) ⟨Nat.le_of_ble_eq_true rfl, Nat.le_of_ble_eq_true rfl⟩) (zy_preV hX hS hFc hPc hKc hDc _ (q0 := 0) (ci := 2) rfl rfl) rfl rfl hl.1 rfl (lv_room (Nat.le_of_ble_eq_true rfl)) d_Pr_putPlain_64 ⟨Nat.le_of_ble_eq_true rfl, Nat.le_of_ble_eq_true rfl⟩) hS hFc (fun u H1 k9 p9 d9 => va_join (wr := [(hp, .inr (6, [.ref hn])), (hn, .inr (5, [.ref rn, .int kN])), (rn, .inl (cN, 64, .inl fN)), (ha, .inr (0, [.int (nI kk), .long xv, .null]))]) hP hD [4, 5] [0, 1, 2, 3] rfl rfl (by decide) (by decide) k9 hFc p9 d9) (fun u H locs hw hP hD hK1 hS => ?_)
  obtain ⟨u_4, rfl⟩ : ∃ z, z = u := ⟨_, rfl⟩
  try dsimp only at hw
  have hP : va_P (dC, dI) vwCl [(hp, .inr (6, [.ref hn])), (hn, .inr (5, [.ref rn, .int kN])), (rn, .inl (cN, 64, .inl fN)), (ha, .inr (0, [.int (nI kk), .long xv, .null])), (h, .inr (2, [.ref r, .int (nI (by_ap cap L (kxB (ar_w kk xv))).length)])), (r, .inl (cA, cap, .inl u_4))] H := hP
  have hD : va_D A [(hp, .inr (6, [.ref hn])), (hn, .inr (5, [.ref rn, .int kN])), (rn, .inl (cN, 64, .inl fN)), (ha, .inr (0, [.int (nI kk), .long xv, .null])), (h, .inr (2, [.ref r, .int (nI (by_ap cap L (kxB (ar_w kk xv))).length)])), (r, .inl (cA, cap, .inl u_4))] := hD
  have hLp := hw
  have hP9 := hP.sub (ws' := [(hp, .inr (6, [.ref hn])), (hn, .inr (5, [.ref rn, .int kN])), (rn, .inl (cN, 64, .inl fN)), (ha, .inr (0, [.int (nI kk), .long xv, .null])), (h, .inr (2, [.ref r, .int (nI (by_ap cap L (kxB (ar_w kk xv))).length)])), (r, .inl (cA, cap, .inl u_4))]) [0, 1, 2, 3, 4, 5] rfl
  have hD9 := hD.sub (ws' := [(hp, .inr (6, [.ref hn])), (hn, .inr (5, [.ref rn, .int kN])), (rn, .inl (cN, 64, .inl fN)), (ha, .inr (0, [.int (nI kk), .long xv, .null])), (h, .inr (2, [.ref r, .int (nI (by_ap cap L (kxB (ar_w kk xv))).length)])), (r, .inl (cA, cap, .inl u_4))]) [0, 1, 2, 3, 4, 5] (by decide) rfl
  have hK9 := hK.sub (tys' := [(cN, .byte), (cA, .byte)]) [0, 1] rfl
  exact zz_vret hx hb hr hlocks d_Pr_putPlain_67 hS (by first | exact Nat.le_refl _ | decide | omega | (dsimp only; omega)) (by first | exact Nat.le_refl _ | decide | omega | (dsimp only; omega)) (fN, kN, u_4) hLp hP9 hK9 hD9
set_option maxHeartbeats 4000000 in
set_option maxRecDepth 100000 in
theorem c_Pr_plainN (l : Launch) (dC : Nat → ClassId) (dI : Nat → Nat → Nat) (ad : Nat → Nat) (hp hn rn : Nat) (cN : ClassId) (fN : Nat → Int32) (kN : Int32) (ha : Nat) (kk : Nat) (xv : Int64) (h r : Nat) (cA : ClassId) (cap : Nat) (f : Nat → Int32) (L : List Nat) (hkk : kk = 0 ∨ kk = 1) (hL : by_L L f) (hc : L.length ≤ cap) (hk : cap < 2147483648) : yM_v (S := (Nat → Int32) × Int32 × (Nat → Int32)) ad l y_Pr_putPlain w_Pr_putPlain { frames := 3, cells := 0, slots := 0, locals := 69 } (dC, dI) vwCl [.ref hp, .ref ha, .ref h] [(hp, .inr (6, [.ref hn])), (hn, .inr (5, [.ref rn, .int kN])), (rn, .inl (cN, 64, .inl fN)), (ha, .inr (0, [.int (nI kk), .long xv, .null])), (h, .inr (2, [.ref r, .int (nI L.length)])), (r, .inl (cA, cap, .inl f))] [(cN, .byte), (cA, .byte)] (fun (u : (Nat → Int32) × Int32 × (Nat → Int32)) => match u with | (f1, k1, f3) => by_L (by_ap cap L (pp_n kk xv)) f3) (fun u => match u with | (f1, k1, f3) => [(hp, .inr (6, [.ref hn])), (hn, .inr (5, [.ref rn, .int k1])), (rn, .inl (cN, 64, .inl f1)), (ha, .inr (0, [.int (nI kk), .long xv, .null])), (h, .inr (2, [.ref r, .int (nI (by_ap cap L (pp_n kk xv)).length)])), (r, .inl (cA, cap, .inl f3))]) (fun u => match u with | (f1, k1, f3) => [(cN, .byte), (cA, .byte)]) 0 0 := by
  refine zy_enterv (cc := prog_8_method_2_code) (nL := 4) (ret := none) (by decide) rfl (Nat.le_of_ble_eq_true rfl) ?_
  intro p e s m below meth c A ls C0 hA hS hP hK hD hl hX
  obtain ⟨hx, hb, hml, hown, hg, hr, hlocks, hin⟩ := C0
  have hown : s.vm.findClass "TextForge$Printer" = some m.cls := hown
  have hP : va_P (dC, dI) vwCl [(hp, .inr (6, [.ref hn])), (hn, .inr (5, [.ref rn, .int kN])), (rn, .inl (cN, 64, .inl fN)), (ha, .inr (0, [.int (nI kk), .long xv, .null])), (h, .inr (2, [.ref r, .int (nI L.length)])), (r, .inl (cA, cap, .inl f))] s.heap := hP
  have hK : va_K (dC, dI) vwCl [(cN, .byte), (cA, .byte)] s := hK
  have hD : va_D A [(hp, .inr (6, [.ref hn])), (hn, .inr (5, [.ref rn, .int kN])), (rn, .inl (cN, 64, .inl fN)), (ha, .inr (0, [.int (nI kk), .long xv, .null])), (h, .inr (2, [.ref r, .int (nI L.length)])), (r, .inl (cA, cap, .inl f))] := hD
  have hl : lv_has ls 4 [(0, .ref hp), (1, .ref ha), (2, .ref h)] := hl
  refine lv_aload_n hx hb d_Pr_putPlain_0 rfl (lv_at hl 1 rfl) ?_
  refine lv_ifnonnull (tgt := 5) hx hb d_Pr_putPlain_1 (by decide) ?_
  refine lv_aload_n hx hb d_Pr_putPlain_5 rfl (lv_at hl 1 rfl) ?_
  have hPc := hP.sub (ws' := [(ha, .inr (0, [.int (nI kk), .long xv, .null]))]) [3] rfl
  have hKc := hK.sub (tys' := []) [] rfl
  refine va_csq (W.runV (As := []) (rest := []) ⟨hx, hb, hml, hown, hg⟩ (c_Ar_content0 l dC dI ha (nI kk) xv ) (cwV 0 hg (gi_V kw_235 kw_236 kw_237 kw_14 kw_238) rfl rfl rfl (by decide +kernel) ⟨Nat.le_of_ble_eq_true rfl, Nat.le_of_ble_eq_true rfl⟩) (zz_prJV hPc hKc _ (q0 := 0) (ci := 0) rfl rfl) rfl rfl hl.1 rfl (lv_room (Nat.le_of_ble_eq_true rfl)) d_Pr_putPlain_6 ⟨Nat.le_of_ble_eq_true rfl, Nat.le_of_ble_eq_true rfl⟩) (fun r_1 hr_1 => ?_)
  subst hr_1
  refine W.eq (g2 := F0 m 9 ls [.null]) rfl ?_
  refine lv_astore_nN (lv' := [(3, .null), (0, .ref hp), (1, .ref ha), (2, .ref h)]) hx hb d_Pr_putPlain_9 rfl hl (by decide) rfl (fun ls hl => ?_)
  refine lv_aload_nN hx hb d_Pr_putPlain_10 rfl (lv_at hl 0 rfl) ?_
  refine lv_ifnullN (tgt := 27) hx hb d_Pr_putPlain_11 (by decide) ?_
  refine lv_aload_n hx hb d_Pr_putPlain_27 rfl (lv_at hl 2 rfl) ?_
  have hPc := hP.sub (ws' := [(ha, .inr (0, [.int (nI kk), .long xv, .null]))]) [3] rfl
  have hKc := hK.sub (tys' := []) [] rfl
  refine vp_callSi (W.runV (As := []) (rest := []) ⟨hx, hb, hml, hown, hg⟩ (c_Ar_isNumber l dC dI ha (nI kk) xv .null ) (cwV 0 hg (gi_V kw_244 kw_245 kw_246 kw_14 kw_247) rfl rfl rfl (by decide +kernel) ⟨Nat.le_of_ble_eq_true rfl, Nat.le_of_ble_eq_true rfl⟩) (zz_prJV hPc hKc _ (q0 := 0) (ci := 0) rfl rfl) rfl rfl hl.1 rfl (lv_room (Nat.le_of_ble_eq_true rfl)) d_Pr_putPlain_28 ⟨Nat.le_of_ble_eq_true rfl, Nat.le_of_ble_eq_true rfl⟩) (fun r_2 hr_2 => ?_)
  rw [pp_i1 hkk] at hr_2
  subst hr_2
  refine lv_if_eq (tgt := 59) hx hb d_Pr_putPlain_31 (by decide) (fun c9 => by first | exact absurd c9 (by decide) | exact absurd (by decide) c9) (fun _ => ?_)
  refine lv_aload_n hx hb d_Pr_putPlain_34 rfl (lv_at hl 1 rfl) ?_
  refine va_get (D := (dC, dI)) (ci := 6) (v := .ref hn) (C := "TextForge$Printer") (T := TX6) (N := 1) hx hb hg iwX6 hown hK hP 0 rfl rfl 0 (by decide) (hg _ kw_110) (fun _ h9 => h9) rfl d_Pr_putPlain_35 ?_
  refine lv_aload_n hx hb d_Pr_putPlain_38 rfl (lv_at hl 2 rfl) ?_
  have hPc := hP.sub (ws' := [(ha, .inr (0, [.int (nI kk), .long xv, .null]))]) [3] rfl
  have hKc := hK.sub (tys' := []) [] rfl
  refine vp_callSl (W.runV (As := []) (rest := [.ref hn]) ⟨hx, hb, hml, hown, hg⟩ (c_Ar_magnitude l dC dI ha (nI kk) xv .null ) (cwV 0 hg (gi_V kw_248 kw_249 kw_250 kw_14 kw_251) rfl rfl rfl (by decide +kernel) ⟨Nat.le_of_ble_eq_true rfl, Nat.le_of_ble_eq_true rfl⟩) (zz_prJV hPc hKc _ (q0 := 0) (ci := 0) rfl rfl) rfl rfl hl.1 rfl (lv_room (Nat.le_of_ble_eq_true rfl)) d_Pr_putPlain_39 ⟨Nat.le_of_ble_eq_true rfl, Nat.le_of_ble_eq_true rfl⟩) (fun r_3 hr_3 => ?_)
  subst hr_3
  have hPc := hP.sub (ws' := [(hn, .inr (5, [.ref rn, .int kN])), (rn, .inl (cN, 64, .inl fN))]) [1, 2] rfl
  have hKc := hK.sub (tys' := [(cN, .byte)]) [0] rfl
  have hDc := hD.sub (ws' := [(hn, .inr (5, [.ref rn, .int kN])), (rn, .inl (cN, 64, .inl fN))]) [1, 2] (by decide) rfl
  have hFc := va_free (wc := [(hn, .inr (5, [.ref rn, .int kN])), (rn, .inl (cN, 64, .inl fN))]) hD hS hA [1, 2] rfl
  refine zz_callv (va_runV (As := [.long (lN (ar_m (nI kk) xv))]) (rest := []) ⟨hx, hb, hml, hown, hg⟩ (c_Nu_setDecimal l dC dI hn rn cN fN kN (ar_m (nI kk) xv) (ar_m_lt _ _) s.heap.size) (cwV 1 hg (gi_V kw_256 kw_257 kw_258 kw_7 kw_259) rfl rfl rfl (by decide +kernel) ⟨Nat.le_of_ble_eq_true rfl, Nat.le_of_ble_eq_true rfl⟩) (zz_preV hPc hKc hDc _ (q0 := 0) (ci := 5) rfl rfl) rfl rfl hl.1 rfl (lv_room (Nat.le_of_ble_eq_true rfl)) d_Pr_putPlain_42 ⟨Nat.le_of_ble_eq_true rfl, Nat.le_of_ble_eq_true rfl⟩) hS hFc (fun u H1 k9 p9 d9 => va_join (wr := [(hp, .inr (6, [.ref hn])), (ha, .inr (0, [.int (nI kk), .long xv, .null])), (h, .inr (2, [.ref r, .int (nI L.length)])), (r, .inl (cA, cap, .inl f))]) hP hD [1, 2] [0, 3, 4, 5] rfl rfl (by decide) (by decide) k9 hFc p9 d9) (fun u H locs hw hP hD hK1 hS => ?_)
  obtain ⟨u_4, rfl⟩ : ∃ z, z = u := ⟨_, rfl⟩
  try dsimp only at hw
  have hP : va_P (dC, dI) vwCl [(hp, .inr (6, [.ref hn])), (ha, .inr (0, [.int (nI kk), .long xv, .null])), (h, .inr (2, [.ref r, .int (nI L.length)])), (r, .inl (cA, cap, .inl f)), (hn, .inr (5, [.ref rn, .int (nI (nu_f 10 97 64 (ar_m (nI kk) xv)).length)])), (rn, .inl (cN, 64, .inl u_4))] H := hP
  have hD : va_D A [(hp, .inr (6, [.ref hn])), (ha, .inr (0, [.int (nI kk), .long xv, .null])), (h, .inr (2, [.ref r, .int (nI L.length)])), (r, .inl (cA, cap, .inl f)), (hn, .inr (5, [.ref rn, .int (nI (nu_f 10 97 64 (ar_m (nI kk) xv)).length)])), (rn, .inl (cN, 64, .inl u_4))] := hD
  have hQd := hw
  refine lv_aload_n hx hb d_Pr_putPlain_45 rfl (lv_at hl 1 rfl) ?_
  refine lv_aload_n hx hb d_Pr_putPlain_46 rfl (lv_at hl 2 rfl) ?_
  have hPc := hP.sub (ws' := [(ha, .inr (0, [.int (nI kk), .long xv, .null]))]) [1] rfl
  have hKc := hK.sub (tys' := []) [] rfl
  refine vp_callSi (W.runV (As := []) (rest := [.ref hp]) ⟨hx, hb, hml, hown, hg⟩ (c_Ar_isBelowZero l dC dI ha (nI kk) xv .null ) (cwV 0 hg (gi_V kw_263 kw_253 kw_254 kw_14 kw_255) rfl rfl rfl (by decide +kernel) ⟨Nat.le_of_ble_eq_true rfl, Nat.le_of_ble_eq_true rfl⟩) (zz_prJV hPc hKc _ (q0 := 0) (ci := 0) rfl rfl) rfl rfl hl.1 rfl (lv_room (Nat.le_of_ble_eq_true rfl)) d_Pr_putPlain_47 ⟨Nat.le_of_ble_eq_true rfl, Nat.le_of_ble_eq_true rfl⟩) (fun r_6 hr_6 => ?_)
  subst hr_6
  refine lv_iconst (v := 0) hx hb d_Pr_putPlain_50 (by decide) ?_
  refine lv_iconst (v := 0) hx hb d_Pr_putPlain_51 (by decide) ?_
  refine lv_aload_n hx hb d_Pr_putPlain_52 rfl (lv_at hl 3 rfl) ?_
  have hPc := hP.sub (ws' := [(hp, .inr (6, [.ref hn])), (hn, .inr (5, [.ref rn, .int (nI (nu_f 10 97 64 (ar_m (nI kk) xv)).length)])), (rn, .inl (cN, 64, .inl u_4)), (h, .inr (2, [.ref r, .int (nI L.length)])), (r, .inl (cA, cap, .inl f))]) [0, 4, 5, 2, 3] rfl
  have hKc := hK.sub (tys' := [(cN, .byte), (cA, .byte)]) [0, 1] rfl
  have hDc := hD.sub (ws' := [(hp, .inr (6, [.ref hn])), (hn, .inr (5, [.ref rn, .int (nI (nu_f 10 97 64 (ar_m (nI kk) xv)).length)])), (rn, .inl (cN, 64, .inl u_4)), (h, .inr (2, [.ref r, .int (nI L.length)])), (r, .inl (cA, cap, .inl f))]) [0, 4, 5, 2, 3] (by decide) rfl
  have hFc := va_free (wc := [(hp, .inr (6, [.ref hn])), (hn, .inr (5, [.ref rn, .int (nI (nu_f 10 97 64 (ar_m (nI kk) xv)).length)])), (rn, .inl (cN, 64, .inl u_4)), (h, .inr (2, [.ref r, .int (nI L.length)])), (r, .inl (cA, cap, .inl f))]) hD hS hA [0, 4, 5, 2, 3] rfl
  refine zz_callv (va_runV (As := [.int (by_z (ar_b (nI kk) xv)), .int 0, .int 0, .ref h]) (rest := []) ⟨hx, hb, hml, hown, hg⟩ (c_Pr_putNumeral l dC dI hp hn rn cN u_4 (nI (nu_f 10 97 64 (ar_m (nI kk) xv)).length) (nu_f 10 97 64 (ar_m (nI kk) xv)) h r cA cap f L (ar_b (nI kk) xv) false 0 hQd (nu_fl64 _ _) rfl hL hc hk (by decide) H.size) (cwV 4 hg (gi_V kw_264 kw_266 sw_1 kw_6 kw_267) rfl rfl rfl (by decide +kernel) ⟨Nat.le_of_ble_eq_true rfl, Nat.le_of_ble_eq_true rfl⟩) (zz_preV hPc hKc hDc _ (q0 := 0) (ci := 6) rfl rfl) rfl rfl hl.1 rfl (lv_room (Nat.le_of_ble_eq_true rfl)) d_Pr_putPlain_53 ⟨Nat.le_of_ble_eq_true rfl, Nat.le_of_ble_eq_true rfl⟩) hS hFc (fun u H1 k9 p9 d9 => va_join (wr := [(ha, .inr (0, [.int (nI kk), .long xv, .null]))]) hP hD [0, 4, 5, 2, 3] [1] rfl rfl (by decide) (by decide) k9 hFc p9 d9) (fun u H locs hw hP hD hK1 hS => ?_)
  obtain ⟨u_7, rfl⟩ : ∃ z, z = u := ⟨_, rfl⟩
  try dsimp only at hw
  have hP : va_P (dC, dI) vwCl [(ha, .inr (0, [.int (nI kk), .long xv, .null])), (hp, .inr (6, [.ref hn])), (hn, .inr (5, [.ref rn, .int (nI (nu_f 10 97 64 (ar_m (nI kk) xv)).length)])), (rn, .inl (cN, 64, .inl u_4)), (h, .inr (2, [.ref r, .int (nI (by_ap cap L (pn_l (ar_b (nI kk) xv) false 0 (nu_f 10 97 64 (ar_m (nI kk) xv)))).length)])), (r, .inl (cA, cap, .inl u_7))] H := hP
  have hD : va_D A [(ha, .inr (0, [.int (nI kk), .long xv, .null])), (hp, .inr (6, [.ref hn])), (hn, .inr (5, [.ref rn, .int (nI (nu_f 10 97 64 (ar_m (nI kk) xv)).length)])), (rn, .inl (cN, 64, .inl u_4)), (h, .inr (2, [.ref r, .int (nI (by_ap cap L (pn_l (ar_b (nI kk) xv) false 0 (nu_f 10 97 64 (ar_m (nI kk) xv)))).length)])), (r, .inl (cA, cap, .inl u_7))] := hD
  have hLp := hw
  refine lv_goto (tgt := 67) hx hb d_Pr_putPlain_56 (by decide) ?_
  have hP9 := hP.sub (ws' := [(hp, .inr (6, [.ref hn])), (hn, .inr (5, [.ref rn, .int (nI (nu_f 10 97 64 (ar_m (nI kk) xv)).length)])), (rn, .inl (cN, 64, .inl u_4)), (ha, .inr (0, [.int (nI kk), .long xv, .null])), (h, .inr (2, [.ref r, .int (nI (by_ap cap L (pn_l (ar_b (nI kk) xv) false 0 (nu_f 10 97 64 (ar_m (nI kk) xv)))).length)])), (r, .inl (cA, cap, .inl u_7))]) [1, 2, 3, 0, 4, 5] rfl
  have hD9 := hD.sub (ws' := [(hp, .inr (6, [.ref hn])), (hn, .inr (5, [.ref rn, .int (nI (nu_f 10 97 64 (ar_m (nI kk) xv)).length)])), (rn, .inl (cN, 64, .inl u_4)), (ha, .inr (0, [.int (nI kk), .long xv, .null])), (h, .inr (2, [.ref r, .int (nI (by_ap cap L (pn_l (ar_b (nI kk) xv) false 0 (nu_f 10 97 64 (ar_m (nI kk) xv)))).length)])), (r, .inl (cA, cap, .inl u_7))]) [1, 2, 3, 0, 4, 5] (by decide) rfl
  have hK9 := hK.sub (tys' := [(cN, .byte), (cA, .byte)]) [0, 1] rfl
  exact zz_vret hx hb hr hlocks d_Pr_putPlain_67 hS (by first | exact Nat.le_refl _ | decide | omega | (dsimp only; omega)) (by first | exact Nat.le_refl _ | decide | omega | (dsimp only; omega)) (u_4, (nI (nu_f 10 97 64 (ar_m (nI kk) xv)).length), u_7) hLp hP9 hK9 hD9
abbrev y_Pr_putNumber : MethodName := ⟨"TextForge$Printer", "putNumber", "(LTextForge$Directive;LTextForge$Argument;LTextForge$Bytes;)Z"⟩
abbrev w_Pr_putNumber : List Cond := Cond.code y_Pr_putNumber prog_8_method_7_code 5 (some .boolean) :: gw
theorem d_Pr_putNumber_0 : decode prog_8_method_7_code 0 = .ok (.aload_n 1, 1) := by decide +kernel
theorem d_Pr_putNumber_1 : decode prog_8_method_7_code 1 = .ok (.invokevirtual 59, 3) := by decide +kernel
theorem d_Pr_putNumber_4 : decode prog_8_method_7_code 4 = .ok (.istore 4, 2) := by decide +kernel
theorem d_Pr_putNumber_6 : decode prog_8_method_7_code 6 = .ok (.iload 4, 2) := by decide +kernel
theorem d_Pr_putNumber_8 : decode prog_8_method_7_code 8 = .ok (.bipush 99, 2) := by decide +kernel
theorem d_Pr_putNumber_10 : decode prog_8_method_7_code 10 = .ok (.if_icmp .ne 16, 3) := by decide +kernel
theorem d_Pr_putNumber_13 : decode prog_8_method_7_code 13 = .ok (.aload_n 2, 1) := by decide +kernel
theorem d_Pr_putNumber_14 : decode prog_8_method_7_code 14 = .ok (.invokevirtual 121, 3) := by decide +kernel
theorem d_Pr_putNumber_17 : decode prog_8_method_7_code 17 = .ok (.invokestatic 124, 3) := by decide +kernel
theorem d_Pr_putNumber_20 : decode prog_8_method_7_code 20 = .ok (.aload_n 3, 1) := by decide +kernel
theorem d_Pr_putNumber_21 : decode prog_8_method_7_code 21 = .ok (.invokestatic 130, 3) := by decide +kernel
theorem d_Pr_putNumber_24 : decode prog_8_method_7_code 24 = .ok (.iconst 1, 1) := by decide +kernel
theorem d_Pr_putNumber_25 : decode prog_8_method_7_code 25 = .ok (.ireturn, 1) := by decide +kernel
theorem d_Pr_putNumber_26 : decode prog_8_method_7_code 26 = .ok (.iload 4, 2) := by decide +kernel
theorem d_Pr_putNumber_28 : decode prog_8_method_7_code 28 = .ok (.bipush 113, 2) := by decide +kernel
theorem d_Pr_putNumber_30 : decode prog_8_method_7_code 30 = .ok (.if_icmp .ne 16, 3) := by decide +kernel
theorem d_Pr_putNumber_33 : decode prog_8_method_7_code 33 = .ok (.aload_n 2, 1) := by decide +kernel
theorem d_Pr_putNumber_34 : decode prog_8_method_7_code 34 = .ok (.invokevirtual 121, 3) := by decide +kernel
theorem d_Pr_putNumber_37 : decode prog_8_method_7_code 37 = .ok (.invokestatic 124, 3) := by decide +kernel
theorem d_Pr_putNumber_40 : decode prog_8_method_7_code 40 = .ok (.aload_n 3, 1) := by decide +kernel
theorem d_Pr_putNumber_41 : decode prog_8_method_7_code 41 = .ok (.invokestatic 134, 3) := by decide +kernel
theorem d_Pr_putNumber_44 : decode prog_8_method_7_code 44 = .ok (.iconst 1, 1) := by decide +kernel
theorem d_Pr_putNumber_45 : decode prog_8_method_7_code 45 = .ok (.ireturn, 1) := by decide +kernel
theorem d_Pr_putNumber_46 : decode prog_8_method_7_code 46 = .ok (.aload_n 0, 1) := by decide +kernel
theorem d_Pr_putNumber_47 : decode prog_8_method_7_code 47 = .ok (.iload 4, 2) := by decide +kernel
theorem d_Pr_putNumber_49 : decode prog_8_method_7_code 49 = .ok (.aload_n 2, 1) := by decide +kernel
theorem d_Pr_putNumber_50 : decode prog_8_method_7_code 50 = .ok (.invokevirtual 36, 3) := by decide +kernel
theorem d_Pr_putNumber_53 : decode prog_8_method_7_code 53 = .ok (.invokevirtual 137, 3) := by decide +kernel
theorem d_Pr_putNumber_56 : decode prog_8_method_7_code 56 = .ok (.ifCond .ne 5, 3) := by decide +kernel
theorem d_Pr_putNumber_59 : decode prog_8_method_7_code 59 = .ok (.iconst 0, 1) := by decide +kernel
theorem d_Pr_putNumber_60 : decode prog_8_method_7_code 60 = .ok (.ireturn, 1) := by decide +kernel
theorem d_Pr_putNumber_61 : decode prog_8_method_7_code 61 = .ok (.aload_n 0, 1) := by decide +kernel
theorem d_Pr_putNumber_62 : decode prog_8_method_7_code 62 = .ok (.aload_n 2, 1) := by decide +kernel
theorem d_Pr_putNumber_63 : decode prog_8_method_7_code 63 = .ok (.invokevirtual 44, 3) := by decide +kernel
theorem d_Pr_putNumber_66 : decode prog_8_method_7_code 66 = .ok (.aload_n 1, 1) := by decide +kernel
theorem d_Pr_putNumber_67 : decode prog_8_method_7_code 67 = .ok (.invokevirtual 141, 3) := by decide +kernel
theorem d_Pr_putNumber_70 : decode prog_8_method_7_code 70 = .ok (.aload_n 1, 1) := by decide +kernel
theorem d_Pr_putNumber_71 : decode prog_8_method_7_code 71 = .ok (.invokevirtual 144, 3) := by decide +kernel
theorem d_Pr_putNumber_74 : decode prog_8_method_7_code 74 = .ok (.aload_n 3, 1) := by decide +kernel
theorem d_Pr_putNumber_75 : decode prog_8_method_7_code 75 = .ok (.invokevirtual 47, 3) := by decide +kernel
theorem d_Pr_putNumber_78 : decode prog_8_method_7_code 78 = .ok (.iconst 1, 1) := by decide +kernel
theorem d_Pr_putNumber_79 : decode prog_8_method_7_code 79 = .ok (.ireturn, 1) := by decide +kernel
set_option maxHeartbeats 4000000 in
set_option maxRecDepth 100000 in
theorem c_Pr_putNumber (l : Launch) (dC : Nat → ClassId) (dI : Nat → Nat → Nat) (ad : Nat → Nat) (hp hn rn : Nat) (cN : ClassId) (fN : Nat → Int32) (kN : Int32) (hd : Nat) (dq : Int32) (bm bp bz : Bool) (wd v : Nat) (ha : Nat) (kk : Nat) (xv : Int64) (h r : Nat) (cA : ClassId) (cap : Nat) (f : Nat → Int32) (L : List Nat) (hv : v < 256) (hwd0 : wd < 1000) (hkk : kk = 0 ∨ kk = 1) (hL : by_L L f) (hc : L.length ≤ cap) (hk : cap < 2147483648) : yM_i (S := (Nat → Int32) × Int32 × (Nat → Int32)) ad l y_Pr_putNumber w_Pr_putNumber { frames := 6, cells := 0, slots := 0, locals := 129 } (dC, dI) vwCl [.ref hp, .ref hd, .ref ha, .ref h] [(hp, .inr (6, [.ref hn])), (hn, .inr (5, [.ref rn, .int kN])), (rn, .inl (cN, 64, .inl fN)), (hd, .inr (4, [.int dq, .int (by_z bm), .int (by_z bp), .int (by_z bz), .int (nI wd), .int (nI v)])), (ha, .inr (0, [.int (nI kk), .long xv, .null])), (h, .inr (2, [.ref r, .int (nI L.length)])), (r, .inl (cA, cap, .inl f))] [(cN, .byte), (cA, .byte)] (fun (r : Int32) (u : (Nat → Int32) × Int32 × (Nat → Int32)) => match u with | (f1, k1, f3) => r = by_z (pp_x v kk xv (pp_w bz bm wd) bp).isSome ∧ by_L (by_ap cap L ((pp_x v kk xv (pp_w bz bm wd) bp).getD [])) f3) (fun u => match u with | (f1, k1, f3) => [(hp, .inr (6, [.ref hn])), (hn, .inr (5, [.ref rn, .int k1])), (rn, .inl (cN, 64, .inl f1)), (hd, .inr (4, [.int dq, .int (by_z bm), .int (by_z bp), .int (by_z bz), .int (nI wd), .int (nI v)])), (ha, .inr (0, [.int (nI kk), .long xv, .null])), (h, .inr (2, [.ref r, .int (nI (by_ap cap L ((pp_x v kk xv (pp_w bz bm wd) bp).getD [])).length)])), (r, .inl (cA, cap, .inl f3))]) (fun u => match u with | (f1, k1, f3) => [(cN, .byte), (cA, .byte)]) 0 0 := by
  refine zy_enteri (cc := prog_8_method_7_code) (nL := 5) (ret := (some .boolean)) (by decide) rfl (Nat.le_of_ble_eq_true rfl) ?_
  intro p e s m below meth c A ls C0 hA hS hP hK hD hl hX
  obtain ⟨hx, hb, hml, hown, hg, hr, hlocks, hin⟩ := C0
  have hown : s.vm.findClass "TextForge$Printer" = some m.cls := hown
  have hP : va_P (dC, dI) vwCl [(hp, .inr (6, [.ref hn])), (hn, .inr (5, [.ref rn, .int kN])), (rn, .inl (cN, 64, .inl fN)), (hd, .inr (4, [.int dq, .int (by_z bm), .int (by_z bp), .int (by_z bz), .int (nI wd), .int (nI v)])), (ha, .inr (0, [.int (nI kk), .long xv, .null])), (h, .inr (2, [.ref r, .int (nI L.length)])), (r, .inl (cA, cap, .inl f))] s.heap := hP
  have hK : va_K (dC, dI) vwCl [(cN, .byte), (cA, .byte)] s := hK
  have hD : va_D A [(hp, .inr (6, [.ref hn])), (hn, .inr (5, [.ref rn, .int kN])), (rn, .inl (cN, 64, .inl fN)), (hd, .inr (4, [.int dq, .int (by_z bm), .int (by_z bp), .int (by_z bz), .int (nI wd), .int (nI v)])), (ha, .inr (0, [.int (nI kk), .long xv, .null])), (h, .inr (2, [.ref r, .int (nI L.length)])), (r, .inl (cA, cap, .inl f))] := hD
  have hl : lv_has ls 5 [(0, .ref hp), (1, .ref hd), (2, .ref ha), (3, .ref h)] := hl
  refine lv_aload_n hx hb d_Pr_putNumber_0 rfl (lv_at hl 1 rfl) ?_
  have hPc := hP.sub (ws' := [(hd, .inr (4, [.int dq, .int (by_z bm), .int (by_z bp), .int (by_z bz), .int (nI wd), .int (nI v)]))]) [3] rfl
  have hKc := hK.sub (tys' := []) [] rfl
  refine vp_callSi (W.runV (As := []) (rest := []) ⟨hx, hb, hml, hown, hg⟩ (c_Di_letter l dC dI hd dq (by_z bm) (by_z bp) (by_z bz) (nI wd) (nI v) ) (cwV 0 hg (gi_V kw_209 kw_210 kw_211 kw_5 kw_212) rfl rfl rfl (by decide +kernel) ⟨Nat.le_of_ble_eq_true rfl, Nat.le_of_ble_eq_true rfl⟩) (zz_prJV hPc hKc _ (q0 := 0) (ci := 4) rfl rfl) rfl rfl hl.1 rfl (lv_room (Nat.le_of_ble_eq_true rfl)) d_Pr_putNumber_1 ⟨Nat.le_of_ble_eq_true rfl, Nat.le_of_ble_eq_true rfl⟩) (fun r_1 hr_1 => ?_)
  subst hr_1
  refine lv_istore (lv' := [(4, .int (nI v)), (0, .ref hp), (1, .ref hd), (2, .ref ha), (3, .ref h)]) hx hb d_Pr_putNumber_4 hl (by decide) rfl (fun ls hl => ?_)
  refine lv_iload hx hb d_Pr_putNumber_6 (lv_at hl 0 rfl) ?_
  refine lv_bipush (v := 99) hx hb d_Pr_putNumber_8 (by decide) ?_
  refine lv_icmp_ne (tgt := 26) hx hb d_Pr_putNumber_10 (by decide) (fun c_10 => ?_) (fun c_10 => ?_)
  · skip
    have f_10 : v ≠ 99 := nI_ne (b := 99) c_10
    refine lv_iload hx hb d_Pr_putNumber_26 (lv_at hl 0 rfl) ?_
    refine lv_bipush (v := 113) hx hb d_Pr_putNumber_28 (by decide) ?_
    refine lv_icmp_ne (tgt := 46) hx hb d_Pr_putNumber_30 (by decide) (fun c_30 => ?_) (fun c_30 => ?_)
    · skip
      have f_30 : v ≠ 113 := nI_ne (b := 113) c_30
      refine lv_aload_n hx hb d_Pr_putNumber_46 rfl (lv_at hl 1 rfl) ?_
      refine lv_iload hx hb d_Pr_putNumber_47 (lv_at hl 0 rfl) ?_
      refine lv_aload_n hx hb d_Pr_putNumber_49 rfl (lv_at hl 3 rfl) ?_
      have hPc := hP.sub (ws' := [(ha, .inr (0, [.int (nI kk), .long xv, .null]))]) [4] rfl
      have hKc := hK.sub (tys' := []) [] rfl
      refine vp_callSl (W.runV (As := []) (rest := [.int (nI v), .ref hp]) ⟨hx, hb, hml, hown, hg⟩ (c_Ar_magnitude l dC dI ha (nI kk) xv .null ) (cwV 0 hg (gi_V kw_248 kw_249 kw_250 kw_14 kw_251) rfl rfl rfl (by decide +kernel) ⟨Nat.le_of_ble_eq_true rfl, Nat.le_of_ble_eq_true rfl⟩) (zz_prJV hPc hKc _ (q0 := 0) (ci := 0) rfl rfl) rfl rfl hl.1 rfl (lv_room (Nat.le_of_ble_eq_true rfl)) d_Pr_putNumber_50 ⟨Nat.le_of_ble_eq_true rfl, Nat.le_of_ble_eq_true rfl⟩) (fun r_2 hr_2 => ?_)
      subst hr_2
      have hPc := hP.sub (ws' := [(hp, .inr (6, [.ref hn])), (hn, .inr (5, [.ref rn, .int kN])), (rn, .inl (cN, 64, .inl fN))]) [0, 1, 2] rfl
      have hKc := hK.sub (tys' := [(cN, .byte)]) [0] rfl
      have hDc := hD.sub (ws' := [(hp, .inr (6, [.ref hn])), (hn, .inr (5, [.ref rn, .int kN])), (rn, .inl (cN, 64, .inl fN))]) [0, 1, 2] (by decide) rfl
      have hFc := va_free (wc := [(hp, .inr (6, [.ref hn])), (hn, .inr (5, [.ref rn, .int kN])), (rn, .inl (cN, 64, .inl fN))]) hD hS hA [0, 1, 2] rfl
      refine zz_calli (va_runV (As := [.int (nI v), .long (lN (ar_m (nI kk) xv))]) (rest := []) ⟨hx, hb, hml, hown, hg⟩ (c_Pr_setNumeral l dC dI hp hn rn cN fN kN v (ar_m (nI kk) xv) hv (ar_m_lt _ _) s.heap.size) (cwV 2 hg (gi_V kw_414 kw_416 sw_3 kw_6 kw_417) rfl rfl rfl (by decide +kernel) ⟨Nat.le_of_ble_eq_true rfl, Nat.le_of_ble_eq_true rfl⟩) (zz_preV hPc hKc hDc _ (q0 := 0) (ci := 6) rfl rfl) rfl rfl hl.1 rfl (lv_room (Nat.le_of_ble_eq_true rfl)) d_Pr_putNumber_53 ⟨Nat.le_of_ble_eq_true rfl, Nat.le_of_ble_eq_true rfl⟩) hS hFc (fun u H1 k9 p9 d9 => va_join (wr := [(hd, .inr (4, [.int dq, .int (by_z bm), .int (by_z bp), .int (by_z bz), .int (nI wd), .int (nI v)])), (ha, .inr (0, [.int (nI kk), .long xv, .null])), (h, .inr (2, [.ref r, .int (nI L.length)])), (r, .inl (cA, cap, .inl f))]) hP hD [0, 1, 2] [3, 4, 5, 6] rfl rfl (by decide) (by decide) k9 hFc p9 d9) (fun r_3 u H locs hw hP hD hK1 hS => ?_)
      obtain ⟨f1, k1⟩ := u
      try dsimp only at hw
      have hP : va_P (dC, dI) vwCl [(hd, .inr (4, [.int dq, .int (by_z bm), .int (by_z bp), .int (by_z bz), .int (nI wd), .int (nI v)])), (ha, .inr (0, [.int (nI kk), .long xv, .null])), (h, .inr (2, [.ref r, .int (nI L.length)])), (r, .inl (cA, cap, .inl f)), (hp, .inr (6, [.ref hn])), (hn, .inr (5, [.ref rn, .int k1])), (rn, .inl (cN, 64, .inl f1))] H := hP
      have hD : va_D A [(hd, .inr (4, [.int dq, .int (by_z bm), .int (by_z bp), .int (by_z bz), .int (nI wd), .int (nI v)])), (ha, .inr (0, [.int (nI kk), .long xv, .null])), (h, .inr (2, [.ref r, .int (nI L.length)])), (r, .inl (cA, cap, .inl f)), (hp, .inr (6, [.ref hn])), (hn, .inr (5, [.ref rn, .int k1])), (rn, .inl (cN, 64, .inl f1))] := hD
      have hSn := hw
      refine lv_if_ne (tgt := 61) hx hb d_Pr_putNumber_56 (by decide) (fun c_56 => ?_) (fun c_56 => ?_)
      · skip
        obtain ⟨D, hsD, hQD, hkD⟩ := pn_S1 hSn c_56
        refine lv_aload_n hx hb d_Pr_putNumber_61 rfl (lv_at hl 1 rfl) ?_
        refine lv_aload_n hx hb d_Pr_putNumber_62 rfl (lv_at hl 3 rfl) ?_
        have hPc := hP.sub (ws' := [(ha, .inr (0, [.int (nI kk), .long xv, .null]))]) [1] rfl
        have hKc := hK.sub (tys' := []) [] rfl
        refine vp_callSi (W.runV (As := []) (rest := [.ref hp]) ⟨hx, hb, hml, hown, hg⟩ (c_Ar_isBelowZero l dC dI ha (nI kk) xv .null ) (cwV 0 hg (gi_V kw_263 kw_253 kw_254 kw_14 kw_255) rfl rfl rfl (by decide +kernel) ⟨Nat.le_of_ble_eq_true rfl, Nat.le_of_ble_eq_true rfl⟩) (zz_prJV hPc hKc _ (q0 := 0) (ci := 0) rfl rfl) rfl rfl hl.1 rfl (lv_room (Nat.le_of_ble_eq_true rfl)) d_Pr_putNumber_63 ⟨Nat.le_of_ble_eq_true rfl, Nat.le_of_ble_eq_true rfl⟩) (fun r_4 hr_4 => ?_)
        subst hr_4
        refine lv_aload_n hx hb d_Pr_putNumber_66 rfl (lv_at hl 2 rfl) ?_
        have hPc := hP.sub (ws' := [(hd, .inr (4, [.int dq, .int (by_z bm), .int (by_z bp), .int (by_z bz), .int (nI wd), .int (nI v)]))]) [0] rfl
        have hKc := hK.sub (tys' := []) [] rfl
        refine vp_callSi (W.runV (As := []) (rest := [.int (by_z (ar_b (nI kk) xv)), .ref hp]) ⟨hx, hb, hml, hown, hg⟩ (c_Di_hasPlus l dC dI hd dq (by_z bm) (by_z bp) (by_z bz) (nI wd) (nI v) bp rfl) (cwV 0 hg (gi_V kw_423 kw_424 kw_425 kw_5 kw_426) rfl rfl rfl (by decide +kernel) ⟨Nat.le_of_ble_eq_true rfl, Nat.le_of_ble_eq_true rfl⟩) (zz_prJV hPc hKc _ (q0 := 0) (ci := 4) rfl rfl) rfl rfl hl.1 rfl (lv_room (Nat.le_of_ble_eq_true rfl)) d_Pr_putNumber_67 ⟨Nat.le_of_ble_eq_true rfl, Nat.le_of_ble_eq_true rfl⟩) (fun r_5 hr_5 => ?_)
        subst hr_5
        refine lv_aload_n hx hb d_Pr_putNumber_70 rfl (lv_at hl 2 rfl) ?_
        have hPc := hP.sub (ws' := [(hd, .inr (4, [.int dq, .int (by_z bm), .int (by_z bp), .int (by_z bz), .int (nI wd), .int (nI v)]))]) [0] rfl
        have hKc := hK.sub (tys' := []) [] rfl
        refine vp_callSi (W.runV (As := []) (rest := [.int (by_z bp), .int (by_z (ar_b (nI kk) xv)), .ref hp]) ⟨hx, hb, hml, hown, hg⟩ (c_Di_widthByZeros l dC dI hd dq (by_z bm) (by_z bp) (by_z bz) (nI wd) (nI v) ) (cwV 0 hg (gi_V kw_427 kw_428 kw_429 kw_5 kw_430) rfl rfl rfl (by decide +kernel) ⟨Nat.le_of_ble_eq_true rfl, Nat.le_of_ble_eq_true rfl⟩) (zz_prJV hPc hKc _ (q0 := 0) (ci := 4) rfl rfl) rfl rfl hl.1 rfl (lv_room (Nat.le_of_ble_eq_true rfl)) d_Pr_putNumber_71 ⟨Nat.le_of_ble_eq_true rfl, Nat.le_of_ble_eq_true rfl⟩) (fun r_6 hr_6 => ?_)
        rw [pp_we hwd0] at hr_6
        subst hr_6
        refine lv_aload_n hx hb d_Pr_putNumber_74 rfl (lv_at hl 4 rfl) ?_
        have hPc := hP.sub (ws' := [(hp, .inr (6, [.ref hn])), (hn, .inr (5, [.ref rn, .int k1])), (rn, .inl (cN, 64, .inl f1)), (h, .inr (2, [.ref r, .int (nI L.length)])), (r, .inl (cA, cap, .inl f))]) [4, 5, 6, 2, 3] rfl
        have hKc := hK.sub (tys' := [(cN, .byte), (cA, .byte)]) [0, 1] rfl
        have hDc := hD.sub (ws' := [(hp, .inr (6, [.ref hn])), (hn, .inr (5, [.ref rn, .int k1])), (rn, .inl (cN, 64, .inl f1)), (h, .inr (2, [.ref r, .int (nI L.length)])), (r, .inl (cA, cap, .inl f))]) [4, 5, 6, 2, 3] (by decide) rfl
        have hFc := va_free (wc := [(hp, .inr (6, [.ref hn])), (hn, .inr (5, [.ref rn, .int k1])), (rn, .inl (cN, 64, .inl f1)), (h, .inr (2, [.ref r, .int (nI L.length)])), (r, .inl (cA, cap, .inl f))]) hD hS hA [4, 5, 6, 2, 3] rfl
        refine zz_callv (va_runV (As := [.int (by_z (ar_b (nI kk) xv)), .int (by_z bp), .int (nI (pp_w bz bm wd)), .ref h]) (rest := []) ⟨hx, hb, hml, hown, hg⟩ (c_Pr_putNumeral l dC dI hp hn rn cN f1 k1 D h r cA cap f L (ar_b (nI kk) xv) bp (pp_w bz bm wd) hQD (pp_dl hsD) hkD hL hc hk (pp_wl hwd0) H.size) (cwV 4 hg (gi_V kw_264 kw_266 sw_1 kw_6 kw_267) rfl rfl rfl (by decide +kernel) ⟨Nat.le_of_ble_eq_true rfl, Nat.le_of_ble_eq_true rfl⟩) (zz_preV hPc hKc hDc _ (q0 := 0) (ci := 6) rfl rfl) rfl rfl hl.1 rfl (lv_room (Nat.le_of_ble_eq_true rfl)) d_Pr_putNumber_75 ⟨Nat.le_of_ble_eq_true rfl, Nat.le_of_ble_eq_true rfl⟩) hS hFc (fun u H1 k9 p9 d9 => va_join (wr := [(hd, .inr (4, [.int dq, .int (by_z bm), .int (by_z bp), .int (by_z bz), .int (nI wd), .int (nI v)])), (ha, .inr (0, [.int (nI kk), .long xv, .null]))]) hP hD [4, 5, 6, 2, 3] [0, 1] rfl rfl (by decide) (by decide) k9 hFc p9 d9) (fun u H locs hw hP hD hK1 hS => ?_)
        obtain ⟨u_7, rfl⟩ : ∃ z, z = u := ⟨_, rfl⟩
        try dsimp only at hw
        have hP : va_P (dC, dI) vwCl [(hd, .inr (4, [.int dq, .int (by_z bm), .int (by_z bp), .int (by_z bz), .int (nI wd), .int (nI v)])), (ha, .inr (0, [.int (nI kk), .long xv, .null])), (hp, .inr (6, [.ref hn])), (hn, .inr (5, [.ref rn, .int k1])), (rn, .inl (cN, 64, .inl f1)), (h, .inr (2, [.ref r, .int (nI (by_ap cap L (pn_l (ar_b (nI kk) xv) bp (pp_w bz bm wd) D)).length)])), (r, .inl (cA, cap, .inl u_7))] H := hP
        have hD : va_D A [(hd, .inr (4, [.int dq, .int (by_z bm), .int (by_z bp), .int (by_z bz), .int (nI wd), .int (nI v)])), (ha, .inr (0, [.int (nI kk), .long xv, .null])), (hp, .inr (6, [.ref hn])), (hn, .inr (5, [.ref rn, .int k1])), (rn, .inl (cN, 64, .inl f1)), (h, .inr (2, [.ref r, .int (nI (by_ap cap L (pn_l (ar_b (nI kk) xv) bp (pp_w bz bm wd) D)).length)])), (r, .inl (cA, cap, .inl u_7))] := hD
        have hLp := hw
        refine lv_iconst (v := 1) hx hb d_Pr_putNumber_78 (by decide) ?_
        have hP9 := hP.sub (ws' := [(hp, .inr (6, [.ref hn])), (hn, .inr (5, [.ref rn, .int k1])), (rn, .inl (cN, 64, .inl f1)), (hd, .inr (4, [.int dq, .int (by_z bm), .int (by_z bp), .int (by_z bz), .int (nI wd), .int (nI v)])), (ha, .inr (0, [.int (nI kk), .long xv, .null])), (h, .inr (2, [.ref r, .int (nI (by_ap cap L (pn_l (ar_b (nI kk) xv) bp (pp_w bz bm wd) D)).length)])), (r, .inl (cA, cap, .inl u_7))]) [2, 3, 4, 0, 1, 5, 6] rfl
        have hD9 := hD.sub (ws' := [(hp, .inr (6, [.ref hn])), (hn, .inr (5, [.ref rn, .int k1])), (rn, .inl (cN, 64, .inl f1)), (hd, .inr (4, [.int dq, .int (by_z bm), .int (by_z bp), .int (by_z bz), .int (nI wd), .int (nI v)])), (ha, .inr (0, [.int (nI kk), .long xv, .null])), (h, .inr (2, [.ref r, .int (nI (by_ap cap L (pn_l (ar_b (nI kk) xv) bp (pp_w bz bm wd) D)).length)])), (r, .inl (cA, cap, .inl u_7))]) [2, 3, 4, 0, 1, 5, 6] (by decide) rfl
        have hK9 := hK.sub (tys' := [(cN, .byte), (cA, .byte)]) [0, 1] rfl
        rw [pp_xde f_10 f_30 hsD] at hP9 hD9
        exact zz_zret hx hb hr hlocks d_Pr_putNumber_79 (by decide) hS (by first | exact Nat.le_refl _ | decide | omega | (dsimp only; omega)) (by first | exact Nat.le_refl _ | decide | omega | (dsimp only; omega)) (f1, k1, u_7) (pp_xd f_10 f_30 hsD hLp) hP9 hK9 hD9
      · skip
        have hno := pn_S0 hSn c_56
        refine lv_iconst (v := 0) hx hb d_Pr_putNumber_59 (by decide) ?_
        have hP9 := hP.sub (ws' := [(hp, .inr (6, [.ref hn])), (hn, .inr (5, [.ref rn, .int k1])), (rn, .inl (cN, 64, .inl f1)), (hd, .inr (4, [.int dq, .int (by_z bm), .int (by_z bp), .int (by_z bz), .int (nI wd), .int (nI v)])), (ha, .inr (0, [.int (nI kk), .long xv, .null])), (h, .inr (2, [.ref r, .int (nI L.length)])), (r, .inl (cA, cap, .inl f))]) [4, 5, 6, 0, 1, 2, 3] rfl
        have hD9 := hD.sub (ws' := [(hp, .inr (6, [.ref hn])), (hn, .inr (5, [.ref rn, .int k1])), (rn, .inl (cN, 64, .inl f1)), (hd, .inr (4, [.int dq, .int (by_z bm), .int (by_z bp), .int (by_z bz), .int (nI wd), .int (nI v)])), (ha, .inr (0, [.int (nI kk), .long xv, .null])), (h, .inr (2, [.ref r, .int (nI L.length)])), (r, .inl (cA, cap, .inl f))]) [4, 5, 6, 0, 1, 2, 3] (by decide) rfl
        have hK9 := hK.sub (tys' := [(cN, .byte), (cA, .byte)]) [0, 1] rfl
        rw [show nI L.length = nI (by_ap cap L ((pp_x v kk xv (pp_w bz bm wd) bp).getD [])).length by rw [pp_x0 f_10 f_30 hno]; show _ = nI (by_ap cap L []).length; rw [by_ap_nil hc]] at hP9 hD9
        exact zz_zret hx hb hr hlocks d_Pr_putNumber_60 (by decide) hS (by first | exact Nat.le_refl _ | decide | omega | (dsimp only; omega)) (by first | exact Nat.le_refl _ | decide | omega | (dsimp only; omega)) (f1, k1, f) (px_t0 (pp_x0 f_10 f_30 hno) hc hL rfl) hP9 hK9 hD9
    · skip
      have f_30 : v = 113 := nI_e1 (b := 113) c_30 (by omega) (by omega)
      refine lv_aload_n hx hb d_Pr_putNumber_33 rfl (lv_at hl 3 rfl) ?_
      have hPc := hP.sub (ws' := [(ha, .inr (0, [.int (nI kk), .long xv, .null]))]) [4] rfl
      have hKc := hK.sub (tys' := []) [] rfl
      refine vp_callSl (W.runV (As := []) (rest := []) ⟨hx, hb, hml, hown, hg⟩ (c_Ar_value l dC dI ha (nI kk) xv .null ) (cwV 0 hg (gi_V kw_398 kw_399 kw_400 kw_14 kw_401) rfl rfl rfl (by decide +kernel) ⟨Nat.le_of_ble_eq_true rfl, Nat.le_of_ble_eq_true rfl⟩) (zz_prJV hPc hKc _ (q0 := 0) (ci := 0) rfl rfl) rfl rfl hl.1 rfl (lv_room (Nat.le_of_ble_eq_true rfl)) d_Pr_putNumber_34 ⟨Nat.le_of_ble_eq_true rfl, Nat.le_of_ble_eq_true rfl⟩) (fun r_9 hr_9 => ?_)
      rw [hr_9]
      have hPc := hP.sub (ws' := []) [] rfl
      have hKc := hK.sub (tys' := []) [] rfl
      refine vp_callSi (W.runS (As := [.long xv]) (rest := []) ⟨hx, hb, hml, hown, hg⟩ (c_Ut_codeOf l dC dI xv ) (va_cwS 1 hg (gi_S kw_402 kw_403 kw_21 kw_404) rfl rfl rfl (by decide +kernel) ⟨Nat.le_of_ble_eq_true rfl, Nat.le_of_ble_eq_true rfl⟩) (zz_prJS hPc hKc _) rfl rfl hl.1 rfl (lv_room (Nat.le_of_ble_eq_true rfl)) d_Pr_putNumber_37 ⟨Nat.le_of_ble_eq_true rfl, Nat.le_of_ble_eq_true rfl⟩) (fun r_10 hr_10 => ?_)
      subst hr_10
      refine lv_aload_n hx hb d_Pr_putNumber_40 rfl (lv_at hl 4 rfl) ?_
      have hPc := hP.sub (ws' := [(h, .inr (2, [.ref r, .int (nI L.length)])), (r, .inl (cA, cap, .inl f))]) [5, 6] rfl
      have hKc := hK.sub (tys' := [(cA, .byte)]) [1] rfl
      have hDc := hD.sub (ws' := [(h, .inr (2, [.ref r, .int (nI L.length)])), (r, .inl (cA, cap, .inl f))]) [5, 6] (by decide) rfl
      have hFc := va_free (wc := [(h, .inr (2, [.ref r, .int (nI L.length)])), (r, .inl (cA, cap, .inl f))]) hD hS hA [5, 6] rfl
      refine zz_callv (va_runS (As := [.int (nI (ut_cn xv.toInt)), .ref h]) (rest := []) ⟨hx, hb, hml, hown, hg⟩ (c_Qu_putCode l dC dI ad h r cA cap f L (ut_cn xv.toInt) hL hc hk (pp_cn _) s.heap.size) (va_cwS 2 hg (gi_S kw_410 kw_411 kw_20 kw_412) rfl rfl rfl (by decide +kernel) ⟨Nat.le_of_ble_eq_true rfl, Nat.le_of_ble_eq_true rfl⟩) (zy_preS hX hS hFc hPc hKc hDc _) rfl rfl hl.1 rfl (lv_room (Nat.le_of_ble_eq_true rfl)) d_Pr_putNumber_41 ⟨Nat.le_of_ble_eq_true rfl, Nat.le_of_ble_eq_true rfl⟩) hS hFc (fun u H1 k9 p9 d9 => va_join (wr := [(hp, .inr (6, [.ref hn])), (hn, .inr (5, [.ref rn, .int kN])), (rn, .inl (cN, 64, .inl fN)), (hd, .inr (4, [.int dq, .int (by_z bm), .int (by_z bp), .int (by_z bz), .int (nI wd), .int (nI v)])), (ha, .inr (0, [.int (nI kk), .long xv, .null]))]) hP hD [5, 6] [0, 1, 2, 3, 4] rfl rfl (by decide) (by decide) k9 hFc p9 d9) (fun u H locs hw hP hD hK1 hS => ?_)
      obtain ⟨u_11, rfl⟩ : ∃ z, z = u := ⟨_, rfl⟩
      try dsimp only at hw
      have hP : va_P (dC, dI) vwCl [(hp, .inr (6, [.ref hn])), (hn, .inr (5, [.ref rn, .int kN])), (rn, .inl (cN, 64, .inl fN)), (hd, .inr (4, [.int dq, .int (by_z bm), .int (by_z bp), .int (by_z bz), .int (nI wd), .int (nI v)])), (ha, .inr (0, [.int (nI kk), .long xv, .null])), (h, .inr (2, [.ref r, .int (nI (by_ap cap L (qu_c (ut_cn xv.toInt))).length)])), (r, .inl (cA, cap, .inl u_11))] H := hP
      have hD : va_D A [(hp, .inr (6, [.ref hn])), (hn, .inr (5, [.ref rn, .int kN])), (rn, .inl (cN, 64, .inl fN)), (hd, .inr (4, [.int dq, .int (by_z bm), .int (by_z bp), .int (by_z bz), .int (nI wd), .int (nI v)])), (ha, .inr (0, [.int (nI kk), .long xv, .null])), (h, .inr (2, [.ref r, .int (nI (by_ap cap L (qu_c (ut_cn xv.toInt))).length)])), (r, .inl (cA, cap, .inl u_11))] := hD
      have hLp := hw
      refine lv_iconst (v := 1) hx hb d_Pr_putNumber_44 (by decide) ?_
      have hP9 := hP.sub (ws' := [(hp, .inr (6, [.ref hn])), (hn, .inr (5, [.ref rn, .int kN])), (rn, .inl (cN, 64, .inl fN)), (hd, .inr (4, [.int dq, .int (by_z bm), .int (by_z bp), .int (by_z bz), .int (nI wd), .int (nI v)])), (ha, .inr (0, [.int (nI kk), .long xv, .null])), (h, .inr (2, [.ref r, .int (nI (by_ap cap L (qu_c (ut_cn xv.toInt))).length)])), (r, .inl (cA, cap, .inl u_11))]) [0, 1, 2, 3, 4, 5, 6] rfl
      have hD9 := hD.sub (ws' := [(hp, .inr (6, [.ref hn])), (hn, .inr (5, [.ref rn, .int kN])), (rn, .inl (cN, 64, .inl fN)), (hd, .inr (4, [.int dq, .int (by_z bm), .int (by_z bp), .int (by_z bz), .int (nI wd), .int (nI v)])), (ha, .inr (0, [.int (nI kk), .long xv, .null])), (h, .inr (2, [.ref r, .int (nI (by_ap cap L (qu_c (ut_cn xv.toInt))).length)])), (r, .inl (cA, cap, .inl u_11))]) [0, 1, 2, 3, 4, 5, 6] (by decide) rfl
      have hK9 := hK.sub (tys' := [(cN, .byte), (cA, .byte)]) [0, 1] rfl
      rw [pp_xqe f_30] at hP9 hD9
      exact zz_zret hx hb hr hlocks d_Pr_putNumber_45 (by decide) hS (by first | exact Nat.le_refl _ | decide | omega | (dsimp only; omega)) (by first | exact Nat.le_refl _ | decide | omega | (dsimp only; omega)) (fN, kN, u_11) (pp_xq f_30 hLp) hP9 hK9 hD9
  · skip
    have f_10 : v = 99 := nI_e1 (b := 99) c_10 (by omega) (by omega)
    refine lv_aload_n hx hb d_Pr_putNumber_13 rfl (lv_at hl 3 rfl) ?_
    have hPc := hP.sub (ws' := [(ha, .inr (0, [.int (nI kk), .long xv, .null]))]) [4] rfl
    have hKc := hK.sub (tys' := []) [] rfl
    refine vp_callSl (W.runV (As := []) (rest := []) ⟨hx, hb, hml, hown, hg⟩ (c_Ar_value l dC dI ha (nI kk) xv .null ) (cwV 0 hg (gi_V kw_398 kw_399 kw_400 kw_14 kw_401) rfl rfl rfl (by decide +kernel) ⟨Nat.le_of_ble_eq_true rfl, Nat.le_of_ble_eq_true rfl⟩) (zz_prJV hPc hKc _ (q0 := 0) (ci := 0) rfl rfl) rfl rfl hl.1 rfl (lv_room (Nat.le_of_ble_eq_true rfl)) d_Pr_putNumber_14 ⟨Nat.le_of_ble_eq_true rfl, Nat.le_of_ble_eq_true rfl⟩) (fun r_13 hr_13 => ?_)
    rw [hr_13]
    have hPc := hP.sub (ws' := []) [] rfl
    have hKc := hK.sub (tys' := []) [] rfl
    refine vp_callSi (W.runS (As := [.long xv]) (rest := []) ⟨hx, hb, hml, hown, hg⟩ (c_Ut_codeOf l dC dI xv ) (va_cwS 1 hg (gi_S kw_402 kw_403 kw_21 kw_404) rfl rfl rfl (by decide +kernel) ⟨Nat.le_of_ble_eq_true rfl, Nat.le_of_ble_eq_true rfl⟩) (zz_prJS hPc hKc _) rfl rfl hl.1 rfl (lv_room (Nat.le_of_ble_eq_true rfl)) d_Pr_putNumber_17 ⟨Nat.le_of_ble_eq_true rfl, Nat.le_of_ble_eq_true rfl⟩) (fun r_14 hr_14 => ?_)
    subst hr_14
    refine lv_aload_n hx hb d_Pr_putNumber_20 rfl (lv_at hl 4 rfl) ?_
    have hPc := hP.sub (ws' := [(h, .inr (2, [.ref r, .int (nI L.length)])), (r, .inl (cA, cap, .inl f))]) [5, 6] rfl
    have hKc := hK.sub (tys' := [(cA, .byte)]) [1] rfl
    have hDc := hD.sub (ws' := [(h, .inr (2, [.ref r, .int (nI L.length)])), (r, .inl (cA, cap, .inl f))]) [5, 6] (by decide) rfl
    have hFc := va_free (wc := [(h, .inr (2, [.ref r, .int (nI L.length)])), (r, .inl (cA, cap, .inl f))]) hD hS hA [5, 6] rfl
    refine zz_callv (va_runS (As := [.int (nI (ut_cn xv.toInt)), .ref h]) (rest := []) ⟨hx, hb, hml, hown, hg⟩ (c_Ut_put l dC dI h r cA cap f L (ut_cn xv.toInt) hL hc hk (pp_cn _) s.heap.size) (va_cwS 2 hg (gi_S kw_406 kw_407 kw_21 kw_408) rfl rfl rfl (by decide +kernel) ⟨Nat.le_of_ble_eq_true rfl, Nat.le_of_ble_eq_true rfl⟩) (zz_preS hPc hKc hDc _) rfl rfl hl.1 rfl (lv_room (Nat.le_of_ble_eq_true rfl)) d_Pr_putNumber_21 ⟨Nat.le_of_ble_eq_true rfl, Nat.le_of_ble_eq_true rfl⟩) hS hFc (fun u H1 k9 p9 d9 => va_join (wr := [(hp, .inr (6, [.ref hn])), (hn, .inr (5, [.ref rn, .int kN])), (rn, .inl (cN, 64, .inl fN)), (hd, .inr (4, [.int dq, .int (by_z bm), .int (by_z bp), .int (by_z bz), .int (nI wd), .int (nI v)])), (ha, .inr (0, [.int (nI kk), .long xv, .null]))]) hP hD [5, 6] [0, 1, 2, 3, 4] rfl rfl (by decide) (by decide) k9 hFc p9 d9) (fun u H locs hw hP hD hK1 hS => ?_)
    obtain ⟨u_15, rfl⟩ : ∃ z, z = u := ⟨_, rfl⟩
    try dsimp only at hw
    have hP : va_P (dC, dI) vwCl [(hp, .inr (6, [.ref hn])), (hn, .inr (5, [.ref rn, .int kN])), (rn, .inl (cN, 64, .inl fN)), (hd, .inr (4, [.int dq, .int (by_z bm), .int (by_z bp), .int (by_z bz), .int (nI wd), .int (nI v)])), (ha, .inr (0, [.int (nI kk), .long xv, .null])), (h, .inr (2, [.ref r, .int (nI (by_ap cap L (ut_8 (ut_cn xv.toInt))).length)])), (r, .inl (cA, cap, .inl u_15))] H := hP
    have hD : va_D A [(hp, .inr (6, [.ref hn])), (hn, .inr (5, [.ref rn, .int kN])), (rn, .inl (cN, 64, .inl fN)), (hd, .inr (4, [.int dq, .int (by_z bm), .int (by_z bp), .int (by_z bz), .int (nI wd), .int (nI v)])), (ha, .inr (0, [.int (nI kk), .long xv, .null])), (h, .inr (2, [.ref r, .int (nI (by_ap cap L (ut_8 (ut_cn xv.toInt))).length)])), (r, .inl (cA, cap, .inl u_15))] := hD
    have hLp := hw
    refine lv_iconst (v := 1) hx hb d_Pr_putNumber_24 (by decide) ?_
    have hP9 := hP.sub (ws' := [(hp, .inr (6, [.ref hn])), (hn, .inr (5, [.ref rn, .int kN])), (rn, .inl (cN, 64, .inl fN)), (hd, .inr (4, [.int dq, .int (by_z bm), .int (by_z bp), .int (by_z bz), .int (nI wd), .int (nI v)])), (ha, .inr (0, [.int (nI kk), .long xv, .null])), (h, .inr (2, [.ref r, .int (nI (by_ap cap L (ut_8 (ut_cn xv.toInt))).length)])), (r, .inl (cA, cap, .inl u_15))]) [0, 1, 2, 3, 4, 5, 6] rfl
    have hD9 := hD.sub (ws' := [(hp, .inr (6, [.ref hn])), (hn, .inr (5, [.ref rn, .int kN])), (rn, .inl (cN, 64, .inl fN)), (hd, .inr (4, [.int dq, .int (by_z bm), .int (by_z bp), .int (by_z bz), .int (nI wd), .int (nI v)])), (ha, .inr (0, [.int (nI kk), .long xv, .null])), (h, .inr (2, [.ref r, .int (nI (by_ap cap L (ut_8 (ut_cn xv.toInt))).length)])), (r, .inl (cA, cap, .inl u_15))]) [0, 1, 2, 3, 4, 5, 6] (by decide) rfl
    have hK9 := hK.sub (tys' := [(cN, .byte), (cA, .byte)]) [0, 1] rfl
    rw [pp_xce f_10] at hP9 hD9
    exact zz_zret hx hb hr hlocks d_Pr_putNumber_25 (by decide) hS (by first | exact Nat.le_refl _ | decide | omega | (dsimp only; omega)) (by first | exact Nat.le_refl _ | decide | omega | (dsimp only; omega)) (fN, kN, u_15) (pp_xc f_10 hLp) hP9 hK9 hD9
