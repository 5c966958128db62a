/-! UTF-8 -/
def ut_ok (n : Int) : Bool := decide (0 ≤ n ∧ n ≤ 1114111 ∧ (n < 55296 ∨ 57343 < n))
def ut_cn (n : Int) : Nat := if ut_ok n then n.toNat else 65533
def ut_bn (c : Nat) : Nat := if c < 128 then 1 else if c < 2048 then 2 else if c < 65536 then 3 else 4
def ut_v (o : Option Nat) : Int32 := match o with
  | none => -1
  | some c => nI c
def ut_bo (o : Option Nat) : Nat := match o with
  | none => 1
  | some c => ut_bn c
def ut_8 (c : Nat) : List Nat := if c < 128 then [c] else if c < 2048 then [192 + c / 64, 128 + c % 64] else if c < 65536 then [224 + c / 4096, 128 + c / 64 % 64, 128 + c % 64] else [240 + c / 262144, 128 + c / 4096 % 64, 128 + c / 64 % 64, 128 + c % 64]
/-- a byte that goes on, without its mark -/
def ut_co (L : List Nat) (p : Nat) : Option Nat := if p < L.length ∧ 128 ≤ L.getD p 0 ∧ L.getD p 0 < 192 then some (L.getD p 0 - 128) else none
def ut_bd (o : Option Nat) (f : Nat → Option Nat) : Option Nat := match o with
  | none => none
  | some x => f x
def ut_fi (c n : Nat) : Option Nat := if ut_ok c = true ∧ ut_bn c = n then some c else none
/-- the code that begins at a place -/
def ut_at (L : List Nat) (p : Nat) : Option Nat :=
  if ¬ p < L.length then none
  else if L.getD p 0 < 128 then some (L.getD p 0)
  else if L.getD p 0 < 192 ∨ 248 ≤ L.getD p 0 then none
  else if L.getD p 0 < 224 then ut_bd (ut_co L (p + 1)) fun x => ut_fi ((L.getD p 0 - 192) * 64 + x) 2
  else if L.getD p 0 < 240 then ut_bd (ut_co L (p + 1)) fun x => ut_bd (ut_co L (p + 2)) fun y => ut_fi (((L.getD p 0 - 224) * 64 + x) * 64 + y) 3
  else ut_bd (ut_co L (p + 1)) fun x => ut_bd (ut_co L (p + 2)) fun y => ut_bd (ut_co L (p + 3)) fun z => ut_fi ((((L.getD p 0 - 240) * 64 + x) * 64 + y) * 64 + z) 4
theorem li_lt {x y : Int64} {k : Int} (hy : y.toInt = k) (c : lg_cmp x y < 0) : x.toInt < k := by
  rw [lg_cmp_lt, Int64.lt_iff_toInt_lt, hy] at c; exact c
theorem li_nlt {x y : Int64} {k : Int} (hy : y.toInt = k) (c : ¬ lg_cmp x y < 0) : k ≤ x.toInt := by
  rw [lg_cmp_lt, Int64.lt_iff_toInt_lt, hy] at c; omega
theorem li_gt {x y : Int64} {k : Int} (hy : y.toInt = k) (c : 0 < lg_cmp x y) : k < x.toInt := by
  rw [lg_cmp_gt, Int64.lt_iff_toInt_lt, hy] at c; exact c
theorem li_ngt {x y : Int64} {k : Int} (hy : y.toInt = k) (c : ¬ 0 < lg_cmp x y) : x.toInt ≤ k := by
  rw [lg_cmp_gt, Int64.lt_iff_toInt_lt, hy] at c; omega
theorem li_le {x y : Int64} {k : Int} (hy : y.toInt = k) (c : lg_cmp x y ≤ 0) : x.toInt ≤ k := by
  rw [lg_cmp_le, Int64.le_iff_toInt_le, hy] at c; exact c
theorem li_nle {x y : Int64} {k : Int} (hy : y.toInt = k) (c : ¬ lg_cmp x y ≤ 0) : k < x.toInt := by
  rw [lg_cmp_le, Int64.le_iff_toInt_le, hy] at c; omega
theorem ut_cf {n : Int} (h : ut_ok n = false) : 65533 = nI (ut_cn n) := by unfold ut_cn; rw [h]; rfl
theorem ut_ct {x : Int64} (h : ut_ok x.toInt = true) : x.toInt32 = nI (ut_cn x.toInt) := by
  unfold ut_cn; rw [h]
  have h2 := of_decide_eq_true h
  obtain ⟨k, hk, rfl⟩ := pk_lOf (x := x) (fun z => by rw [Int64.lt_iff_toInt_lt] at z; have : (0 : Int64).toInt = 0 := rfl; omega)
  rw [lN_i, pk_lT hk]; rfl
theorem nI_nm1 {c : Nat} (h : c < 2147483648) : ¬ nI c = -1 := fun e => by
  have := congrArg Int32.toInt e
  rw [nI_toInt h] at this
  have e2 : (-1 : Int32).toInt = -1 := by decide
  omega
theorem ut_sp (c : Nat) : c < 128 ∨ (128 ≤ c ∧ c < 2048) ∨ (2048 ≤ c ∧ c < 65536) ∨ 65536 ≤ c := by omega
theorem nx_or (a b : Nat) : nI a ||| nI b = nI (a ||| b) := by
  apply Int32.toBitVec_inj.1
  show BitVec.ofNat 32 a ||| BitVec.ofNat 32 b = BitVec.ofNat 32 (a ||| b)
  rw [BitVec.ofNat_or]
theorem nx_orS {a i k : Nat} (hk : k < 2 ^ i) : nI (a * 2 ^ i) ||| nI k = nI (a * 2 ^ i + k) := by
  rw [nx_or, ← Nat.shiftLeft_eq, Nat.shiftLeft_add_eq_or_of_lt hk]
theorem by_b_m {n : Nat} (h : n < 2 ^ 32) : by_b (nI n) = n % 256 := by unfold by_b; rw [pk_tn h]
theorem ut_ld {c a i k : Nat} {x s : Int32} (hx : x = nI (a * 2 ^ i)) (hs : (s.toBitVec.smod 32).toNat = k) (hc : c < 2 ^ 31) (hk : c / 2 ^ k < 2 ^ i) (hb : a * 2 ^ i + c / 2 ^ k < 2 ^ 32) : by_b (x ||| (nI c >>> s)) = (a * 2 ^ i + c / 2 ^ k) % 256 := by
  rw [hx, pk_shrN hc s k hs, nx_orS hk, by_b_m hb]
theorem ut_c0 {c : Nat} (hc : c < 2 ^ 31) : by_b (128 ||| (nI c &&& 63)) = 128 + c % 64 := by
  rw [pk_andN (by omega) 6 (by decide), show (128 : Int32) = nI (2 * 2 ^ 6) from rfl, nx_orS (by omega), by_b_m (by omega)]
  omega
theorem ut_cs {c k : Nat} {s : Int32} (hs : (s.toBitVec.smod 32).toNat = k) (hc : c < 2 ^ 31) : by_b (128 ||| ((nI c >>> s) &&& 63)) = 128 + c / 2 ^ k % 64 := by
  rw [pk_shrN hc s k hs]
  exact ut_c0 (Nat.lt_of_le_of_lt (Nat.div_le_self _ _) hc)
theorem ut_e1 {cap c : Nat} {L : List Nat} (q : c < 128) : by_ap cap L [by_b (nI c)] = by_ap cap L (ut_8 c) := by
  unfold ut_8; rw [if_pos q, by_b_n (by omega)]
theorem ut_e2 {cap c : Nat} {L : List Nat} (q : 128 ≤ c ∧ c < 2048) : by_ap cap (by_ap cap L [by_b ((240 <<< ((4 - nI 2) &&& 31)) ||| (nI c >>> ((6 * (nI 2 - 1)) &&& 31)))]) [by_b (128 ||| ((nI c >>> ((6 * (nI 2 - 2)) &&& 31)) &&& 63))] = by_ap cap L (ut_8 c) := by
  rw [ut_ld (a := 15) (i := 6) (k := 6) (by decide) (by decide) (by omega) (by omega) (by omega), ut_cs (k := 0) (by decide) (by omega), by_ap_ap]
  unfold ut_8; rw [if_neg (by omega), if_pos q.2]
  congr 1
  show [_, _] = [_, _]
  congr 1
  · omega
  · congr 1; omega
theorem ut_e3 {cap c : Nat} {L : List Nat} (q : 2048 ≤ c ∧ c < 65536) : by_ap cap (by_ap cap (by_ap cap L [by_b ((240 <<< ((4 - nI 3) &&& 31)) ||| (nI c >>> ((6 * (nI 3 - 1)) &&& 31)))]) [by_b (128 ||| ((nI c >>> ((6 * (nI 3 - 2)) &&& 31)) &&& 63))]) [by_b (128 ||| ((nI c >>> ((6 * ((nI 3 - 2) + (-1))) &&& 31)) &&& 63))] = by_ap cap L (ut_8 c) := by
  rw [ut_ld (a := 15) (i := 5) (k := 12) (by decide) (by decide) (by omega) (by omega) (by omega), ut_cs (k := 6) (by decide) (by omega), ut_cs (k := 0) (by decide) (by omega), by_ap_ap, by_ap_ap]
  unfold ut_8; rw [if_neg (by omega), if_neg (by omega), if_pos q.2]
  congr 1
  show [_, _, _] = [_, _, _]
  congr 1
  · omega
  · congr 1; congr 1; omega
theorem ut_e4 {cap c : Nat} {L : List Nat} (q : 65536 ≤ c) (hc : c ≤ 1114111 := by omega) : by_ap cap (by_ap cap (by_ap cap (by_ap cap L [by_b ((240 <<< ((4 - nI 4) &&& 31)) ||| (nI c >>> ((6 * (nI 4 - 1)) &&& 31)))]) [by_b (128 ||| ((nI c >>> ((6 * (nI 4 - 2)) &&& 31)) &&& 63))]) [by_b (128 ||| ((nI c >>> ((6 * ((nI 4 - 2) + (-1))) &&& 31)) &&& 63))]) [by_b (128 ||| ((nI c >>> ((6 * (((nI 4 - 2) + (-1)) + (-1))) &&& 31)) &&& 63))] = by_ap cap L (ut_8 c) := by
  rw [ut_ld (a := 15) (i := 4) (k := 18) (by decide) (by decide) (by omega) (by omega) (by omega), ut_cs (k := 12) (by decide) (by omega), ut_cs (k := 6) (by decide) (by omega), ut_cs (k := 0) (by decide) (by omega), by_ap_ap, by_ap_ap, by_ap_ap]
  unfold ut_8; rw [if_neg (by omega), if_neg (by omega), if_neg (by omega)]
  congr 1
  show [_, _, _, _] = [_, _, _, _]
  congr 1
  · omega
  · congr 1; congr 1; congr 1; omega
abbrev y_Ut_isCode : MethodName := ⟨"TextForge$Utf8", "isCode", "(J)Z"⟩
abbrev w_Ut_isCode : List Cond := Cond.code y_Ut_isCode prog_10_method_2_code 2 (some .boolean) :: gw
theorem d_Ut_isCode_0 : decode prog_10_method_2_code 0 = .ok (.lload_n 0, 1) := by decide +kernel
theorem d_Ut_isCode_1 : decode prog_10_method_2_code 1 = .ok (.lconst 0, 1) := by decide +kernel
theorem d_Ut_isCode_2 : decode prog_10_method_2_code 2 = .ok (.lcmp, 1) := by decide +kernel
theorem d_Ut_isCode_3 : decode prog_10_method_2_code 3 = .ok (.ifCond .lt 31, 3) := by decide +kernel
theorem d_Ut_isCode_6 : decode prog_10_method_2_code 6 = .ok (.lload_n 0, 1) := by decide +kernel
theorem d_Ut_isCode_7 : decode prog_10_method_2_code 7 = .ok (.ldc2_w 7, 3) := by decide +kernel
theorem d_Ut_isCode_10 : decode prog_10_method_2_code 10 = .ok (.lcmp, 1) := by decide +kernel
theorem d_Ut_isCode_11 : decode prog_10_method_2_code 11 = .ok (.ifCond .gt 23, 3) := by decide +kernel
theorem d_Ut_isCode_14 : decode prog_10_method_2_code 14 = .ok (.lload_n 0, 1) := by decide +kernel
theorem d_Ut_isCode_15 : decode prog_10_method_2_code 15 = .ok (.ldc2_w 9, 3) := by decide +kernel
theorem d_Ut_isCode_18 : decode prog_10_method_2_code 18 = .ok (.lcmp, 1) := by decide +kernel
theorem d_Ut_isCode_19 : decode prog_10_method_2_code 19 = .ok (.ifCond .lt 11, 3) := by decide +kernel
theorem d_Ut_isCode_22 : decode prog_10_method_2_code 22 = .ok (.lload_n 0, 1) := by decide +kernel
theorem d_Ut_isCode_23 : decode prog_10_method_2_code 23 = .ok (.ldc2_w 11, 3) := by decide +kernel
theorem d_Ut_isCode_26 : decode prog_10_method_2_code 26 = .ok (.lcmp, 1) := by decide +kernel
theorem d_Ut_isCode_27 : decode prog_10_method_2_code 27 = .ok (.ifCond .le 7, 3) := by decide +kernel
theorem d_Ut_isCode_30 : decode prog_10_method_2_code 30 = .ok (.iconst 1, 1) := by decide +kernel
theorem d_Ut_isCode_31 : decode prog_10_method_2_code 31 = .ok (.goto 4, 3) := by decide +kernel
theorem d_Ut_isCode_34 : decode prog_10_method_2_code 34 = .ok (.iconst 0, 1) := by decide +kernel
theorem d_Ut_isCode_35 : decode prog_10_method_2_code 35 = .ok (.ireturn, 1) := by decide +kernel
set_option maxHeartbeats 4000000 in
set_option maxRecDepth 100000 in
theorem c_Ut_isCode (l : Launch) (dC : Nat → ClassId) (dI : Nat → Nat → Nat) (x : Int64)  : zR_i l y_Ut_isCode w_Ut_isCode { frames := 0, cells := 0, slots := 0, locals := 0 } (dC, dI) vwCl [.long x] [] [] (fun r : Int32 => r = by_z (ut_ok x.toInt)) := by
  refine zz_enterR (cc := prog_10_method_2_code) (nL := 2) (ret := (some .boolean)) (by decide) rfl (Nat.le_of_ble_eq_true rfl) ?_
  intro p e s m below meth c ls C0 hP hK hl
  obtain ⟨hx, hb, hml, hown, hg, hr, hlocks, hin⟩ := C0
  have hS : va_S (fun _ => False) s.heap s.heap [] := va_S.rf
  have hown : s.vm.findClass "TextForge$Utf8" = some m.cls := hown
  have hP : va_P (dC, dI) vwCl [] s.heap := hP
  have hK : va_K (dC, dI) vwCl [] s := hK
  have hl : lv_has ls 2 [(0, .long x)] := hl
  refine lv_lload_n hx hb d_Ut_isCode_0 rfl (lv_at hl 0 rfl) ?_
  refine lv_lconst (v := 0) hx hb d_Ut_isCode_1 (by decide) ?_
  refine W.lcmp hx hb d_Ut_isCode_2 ?_
  refine lv_if_lt (tgt := 34) hx hb d_Ut_isCode_3 (by decide) (fun c_3 => ?_) (fun c_3 => ?_)
  · skip
    have i_3 := li_lt (k := 0) (by decide) c_3
    refine lv_iconst (v := 0) hx hb d_Ut_isCode_34 (by decide) ?_
    exact zz_zretR hx hb hr hlocks d_Ut_isCode_35 rfl (by rw [show ut_ok x.toInt = false from decide_eq_false (by omega)]; rfl)
  · skip
    have i_3 := li_nlt (k := 0) (by decide) c_3
    refine lv_lload_n hx hb d_Ut_isCode_6 rfl (lv_at hl 0 rfl) ?_
    refine W.ldc2 (v := 1114111) hx hb hown (hg _ kw_367) rfl d_Ut_isCode_7 ?_
    refine W.eq (g2 := F0 m 10 ls [.long 1114111, .long x]) rfl ?_
    refine W.lcmp hx hb d_Ut_isCode_10 ?_
    refine lv_if_gt (tgt := 34) hx hb d_Ut_isCode_11 (by decide) (fun c_11 => ?_) (fun c_11 => ?_)
    · skip
      have i_11 := li_gt (k := 1114111) (by decide) c_11
      refine lv_iconst (v := 0) hx hb d_Ut_isCode_34 (by decide) ?_
      exact zz_zretR hx hb hr hlocks d_Ut_isCode_35 rfl (by rw [show ut_ok x.toInt = false from decide_eq_false (by omega)]; rfl)
    · skip
      have i_11 := li_ngt (k := 1114111) (by decide) c_11
      refine lv_lload_n hx hb d_Ut_isCode_14 rfl (lv_at hl 0 rfl) ?_
      refine W.ldc2 (v := 55296) hx hb hown (hg _ kw_368) rfl d_Ut_isCode_15 ?_
      refine W.eq (g2 := F0 m 18 ls [.long 55296, .long x]) rfl ?_
      refine W.lcmp hx hb d_Ut_isCode_18 ?_
      refine lv_if_lt (tgt := 30) hx hb d_Ut_isCode_19 (by decide) (fun c_19 => ?_) (fun c_19 => ?_)
      · skip
        have i_19 := li_lt (k := 55296) (by decide) c_19
        refine lv_iconst (v := 1) hx hb d_Ut_isCode_30 (by decide) ?_
        refine lv_goto (tgt := 35) hx hb d_Ut_isCode_31 (by decide) ?_
        exact zz_zretR hx hb hr hlocks d_Ut_isCode_35 rfl (by rw [show ut_ok x.toInt = true from decide_eq_true (by omega)]; rfl)
      · skip
        have i_19 := li_nlt (k := 55296) (by decide) c_19
        refine lv_lload_n hx hb d_Ut_isCode_22 rfl (lv_at hl 0 rfl) ?_
        refine W.ldc2 (v := 57343) hx hb hown (hg _ kw_369) rfl d_Ut_isCode_23 ?_
        refine W.eq (g2 := F0 m 26 ls [.long 57343, .long x]) rfl ?_
        refine W.lcmp hx hb d_Ut_isCode_26 ?_
        refine lv_if_le (tgt := 34) hx hb d_Ut_isCode_27 (by decide) (fun c_27 => ?_) (fun c_27 => ?_)
        · skip
          have i_27 := li_le (k := 57343) (by decide) c_27
          refine lv_iconst (v := 0) hx hb d_Ut_isCode_34 (by decide) ?_
          exact zz_zretR hx hb hr hlocks d_Ut_isCode_35 rfl (by rw [show ut_ok x.toInt = false from decide_eq_false (by omega)]; rfl)
        · skip
          have i_27 := li_nle (k := 57343) (by decide) c_27
          refine lv_iconst (v := 1) hx hb d_Ut_isCode_30 (by decide) ?_
          refine lv_goto (tgt := 35) hx hb d_Ut_isCode_31 (by decide) ?_
          exact zz_zretR hx hb hr hlocks d_Ut_isCode_35 rfl (by rw [show ut_ok x.toInt = true from decide_eq_true (by omega)]; rfl)
abbrev y_Ut_codeOf : MethodName := ⟨"TextForge$Utf8", "codeOf", "(J)I"⟩
abbrev w_Ut_codeOf : List Cond := Cond.code y_Ut_codeOf prog_10_method_3_code 2 (some .int) :: gw
theorem d_Ut_codeOf_0 : decode prog_10_method_3_code 0 = .ok (.lload_n 0, 1) := by decide +kernel
theorem d_Ut_codeOf_1 : decode prog_10_method_3_code 1 = .ok (.invokestatic 13, 3) := by decide +kernel
theorem d_Ut_codeOf_4 : decode prog_10_method_3_code 4 = .ok (.ifCond .eq 8, 3) := by decide +kernel
theorem d_Ut_codeOf_7 : decode prog_10_method_3_code 7 = .ok (.lload_n 0, 1) := by decide +kernel
theorem d_Ut_codeOf_8 : decode prog_10_method_3_code 8 = .ok (.l2i, 1) := by decide +kernel
theorem d_Ut_codeOf_9 : decode prog_10_method_3_code 9 = .ok (.goto 5, 3) := by decide +kernel
theorem d_Ut_codeOf_12 : decode prog_10_method_3_code 12 = .ok (.ldc 19, 2) := by decide +kernel
theorem d_Ut_codeOf_14 : decode prog_10_method_3_code 14 = .ok (.ireturn, 1) := by decide +kernel
set_option maxHeartbeats 4000000 in
set_option maxRecDepth 100000 in
theorem c_Ut_codeOf (l : Launch) (dC : Nat → ClassId) (dI : Nat → Nat → Nat) (x : Int64)  : zR_i l y_Ut_codeOf w_Ut_codeOf { frames := 1, cells := 0, slots := 0, locals := 21 } (dC, dI) vwCl [.long x] [] [] (fun r : Int32 => r = nI (ut_cn x.toInt)) := by
  refine zz_enterR (cc := prog_10_method_3_code) (nL := 2) (ret := (some .int)) (by decide) rfl (Nat.le_of_ble_eq_true rfl) ?_
  intro p e s m below meth c ls C0 hP hK hl
  obtain ⟨hx, hb, hml, hown, hg, hr, hlocks, hin⟩ := C0
  have hS : va_S (fun _ => False) s.heap s.heap [] := va_S.rf
  have hown : s.vm.findClass "TextForge$Utf8" = some m.cls := hown
  have hP : va_P (dC, dI) vwCl [] s.heap := hP
  have hK : va_K (dC, dI) vwCl [] s := hK
  have hl : lv_has ls 2 [(0, .long x)] := hl
  refine lv_lload_n hx hb d_Ut_codeOf_0 rfl (lv_at hl 0 rfl) ?_
  have hPc := hP.sub (ws' := []) [] rfl
  have hKc := hK.sub (tys' := []) [] rfl
  refine vp_callSi (W.runS (As := [.long x]) (rest := []) ⟨hx, hb, hml, hown, hg⟩ (c_Ut_isCode l dC dI x ) (va_cwS 1 hg (gi_S kw_364 kw_365 kw_21 kw_366) rfl rfl rfl (by decide +kernel) ⟨Nat.le_of_ble_eq_true rfl, Nat.le_of_ble_eq_true rfl⟩) (zz_prJS hPc hKc _) rfl rfl hl.1 rfl (lv_room (Nat.le_of_ble_eq_true rfl)) d_Ut_codeOf_1 ⟨Nat.le_of_ble_eq_true rfl, Nat.le_of_ble_eq_true rfl⟩) (fun r1 hr1 => ?_)
  refine lv_if_eq (tgt := 12) hx hb d_Ut_codeOf_4 (by decide) (fun c_4 => ?_) (fun c_4 => ?_)
  · skip
    refine W.ldc (v := 65533) hx hb hown (hg _ kw_405) rfl d_Ut_codeOf_12 ?_
    refine W.eq (g2 := F0 m 14 ls [.int 65533]) rfl ?_
    exact zz_iretR hx hb hr hlocks d_Ut_codeOf_14 (ut_cf (by_z_f hr1 c_4))
  · skip
    refine lv_lload_n hx hb d_Ut_codeOf_7 rfl (lv_at hl 0 rfl) ?_
    refine lv_l2i hx hb d_Ut_codeOf_8 rfl ?_
    refine lv_goto (tgt := 14) hx hb d_Ut_codeOf_9 (by decide) ?_
    exact zz_iretR hx hb hr hlocks d_Ut_codeOf_14 (ut_ct (by_z_t hr1 c_4))
abbrev y_Ut_bytesOf : MethodName := ⟨"TextForge$Utf8", "bytesOf", "(I)I"⟩
abbrev w_Ut_bytesOf : List Cond := Cond.code y_Ut_bytesOf prog_10_method_4_code 1 (some .int) :: gw
theorem d_Ut_bytesOf_0 : decode prog_10_method_4_code 0 = .ok (.iload_n 0, 1) := by decide +kernel
theorem d_Ut_bytesOf_1 : decode prog_10_method_4_code 1 = .ok (.sipush 128, 3) := by decide +kernel
theorem d_Ut_bytesOf_4 : decode prog_10_method_4_code 4 = .ok (.if_icmp .ge 5, 3) := by decide +kernel
theorem d_Ut_bytesOf_7 : decode prog_10_method_4_code 7 = .ok (.iconst 1, 1) := by decide +kernel
theorem d_Ut_bytesOf_8 : decode prog_10_method_4_code 8 = .ok (.ireturn, 1) := by decide +kernel
theorem d_Ut_bytesOf_9 : decode prog_10_method_4_code 9 = .ok (.iload_n 0, 1) := by decide +kernel
theorem d_Ut_bytesOf_10 : decode prog_10_method_4_code 10 = .ok (.sipush 2048, 3) := by decide +kernel
theorem d_Ut_bytesOf_13 : decode prog_10_method_4_code 13 = .ok (.if_icmp .ge 5, 3) := by decide +kernel
theorem d_Ut_bytesOf_16 : decode prog_10_method_4_code 16 = .ok (.iconst 2, 1) := by decide +kernel
theorem d_Ut_bytesOf_17 : decode prog_10_method_4_code 17 = .ok (.ireturn, 1) := by decide +kernel
theorem d_Ut_bytesOf_18 : decode prog_10_method_4_code 18 = .ok (.iload_n 0, 1) := by decide +kernel
theorem d_Ut_bytesOf_19 : decode prog_10_method_4_code 19 = .ok (.ldc 20, 2) := by decide +kernel
theorem d_Ut_bytesOf_21 : decode prog_10_method_4_code 21 = .ok (.if_icmp .ge 7, 3) := by decide +kernel
theorem d_Ut_bytesOf_24 : decode prog_10_method_4_code 24 = .ok (.iconst 3, 1) := by decide +kernel
theorem d_Ut_bytesOf_25 : decode prog_10_method_4_code 25 = .ok (.goto 4, 3) := by decide +kernel
theorem d_Ut_bytesOf_28 : decode prog_10_method_4_code 28 = .ok (.iconst 4, 1) := by decide +kernel
theorem d_Ut_bytesOf_29 : decode prog_10_method_4_code 29 = .ok (.ireturn, 1) := by decide +kernel
set_option maxHeartbeats 4000000 in
set_option maxRecDepth 100000 in
theorem c_Ut_bytesOf (l : Launch) (dC : Nat → ClassId) (dI : Nat → Nat → Nat) (n0 : Nat) (hc : n0 < 2147483648) : zR_i l y_Ut_bytesOf w_Ut_bytesOf { frames := 0, cells := 0, slots := 0, locals := 0 } (dC, dI) vwCl [.int (nI n0)] [] [] (fun r : Int32 => r = nI (ut_bn n0)) := by
  refine zz_enterR (cc := prog_10_method_4_code) (nL := 1) (ret := (some .int)) (by decide) rfl (Nat.le_of_ble_eq_true rfl) ?_
  intro p e s m below meth c ls C0 hP hK hl
  obtain ⟨hx, hb, hml, hown, hg, hr, hlocks, hin⟩ := C0
  have hS : va_S (fun _ => False) s.heap s.heap [] := va_S.rf
  have hown : s.vm.findClass "TextForge$Utf8" = some m.cls := hown
  have hP : va_P (dC, dI) vwCl [] s.heap := hP
  have hK : va_K (dC, dI) vwCl [] s := hK
  have hl : lv_has ls 1 [(0, .int (nI n0))] := hl
  refine lv_iload_n hx hb d_Ut_bytesOf_0 rfl (lv_at hl 0 rfl) ?_
  refine lv_sipush (v := 128) hx hb d_Ut_bytesOf_1 (by decide) ?_
  refine lv_icmp_ge (tgt := 9) hx hb d_Ut_bytesOf_4 (by decide) (fun c_4 => ?_) (fun c_4 => ?_)
  · skip
    have i_4 : ¬ n0 < 128 := fun z => nI_ge (b := 128) z (by decide) c_4
    refine lv_iload_n hx hb d_Ut_bytesOf_9 rfl (lv_at hl 0 rfl) ?_
    refine lv_sipush (v := 2048) hx hb d_Ut_bytesOf_10 (by decide) ?_
    refine lv_icmp_ge (tgt := 18) hx hb d_Ut_bytesOf_13 (by decide) (fun c_13 => ?_) (fun c_13 => ?_)
    · skip
      have i_13 : ¬ n0 < 2048 := fun z => nI_ge (b := 2048) z (by decide) c_13
      refine lv_iload_n hx hb d_Ut_bytesOf_18 rfl (lv_at hl 0 rfl) ?_
      refine W.ldc (v := 65536) hx hb hown (hg _ kw_373) rfl d_Ut_bytesOf_19 ?_
      refine W.eq (g2 := F0 m 21 ls [.int 65536, .int (nI n0)]) rfl ?_
      refine lv_icmp_ge (tgt := 28) hx hb d_Ut_bytesOf_21 (by decide) (fun c_21 => ?_) (fun c_21 => ?_)
      · skip
        have i_21 : ¬ n0 < 65536 := fun z => nI_ge (b := 65536) z (by decide) c_21
        refine lv_iconst (v := 4) hx hb d_Ut_bytesOf_28 (by decide) ?_
        exact zz_iretR hx hb hr hlocks d_Ut_bytesOf_29 (by unfold ut_bn; rw [if_neg i_4, if_neg i_13, if_neg i_21]; rfl)
      · skip
        have i_21 : n0 < 65536 := Nat.lt_of_not_le (fun z => c_21 (nI_le (a := 65536) z (by omega)))
        refine lv_iconst (v := 3) hx hb d_Ut_bytesOf_24 (by decide) ?_
        refine lv_goto (tgt := 29) hx hb d_Ut_bytesOf_25 (by decide) ?_
        exact zz_iretR hx hb hr hlocks d_Ut_bytesOf_29 (by unfold ut_bn; rw [if_neg i_4, if_neg i_13, if_pos i_21]; rfl)
    · skip
      have i_13 : n0 < 2048 := Nat.lt_of_not_le (fun z => c_13 (nI_le (a := 2048) z (by omega)))
      refine lv_iconst (v := 2) hx hb d_Ut_bytesOf_16 (by decide) ?_
      exact zz_iretR hx hb hr hlocks d_Ut_bytesOf_17 (by unfold ut_bn; rw [if_neg i_4, if_pos i_13]; rfl)
  · skip
    have i_4 : n0 < 128 := Nat.lt_of_not_le (fun z => c_4 (nI_le (a := 128) z (by omega)))
    refine lv_iconst (v := 1) hx hb d_Ut_bytesOf_7 (by decide) ?_
    exact zz_iretR hx hb hr hlocks d_Ut_bytesOf_8 (by unfold ut_bn; rw [if_pos i_4]; rfl)
abbrev y_Ut_bytesAt : MethodName := ⟨"TextForge$Utf8", "bytesAt", "(I)I"⟩
abbrev w_Ut_bytesAt : List Cond := Cond.code y_Ut_bytesAt prog_10_method_5_code 1 (some .int) :: gw
theorem d_Ut_bytesAt_0 : decode prog_10_method_5_code 0 = .ok (.iload_n 0, 1) := by decide +kernel
theorem d_Ut_bytesAt_1 : decode prog_10_method_5_code 1 = .ok (.iconst (-1), 1) := by decide +kernel
theorem d_Ut_bytesAt_2 : decode prog_10_method_5_code 2 = .ok (.if_icmp .ne 7, 3) := by decide +kernel
theorem d_Ut_bytesAt_5 : decode prog_10_method_5_code 5 = .ok (.iconst 1, 1) := by decide +kernel
theorem d_Ut_bytesAt_6 : decode prog_10_method_5_code 6 = .ok (.goto 7, 3) := by decide +kernel
theorem d_Ut_bytesAt_9 : decode prog_10_method_5_code 9 = .ok (.iload_n 0, 1) := by decide +kernel
theorem d_Ut_bytesAt_10 : decode prog_10_method_5_code 10 = .ok (.invokestatic 21, 3) := by decide +kernel
theorem d_Ut_bytesAt_13 : decode prog_10_method_5_code 13 = .ok (.ireturn, 1) := by decide +kernel
set_option maxHeartbeats 4000000 in
set_option maxRecDepth 100000 in
theorem c_Ut_bytesAt (l : Launch) (dC : Nat → ClassId) (dI : Nat → Nat → Nat) (o : Option Nat) (v : Int32) (hv : v = ut_v o) (ho : ∀ c, o = some c → c < 2147483648) : zR_i l y_Ut_bytesAt w_Ut_bytesAt { frames := 1, cells := 0, slots := 0, locals := 20 } (dC, dI) vwCl [.int v] [] [] (fun r : Int32 => r = nI (ut_bo o)) := by
  refine zz_enterR (cc := prog_10_method_5_code) (nL := 1) (ret := (some .int)) (by decide) rfl (Nat.le_of_ble_eq_true rfl) ?_
  intro p e s m below meth c ls C0 hP hK hl
  obtain ⟨hx, hb, hml, hown, hg, hr, hlocks, hin⟩ := C0
  have hS : va_S (fun _ => False) s.heap s.heap [] := va_S.rf
  have hown : s.vm.findClass "TextForge$Utf8" = some m.cls := hown
  have hP : va_P (dC, dI) vwCl [] s.heap := hP
  have hK : va_K (dC, dI) vwCl [] s := hK
  have hl : lv_has ls 1 [(0, .int v)] := hl
  subst hv
  have hl : lv_has ls 1 [(0, .int (ut_v o))] := hl
  refine lv_iload_n hx hb d_Ut_bytesAt_0 rfl (lv_at hl 0 rfl) ?_
  refine lv_iconst (v := (-1)) hx hb d_Ut_bytesAt_1 (by decide) ?_
  rcases o with _ | c9
  · skip
    show W _ _ _ _ _ _ _ _ _ _ _ _ _ _ _ (F0 m 2 ls [.int (-1), .int (-1)])
    refine lv_icmp_ne (tgt := 9) hx hb d_Ut_bytesAt_2 (by decide) (fun c9 => by first | exact absurd c9 (fun z => z rfl) | exact absurd (fun z => z rfl) c9) (fun _ => ?_)
    refine lv_iconst (v := 1) hx hb d_Ut_bytesAt_5 (by decide) ?_
    refine lv_goto (tgt := 13) hx hb d_Ut_bytesAt_6 (by decide) ?_
    exact zz_iretR hx hb hr hlocks d_Ut_bytesAt_13 rfl
  · skip
    have hl : lv_has ls 1 [(0, .int (nI c9))] := hl
    have hcc := ho c9 rfl
    show W _ _ _ _ _ _ _ _ _ _ _ _ _ _ _ (F0 m 2 ls [.int (-1), .int (nI c9)])
    refine lv_icmp_ne (tgt := 9) hx hb d_Ut_bytesAt_2 (by decide) (fun _ => ?_) (fun c9 => by first | exact absurd c9 (nI_nm1 hcc) | exact absurd (nI_nm1 hcc) c9)
    refine lv_iload_n hx hb d_Ut_bytesAt_9 rfl (lv_at hl 0 rfl) ?_
    have hPc := hP.sub (ws' := []) [] rfl
    have hKc := hK.sub (tys' := []) [] rfl
    refine vp_callSi (W.runS (As := [.int (nI c9)]) (rest := []) ⟨hx, hb, hml, hown, hg⟩ (c_Ut_bytesOf l dC dI c9 hcc) (va_cwS 1 hg (gi_S kw_370 kw_371 kw_21 kw_372) rfl rfl rfl (by decide +kernel) ⟨Nat.le_of_ble_eq_true rfl, Nat.le_of_ble_eq_true rfl⟩) (zz_prJS hPc hKc _) rfl rfl hl.1 rfl (lv_room (Nat.le_of_ble_eq_true rfl)) d_Ut_bytesAt_10 ⟨Nat.le_of_ble_eq_true rfl, Nat.le_of_ble_eq_true rfl⟩) (fun r1 hr1 => ?_)
    exact zz_iretR hx hb hr hlocks d_Ut_bytesAt_13 hr1
abbrev y_Ut_put : MethodName := ⟨"TextForge$Utf8", "put", "(ILTextForge$Bytes;)V"⟩
abbrev w_Ut_put : List Cond := Cond.code y_Ut_put prog_10_method_7_code 4 none :: gw
theorem d_Ut_put_0 : decode prog_10_method_7_code 0 = .ok (.iload_n 0, 1) := by decide +kernel
theorem d_Ut_put_1 : decode prog_10_method_7_code 1 = .ok (.invokestatic 21, 3) := by decide +kernel
theorem d_Ut_put_4 : decode prog_10_method_7_code 4 = .ok (.istore_n 2, 1) := by decide +kernel
theorem d_Ut_put_5 : decode prog_10_method_7_code 5 = .ok (.iload_n 2, 1) := by decide +kernel
theorem d_Ut_put_6 : decode prog_10_method_7_code 6 = .ok (.iconst 1, 1) := by decide +kernel
theorem d_Ut_put_7 : decode prog_10_method_7_code 7 = .ok (.if_icmp .ne 9, 3) := by decide +kernel
theorem d_Ut_put_10 : decode prog_10_method_7_code 10 = .ok (.aload_n 1, 1) := by decide +kernel
theorem d_Ut_put_11 : decode prog_10_method_7_code 11 = .ok (.iload_n 0, 1) := by decide +kernel
theorem d_Ut_put_12 : decode prog_10_method_7_code 12 = .ok (.invokevirtual 30, 3) := by decide +kernel
theorem d_Ut_put_15 : decode prog_10_method_7_code 15 = .ok (.return_, 1) := by decide +kernel
theorem d_Ut_put_16 : decode prog_10_method_7_code 16 = .ok (.aload_n 1, 1) := by decide +kernel
theorem d_Ut_put_17 : decode prog_10_method_7_code 17 = .ok (.sipush 240, 3) := by decide +kernel
theorem d_Ut_put_20 : decode prog_10_method_7_code 20 = .ok (.iconst 4, 1) := by decide +kernel
theorem d_Ut_put_21 : decode prog_10_method_7_code 21 = .ok (.iload_n 2, 1) := by decide +kernel
theorem d_Ut_put_22 : decode prog_10_method_7_code 22 = .ok (.isub, 1) := by decide +kernel
theorem d_Ut_put_23 : decode prog_10_method_7_code 23 = .ok (.ishl, 1) := by decide +kernel
theorem d_Ut_put_24 : decode prog_10_method_7_code 24 = .ok (.iload_n 0, 1) := by decide +kernel
theorem d_Ut_put_25 : decode prog_10_method_7_code 25 = .ok (.bipush 6, 2) := by decide +kernel
theorem d_Ut_put_27 : decode prog_10_method_7_code 27 = .ok (.iload_n 2, 1) := by decide +kernel
theorem d_Ut_put_28 : decode prog_10_method_7_code 28 = .ok (.iconst 1, 1) := by decide +kernel
theorem d_Ut_put_29 : decode prog_10_method_7_code 29 = .ok (.isub, 1) := by decide +kernel
theorem d_Ut_put_30 : decode prog_10_method_7_code 30 = .ok (.imul, 1) := by decide +kernel
theorem d_Ut_put_31 : decode prog_10_method_7_code 31 = .ok (.ishr, 1) := by decide +kernel
theorem d_Ut_put_32 : decode prog_10_method_7_code 32 = .ok (.ior, 1) := by decide +kernel
theorem d_Ut_put_33 : decode prog_10_method_7_code 33 = .ok (.invokevirtual 30, 3) := by decide +kernel
theorem d_Ut_put_36 : decode prog_10_method_7_code 36 = .ok (.iload_n 2, 1) := by decide +kernel
theorem d_Ut_put_37 : decode prog_10_method_7_code 37 = .ok (.iconst 2, 1) := by decide +kernel
theorem d_Ut_put_38 : decode prog_10_method_7_code 38 = .ok (.isub, 1) := by decide +kernel
theorem d_Ut_put_39 : decode prog_10_method_7_code 39 = .ok (.istore_n 3, 1) := by decide +kernel
theorem d_Ut_put_40 : decode prog_10_method_7_code 40 = .ok (.iload_n 3, 1) := by decide +kernel
theorem d_Ut_put_41 : decode prog_10_method_7_code 41 = .ok (.ifCond .lt 26, 3) := by decide +kernel
theorem d_Ut_put_44 : decode prog_10_method_7_code 44 = .ok (.aload_n 1, 1) := by decide +kernel
theorem d_Ut_put_45 : decode prog_10_method_7_code 45 = .ok (.sipush 128, 3) := by decide +kernel
theorem d_Ut_put_48 : decode prog_10_method_7_code 48 = .ok (.iload_n 0, 1) := by decide +kernel
theorem d_Ut_put_49 : decode prog_10_method_7_code 49 = .ok (.bipush 6, 2) := by decide +kernel
theorem d_Ut_put_51 : decode prog_10_method_7_code 51 = .ok (.iload_n 3, 1) := by decide +kernel
theorem d_Ut_put_52 : decode prog_10_method_7_code 52 = .ok (.imul, 1) := by decide +kernel
theorem d_Ut_put_53 : decode prog_10_method_7_code 53 = .ok (.ishr, 1) := by decide +kernel
theorem d_Ut_put_54 : decode prog_10_method_7_code 54 = .ok (.bipush 63, 2) := by decide +kernel
theorem d_Ut_put_56 : decode prog_10_method_7_code 56 = .ok (.iand, 1) := by decide +kernel
theorem d_Ut_put_57 : decode prog_10_method_7_code 57 = .ok (.ior, 1) := by decide +kernel
theorem d_Ut_put_58 : decode prog_10_method_7_code 58 = .ok (.invokevirtual 30, 3) := by decide +kernel
theorem d_Ut_put_61 : decode prog_10_method_7_code 61 = .ok (.iinc 3 (-1), 3) := by decide +kernel
theorem d_Ut_put_64 : decode prog_10_method_7_code 64 = .ok (.goto (-24), 3) := by decide +kernel
theorem d_Ut_put_67 : decode prog_10_method_7_code 67 = .ok (.return_, 1) := by decide +kernel
set_option maxHeartbeats 4000000 in
set_option maxRecDepth 100000 in
theorem c_Ut_put (l : Launch) (dC : Nat → ClassId) (dI : Nat → Nat → Nat) (h r : Nat) (cA : ClassId) (cap : Nat) (f : Nat → Int32) (L : List Nat) (c0 : Nat) (hL : by_L L f) (hc : L.length ≤ cap) (hk : cap < 2147483648) (hc0 : c0 ≤ 1114111) : zM_v (S := Nat → Int32) l y_Ut_put w_Ut_put { frames := 1, cells := 0, slots := 0, locals := 21 } (dC, dI) vwCl [.int (nI c0), .ref h] [(h, .inr (2, [.ref r, .int (nI L.length)])), (r, .inl (cA, cap, .inl f))] [(cA, .byte)] (fun (u : Nat → Int32) => by_L (by_ap cap L (ut_8 c0)) u) (fun u => [(h, .inr (2, [.ref r, .int (nI (by_ap cap L (ut_8 c0)).length)])), (r, .inl (cA, cap, .inl u))]) (fun u => [(cA, .byte)]) 0 0 := by
  refine zz_enterv (cc := prog_10_method_7_code) (nL := 4) (ret := none) (by decide) rfl (Nat.le_of_ble_eq_true rfl) ?_
  intro p e s m below meth c A ls C0 hA hS hP hK hD hl
  obtain ⟨hx, hb, hml, hown, hg, hr, hlocks, hin⟩ := C0
  have hown : s.vm.findClass "TextForge$Utf8" = some m.cls := hown
  have hP : va_P (dC, dI) vwCl [(h, .inr (2, [.ref r, .int (nI L.length)])), (r, .inl (cA, cap, .inl f))] s.heap := hP
  have hK : va_K (dC, dI) vwCl [(cA, .byte)] s := hK
  have hD : va_D A [(h, .inr (2, [.ref r, .int (nI L.length)])), (r, .inl (cA, cap, .inl f))] := hD
  have hl : lv_has ls 4 [(0, .int (nI c0)), (1, .ref h)] := hl
  refine lv_iload_n hx hb d_Ut_put_0 rfl (lv_at hl 0 rfl) ?_
  have hPc := hP.sub (ws' := []) [] rfl
  have hKc := hK.sub (tys' := []) [] rfl
  refine vp_callSi (W.runS (As := [.int (nI c0)]) (rest := []) ⟨hx, hb, hml, hown, hg⟩ (c_Ut_bytesOf l dC dI c0 (by omega)) (va_cwS 1 hg (gi_S kw_370 kw_371 kw_21 kw_372) rfl rfl rfl (by decide +kernel) ⟨Nat.le_of_ble_eq_true rfl, Nat.le_of_ble_eq_true rfl⟩) (zz_prJS hPc hKc _) rfl rfl hl.1 rfl (lv_room (Nat.le_of_ble_eq_true rfl)) d_Ut_put_1 ⟨Nat.le_of_ble_eq_true rfl, Nat.le_of_ble_eq_true rfl⟩) (fun r1 hr1 => ?_)
  rcases ut_sp c0 with q1 | q1 | q1 | q1
  · skip
    rw [show ut_bn c0 = 1 from by unfold ut_bn; rw [if_pos q1]] at hr1
    subst hr1
    refine lv_istore_n (lv' := [(2, .int (nI 1)), (0, .int (nI c0)), (1, .ref h)]) hx hb d_Ut_put_4 rfl hl (by decide) rfl (fun ls hl => ?_)
    refine lv_iload_n hx hb d_Ut_put_5 rfl (lv_at hl 0 rfl) ?_
    refine lv_iconst (v := 1) hx hb d_Ut_put_6 (by decide) ?_
    refine lv_icmp_ne (tgt := 16) hx hb d_Ut_put_7 (by decide) (fun c9 => by first | exact absurd c9 (fun z => z (by decide)) | exact absurd (fun z => z (by decide)) c9) (fun _ => ?_)
    refine lv_aload_n hx hb d_Ut_put_10 rfl (lv_at hl 2 rfl) ?_
    refine lv_iload_n hx hb d_Ut_put_11 rfl (lv_at hl 1 rfl) ?_
    have hPc := hP.sub (ws' := [(h, .inr (2, [.ref r, .int (nI L.length)])), (r, .inl (cA, cap, .inl f))]) [0, 1] rfl
    have hKc := hK.sub (tys' := [(cA, .byte)]) [0] rfl
    have hDc := hD.sub (ws' := [(h, .inr (2, [.ref r, .int (nI L.length)])), (r, .inl (cA, cap, .inl f))]) [0, 1] (by decide) rfl
    have hFc := va_free (wc := [(h, .inr (2, [.ref r, .int (nI L.length)])), (r, .inl (cA, cap, .inl f))]) hD hS hA [0, 1] rfl
    refine zz_callv (va_runV (As := [.int (nI c0)]) (rest := []) ⟨hx, hb, hml, hown, hg⟩ (c_By_add l dC dI h r cA cap f L (nI c0) hL hc hk  s.heap.size) (cwV 1 hg (gi_V kw_409 kw_166 kw_167 kw_2 kw_168) rfl rfl rfl (by decide +kernel) ⟨Nat.le_of_ble_eq_true rfl, Nat.le_of_ble_eq_true rfl⟩) (zz_preV hPc hKc hDc _ (q0 := 0) (ci := 2) rfl rfl) rfl rfl hl.1 rfl (lv_room (Nat.le_of_ble_eq_true rfl)) d_Ut_put_12 ⟨Nat.le_of_ble_eq_true rfl, Nat.le_of_ble_eq_true rfl⟩) hS hFc (fun u H1 k9 p9 d9 => va_join (wr := []) hP hD [0, 1] [] rfl rfl (by decide) (by decide) k9 hFc p9 d9) (fun u H locs hw hP hD hK1 hS => ?_)
    obtain ⟨u_1, rfl⟩ : ∃ z, z = u := ⟨_, rfl⟩
    try dsimp only at hw
    have hP : va_P (dC, dI) vwCl [(h, .inr (2, [.ref r, .int (nI (by_ap cap L [by_b (nI c0)]).length)])), (r, .inl (cA, cap, .inl u_1))] H := hP
    have hD : va_D A [(h, .inr (2, [.ref r, .int (nI (by_ap cap L [by_b (nI c0)]).length)])), (r, .inl (cA, cap, .inl u_1))] := hD
    have hL_3 := hw
    have hP9 := hP.sub (ws' := [(h, .inr (2, [.ref r, .int (nI (by_ap cap L [by_b (nI c0)]).length)])), (r, .inl (cA, cap, .inl u_1))]) [0, 1] rfl
    have hD9 := hD.sub (ws' := [(h, .inr (2, [.ref r, .int (nI (by_ap cap L [by_b (nI c0)]).length)])), (r, .inl (cA, cap, .inl u_1))]) [0, 1] (by decide) rfl
    have hK9 := hK.sub (tys' := [(cA, .byte)]) [0] rfl
    rw [ut_e1 q1] at hP9 hD9
    exact zz_vret hx hb hr hlocks d_Ut_put_15 hS (by first | exact Nat.le_refl _ | decide | omega | (dsimp only; omega)) (by first | exact Nat.le_refl _ | decide | omega | (dsimp only; omega)) u_1 (by rw [ut_e1 q1] at hL_3; exact hL_3) hP9 hK9 hD9
  · skip
    rw [show ut_bn c0 = 2 from by unfold ut_bn; rw [if_neg (by omega), if_pos (by omega)]] at hr1
    subst hr1
    refine lv_istore_n (lv' := [(2, .int (nI 2)), (0, .int (nI c0)), (1, .ref h)]) hx hb d_Ut_put_4 rfl hl (by decide) rfl (fun ls hl => ?_)
    refine lv_iload_n hx hb d_Ut_put_5 rfl (lv_at hl 0 rfl) ?_
    refine lv_iconst (v := 1) hx hb d_Ut_put_6 (by decide) ?_
    refine lv_icmp_ne (tgt := 16) hx hb d_Ut_put_7 (by decide) (fun _ => ?_) (fun c9 => by first | exact absurd c9 (by decide) | exact absurd (by decide) c9)
    refine lv_aload_n hx hb d_Ut_put_16 rfl (lv_at hl 2 rfl) ?_
    refine lv_sipush (v := 240) hx hb d_Ut_put_17 (by decide) ?_
    refine lv_iconst (v := 4) hx hb d_Ut_put_20 (by decide) ?_
    refine lv_iload_n hx hb d_Ut_put_21 rfl (lv_at hl 0 rfl) ?_
    refine lv_isub hx hb d_Ut_put_22 ?_
    refine lv_ishl hx hb d_Ut_put_23 ?_
    refine lv_iload_n hx hb d_Ut_put_24 rfl (lv_at hl 1 rfl) ?_
    refine lv_bipush (v := 6) hx hb d_Ut_put_25 (by decide) ?_
    refine lv_iload_n hx hb d_Ut_put_27 rfl (lv_at hl 0 rfl) ?_
    refine lv_iconst (v := 1) hx hb d_Ut_put_28 (by decide) ?_
    refine lv_isub hx hb d_Ut_put_29 ?_
    refine lv_imul hx hb d_Ut_put_30 ?_
    refine lv_ishr hx hb d_Ut_put_31 ?_
    refine lv_ior hx hb d_Ut_put_32 ?_
    have hPc := hP.sub (ws' := [(h, .inr (2, [.ref r, .int (nI L.length)])), (r, .inl (cA, cap, .inl f))]) [0, 1] rfl
    have hKc := hK.sub (tys' := [(cA, .byte)]) [0] rfl
    have hDc := hD.sub (ws' := [(h, .inr (2, [.ref r, .int (nI L.length)])), (r, .inl (cA, cap, .inl f))]) [0, 1] (by decide) rfl
    have hFc := va_free (wc := [(h, .inr (2, [.ref r, .int (nI L.length)])), (r, .inl (cA, cap, .inl f))]) hD hS hA [0, 1] rfl
    refine zz_callv (va_runV (As := [.int (((240 : Int32) <<< ((4 - (nI 2)) &&& 31)) ||| ((nI c0) >>> ((6 * ((nI 2) - 1)) &&& 31)))]) (rest := []) ⟨hx, hb, hml, hown, hg⟩ (c_By_add l dC dI h r cA cap f L (((240 : Int32) <<< ((4 - (nI 2)) &&& 31)) ||| ((nI c0) >>> ((6 * ((nI 2) - 1)) &&& 31))) hL hc hk  s.heap.size) (cwV 1 hg (gi_V kw_409 kw_166 kw_167 kw_2 kw_168) rfl rfl rfl (by decide +kernel) ⟨Nat.le_of_ble_eq_true rfl, Nat.le_of_ble_eq_true rfl⟩) (zz_preV hPc hKc hDc _ (q0 := 0) (ci := 2) rfl rfl) rfl rfl hl.1 rfl (lv_room (Nat.le_of_ble_eq_true rfl)) d_Ut_put_33 ⟨Nat.le_of_ble_eq_true rfl, Nat.le_of_ble_eq_true rfl⟩) hS hFc (fun u H1 k9 p9 d9 => va_join (wr := []) hP hD [0, 1] [] rfl rfl (by decide) (by decide) k9 hFc p9 d9) (fun u H locs hw hP hD hK1 hS => ?_)
    obtain ⟨u_4, rfl⟩ : ∃ z, z = u := ⟨_, rfl⟩
    try dsimp only at hw
    have hP : va_P (dC, dI) vwCl [(h, .inr (2, [.ref r, .int (nI (by_ap cap L [by_b (((240 : Int32) <<< ((4 - (nI 2)) &&& 31)) ||| ((nI c0) >>> ((6 * ((nI 2) - 1)) &&& 31)))]).length)])), (r, .inl (cA, cap, .inl u_4))] H := hP
    have hD : va_D A [(h, .inr (2, [.ref r, .int (nI (by_ap cap L [by_b (((240 : Int32) <<< ((4 - (nI 2)) &&& 31)) ||| ((nI c0) >>> ((6 * ((nI 2) - 1)) &&& 31)))]).length)])), (r, .inl (cA, cap, .inl u_4))] := hD
    have hL_6 := hw
    refine lv_iload_n hx hb d_Ut_put_36 rfl (lv_at hl 0 rfl) ?_
    refine lv_iconst (v := 2) hx hb d_Ut_put_37 (by decide) ?_
    refine lv_isub hx hb d_Ut_put_38 ?_
    refine lv_istore_n (lv' := [(3, .int ((nI 2) - 2)), (2, .int (nI 2)), (0, .int (nI c0)), (1, .ref h)]) hx hb d_Ut_put_39 rfl hl (by decide) rfl (fun ls hl => ?_)
    refine lv_iload_n hx hb d_Ut_put_40 rfl (lv_at hl 0 rfl) ?_
    refine lv_if_lt (tgt := 67) hx hb d_Ut_put_41 (by decide) (fun c9 => by first | exact absurd c9 (by decide) | exact absurd (by decide) c9) (fun _ => ?_)
    refine lv_aload_n hx hb d_Ut_put_44 rfl (lv_at hl 3 rfl) ?_
    refine lv_sipush (v := 128) hx hb d_Ut_put_45 (by decide) ?_
    refine lv_iload_n hx hb d_Ut_put_48 rfl (lv_at hl 2 rfl) ?_
    refine lv_bipush (v := 6) hx hb d_Ut_put_49 (by decide) ?_
    refine lv_iload_n hx hb d_Ut_put_51 rfl (lv_at hl 0 rfl) ?_
    refine lv_imul hx hb d_Ut_put_52 ?_
    refine lv_ishr hx hb d_Ut_put_53 ?_
    refine lv_bipush (v := 63) hx hb d_Ut_put_54 (by decide) ?_
    refine lv_iand hx hb d_Ut_put_56 ?_
    refine lv_ior hx hb d_Ut_put_57 ?_
    have hPc := hP.sub (ws' := [(h, .inr (2, [.ref r, .int (nI (by_ap cap L [by_b (((240 : Int32) <<< ((4 - (nI 2)) &&& 31)) ||| ((nI c0) >>> ((6 * ((nI 2) - 1)) &&& 31)))]).length)])), (r, .inl (cA, cap, .inl u_4))]) [0, 1] rfl
    have hKc := hK.sub (tys' := [(cA, .byte)]) [0] rfl
    have hDc := hD.sub (ws' := [(h, .inr (2, [.ref r, .int (nI (by_ap cap L [by_b (((240 : Int32) <<< ((4 - (nI 2)) &&& 31)) ||| ((nI c0) >>> ((6 * ((nI 2) - 1)) &&& 31)))]).length)])), (r, .inl (cA, cap, .inl u_4))]) [0, 1] (by decide) rfl
    have hFc := va_free (wc := [(h, .inr (2, [.ref r, .int (nI (by_ap cap L [by_b (((240 : Int32) <<< ((4 - (nI 2)) &&& 31)) ||| ((nI c0) >>> ((6 * ((nI 2) - 1)) &&& 31)))]).length)])), (r, .inl (cA, cap, .inl u_4))]) hD hS hA [0, 1] rfl
    refine zz_callv (va_runV (As := [.int (128 ||| (((nI c0) >>> ((6 * ((nI 2) - 2)) &&& 31)) &&& 63))]) (rest := []) ⟨hx, hb, hml, hown, hg⟩ (c_By_add l dC dI h r cA cap u_4 (by_ap cap L [by_b (((240 : Int32) <<< ((4 - (nI 2)) &&& 31)) ||| ((nI c0) >>> ((6 * ((nI 2) - 1)) &&& 31)))]) (128 ||| (((nI c0) >>> ((6 * ((nI 2) - 2)) &&& 31)) &&& 63)) hL_6 (by_ap_len _ _ _) hk  H.size) (cwV 1 hg (gi_V kw_409 kw_166 kw_167 kw_2 kw_168) rfl rfl rfl (by decide +kernel) ⟨Nat.le_of_ble_eq_true rfl, Nat.le_of_ble_eq_true rfl⟩) (zz_preV hPc hKc hDc _ (q0 := 0) (ci := 2) rfl rfl) rfl rfl hl.1 rfl (lv_room (Nat.le_of_ble_eq_true rfl)) d_Ut_put_58 ⟨Nat.le_of_ble_eq_true rfl, Nat.le_of_ble_eq_true rfl⟩) hS hFc (fun u H1 k9 p9 d9 => va_join (wr := []) hP hD [0, 1] [] rfl rfl (by decide) (by decide) k9 hFc p9 d9) (fun u H locs hw hP hD hK1 hS => ?_)
    obtain ⟨u_7, rfl⟩ : ∃ z, z = u := ⟨_, rfl⟩
    try dsimp only at hw
    have hP : va_P (dC, dI) vwCl [(h, .inr (2, [.ref r, .int (nI (by_ap cap (by_ap cap L [by_b (((240 : Int32) <<< ((4 - (nI 2)) &&& 31)) ||| ((nI c0) >>> ((6 * ((nI 2) - 1)) &&& 31)))]) [by_b (128 ||| (((nI c0) >>> ((6 * ((nI 2) - 2)) &&& 31)) &&& 63))]).length)])), (r, .inl (cA, cap, .inl u_7))] H := hP
    have hD : va_D A [(h, .inr (2, [.ref r, .int (nI (by_ap cap (by_ap cap L [by_b (((240 : Int32) <<< ((4 - (nI 2)) &&& 31)) ||| ((nI c0) >>> ((6 * ((nI 2) - 1)) &&& 31)))]) [by_b (128 ||| (((nI c0) >>> ((6 * ((nI 2) - 2)) &&& 31)) &&& 63))]).length)])), (r, .inl (cA, cap, .inl u_7))] := hD
    have hL_9 := hw
    refine lv_iinc (v := ((nI 2) - 2) + (-1)) (lv' := [(3, .int (((nI 2) - 2) + (-1))), (2, .int (nI 2)), (0, .int (nI c0)), (1, .ref h)]) hx hb d_Ut_put_61 hl (k := 0) rfl rfl (by decide) rfl (fun ls hl => ?_)
    refine lv_goto (tgt := 40) hx hb d_Ut_put_64 (by decide) ?_
    refine lv_iload_n hx hb d_Ut_put_40 rfl (lv_at hl 0 rfl) ?_
    refine lv_if_lt (tgt := 67) hx hb d_Ut_put_41 (by decide) (fun _ => ?_) (fun c9 => by first | exact absurd c9 (by decide) | exact absurd (by decide) c9)
    have hP9 := hP.sub (ws' := [(h, .inr (2, [.ref r, .int (nI (by_ap cap (by_ap cap L [by_b (((240 : Int32) <<< ((4 - (nI 2)) &&& 31)) ||| ((nI c0) >>> ((6 * ((nI 2) - 1)) &&& 31)))]) [by_b (128 ||| (((nI c0) >>> ((6 * ((nI 2) - 2)) &&& 31)) &&& 63))]).length)])), (r, .inl (cA, cap, .inl u_7))]) [0, 1] rfl
    have hD9 := hD.sub (ws' := [(h, .inr (2, [.ref r, .int (nI (by_ap cap (by_ap cap L [by_b (((240 : Int32) <<< ((4 - (nI 2)) &&& 31)) ||| ((nI c0) >>> ((6 * ((nI 2) - 1)) &&& 31)))]) [by_b (128 ||| (((nI c0) >>> ((6 * ((nI 2) - 2)) &&& 31)) &&& 63))]).length)])), (r, .inl (cA, cap, .inl u_7))]) [0, 1] (by decide) rfl
    have hK9 := hK.sub (tys' := [(cA, .byte)]) [0] rfl
    rw [ut_e2 q1] at hP9 hD9
    exact zz_vret hx hb hr hlocks d_Ut_put_67 hS (by first | exact Nat.le_refl _ | decide | omega | (dsimp only; omega)) (by first | exact Nat.le_refl _ | decide | omega | (dsimp only; omega)) u_7 (by rw [ut_e2 q1] at hL_9; exact hL_9) hP9 hK9 hD9
  · skip
    rw [show ut_bn c0 = 3 from by unfold ut_bn; rw [if_neg (by omega), if_neg (by omega), if_pos (by omega)]] at hr1
    subst hr1
    refine lv_istore_n (lv' := [(2, .int (nI 3)), (0, .int (nI c0)), (1, .ref h)]) hx hb d_Ut_put_4 rfl hl (by decide) rfl (fun ls hl => ?_)
    refine lv_iload_n hx hb d_Ut_put_5 rfl (lv_at hl 0 rfl) ?_
    refine lv_iconst (v := 1) hx hb d_Ut_put_6 (by decide) ?_
    refine lv_icmp_ne (tgt := 16) hx hb d_Ut_put_7 (by decide) (fun _ => ?_) (fun c9 => by first | exact absurd c9 (by decide) | exact absurd (by decide) c9)
    refine lv_aload_n hx hb d_Ut_put_16 rfl (lv_at hl 2 rfl) ?_
    refine lv_sipush (v := 240) hx hb d_Ut_put_17 (by decide) ?_
    refine lv_iconst (v := 4) hx hb d_Ut_put_20 (by decide) ?_
    refine lv_iload_n hx hb d_Ut_put_21 rfl (lv_at hl 0 rfl) ?_
    refine lv_isub hx hb d_Ut_put_22 ?_
    refine lv_ishl hx hb d_Ut_put_23 ?_
    refine lv_iload_n hx hb d_Ut_put_24 rfl (lv_at hl 1 rfl) ?_
    refine lv_bipush (v := 6) hx hb d_Ut_put_25 (by decide) ?_
    refine lv_iload_n hx hb d_Ut_put_27 rfl (lv_at hl 0 rfl) ?_
    refine lv_iconst (v := 1) hx hb d_Ut_put_28 (by decide) ?_
    refine lv_isub hx hb d_Ut_put_29 ?_
    refine lv_imul hx hb d_Ut_put_30 ?_
    refine lv_ishr hx hb d_Ut_put_31 ?_
    refine lv_ior hx hb d_Ut_put_32 ?_
    have hPc := hP.sub (ws' := [(h, .inr (2, [.ref r, .int (nI L.length)])), (r, .inl (cA, cap, .inl f))]) [0, 1] rfl
    have hKc := hK.sub (tys' := [(cA, .byte)]) [0] rfl
    have hDc := hD.sub (ws' := [(h, .inr (2, [.ref r, .int (nI L.length)])), (r, .inl (cA, cap, .inl f))]) [0, 1] (by decide) rfl
    have hFc := va_free (wc := [(h, .inr (2, [.ref r, .int (nI L.length)])), (r, .inl (cA, cap, .inl f))]) hD hS hA [0, 1] rfl
    refine zz_callv (va_runV (As := [.int (((240 : Int32) <<< ((4 - (nI 3)) &&& 31)) ||| ((nI c0) >>> ((6 * ((nI 3) - 1)) &&& 31)))]) (rest := []) ⟨hx, hb, hml, hown, hg⟩ (c_By_add l dC dI h r cA cap f L (((240 : Int32) <<< ((4 - (nI 3)) &&& 31)) ||| ((nI c0) >>> ((6 * ((nI 3) - 1)) &&& 31))) hL hc hk  s.heap.size) (cwV 1 hg (gi_V kw_409 kw_166 kw_167 kw_2 kw_168) rfl rfl rfl (by decide +kernel) ⟨Nat.le_of_ble_eq_true rfl, Nat.le_of_ble_eq_true rfl⟩) (zz_preV hPc hKc hDc _ (q0 := 0) (ci := 2) rfl rfl) rfl rfl hl.1 rfl (lv_room (Nat.le_of_ble_eq_true rfl)) d_Ut_put_33 ⟨Nat.le_of_ble_eq_true rfl, Nat.le_of_ble_eq_true rfl⟩) hS hFc (fun u H1 k9 p9 d9 => va_join (wr := []) hP hD [0, 1] [] rfl rfl (by decide) (by decide) k9 hFc p9 d9) (fun u H locs hw hP hD hK1 hS => ?_)
    obtain ⟨u_10, rfl⟩ : ∃ z, z = u := ⟨_, rfl⟩
    try dsimp only at hw
    have hP : va_P (dC, dI) vwCl [(h, .inr (2, [.ref r, .int (nI (by_ap cap L [by_b (((240 : Int32) <<< ((4 - (nI 3)) &&& 31)) ||| ((nI c0) >>> ((6 * ((nI 3) - 1)) &&& 31)))]).length)])), (r, .inl (cA, cap, .inl u_10))] H := hP
    have hD : va_D A [(h, .inr (2, [.ref r, .int (nI (by_ap cap L [by_b (((240 : Int32) <<< ((4 - (nI 3)) &&& 31)) ||| ((nI c0) >>> ((6 * ((nI 3) - 1)) &&& 31)))]).length)])), (r, .inl (cA, cap, .inl u_10))] := hD
    have hL_12 := hw
    refine lv_iload_n hx hb d_Ut_put_36 rfl (lv_at hl 0 rfl) ?_
    refine lv_iconst (v := 2) hx hb d_Ut_put_37 (by decide) ?_
    refine lv_isub hx hb d_Ut_put_38 ?_
    refine lv_istore_n (lv' := [(3, .int ((nI 3) - 2)), (2, .int (nI 3)), (0, .int (nI c0)), (1, .ref h)]) hx hb d_Ut_put_39 rfl hl (by decide) rfl (fun ls hl => ?_)
    refine lv_iload_n hx hb d_Ut_put_40 rfl (lv_at hl 0 rfl) ?_
    refine lv_if_lt (tgt := 67) hx hb d_Ut_put_41 (by decide) (fun c9 => by first | exact absurd c9 (by decide) | exact absurd (by decide) c9) (fun _ => ?_)
    refine lv_aload_n hx hb d_Ut_put_44 rfl (lv_at hl 3 rfl) ?_
    refine lv_sipush (v := 128) hx hb d_Ut_put_45 (by decide) ?_
    refine lv_iload_n hx hb d_Ut_put_48 rfl (lv_at hl 2 rfl) ?_
    refine lv_bipush (v := 6) hx hb d_Ut_put_49 (by decide) ?_
    refine lv_iload_n hx hb d_Ut_put_51 rfl (lv_at hl 0 rfl) ?_
    refine lv_imul hx hb d_Ut_put_52 ?_
    refine lv_ishr hx hb d_Ut_put_53 ?_
    refine lv_bipush (v := 63) hx hb d_Ut_put_54 (by decide) ?_
    refine lv_iand hx hb d_Ut_put_56 ?_
    refine lv_ior hx hb d_Ut_put_57 ?_
    have hPc := hP.sub (ws' := [(h, .inr (2, [.ref r, .int (nI (by_ap cap L [by_b (((240 : Int32) <<< ((4 - (nI 3)) &&& 31)) ||| ((nI c0) >>> ((6 * ((nI 3) - 1)) &&& 31)))]).length)])), (r, .inl (cA, cap, .inl u_10))]) [0, 1] rfl
    have hKc := hK.sub (tys' := [(cA, .byte)]) [0] rfl
    have hDc := hD.sub (ws' := [(h, .inr (2, [.ref r, .int (nI (by_ap cap L [by_b (((240 : Int32) <<< ((4 - (nI 3)) &&& 31)) ||| ((nI c0) >>> ((6 * ((nI 3) - 1)) &&& 31)))]).length)])), (r, .inl (cA, cap, .inl u_10))]) [0, 1] (by decide) rfl
    have hFc := va_free (wc := [(h, .inr (2, [.ref r, .int (nI (by_ap cap L [by_b (((240 : Int32) <<< ((4 - (nI 3)) &&& 31)) ||| ((nI c0) >>> ((6 * ((nI 3) - 1)) &&& 31)))]).length)])), (r, .inl (cA, cap, .inl u_10))]) hD hS hA [0, 1] rfl
    refine zz_callv (va_runV (As := [.int (128 ||| (((nI c0) >>> ((6 * ((nI 3) - 2)) &&& 31)) &&& 63))]) (rest := []) ⟨hx, hb, hml, hown, hg⟩ (c_By_add l dC dI h r cA cap u_10 (by_ap cap L [by_b (((240 : Int32) <<< ((4 - (nI 3)) &&& 31)) ||| ((nI c0) >>> ((6 * ((nI 3) - 1)) &&& 31)))]) (128 ||| (((nI c0) >>> ((6 * ((nI 3) - 2)) &&& 31)) &&& 63)) hL_12 (by_ap_len _ _ _) hk  H.size) (cwV 1 hg (gi_V kw_409 kw_166 kw_167 kw_2 kw_168) rfl rfl rfl (by decide +kernel) ⟨Nat.le_of_ble_eq_true rfl, Nat.le_of_ble_eq_true rfl⟩) (zz_preV hPc hKc hDc _ (q0 := 0) (ci := 2) rfl rfl) rfl rfl hl.1 rfl (lv_room (Nat.le_of_ble_eq_true rfl)) d_Ut_put_58 ⟨Nat.le_of_ble_eq_true rfl, Nat.le_of_ble_eq_true rfl⟩) hS hFc (fun u H1 k9 p9 d9 => va_join (wr := []) hP hD [0, 1] [] rfl rfl (by decide) (by decide) k9 hFc p9 d9) (fun u H locs hw hP hD hK1 hS => ?_)
    obtain ⟨u_13, rfl⟩ : ∃ z, z = u := ⟨_, rfl⟩
    try dsimp only at hw
    have hP : va_P (dC, dI) vwCl [(h, .inr (2, [.ref r, .int (nI (by_ap cap (by_ap cap L [by_b (((240 : Int32) <<< ((4 - (nI 3)) &&& 31)) ||| ((nI c0) >>> ((6 * ((nI 3) - 1)) &&& 31)))]) [by_b (128 ||| (((nI c0) >>> ((6 * ((nI 3) - 2)) &&& 31)) &&& 63))]).length)])), (r, .inl (cA, cap, .inl u_13))] H := hP
    have hD : va_D A [(h, .inr (2, [.ref r, .int (nI (by_ap cap (by_ap cap L [by_b (((240 : Int32) <<< ((4 - (nI 3)) &&& 31)) ||| ((nI c0) >>> ((6 * ((nI 3) - 1)) &&& 31)))]) [by_b (128 ||| (((nI c0) >>> ((6 * ((nI 3) - 2)) &&& 31)) &&& 63))]).length)])), (r, .inl (cA, cap, .inl u_13))] := hD
    have hL_15 := hw
    refine lv_iinc (v := ((nI 3) - 2) + (-1)) (lv' := [(3, .int (((nI 3) - 2) + (-1))), (2, .int (nI 3)), (0, .int (nI c0)), (1, .ref h)]) hx hb d_Ut_put_61 hl (k := 0) rfl rfl (by decide) rfl (fun ls hl => ?_)
    refine lv_goto (tgt := 40) hx hb d_Ut_put_64 (by decide) ?_
    refine lv_iload_n hx hb d_Ut_put_40 rfl (lv_at hl 0 rfl) ?_
    refine lv_if_lt (tgt := 67) hx hb d_Ut_put_41 (by decide) (fun c9 => by first | exact absurd c9 (by decide) | exact absurd (by decide) c9) (fun _ => ?_)
    refine lv_aload_n hx hb d_Ut_put_44 rfl (lv_at hl 3 rfl) ?_
    refine lv_sipush (v := 128) hx hb d_Ut_put_45 (by decide) ?_
    refine lv_iload_n hx hb d_Ut_put_48 rfl (lv_at hl 2 rfl) ?_
    refine lv_bipush (v := 6) hx hb d_Ut_put_49 (by decide) ?_
    refine lv_iload_n hx hb d_Ut_put_51 rfl (lv_at hl 0 rfl) ?_
    refine lv_imul hx hb d_Ut_put_52 ?_
    refine lv_ishr hx hb d_Ut_put_53 ?_
    refine lv_bipush (v := 63) hx hb d_Ut_put_54 (by decide) ?_
    refine lv_iand hx hb d_Ut_put_56 ?_
    refine lv_ior hx hb d_Ut_put_57 ?_
    have hPc := hP.sub (ws' := [(h, .inr (2, [.ref r, .int (nI (by_ap cap (by_ap cap L [by_b (((240 : Int32) <<< ((4 - (nI 3)) &&& 31)) ||| ((nI c0) >>> ((6 * ((nI 3) - 1)) &&& 31)))]) [by_b (128 ||| (((nI c0) >>> ((6 * ((nI 3) - 2)) &&& 31)) &&& 63))]).length)])), (r, .inl (cA, cap, .inl u_13))]) [0, 1] rfl
    have hKc := hK.sub (tys' := [(cA, .byte)]) [0] rfl
    have hDc := hD.sub (ws' := [(h, .inr (2, [.ref r, .int (nI (by_ap cap (by_ap cap L [by_b (((240 : Int32) <<< ((4 - (nI 3)) &&& 31)) ||| ((nI c0) >>> ((6 * ((nI 3) - 1)) &&& 31)))]) [by_b (128 ||| (((nI c0) >>> ((6 * ((nI 3) - 2)) &&& 31)) &&& 63))]).length)])), (r, .inl (cA, cap, .inl u_13))]) [0, 1] (by decide) rfl
    have hFc := va_free (wc := [(h, .inr (2, [.ref r, .int (nI (by_ap cap (by_ap cap L [by_b (((240 : Int32) <<< ((4 - (nI 3)) &&& 31)) ||| ((nI c0) >>> ((6 * ((nI 3) - 1)) &&& 31)))]) [by_b (128 ||| (((nI c0) >>> ((6 * ((nI 3) - 2)) &&& 31)) &&& 63))]).length)])), (r, .inl (cA, cap, .inl u_13))]) hD hS hA [0, 1] rfl
    refine zz_callv (va_runV (As := [.int (128 ||| (((nI c0) >>> ((6 * (((nI 3) - 2) + (-1))) &&& 31)) &&& 63))]) (rest := []) ⟨hx, hb, hml, hown, hg⟩ (c_By_add l dC dI h r cA cap u_13 (by_ap cap (by_ap cap L [by_b (((240 : Int32) <<< ((4 - (nI 3)) &&& 31)) ||| ((nI c0) >>> ((6 * ((nI 3) - 1)) &&& 31)))]) [by_b (128 ||| (((nI c0) >>> ((6 * ((nI 3) - 2)) &&& 31)) &&& 63))]) (128 ||| (((nI c0) >>> ((6 * (((nI 3) - 2) + (-1))) &&& 31)) &&& 63)) hL_15 (by_ap_len _ _ _) hk  H.size) (cwV 1 hg (gi_V kw_409 kw_166 kw_167 kw_2 kw_168) rfl rfl rfl (by decide +kernel) ⟨Nat.le_of_ble_eq_true rfl, Nat.le_of_ble_eq_true rfl⟩) (zz_preV hPc hKc hDc _ (q0 := 0) (ci := 2) rfl rfl) rfl rfl hl.1 rfl (lv_room (Nat.le_of_ble_eq_true rfl)) d_Ut_put_58 ⟨Nat.le_of_ble_eq_true rfl, Nat.le_of_ble_eq_true rfl⟩) hS hFc (fun u H1 k9 p9 d9 => va_join (wr := []) hP hD [0, 1] [] rfl rfl (by decide) (by decide) k9 hFc p9 d9) (fun u H locs hw hP hD hK1 hS => ?_)
    obtain ⟨u_16, rfl⟩ : ∃ z, z = u := ⟨_, rfl⟩
    try dsimp only at hw
    have hP : va_P (dC, dI) vwCl [(h, .inr (2, [.ref r, .int (nI (by_ap cap (by_ap cap (by_ap cap L [by_b (((240 : Int32) <<< ((4 - (nI 3)) &&& 31)) ||| ((nI c0) >>> ((6 * ((nI 3) - 1)) &&& 31)))]) [by_b (128 ||| (((nI c0) >>> ((6 * ((nI 3) - 2)) &&& 31)) &&& 63))]) [by_b (128 ||| (((nI c0) >>> ((6 * (((nI 3) - 2) + (-1))) &&& 31)) &&& 63))]).length)])), (r, .inl (cA, cap, .inl u_16))] H := hP
    have hD : va_D A [(h, .inr (2, [.ref r, .int (nI (by_ap cap (by_ap cap (by_ap cap L [by_b (((240 : Int32) <<< ((4 - (nI 3)) &&& 31)) ||| ((nI c0) >>> ((6 * ((nI 3) - 1)) &&& 31)))]) [by_b (128 ||| (((nI c0) >>> ((6 * ((nI 3) - 2)) &&& 31)) &&& 63))]) [by_b (128 ||| (((nI c0) >>> ((6 * (((nI 3) - 2) + (-1))) &&& 31)) &&& 63))]).length)])), (r, .inl (cA, cap, .inl u_16))] := hD
    have hL_18 := hw
    refine lv_iinc (v := (((nI 3) - 2) + (-1)) + (-1)) (lv' := [(3, .int ((((nI 3) - 2) + (-1)) + (-1))), (2, .int (nI 3)), (0, .int (nI c0)), (1, .ref h)]) hx hb d_Ut_put_61 hl (k := 0) rfl rfl (by decide) rfl (fun ls hl => ?_)
    refine lv_goto (tgt := 40) hx hb d_Ut_put_64 (by decide) ?_
    refine lv_iload_n hx hb d_Ut_put_40 rfl (lv_at hl 0 rfl) ?_
    refine lv_if_lt (tgt := 67) hx hb d_Ut_put_41 (by decide) (fun _ => ?_) (fun c9 => by first | exact absurd c9 (by decide) | exact absurd (by decide) c9)
    have hP9 := hP.sub (ws' := [(h, .inr (2, [.ref r, .int (nI (by_ap cap (by_ap cap (by_ap cap L [by_b (((240 : Int32) <<< ((4 - (nI 3)) &&& 31)) ||| ((nI c0) >>> ((6 * ((nI 3) - 1)) &&& 31)))]) [by_b (128 ||| (((nI c0) >>> ((6 * ((nI 3) - 2)) &&& 31)) &&& 63))]) [by_b (128 ||| (((nI c0) >>> ((6 * (((nI 3) - 2) + (-1))) &&& 31)) &&& 63))]).length)])), (r, .inl (cA, cap, .inl u_16))]) [0, 1] rfl
    have hD9 := hD.sub (ws' := [(h, .inr (2, [.ref r, .int (nI (by_ap cap (by_ap cap (by_ap cap L [by_b (((240 : Int32) <<< ((4 - (nI 3)) &&& 31)) ||| ((nI c0) >>> ((6 * ((nI 3) - 1)) &&& 31)))]) [by_b (128 ||| (((nI c0) >>> ((6 * ((nI 3) - 2)) &&& 31)) &&& 63))]) [by_b (128 ||| (((nI c0) >>> ((6 * (((nI 3) - 2) + (-1))) &&& 31)) &&& 63))]).length)])), (r, .inl (cA, cap, .inl u_16))]) [0, 1] (by decide) rfl
    have hK9 := hK.sub (tys' := [(cA, .byte)]) [0] rfl
    rw [ut_e3 q1] at hP9 hD9
    exact zz_vret hx hb hr hlocks d_Ut_put_67 hS (by first | exact Nat.le_refl _ | decide | omega | (dsimp only; omega)) (by first | exact Nat.le_refl _ | decide | omega | (dsimp only; omega)) u_16 (by rw [ut_e3 q1] at hL_18; exact hL_18) hP9 hK9 hD9
  · skip
    rw [show ut_bn c0 = 4 from by unfold ut_bn; rw [if_neg (by omega), if_neg (by omega), if_neg (by omega)]] at hr1
    subst hr1
    refine lv_istore_n (lv' := [(2, .int (nI 4)), (0, .int (nI c0)), (1, .ref h)]) hx hb d_Ut_put_4 rfl hl (by decide) rfl (fun ls hl => ?_)
    refine lv_iload_n hx hb d_Ut_put_5 rfl (lv_at hl 0 rfl) ?_
    refine lv_iconst (v := 1) hx hb d_Ut_put_6 (by decide) ?_
    refine lv_icmp_ne (tgt := 16) hx hb d_Ut_put_7 (by decide) (fun _ => ?_) (fun c9 => by first | exact absurd c9 (by decide) | exact absurd (by decide) c9)
    refine lv_aload_n hx hb d_Ut_put_16 rfl (lv_at hl 2 rfl) ?_
    refine lv_sipush (v := 240) hx hb d_Ut_put_17 (by decide) ?_
    refine lv_iconst (v := 4) hx hb d_Ut_put_20 (by decide) ?_
    refine lv_iload_n hx hb d_Ut_put_21 rfl (lv_at hl 0 rfl) ?_
    refine lv_isub hx hb d_Ut_put_22 ?_
    refine lv_ishl hx hb d_Ut_put_23 ?_
    refine lv_iload_n hx hb d_Ut_put_24 rfl (lv_at hl 1 rfl) ?_
    refine lv_bipush (v := 6) hx hb d_Ut_put_25 (by decide) ?_
    refine lv_iload_n hx hb d_Ut_put_27 rfl (lv_at hl 0 rfl) ?_
    refine lv_iconst (v := 1) hx hb d_Ut_put_28 (by decide) ?_
    refine lv_isub hx hb d_Ut_put_29 ?_
    refine lv_imul hx hb d_Ut_put_30 ?_
    refine lv_ishr hx hb d_Ut_put_31 ?_
    refine lv_ior hx hb d_Ut_put_32 ?_
    have hPc := hP.sub (ws' := [(h, .inr (2, [.ref r, .int (nI L.length)])), (r, .inl (cA, cap, .inl f))]) [0, 1] rfl
    have hKc := hK.sub (tys' := [(cA, .byte)]) [0] rfl
    have hDc := hD.sub (ws' := [(h, .inr (2, [.ref r, .int (nI L.length)])), (r, .inl (cA, cap, .inl f))]) [0, 1] (by decide) rfl
    have hFc := va_free (wc := [(h, .inr (2, [.ref r, .int (nI L.length)])), (r, .inl (cA, cap, .inl f))]) hD hS hA [0, 1] rfl
    refine zz_callv (va_runV (As := [.int (((240 : Int32) <<< ((4 - (nI 4)) &&& 31)) ||| ((nI c0) >>> ((6 * ((nI 4) - 1)) &&& 31)))]) (rest := []) ⟨hx, hb, hml, hown, hg⟩ (c_By_add l dC dI h r cA cap f L (((240 : Int32) <<< ((4 - (nI 4)) &&& 31)) ||| ((nI c0) >>> ((6 * ((nI 4) - 1)) &&& 31))) hL hc hk  s.heap.size) (cwV 1 hg (gi_V kw_409 kw_166 kw_167 kw_2 kw_168) rfl rfl rfl (by decide +kernel) ⟨Nat.le_of_ble_eq_true rfl, Nat.le_of_ble_eq_true rfl⟩) (zz_preV hPc hKc hDc _ (q0 := 0) (ci := 2) rfl rfl) rfl rfl hl.1 rfl (lv_room (Nat.le_of_ble_eq_true rfl)) d_Ut_put_33 ⟨Nat.le_of_ble_eq_true rfl, Nat.le_of_ble_eq_true rfl⟩) hS hFc (fun u H1 k9 p9 d9 => va_join (wr := []) hP hD [0, 1] [] rfl rfl (by decide) (by decide) k9 hFc p9 d9) (fun u H locs hw hP hD hK1 hS => ?_)
    obtain ⟨u_19, rfl⟩ : ∃ z, z = u := ⟨_, rfl⟩
    try dsimp only at hw
    have hP : va_P (dC, dI) vwCl [(h, .inr (2, [.ref r, .int (nI (by_ap cap L [by_b (((240 : Int32) <<< ((4 - (nI 4)) &&& 31)) ||| ((nI c0) >>> ((6 * ((nI 4) - 1)) &&& 31)))]).length)])), (r, .inl (cA, cap, .inl u_19))] H := hP
    have hD : va_D A [(h, .inr (2, [.ref r, .int (nI (by_ap cap L [by_b (((240 : Int32) <<< ((4 - (nI 4)) &&& 31)) ||| ((nI c0) >>> ((6 * ((nI 4) - 1)) &&& 31)))]).length)])), (r, .inl (cA, cap, .inl u_19))] := hD
    have hL_21 := hw
    refine lv_iload_n hx hb d_Ut_put_36 rfl (lv_at hl 0 rfl) ?_
    refine lv_iconst (v := 2) hx hb d_Ut_put_37 (by decide) ?_
    refine lv_isub hx hb d_Ut_put_38 ?_
    refine lv_istore_n (lv' := [(3, .int ((nI 4) - 2)), (2, .int (nI 4)), (0, .int (nI c0)), (1, .ref h)]) hx hb d_Ut_put_39 rfl hl (by decide) rfl (fun ls hl => ?_)
    refine lv_iload_n hx hb d_Ut_put_40 rfl (lv_at hl 0 rfl) ?_
    refine lv_if_lt (tgt := 67) hx hb d_Ut_put_41 (by decide) (fun c9 => by first | exact absurd c9 (by decide) | exact absurd (by decide) c9) (fun _ => ?_)
    refine lv_aload_n hx hb d_Ut_put_44 rfl (lv_at hl 3 rfl) ?_
    refine lv_sipush (v := 128) hx hb d_Ut_put_45 (by decide) ?_
    refine lv_iload_n hx hb d_Ut_put_48 rfl (lv_at hl 2 rfl) ?_
    refine lv_bipush (v := 6) hx hb d_Ut_put_49 (by decide) ?_
    refine lv_iload_n hx hb d_Ut_put_51 rfl (lv_at hl 0 rfl) ?_
    refine lv_imul hx hb d_Ut_put_52 ?_
    refine lv_ishr hx hb d_Ut_put_53 ?_
    refine lv_bipush (v := 63) hx hb d_Ut_put_54 (by decide) ?_
    refine lv_iand hx hb d_Ut_put_56 ?_
    refine lv_ior hx hb d_Ut_put_57 ?_
    have hPc := hP.sub (ws' := [(h, .inr (2, [.ref r, .int (nI (by_ap cap L [by_b (((240 : Int32) <<< ((4 - (nI 4)) &&& 31)) ||| ((nI c0) >>> ((6 * ((nI 4) - 1)) &&& 31)))]).length)])), (r, .inl (cA, cap, .inl u_19))]) [0, 1] rfl
    have hKc := hK.sub (tys' := [(cA, .byte)]) [0] rfl
    have hDc := hD.sub (ws' := [(h, .inr (2, [.ref r, .int (nI (by_ap cap L [by_b (((240 : Int32) <<< ((4 - (nI 4)) &&& 31)) ||| ((nI c0) >>> ((6 * ((nI 4) - 1)) &&& 31)))]).length)])), (r, .inl (cA, cap, .inl u_19))]) [0, 1] (by decide) rfl
    have hFc := va_free (wc := [(h, .inr (2, [.ref r, .int (nI (by_ap cap L [by_b (((240 : Int32) <<< ((4 - (nI 4)) &&& 31)) ||| ((nI c0) >>> ((6 * ((nI 4) - 1)) &&& 31)))]).length)])), (r, .inl (cA, cap, .inl u_19))]) hD hS hA [0, 1] rfl
    refine zz_callv (va_runV (As := [.int (128 ||| (((nI c0) >>> ((6 * ((nI 4) - 2)) &&& 31)) &&& 63))]) (rest := []) ⟨hx, hb, hml, hown, hg⟩ (c_By_add l dC dI h r cA cap u_19 (by_ap cap L [by_b (((240 : Int32) <<< ((4 - (nI 4)) &&& 31)) ||| ((nI c0) >>> ((6 * ((nI 4) - 1)) &&& 31)))]) (128 ||| (((nI c0) >>> ((6 * ((nI 4) - 2)) &&& 31)) &&& 63)) hL_21 (by_ap_len _ _ _) hk  H.size) (cwV 1 hg (gi_V kw_409 kw_166 kw_167 kw_2 kw_168) rfl rfl rfl (by decide +kernel) ⟨Nat.le_of_ble_eq_true rfl, Nat.le_of_ble_eq_true rfl⟩) (zz_preV hPc hKc hDc _ (q0 := 0) (ci := 2) rfl rfl) rfl rfl hl.1 rfl (lv_room (Nat.le_of_ble_eq_true rfl)) d_Ut_put_58 ⟨Nat.le_of_ble_eq_true rfl, Nat.le_of_ble_eq_true rfl⟩) hS hFc (fun u H1 k9 p9 d9 => va_join (wr := []) hP hD [0, 1] [] rfl rfl (by decide) (by decide) k9 hFc p9 d9) (fun u H locs hw hP hD hK1 hS => ?_)
    obtain ⟨u_22, rfl⟩ : ∃ z, z = u := ⟨_, rfl⟩
    try dsimp only at hw
    have hP : va_P (dC, dI) vwCl [(h, .inr (2, [.ref r, .int (nI (by_ap cap (by_ap cap L [by_b (((240 : Int32) <<< ((4 - (nI 4)) &&& 31)) ||| ((nI c0) >>> ((6 * ((nI 4) - 1)) &&& 31)))]) [by_b (128 ||| (((nI c0) >>> ((6 * ((nI 4) - 2)) &&& 31)) &&& 63))]).length)])), (r, .inl (cA, cap, .inl u_22))] H := hP
    have hD : va_D A [(h, .inr (2, [.ref r, .int (nI (by_ap cap (by_ap cap L [by_b (((240 : Int32) <<< ((4 - (nI 4)) &&& 31)) ||| ((nI c0) >>> ((6 * ((nI 4) - 1)) &&& 31)))]) [by_b (128 ||| (((nI c0) >>> ((6 * ((nI 4) - 2)) &&& 31)) &&& 63))]).length)])), (r, .inl (cA, cap, .inl u_22))] := hD
    have hL_24 := hw
    refine lv_iinc (v := ((nI 4) - 2) + (-1)) (lv' := [(3, .int (((nI 4) - 2) + (-1))), (2, .int (nI 4)), (0, .int (nI c0)), (1, .ref h)]) hx hb d_Ut_put_61 hl (k := 0) rfl rfl (by decide) rfl (fun ls hl => ?_)
    refine lv_goto (tgt := 40) hx hb d_Ut_put_64 (by decide) ?_
    refine lv_iload_n hx hb d_Ut_put_40 rfl (lv_at hl 0 rfl) ?_
    refine lv_if_lt (tgt := 67) hx hb d_Ut_put_41 (by decide) (fun c9 => by first | exact absurd c9 (by decide) | exact absurd (by decide) c9) (fun _ => ?_)
    refine lv_aload_n hx hb d_Ut_put_44 rfl (lv_at hl 3 rfl) ?_
    refine lv_sipush (v := 128) hx hb d_Ut_put_45 (by decide) ?_
    refine lv_iload_n hx hb d_Ut_put_48 rfl (lv_at hl 2 rfl) ?_
    refine lv_bipush (v := 6) hx hb d_Ut_put_49 (by decide) ?_
    refine lv_iload_n hx hb d_Ut_put_51 rfl (lv_at hl 0 rfl) ?_
    refine lv_imul hx hb d_Ut_put_52 ?_
    refine lv_ishr hx hb d_Ut_put_53 ?_
    refine lv_bipush (v := 63) hx hb d_Ut_put_54 (by decide) ?_
    refine lv_iand hx hb d_Ut_put_56 ?_
    refine lv_ior hx hb d_Ut_put_57 ?_
    have hPc := hP.sub (ws' := [(h, .inr (2, [.ref r, .int (nI (by_ap cap (by_ap cap L [by_b (((240 : Int32) <<< ((4 - (nI 4)) &&& 31)) ||| ((nI c0) >>> ((6 * ((nI 4) - 1)) &&& 31)))]) [by_b (128 ||| (((nI c0) >>> ((6 * ((nI 4) - 2)) &&& 31)) &&& 63))]).length)])), (r, .inl (cA, cap, .inl u_22))]) [0, 1] rfl
    have hKc := hK.sub (tys' := [(cA, .byte)]) [0] rfl
    have hDc := hD.sub (ws' := [(h, .inr (2, [.ref r, .int (nI (by_ap cap (by_ap cap L [by_b (((240 : Int32) <<< ((4 - (nI 4)) &&& 31)) ||| ((nI c0) >>> ((6 * ((nI 4) - 1)) &&& 31)))]) [by_b (128 ||| (((nI c0) >>> ((6 * ((nI 4) - 2)) &&& 31)) &&& 63))]).length)])), (r, .inl (cA, cap, .inl u_22))]) [0, 1] (by decide) rfl
    have hFc := va_free (wc := [(h, .inr (2, [.ref r, .int (nI (by_ap cap (by_ap cap L [by_b (((240 : Int32) <<< ((4 - (nI 4)) &&& 31)) ||| ((nI c0) >>> ((6 * ((nI 4) - 1)) &&& 31)))]) [by_b (128 ||| (((nI c0) >>> ((6 * ((nI 4) - 2)) &&& 31)) &&& 63))]).length)])), (r, .inl (cA, cap, .inl u_22))]) hD hS hA [0, 1] rfl
    refine zz_callv (va_runV (As := [.int (128 ||| (((nI c0) >>> ((6 * (((nI 4) - 2) + (-1))) &&& 31)) &&& 63))]) (rest := []) ⟨hx, hb, hml, hown, hg⟩ (c_By_add l dC dI h r cA cap u_22 (by_ap cap (by_ap cap L [by_b (((240 : Int32) <<< ((4 - (nI 4)) &&& 31)) ||| ((nI c0) >>> ((6 * ((nI 4) - 1)) &&& 31)))]) [by_b (128 ||| (((nI c0) >>> ((6 * ((nI 4) - 2)) &&& 31)) &&& 63))]) (128 ||| (((nI c0) >>> ((6 * (((nI 4) - 2) + (-1))) &&& 31)) &&& 63)) hL_24 (by_ap_len _ _ _) hk  H.size) (cwV 1 hg (gi_V kw_409 kw_166 kw_167 kw_2 kw_168) rfl rfl rfl (by decide +kernel) ⟨Nat.le_of_ble_eq_true rfl, Nat.le_of_ble_eq_true rfl⟩) (zz_preV hPc hKc hDc _ (q0 := 0) (ci := 2) rfl rfl) rfl rfl hl.1 rfl (lv_room (Nat.le_of_ble_eq_true rfl)) d_Ut_put_58 ⟨Nat.le_of_ble_eq_true rfl, Nat.le_of_ble_eq_true rfl⟩) hS hFc (fun u H1 k9 p9 d9 => va_join (wr := []) hP hD [0, 1] [] rfl rfl (by decide) (by decide) k9 hFc p9 d9) (fun u H locs hw hP hD hK1 hS => ?_)
    obtain ⟨u_25, rfl⟩ : ∃ z, z = u := ⟨_, rfl⟩
    try dsimp only at hw
    have hP : va_P (dC, dI) vwCl [(h, .inr (2, [.ref r, .int (nI (by_ap cap (by_ap cap (by_ap cap L [by_b (((240 : Int32) <<< ((4 - (nI 4)) &&& 31)) ||| ((nI c0) >>> ((6 * ((nI 4) - 1)) &&& 31)))]) [by_b (128 ||| (((nI c0) >>> ((6 * ((nI 4) - 2)) &&& 31)) &&& 63))]) [by_b (128 ||| (((nI c0) >>> ((6 * (((nI 4) - 2) + (-1))) &&& 31)) &&& 63))]).length)])), (r, .inl (cA, cap, .inl u_25))] H := hP
    have hD : va_D A [(h, .inr (2, [.ref r, .int (nI (by_ap cap (by_ap cap (by_ap cap L [by_b (((240 : Int32) <<< ((4 - (nI 4)) &&& 31)) ||| ((nI c0) >>> ((6 * ((nI 4) - 1)) &&& 31)))]) [by_b (128 ||| (((nI c0) >>> ((6 * ((nI 4) - 2)) &&& 31)) &&& 63))]) [by_b (128 ||| (((nI c0) >>> ((6 * (((nI 4) - 2) + (-1))) &&& 31)) &&& 63))]).length)])), (r, .inl (cA, cap, .inl u_25))] := hD
    have hL_27 := hw
    refine lv_iinc (v := (((nI 4) - 2) + (-1)) + (-1)) (lv' := [(3, .int ((((nI 4) - 2) + (-1)) + (-1))), (2, .int (nI 4)), (0, .int (nI c0)), (1, .ref h)]) hx hb d_Ut_put_61 hl (k := 0) rfl rfl (by decide) rfl (fun ls hl => ?_)
    refine lv_goto (tgt := 40) hx hb d_Ut_put_64 (by decide) ?_
    refine lv_iload_n hx hb d_Ut_put_40 rfl (lv_at hl 0 rfl) ?_
    refine lv_if_lt (tgt := 67) hx hb d_Ut_put_41 (by decide) (fun c9 => by first | exact absurd c9 (by decide) | exact absurd (by decide) c9) (fun _ => ?_)
    refine lv_aload_n hx hb d_Ut_put_44 rfl (lv_at hl 3 rfl) ?_
    refine lv_sipush (v := 128) hx hb d_Ut_put_45 (by decide) ?_
    refine lv_iload_n hx hb d_Ut_put_48 rfl (lv_at hl 2 rfl) ?_
    refine lv_bipush (v := 6) hx hb d_Ut_put_49 (by decide) ?_
    refine lv_iload_n hx hb d_Ut_put_51 rfl (lv_at hl 0 rfl) ?_
    refine lv_imul hx hb d_Ut_put_52 ?_
    refine lv_ishr hx hb d_Ut_put_53 ?_
    refine lv_bipush (v := 63) hx hb d_Ut_put_54 (by decide) ?_
    refine lv_iand hx hb d_Ut_put_56 ?_
    refine lv_ior hx hb d_Ut_put_57 ?_
    have hPc := hP.sub (ws' := [(h, .inr (2, [.ref r, .int (nI (by_ap cap (by_ap cap (by_ap cap L [by_b (((240 : Int32) <<< ((4 - (nI 4)) &&& 31)) ||| ((nI c0) >>> ((6 * ((nI 4) - 1)) &&& 31)))]) [by_b (128 ||| (((nI c0) >>> ((6 * ((nI 4) - 2)) &&& 31)) &&& 63))]) [by_b (128 ||| (((nI c0) >>> ((6 * (((nI 4) - 2) + (-1))) &&& 31)) &&& 63))]).length)])), (r, .inl (cA, cap, .inl u_25))]) [0, 1] rfl
    have hKc := hK.sub (tys' := [(cA, .byte)]) [0] rfl
    have hDc := hD.sub (ws' := [(h, .inr (2, [.ref r, .int (nI (by_ap cap (by_ap cap (by_ap cap L [by_b (((240 : Int32) <<< ((4 - (nI 4)) &&& 31)) ||| ((nI c0) >>> ((6 * ((nI 4) - 1)) &&& 31)))]) [by_b (128 ||| (((nI c0) >>> ((6 * ((nI 4) - 2)) &&& 31)) &&& 63))]) [by_b (128 ||| (((nI c0) >>> ((6 * (((nI 4) - 2) + (-1))) &&& 31)) &&& 63))]).length)])), (r, .inl (cA, cap, .inl u_25))]) [0, 1] (by decide) rfl
    have hFc := va_free (wc := [(h, .inr (2, [.ref r, .int (nI (by_ap cap (by_ap cap (by_ap cap L [by_b (((240 : Int32) <<< ((4 - (nI 4)) &&& 31)) ||| ((nI c0) >>> ((6 * ((nI 4) - 1)) &&& 31)))]) [by_b (128 ||| (((nI c0) >>> ((6 * ((nI 4) - 2)) &&& 31)) &&& 63))]) [by_b (128 ||| (((nI c0) >>> ((6 * (((nI 4) - 2) + (-1))) &&& 31)) &&& 63))]).length)])), (r, .inl (cA, cap, .inl u_25))]) hD hS hA [0, 1] rfl
    refine zz_callv (va_runV (As := [.int (128 ||| (((nI c0) >>> ((6 * ((((nI 4) - 2) + (-1)) + (-1))) &&& 31)) &&& 63))]) (rest := []) ⟨hx, hb, hml, hown, hg⟩ (c_By_add l dC dI h r cA cap u_25 (by_ap cap (by_ap cap (by_ap cap L [by_b (((240 : Int32) <<< ((4 - (nI 4)) &&& 31)) ||| ((nI c0) >>> ((6 * ((nI 4) - 1)) &&& 31)))]) [by_b (128 ||| (((nI c0) >>> ((6 * ((nI 4) - 2)) &&& 31)) &&& 63))]) [by_b (128 ||| (((nI c0) >>> ((6 * (((nI 4) - 2) + (-1))) &&& 31)) &&& 63))]) (128 ||| (((nI c0) >>> ((6 * ((((nI 4) - 2) + (-1)) + (-1))) &&& 31)) &&& 63)) hL_27 (by_ap_len _ _ _) hk  H.size) (cwV 1 hg (gi_V kw_409 kw_166 kw_167 kw_2 kw_168) rfl rfl rfl (by decide +kernel) ⟨Nat.le_of_ble_eq_true rfl, Nat.le_of_ble_eq_true rfl⟩) (zz_preV hPc hKc hDc _ (q0 := 0) (ci := 2) rfl rfl) rfl rfl hl.1 rfl (lv_room (Nat.le_of_ble_eq_true rfl)) d_Ut_put_58 ⟨Nat.le_of_ble_eq_true rfl, Nat.le_of_ble_eq_true rfl⟩) hS hFc (fun u H1 k9 p9 d9 => va_join (wr := []) hP hD [0, 1] [] rfl rfl (by decide) (by decide) k9 hFc p9 d9) (fun u H locs hw hP hD hK1 hS => ?_)
    obtain ⟨u_28, rfl⟩ : ∃ z, z = u := ⟨_, rfl⟩
    try dsimp only at hw
    have hP : va_P (dC, dI) vwCl [(h, .inr (2, [.ref r, .int (nI (by_ap cap (by_ap cap (by_ap cap (by_ap cap L [by_b (((240 : Int32) <<< ((4 - (nI 4)) &&& 31)) ||| ((nI c0) >>> ((6 * ((nI 4) - 1)) &&& 31)))]) [by_b (128 ||| (((nI c0) >>> ((6 * ((nI 4) - 2)) &&& 31)) &&& 63))]) [by_b (128 ||| (((nI c0) >>> ((6 * (((nI 4) - 2) + (-1))) &&& 31)) &&& 63))]) [by_b (128 ||| (((nI c0) >>> ((6 * ((((nI 4) - 2) + (-1)) + (-1))) &&& 31)) &&& 63))]).length)])), (r, .inl (cA, cap, .inl u_28))] H := hP
    have hD : va_D A [(h, .inr (2, [.ref r, .int (nI (by_ap cap (by_ap cap (by_ap cap (by_ap cap L [by_b (((240 : Int32) <<< ((4 - (nI 4)) &&& 31)) ||| ((nI c0) >>> ((6 * ((nI 4) - 1)) &&& 31)))]) [by_b (128 ||| (((nI c0) >>> ((6 * ((nI 4) - 2)) &&& 31)) &&& 63))]) [by_b (128 ||| (((nI c0) >>> ((6 * (((nI 4) - 2) + (-1))) &&& 31)) &&& 63))]) [by_b (128 ||| (((nI c0) >>> ((6 * ((((nI 4) - 2) + (-1)) + (-1))) &&& 31)) &&& 63))]).length)])), (r, .inl (cA, cap, .inl u_28))] := hD
    have hL_30 := hw
    refine lv_iinc (v := ((((nI 4) - 2) + (-1)) + (-1)) + (-1)) (lv' := [(3, .int (((((nI 4) - 2) + (-1)) + (-1)) + (-1))), (2, .int (nI 4)), (0, .int (nI c0)), (1, .ref h)]) hx hb d_Ut_put_61 hl (k := 0) rfl rfl (by decide) rfl (fun ls hl => ?_)
    refine lv_goto (tgt := 40) hx hb d_Ut_put_64 (by decide) ?_
    refine lv_iload_n hx hb d_Ut_put_40 rfl (lv_at hl 0 rfl) ?_
    refine lv_if_lt (tgt := 67) hx hb d_Ut_put_41 (by decide) (fun _ => ?_) (fun c9 => by first | exact absurd c9 (by decide) | exact absurd (by decide) c9)
    have hP9 := hP.sub (ws' := [(h, .inr (2, [.ref r, .int (nI (by_ap cap (by_ap cap (by_ap cap (by_ap cap L [by_b (((240 : Int32) <<< ((4 - (nI 4)) &&& 31)) ||| ((nI c0) >>> ((6 * ((nI 4) - 1)) &&& 31)))]) [by_b (128 ||| (((nI c0) >>> ((6 * ((nI 4) - 2)) &&& 31)) &&& 63))]) [by_b (128 ||| (((nI c0) >>> ((6 * (((nI 4) - 2) + (-1))) &&& 31)) &&& 63))]) [by_b (128 ||| (((nI c0) >>> ((6 * ((((nI 4) - 2) + (-1)) + (-1))) &&& 31)) &&& 63))]).length)])), (r, .inl (cA, cap, .inl u_28))]) [0, 1] rfl
    have hD9 := hD.sub (ws' := [(h, .inr (2, [.ref r, .int (nI (by_ap cap (by_ap cap (by_ap cap (by_ap cap L [by_b (((240 : Int32) <<< ((4 - (nI 4)) &&& 31)) ||| ((nI c0) >>> ((6 * ((nI 4) - 1)) &&& 31)))]) [by_b (128 ||| (((nI c0) >>> ((6 * ((nI 4) - 2)) &&& 31)) &&& 63))]) [by_b (128 ||| (((nI c0) >>> ((6 * (((nI 4) - 2) + (-1))) &&& 31)) &&& 63))]) [by_b (128 ||| (((nI c0) >>> ((6 * ((((nI 4) - 2) + (-1)) + (-1))) &&& 31)) &&& 63))]).length)])), (r, .inl (cA, cap, .inl u_28))]) [0, 1] (by decide) rfl
    have hK9 := hK.sub (tys' := [(cA, .byte)]) [0] rfl
    rw [ut_e4 q1] at hP9 hD9
    exact zz_vret hx hb hr hlocks d_Ut_put_67 hS (by first | exact Nat.le_refl _ | decide | omega | (dsimp only; omega)) (by first | exact Nat.le_refl _ | decide | omega | (dsimp only; omega)) u_28 (by rw [ut_e4 q1] at hL_30; exact hL_30) hP9 hK9 hD9
