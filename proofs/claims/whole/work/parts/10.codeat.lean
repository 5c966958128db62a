/-! UTF-8: the code at a place -/
theorem ut_at1 {L : List Nat} {p b : Nat} (h : p < L.length) (e : L.getD p 0 = b) (hb : b < 128) : ut_at L p = some b := by
  unfold ut_at; rw [if_neg (by omega), if_pos (by omega), e]
theorem ut_atx {L : List Nat} {p b : Nat} (h : p < L.length) (e : L.getD p 0 = b) (hb : (128 ≤ b ∧ b < 192) ∨ 248 ≤ b) : ut_at L p = none := by
  unfold ut_at; rw [if_neg (by omega), if_neg (by omega), if_pos (by omega)]
theorem ut_at2 {L : List Nat} {p b : Nat} (h : p < L.length) (e : L.getD p 0 = b) (hb : 192 ≤ b ∧ b < 224) : ut_at L p = ut_bd (ut_co L (p + 1)) fun x => ut_fi ((b - 192) * 64 + x) 2 := by
  unfold ut_at; rw [if_neg (by omega), if_neg (by omega), if_neg (by omega), if_pos (by omega), e]
theorem ut_at3 {L : List Nat} {p b : Nat} (h : p < L.length) (e : L.getD p 0 = b) (hb : 224 ≤ b ∧ b < 240) : ut_at L p = ut_bd (ut_co L (p + 1)) fun x => ut_bd (ut_co L (p + 2)) fun y => ut_fi (((b - 224) * 64 + x) * 64 + y) 3 := by
  unfold ut_at; rw [if_neg (by omega), if_neg (by omega), if_neg (by omega), if_neg (by omega), if_pos (by omega), e]
theorem ut_at4 {L : List Nat} {p b : Nat} (h : p < L.length) (e : L.getD p 0 = b) (hb : 240 ≤ b ∧ b < 248) : ut_at L p = ut_bd (ut_co L (p + 1)) fun x => ut_bd (ut_co L (p + 2)) fun y => ut_bd (ut_co L (p + 3)) fun z => ut_fi ((((b - 240) * 64 + x) * 64 + y) * 64 + z) 4 := by
  unfold ut_at; rw [if_neg (by omega), if_neg (by omega), if_neg (by omega), if_neg (by omega), if_neg (by omega), e]
theorem ut_bd_s {x : Nat} {f : Nat → Option Nat} : ut_bd (some x) f = f x := rfl
theorem ut_m2 {b : Nat} (h : 192 ≤ b ∧ b < 224) : nI b &&& ((127 : Int32) >>> ((2 : Int32) &&& 31)) = nI (b - 192) := by
  rw [pk_andN (m := (127 : Int32) >>> ((2 : Int32) &&& 31)) (by omega) 5 (by decide)]; exact congrArg nI (by omega)
theorem ut_m3 {b : Nat} (h : 224 ≤ b ∧ b < 240) : nI b &&& ((127 : Int32) >>> ((3 : Int32) &&& 31)) = nI (b - 224) := by
  rw [pk_andN (m := (127 : Int32) >>> ((3 : Int32) &&& 31)) (by omega) 4 (by decide)]; exact congrArg nI (by omega)
theorem ut_m4 {b : Nat} (h : 240 ≤ b ∧ b < 248) : nI b &&& ((127 : Int32) >>> ((4 : Int32) &&& 31)) = nI (b - 240) := by
  rw [pk_andN (m := (127 : Int32) >>> ((4 : Int32) &&& 31)) (by omega) 3 (by decide)]; exact congrArg nI (by omega)
theorem ut_sh {a x : Nat} (ha : a < 1048576) (hx : x < 64) : (nI a <<< ((6 : Int32) &&& 31)) ||| (nI (x + 128) &&& 63) = nI (a * 64 + x) := by
  rw [pk_andN (by omega) 6 (by decide), pk_shlN ((6 : Int32) &&& 31) 6 (by decide) (by omega), nx_orS (a := a) (i := 6) (by omega)]; exact congrArg nI (by omega)
theorem ut_co_c {L : List Nat} {f : Nat → Int32} {p : Nat} (hL : by_L L f) (hl : L.length < 2147483648) (hp : p < 2147483648) : (ut_co L p = none ∧ (by_at L (nI p) < 128 ∨ 192 ≤ by_at L (nI p))) ∨ ∃ x, x < 64 ∧ ut_co L p = some x ∧ by_at L (nI p) = nI (x + 128) := by
  unfold ut_co
  rcases Nat.lt_or_ge p L.length with q | q
  · rw [by_at_in q hl]
    have hb := (hL p q).1
    generalize L.getD p 0 = b at hb
    by_cases h : 128 ≤ b ∧ b < 192
    · right
      exact ⟨b - 128, by omega, by rw [if_pos ⟨q, h⟩], by congr 1; omega⟩
    · left
      refine ⟨if_neg (fun z => h z.2), ?_⟩
      rcases Nat.lt_or_ge b 128 with c | c
      · left; exact nI_lt (b := 128) c (by decide)
      · right; exact nI_le (a := 192) (by omega) (by omega)
  · left
    rw [by_at_out q hp]
    exact ⟨if_neg (by omega), Or.inl (by decide)⟩
theorem ut_nl {r : Int32} (h : r < 128 ∨ 192 ≤ r) (c : ¬ r < 128) : ¬ r < 192 := by
  rcases h with q | q
  · exact absurd q c
  · intro z; rw [Int32.lt_iff_toInt_lt] at z; rw [Int32.le_iff_toInt_le] at q; omega
theorem ut_tl {n : Nat} (h : n < 2147483648) : (nI n).toInt64.toInt = (n : Int) := by rw [nI_l h, lN_toInt h]
theorem ut_bnl (n : Nat) : ut_bn n < 2 ^ 31 := by unfold ut_bn; split <;> (try split) <;> (try split) <;> decide
abbrev y_Ut_codeAt : MethodName := ⟨"TextForge$Utf8", "codeAt", "(LTextForge$Bytes;I)I"⟩
abbrev w_Ut_codeAt : List Cond := Cond.code y_Ut_codeAt prog_10_method_6_code 7 (some .int) :: gw
theorem d_Ut_codeAt_0 : decode prog_10_method_6_code 0 = .ok (.aload_n 0, 1) := by decide +kernel
theorem d_Ut_codeAt_1 : decode prog_10_method_6_code 1 = .ok (.iload_n 1, 1) := by decide +kernel
theorem d_Ut_codeAt_2 : decode prog_10_method_6_code 2 = .ok (.invokevirtual 25, 3) := by decide +kernel
theorem d_Ut_codeAt_5 : decode prog_10_method_6_code 5 = .ok (.istore_n 2, 1) := by decide +kernel
theorem d_Ut_codeAt_6 : decode prog_10_method_6_code 6 = .ok (.iload_n 2, 1) := by decide +kernel
theorem d_Ut_codeAt_7 : decode prog_10_method_6_code 7 = .ok (.iconst (-1), 1) := by decide +kernel
theorem d_Ut_codeAt_8 : decode prog_10_method_6_code 8 = .ok (.if_icmp .eq 24, 3) := by decide +kernel
theorem d_Ut_codeAt_11 : decode prog_10_method_6_code 11 = .ok (.iload_n 2, 1) := by decide +kernel
theorem d_Ut_codeAt_12 : decode prog_10_method_6_code 12 = .ok (.sipush 128, 3) := by decide +kernel
theorem d_Ut_codeAt_15 : decode prog_10_method_6_code 15 = .ok (.if_icmp .lt 10, 3) := by decide +kernel
theorem d_Ut_codeAt_18 : decode prog_10_method_6_code 18 = .ok (.iload_n 2, 1) := by decide +kernel
theorem d_Ut_codeAt_19 : decode prog_10_method_6_code 19 = .ok (.sipush 192, 3) := by decide +kernel
theorem d_Ut_codeAt_22 : decode prog_10_method_6_code 22 = .ok (.if_icmp .lt 10, 3) := by decide +kernel
theorem d_Ut_codeAt_25 : decode prog_10_method_6_code 25 = .ok (.iload_n 2, 1) := by decide +kernel
theorem d_Ut_codeAt_26 : decode prog_10_method_6_code 26 = .ok (.sipush 248, 3) := by decide +kernel
theorem d_Ut_codeAt_29 : decode prog_10_method_6_code 29 = .ok (.if_icmp .lt 5, 3) := by decide +kernel
theorem d_Ut_codeAt_32 : decode prog_10_method_6_code 32 = .ok (.iconst (-1), 1) := by decide +kernel
theorem d_Ut_codeAt_33 : decode prog_10_method_6_code 33 = .ok (.ireturn, 1) := by decide +kernel
theorem d_Ut_codeAt_34 : decode prog_10_method_6_code 34 = .ok (.iload_n 2, 1) := by decide +kernel
theorem d_Ut_codeAt_35 : decode prog_10_method_6_code 35 = .ok (.sipush 128, 3) := by decide +kernel
theorem d_Ut_codeAt_38 : decode prog_10_method_6_code 38 = .ok (.if_icmp .ge 5, 3) := by decide +kernel
theorem d_Ut_codeAt_41 : decode prog_10_method_6_code 41 = .ok (.iload_n 2, 1) := by decide +kernel
theorem d_Ut_codeAt_42 : decode prog_10_method_6_code 42 = .ok (.ireturn, 1) := by decide +kernel
theorem d_Ut_codeAt_43 : decode prog_10_method_6_code 43 = .ok (.iload_n 2, 1) := by decide +kernel
theorem d_Ut_codeAt_44 : decode prog_10_method_6_code 44 = .ok (.sipush 224, 3) := by decide +kernel
theorem d_Ut_codeAt_47 : decode prog_10_method_6_code 47 = .ok (.if_icmp .ge 7, 3) := by decide +kernel
theorem d_Ut_codeAt_50 : decode prog_10_method_6_code 50 = .ok (.iconst 2, 1) := by decide +kernel
theorem d_Ut_codeAt_51 : decode prog_10_method_6_code 51 = .ok (.goto 15, 3) := by decide +kernel
theorem d_Ut_codeAt_54 : decode prog_10_method_6_code 54 = .ok (.iload_n 2, 1) := by decide +kernel
theorem d_Ut_codeAt_55 : decode prog_10_method_6_code 55 = .ok (.sipush 240, 3) := by decide +kernel
theorem d_Ut_codeAt_58 : decode prog_10_method_6_code 58 = .ok (.if_icmp .ge 7, 3) := by decide +kernel
theorem d_Ut_codeAt_61 : decode prog_10_method_6_code 61 = .ok (.iconst 3, 1) := by decide +kernel
theorem d_Ut_codeAt_62 : decode prog_10_method_6_code 62 = .ok (.goto 4, 3) := by decide +kernel
theorem d_Ut_codeAt_65 : decode prog_10_method_6_code 65 = .ok (.iconst 4, 1) := by decide +kernel
theorem d_Ut_codeAt_66 : decode prog_10_method_6_code 66 = .ok (.istore_n 3, 1) := by decide +kernel
theorem d_Ut_codeAt_67 : decode prog_10_method_6_code 67 = .ok (.iload_n 2, 1) := by decide +kernel
theorem d_Ut_codeAt_68 : decode prog_10_method_6_code 68 = .ok (.bipush 127, 2) := by decide +kernel
theorem d_Ut_codeAt_70 : decode prog_10_method_6_code 70 = .ok (.iload_n 3, 1) := by decide +kernel
theorem d_Ut_codeAt_71 : decode prog_10_method_6_code 71 = .ok (.ishr, 1) := by decide +kernel
theorem d_Ut_codeAt_72 : decode prog_10_method_6_code 72 = .ok (.iand, 1) := by decide +kernel
theorem d_Ut_codeAt_73 : decode prog_10_method_6_code 73 = .ok (.istore 4, 2) := by decide +kernel
theorem d_Ut_codeAt_75 : decode prog_10_method_6_code 75 = .ok (.iconst 1, 1) := by decide +kernel
theorem d_Ut_codeAt_76 : decode prog_10_method_6_code 76 = .ok (.istore 5, 2) := by decide +kernel
theorem d_Ut_codeAt_78 : decode prog_10_method_6_code 78 = .ok (.iload 5, 2) := by decide +kernel
theorem d_Ut_codeAt_80 : decode prog_10_method_6_code 80 = .ok (.iload_n 3, 1) := by decide +kernel
theorem d_Ut_codeAt_81 : decode prog_10_method_6_code 81 = .ok (.if_icmp .ge 50, 3) := by decide +kernel
theorem d_Ut_codeAt_84 : decode prog_10_method_6_code 84 = .ok (.aload_n 0, 1) := by decide +kernel
theorem d_Ut_codeAt_85 : decode prog_10_method_6_code 85 = .ok (.iload_n 1, 1) := by decide +kernel
theorem d_Ut_codeAt_86 : decode prog_10_method_6_code 86 = .ok (.iload 5, 2) := by decide +kernel
theorem d_Ut_codeAt_88 : decode prog_10_method_6_code 88 = .ok (.iadd, 1) := by decide +kernel
theorem d_Ut_codeAt_89 : decode prog_10_method_6_code 89 = .ok (.invokevirtual 25, 3) := by decide +kernel
theorem d_Ut_codeAt_92 : decode prog_10_method_6_code 92 = .ok (.istore 6, 2) := by decide +kernel
theorem d_Ut_codeAt_94 : decode prog_10_method_6_code 94 = .ok (.iload 6, 2) := by decide +kernel
theorem d_Ut_codeAt_96 : decode prog_10_method_6_code 96 = .ok (.sipush 128, 3) := by decide +kernel
theorem d_Ut_codeAt_99 : decode prog_10_method_6_code 99 = .ok (.if_icmp .lt 11, 3) := by decide +kernel
theorem d_Ut_codeAt_102 : decode prog_10_method_6_code 102 = .ok (.iload 6, 2) := by decide +kernel
theorem d_Ut_codeAt_104 : decode prog_10_method_6_code 104 = .ok (.sipush 192, 3) := by decide +kernel
theorem d_Ut_codeAt_107 : decode prog_10_method_6_code 107 = .ok (.if_icmp .lt 5, 3) := by decide +kernel
theorem d_Ut_codeAt_110 : decode prog_10_method_6_code 110 = .ok (.iconst (-1), 1) := by decide +kernel
theorem d_Ut_codeAt_111 : decode prog_10_method_6_code 111 = .ok (.ireturn, 1) := by decide +kernel
theorem d_Ut_codeAt_112 : decode prog_10_method_6_code 112 = .ok (.iload 4, 2) := by decide +kernel
theorem d_Ut_codeAt_114 : decode prog_10_method_6_code 114 = .ok (.bipush 6, 2) := by decide +kernel
theorem d_Ut_codeAt_116 : decode prog_10_method_6_code 116 = .ok (.ishl, 1) := by decide +kernel
theorem d_Ut_codeAt_117 : decode prog_10_method_6_code 117 = .ok (.iload 6, 2) := by decide +kernel
theorem d_Ut_codeAt_119 : decode prog_10_method_6_code 119 = .ok (.bipush 63, 2) := by decide +kernel
theorem d_Ut_codeAt_121 : decode prog_10_method_6_code 121 = .ok (.iand, 1) := by decide +kernel
theorem d_Ut_codeAt_122 : decode prog_10_method_6_code 122 = .ok (.ior, 1) := by decide +kernel
theorem d_Ut_codeAt_123 : decode prog_10_method_6_code 123 = .ok (.istore 4, 2) := by decide +kernel
theorem d_Ut_codeAt_125 : decode prog_10_method_6_code 125 = .ok (.iinc 5 1, 3) := by decide +kernel
theorem d_Ut_codeAt_128 : decode prog_10_method_6_code 128 = .ok (.goto (-50), 3) := by decide +kernel
theorem d_Ut_codeAt_131 : decode prog_10_method_6_code 131 = .ok (.iload 4, 2) := by decide +kernel
theorem d_Ut_codeAt_133 : decode prog_10_method_6_code 133 = .ok (.i2l, 1) := by decide +kernel
theorem d_Ut_codeAt_134 : decode prog_10_method_6_code 134 = .ok (.invokestatic 13, 3) := by decide +kernel
theorem d_Ut_codeAt_137 : decode prog_10_method_6_code 137 = .ok (.ifCond .eq 17, 3) := by decide +kernel
theorem d_Ut_codeAt_140 : decode prog_10_method_6_code 140 = .ok (.iload 4, 2) := by decide +kernel
theorem d_Ut_codeAt_142 : decode prog_10_method_6_code 142 = .ok (.invokestatic 21, 3) := by decide +kernel
theorem d_Ut_codeAt_145 : decode prog_10_method_6_code 145 = .ok (.iload_n 3, 1) := by decide +kernel
theorem d_Ut_codeAt_146 : decode prog_10_method_6_code 146 = .ok (.if_icmp .ne 8, 3) := by decide +kernel
theorem d_Ut_codeAt_149 : decode prog_10_method_6_code 149 = .ok (.iload 4, 2) := by decide +kernel
theorem d_Ut_codeAt_151 : decode prog_10_method_6_code 151 = .ok (.goto 4, 3) := by decide +kernel
theorem d_Ut_codeAt_154 : decode prog_10_method_6_code 154 = .ok (.iconst (-1), 1) := by decide +kernel
theorem d_Ut_codeAt_155 : decode prog_10_method_6_code 155 = .ok (.ireturn, 1) := by decide +kernel
set_option maxHeartbeats 4000000 in
set_option maxRecDepth 100000 in
theorem c_Ut_codeAt (l : Launch) (dC : Nat → ClassId) (dI : Nat → Nat → Nat) (h r : Nat) (cA : ClassId) (cap : Nat) (f : Nat → Int32) (L : List Nat) (p0 : Nat) (hL : by_L L f) (hc : L.length ≤ cap) (hk : cap < 2147483648) (hp0 : p0 < 1000000000) : zR_i l y_Ut_codeAt w_Ut_codeAt { frames := 1, cells := 0, slots := 0, locals := 21 } (dC, dI) vwCl [.ref h, .int (nI p0)] [(h, .inr (2, [.ref r, .int (nI L.length)])), (r, .inl (cA, cap, .inl f))] [(cA, .byte)] (fun r : Int32 => r = ut_v (ut_at L p0)) := by
  refine zz_enterR (cc := prog_10_method_6_code) (nL := 7) (ret := (some .int)) (by decide) rfl (Nat.le_of_ble_eq_true rfl) ?_
  intro p e s m below meth c ls C0 hP hK hl
  obtain ⟨hx, hb, hml, hown, hg, hr, hlocks, hin⟩ := C0
  have hS : va_S (fun _ => False) s.heap s.heap [] := va_S.rf
  have hown : s.vm.findClass "TextForge$Utf8" = some m.cls := hown
  have hP : va_P (dC, dI) vwCl [(h, .inr (2, [.ref r, .int (nI L.length)])), (r, .inl (cA, cap, .inl f))] s.heap := hP
  have hK : va_K (dC, dI) vwCl [(cA, .byte)] s := hK
  have hl : lv_has ls 7 [(0, .ref h), (1, .int (nI p0))] := hl
  refine lv_aload_n hx hb d_Ut_codeAt_0 rfl (lv_at hl 0 rfl) ?_
  refine lv_iload_n hx hb d_Ut_codeAt_1 rfl (lv_at hl 1 rfl) ?_
  have hPc := hP.sub (ws' := [(h, .inr (2, [.ref r, .int (nI L.length)])), (r, .inl (cA, cap, .inl f))]) [0, 1] rfl
  have hKc := hK.sub (tys' := [(cA, .byte)]) [0] rfl
  refine vp_callSi (W.runV (As := [.int (nI p0)]) (rest := []) ⟨hx, hb, hml, hown, hg⟩ (c_By_at l dC dI h r cA cap f L (nI p0) hL hc hk) (cwV 1 hg (gi_V kw_363 kw_194 kw_195 kw_2 kw_196) rfl rfl rfl (by decide +kernel) ⟨Nat.le_of_ble_eq_true rfl, Nat.le_of_ble_eq_true rfl⟩) (zz_prJV hPc hKc _ (q0 := 0) (ci := 2) rfl rfl) rfl rfl hl.1 rfl (lv_room (Nat.le_of_ble_eq_true rfl)) d_Ut_codeAt_2 ⟨Nat.le_of_ble_eq_true rfl, Nat.le_of_ble_eq_true rfl⟩) (fun r1 hr1 => ?_)
  rcases Nat.lt_or_ge p0 L.length with hin | hin
  · skip
    rw [by_at_in hin (by omega)] at hr1
    have hb0 := (hL p0 hin).1
    generalize eb : L.getD p0 0 = b0 at hr1 hb0
    subst hr1
    refine lv_istore_n (lv' := [(2, .int (nI b0)), (0, .ref h), (1, .int (nI p0))]) hx hb d_Ut_codeAt_5 rfl hl (by decide) rfl (fun ls hl => ?_)
    refine lv_iload_n hx hb d_Ut_codeAt_6 rfl (lv_at hl 0 rfl) ?_
    refine lv_iconst (v := (-1)) hx hb d_Ut_codeAt_7 (by decide) ?_
    refine lv_icmp_eq (tgt := 32) hx hb d_Ut_codeAt_8 (by decide) (fun c9 => by first | exact absurd c9 (nI_nm1 (by omega)) | exact absurd (nI_nm1 (by omega)) c9) (fun _ => ?_)
    refine lv_iload_n hx hb d_Ut_codeAt_11 rfl (lv_at hl 0 rfl) ?_
    refine lv_sipush (v := 128) hx hb d_Ut_codeAt_12 (by decide) ?_
    refine lv_icmp_lt (tgt := 25) hx hb d_Ut_codeAt_15 (by decide) (fun c_15 => ?_) (fun c_15 => ?_)
    · skip
      have f_15 : b0 < 128 := (nI_ltI (b := 128) (by omega) (by omega)).mp c_15
      refine lv_iload_n hx hb d_Ut_codeAt_25 rfl (lv_at hl 0 rfl) ?_
      refine lv_sipush (v := 248) hx hb d_Ut_codeAt_26 (by decide) ?_
      refine lv_icmp_lt (tgt := 34) hx hb d_Ut_codeAt_29 (by decide) (fun _ => ?_) (fun c9 => by first | exact absurd c9 (nI_lt (b := 248) (by omega) (by decide)) | exact absurd (nI_lt (b := 248) (by omega) (by decide)) c9)
      refine lv_iload_n hx hb d_Ut_codeAt_34 rfl (lv_at hl 0 rfl) ?_
      refine lv_sipush (v := 128) hx hb d_Ut_codeAt_35 (by decide) ?_
      refine lv_icmp_ge (tgt := 43) hx hb d_Ut_codeAt_38 (by decide) (fun c9 => by first | exact absurd c9 (nI_ge (a := b0) (b := 128) (by omega) (by decide)) | exact absurd (nI_ge (a := b0) (b := 128) (by omega) (by decide)) c9) (fun _ => ?_)
      refine lv_iload_n hx hb d_Ut_codeAt_41 rfl (lv_at hl 0 rfl) ?_
      exact zz_iretR hx hb hr hlocks d_Ut_codeAt_42 (by rw [ut_at1 hin eb (by omega)]; rfl)
    · skip
      have f_15 : 128 ≤ b0 := Nat.le_of_not_lt (fun z => c_15 (nI_lt (b := 128) z (by omega)))
      refine lv_iload_n hx hb d_Ut_codeAt_18 rfl (lv_at hl 0 rfl) ?_
      refine lv_sipush (v := 192) hx hb d_Ut_codeAt_19 (by decide) ?_
      refine lv_icmp_lt (tgt := 32) hx hb d_Ut_codeAt_22 (by decide) (fun c_22 => ?_) (fun c_22 => ?_)
      · skip
        have f_22 : b0 < 192 := (nI_ltI (b := 192) (by omega) (by omega)).mp c_22
        refine lv_iconst (v := (-1)) hx hb d_Ut_codeAt_32 (by decide) ?_
        exact zz_iretR hx hb hr hlocks d_Ut_codeAt_33 (by rw [ut_atx hin eb (by omega)]; rfl)
      · skip
        have f_22 : 192 ≤ b0 := Nat.le_of_not_lt (fun z => c_22 (nI_lt (b := 192) z (by omega)))
        refine lv_iload_n hx hb d_Ut_codeAt_25 rfl (lv_at hl 0 rfl) ?_
        refine lv_sipush (v := 248) hx hb d_Ut_codeAt_26 (by decide) ?_
        refine lv_icmp_lt (tgt := 34) hx hb d_Ut_codeAt_29 (by decide) (fun c_29 => ?_) (fun c_29 => ?_)
        · skip
          have f_29 : b0 < 248 := (nI_ltI (b := 248) (by omega) (by omega)).mp c_29
          refine lv_iload_n hx hb d_Ut_codeAt_34 rfl (lv_at hl 0 rfl) ?_
          refine lv_sipush (v := 128) hx hb d_Ut_codeAt_35 (by decide) ?_
          refine lv_icmp_ge (tgt := 43) hx hb d_Ut_codeAt_38 (by decide) (fun _ => ?_) (fun c9 => by first | exact absurd c9 (nI_le (a := 128) (b := b0) (by omega) (by omega)) | exact absurd (nI_le (a := 128) (b := b0) (by omega) (by omega)) c9)
          refine lv_iload_n hx hb d_Ut_codeAt_43 rfl (lv_at hl 0 rfl) ?_
          refine lv_sipush (v := 224) hx hb d_Ut_codeAt_44 (by decide) ?_
          refine lv_icmp_ge (tgt := 54) hx hb d_Ut_codeAt_47 (by decide) (fun c_47 => ?_) (fun c_47 => ?_)
          · skip
            have f_47 : 224 ≤ b0 := Nat.le_of_not_lt (fun z => nI_ge (b := 224) z (by omega) c_47)
            refine lv_iload_n hx hb d_Ut_codeAt_54 rfl (lv_at hl 0 rfl) ?_
            refine lv_sipush (v := 240) hx hb d_Ut_codeAt_55 (by decide) ?_
            refine lv_icmp_ge (tgt := 65) hx hb d_Ut_codeAt_58 (by decide) (fun c_58 => ?_) (fun c_58 => ?_)
            · skip
              have f_58 : 240 ≤ b0 := Nat.le_of_not_lt (fun z => nI_ge (b := 240) z (by omega) c_58)
              refine lv_iconst (v := 4) hx hb d_Ut_codeAt_65 (by decide) ?_
              refine lv_istore_n (lv' := [(3, .int 4), (2, .int (nI b0)), (0, .ref h), (1, .int (nI p0))]) hx hb d_Ut_codeAt_66 rfl hl (by decide) rfl (fun ls hl => ?_)
              refine lv_iload_n hx hb d_Ut_codeAt_67 rfl (lv_at hl 1 rfl) ?_
              refine lv_bipush (v := 127) hx hb d_Ut_codeAt_68 (by decide) ?_
              refine lv_iload_n hx hb d_Ut_codeAt_70 rfl (lv_at hl 0 rfl) ?_
              refine lv_ishr hx hb d_Ut_codeAt_71 ?_
              refine lv_iand hx hb d_Ut_codeAt_72 ?_
              rw [ut_m4 (b := b0) (by omega)]
              refine lv_istore (lv' := [(4, .int (nI (b0 - 240))), (3, .int 4), (2, .int (nI b0)), (0, .ref h), (1, .int (nI p0))]) hx hb d_Ut_codeAt_73 hl (by decide) rfl (fun ls hl => ?_)
              refine lv_iconst (v := 1) hx hb d_Ut_codeAt_75 (by decide) ?_
              refine lv_istore (lv' := [(5, .int 1), (4, .int (nI (b0 - 240))), (3, .int 4), (2, .int (nI b0)), (0, .ref h), (1, .int (nI p0))]) hx hb d_Ut_codeAt_76 hl (by decide) rfl (fun ls hl => ?_)
              have hl : lv_has ls 7 [(5, .int 1), (4, .int (nI (b0 - 240))), (3, .int 4), (2, .int (nI b0)), (0, .ref h), (1, .int (nI p0))] := hl
              refine lv_iload hx hb d_Ut_codeAt_78 (lv_at hl 0 rfl) ?_
              refine lv_iload_n hx hb d_Ut_codeAt_80 rfl (lv_at hl 2 rfl) ?_
              refine lv_icmp_ge (tgt := 131) hx hb d_Ut_codeAt_81 (by decide) (fun c9 => by first | exact absurd c9 (by decide) | exact absurd (by decide) c9) (fun _ => ?_)
              refine lv_aload_n hx hb d_Ut_codeAt_84 rfl (lv_at hl 4 rfl) ?_
              refine lv_iload_n hx hb d_Ut_codeAt_85 rfl (lv_at hl 5 rfl) ?_
              refine lv_iload hx hb d_Ut_codeAt_86 (lv_at hl 0 rfl) ?_
              refine lv_iadd hx hb d_Ut_codeAt_88 ?_
              rw [show nI p0 + 1 = nI (p0 + 1) from nI_add p0 1]
              have hPc := hP.sub (ws' := [(h, .inr (2, [.ref r, .int (nI L.length)])), (r, .inl (cA, cap, .inl f))]) [0, 1] rfl
              have hKc := hK.sub (tys' := [(cA, .byte)]) [0] rfl
              refine vp_callSi (W.runV (As := [.int (nI (p0 + 1))]) (rest := []) ⟨hx, hb, hml, hown, hg⟩ (c_By_at l dC dI h r cA cap f L (nI (p0 + 1)) hL hc hk) (cwV 1 hg (gi_V kw_363 kw_194 kw_195 kw_2 kw_196) rfl rfl rfl (by decide +kernel) ⟨Nat.le_of_ble_eq_true rfl, Nat.le_of_ble_eq_true rfl⟩) (zz_prJV hPc hKc _ (q0 := 0) (ci := 2) rfl rfl) rfl rfl hl.1 rfl (lv_room (Nat.le_of_ble_eq_true rfl)) d_Ut_codeAt_89 ⟨Nat.le_of_ble_eq_true rfl, Nat.le_of_ble_eq_true rfl⟩) (fun r_1 hr_1 => ?_)
              rcases ut_co_c hL (p := p0 + 1) (by omega) (by omega) with ⟨hno, hbd⟩ | ⟨x1, hx1, hs1, e1⟩
              · skip
                rw [← hr_1] at hbd
                refine lv_istore (lv' := [(6, .int r_1), (5, .int 1), (4, .int (nI (b0 - 240))), (3, .int 4), (2, .int (nI b0)), (0, .ref h), (1, .int (nI p0))]) hx hb d_Ut_codeAt_92 hl (by decide) rfl (fun ls hl => ?_)
                refine lv_iload hx hb d_Ut_codeAt_94 (lv_at hl 0 rfl) ?_
                refine lv_sipush (v := 128) hx hb d_Ut_codeAt_96 (by decide) ?_
                refine lv_icmp_lt (tgt := 110) hx hb d_Ut_codeAt_99 (by decide) (fun c_99 => ?_) (fun c_99 => ?_)
                · skip
                  refine lv_iconst (v := (-1)) hx hb d_Ut_codeAt_110 (by decide) ?_
                  exact zz_iretR hx hb hr hlocks d_Ut_codeAt_111 (by rw [ut_at4 hin eb (by omega), hno]; rfl)
                · skip
                  refine lv_iload hx hb d_Ut_codeAt_102 (lv_at hl 0 rfl) ?_
                  refine lv_sipush (v := 192) hx hb d_Ut_codeAt_104 (by decide) ?_
                  refine lv_icmp_lt (tgt := 112) hx hb d_Ut_codeAt_107 (by decide) (fun c9 => by first | exact absurd c9 (ut_nl hbd c_99) | exact absurd (ut_nl hbd c_99) c9) (fun _ => ?_)
                  refine lv_iconst (v := (-1)) hx hb d_Ut_codeAt_110 (by decide) ?_
                  exact zz_iretR hx hb hr hlocks d_Ut_codeAt_111 (by rw [ut_at4 hin eb (by omega), hno]; rfl)
              · skip
                rw [e1] at hr_1
                subst hr_1
                refine lv_istore (lv' := [(6, .int (nI (x1 + 128))), (5, .int 1), (4, .int (nI (b0 - 240))), (3, .int 4), (2, .int (nI b0)), (0, .ref h), (1, .int (nI p0))]) hx hb d_Ut_codeAt_92 hl (by decide) rfl (fun ls hl => ?_)
                refine lv_iload hx hb d_Ut_codeAt_94 (lv_at hl 0 rfl) ?_
                refine lv_sipush (v := 128) hx hb d_Ut_codeAt_96 (by decide) ?_
                refine lv_icmp_lt (tgt := 110) hx hb d_Ut_codeAt_99 (by decide) (fun c9 => by first | exact absurd c9 (nI_nlt (a := x1 + 128) (b := 128) (by omega) (by omega)) | exact absurd (nI_nlt (a := x1 + 128) (b := 128) (by omega) (by omega)) c9) (fun _ => ?_)
                refine lv_iload hx hb d_Ut_codeAt_102 (lv_at hl 0 rfl) ?_
                refine lv_sipush (v := 192) hx hb d_Ut_codeAt_104 (by decide) ?_
                refine lv_icmp_lt (tgt := 112) hx hb d_Ut_codeAt_107 (by decide) (fun _ => ?_) (fun c9 => by first | exact absurd c9 (nI_lt (a := x1 + 128) (b := 192) (by omega) (by decide)) | exact absurd (nI_lt (a := x1 + 128) (b := 192) (by omega) (by decide)) c9)
                refine lv_iload hx hb d_Ut_codeAt_112 (lv_at hl 2 rfl) ?_
                refine lv_bipush (v := 6) hx hb d_Ut_codeAt_114 (by decide) ?_
                refine lv_ishl hx hb d_Ut_codeAt_116 ?_
                refine lv_iload hx hb d_Ut_codeAt_117 (lv_at hl 0 rfl) ?_
                refine lv_bipush (v := 63) hx hb d_Ut_codeAt_119 (by decide) ?_
                refine lv_iand hx hb d_Ut_codeAt_121 ?_
                refine lv_ior hx hb d_Ut_codeAt_122 ?_
                rw [ut_sh (a := (b0 - 240)) (x := x1) (by omega) hx1]
                refine lv_istore (lv' := [(4, .int (nI ((b0 - 240) * 64 + x1))), (6, .int (nI (x1 + 128))), (5, .int 1), (3, .int 4), (2, .int (nI b0)), (0, .ref h), (1, .int (nI p0))]) hx hb d_Ut_codeAt_123 hl (by decide) rfl (fun ls hl => ?_)
                refine lv_iinc (v := 1 + 1) (lv' := [(5, .int (1 + 1)), (4, .int (nI ((b0 - 240) * 64 + x1))), (6, .int (nI (x1 + 128))), (3, .int 4), (2, .int (nI b0)), (0, .ref h), (1, .int (nI p0))]) hx hb d_Ut_codeAt_125 hl (k := 2) rfl rfl (by decide) rfl (fun ls hl => ?_)
                refine lv_goto (tgt := 78) hx hb d_Ut_codeAt_128 (by decide) ?_
                have hl : lv_has ls 7 [(5, .int 2), (4, .int (nI ((b0 - 240) * 64 + x1))), (6, .int (nI (x1 + 128))), (3, .int 4), (2, .int (nI b0)), (0, .ref h), (1, .int (nI p0))] := hl
                refine lv_iload hx hb d_Ut_codeAt_78 (lv_at hl 0 rfl) ?_
                refine lv_iload_n hx hb d_Ut_codeAt_80 rfl (lv_at hl 3 rfl) ?_
                refine lv_icmp_ge (tgt := 131) hx hb d_Ut_codeAt_81 (by decide) (fun c9 => by first | exact absurd c9 (by decide) | exact absurd (by decide) c9) (fun _ => ?_)
                refine lv_aload_n hx hb d_Ut_codeAt_84 rfl (lv_at hl 5 rfl) ?_
                refine lv_iload_n hx hb d_Ut_codeAt_85 rfl (lv_at hl 6 rfl) ?_
                refine lv_iload hx hb d_Ut_codeAt_86 (lv_at hl 0 rfl) ?_
                refine lv_iadd hx hb d_Ut_codeAt_88 ?_
                rw [show nI p0 + 2 = nI (p0 + 2) from nI_add p0 2]
                have hPc := hP.sub (ws' := [(h, .inr (2, [.ref r, .int (nI L.length)])), (r, .inl (cA, cap, .inl f))]) [0, 1] rfl
                have hKc := hK.sub (tys' := [(cA, .byte)]) [0] rfl
                refine vp_callSi (W.runV (As := [.int (nI (p0 + 2))]) (rest := []) ⟨hx, hb, hml, hown, hg⟩ (c_By_at l dC dI h r cA cap f L (nI (p0 + 2)) hL hc hk) (cwV 1 hg (gi_V kw_363 kw_194 kw_195 kw_2 kw_196) rfl rfl rfl (by decide +kernel) ⟨Nat.le_of_ble_eq_true rfl, Nat.le_of_ble_eq_true rfl⟩) (zz_prJV hPc hKc _ (q0 := 0) (ci := 2) rfl rfl) rfl rfl hl.1 rfl (lv_room (Nat.le_of_ble_eq_true rfl)) d_Ut_codeAt_89 ⟨Nat.le_of_ble_eq_true rfl, Nat.le_of_ble_eq_true rfl⟩) (fun r_2 hr_2 => ?_)
                rcases ut_co_c hL (p := p0 + 2) (by omega) (by omega) with ⟨hno, hbd⟩ | ⟨x2, hx2, hs2, e2⟩
                · skip
                  rw [← hr_2] at hbd
                  refine lv_istore (lv' := [(6, .int r_2), (5, .int 2), (4, .int (nI ((b0 - 240) * 64 + x1))), (3, .int 4), (2, .int (nI b0)), (0, .ref h), (1, .int (nI p0))]) hx hb d_Ut_codeAt_92 hl (by decide) rfl (fun ls hl => ?_)
                  refine lv_iload hx hb d_Ut_codeAt_94 (lv_at hl 0 rfl) ?_
                  refine lv_sipush (v := 128) hx hb d_Ut_codeAt_96 (by decide) ?_
                  refine lv_icmp_lt (tgt := 110) hx hb d_Ut_codeAt_99 (by decide) (fun c_99 => ?_) (fun c_99 => ?_)
                  · skip
                    refine lv_iconst (v := (-1)) hx hb d_Ut_codeAt_110 (by decide) ?_
                    exact zz_iretR hx hb hr hlocks d_Ut_codeAt_111 (by rw [ut_at4 hin eb (by omega), hs1, ut_bd_s, hno]; rfl)
                  · skip
                    refine lv_iload hx hb d_Ut_codeAt_102 (lv_at hl 0 rfl) ?_
                    refine lv_sipush (v := 192) hx hb d_Ut_codeAt_104 (by decide) ?_
                    refine lv_icmp_lt (tgt := 112) hx hb d_Ut_codeAt_107 (by decide) (fun c9 => by first | exact absurd c9 (ut_nl hbd c_99) | exact absurd (ut_nl hbd c_99) c9) (fun _ => ?_)
                    refine lv_iconst (v := (-1)) hx hb d_Ut_codeAt_110 (by decide) ?_
                    exact zz_iretR hx hb hr hlocks d_Ut_codeAt_111 (by rw [ut_at4 hin eb (by omega), hs1, ut_bd_s, hno]; rfl)
                · skip
                  rw [e2] at hr_2
                  subst hr_2
                  refine lv_istore (lv' := [(6, .int (nI (x2 + 128))), (5, .int 2), (4, .int (nI ((b0 - 240) * 64 + x1))), (3, .int 4), (2, .int (nI b0)), (0, .ref h), (1, .int (nI p0))]) hx hb d_Ut_codeAt_92 hl (by decide) rfl (fun ls hl => ?_)
                  refine lv_iload hx hb d_Ut_codeAt_94 (lv_at hl 0 rfl) ?_
                  refine lv_sipush (v := 128) hx hb d_Ut_codeAt_96 (by decide) ?_
                  refine lv_icmp_lt (tgt := 110) hx hb d_Ut_codeAt_99 (by decide) (fun c9 => by first | exact absurd c9 (nI_nlt (a := x2 + 128) (b := 128) (by omega) (by omega)) | exact absurd (nI_nlt (a := x2 + 128) (b := 128) (by omega) (by omega)) c9) (fun _ => ?_)
                  refine lv_iload hx hb d_Ut_codeAt_102 (lv_at hl 0 rfl) ?_
                  refine lv_sipush (v := 192) hx hb d_Ut_codeAt_104 (by decide) ?_
                  refine lv_icmp_lt (tgt := 112) hx hb d_Ut_codeAt_107 (by decide) (fun _ => ?_) (fun c9 => by first | exact absurd c9 (nI_lt (a := x2 + 128) (b := 192) (by omega) (by decide)) | exact absurd (nI_lt (a := x2 + 128) (b := 192) (by omega) (by decide)) c9)
                  refine lv_iload hx hb d_Ut_codeAt_112 (lv_at hl 2 rfl) ?_
                  refine lv_bipush (v := 6) hx hb d_Ut_codeAt_114 (by decide) ?_
                  refine lv_ishl hx hb d_Ut_codeAt_116 ?_
                  refine lv_iload hx hb d_Ut_codeAt_117 (lv_at hl 0 rfl) ?_
                  refine lv_bipush (v := 63) hx hb d_Ut_codeAt_119 (by decide) ?_
                  refine lv_iand hx hb d_Ut_codeAt_121 ?_
                  refine lv_ior hx hb d_Ut_codeAt_122 ?_
                  rw [ut_sh (a := ((b0 - 240) * 64 + x1)) (x := x2) (by omega) hx2]
                  refine lv_istore (lv' := [(4, .int (nI (((b0 - 240) * 64 + x1) * 64 + x2))), (6, .int (nI (x2 + 128))), (5, .int 2), (3, .int 4), (2, .int (nI b0)), (0, .ref h), (1, .int (nI p0))]) hx hb d_Ut_codeAt_123 hl (by decide) rfl (fun ls hl => ?_)
                  refine lv_iinc (v := 2 + 1) (lv' := [(5, .int (2 + 1)), (4, .int (nI (((b0 - 240) * 64 + x1) * 64 + x2))), (6, .int (nI (x2 + 128))), (3, .int 4), (2, .int (nI b0)), (0, .ref h), (1, .int (nI p0))]) hx hb d_Ut_codeAt_125 hl (k := 2) rfl rfl (by decide) rfl (fun ls hl => ?_)
                  refine lv_goto (tgt := 78) hx hb d_Ut_codeAt_128 (by decide) ?_
                  have hl : lv_has ls 7 [(5, .int 3), (4, .int (nI (((b0 - 240) * 64 + x1) * 64 + x2))), (6, .int (nI (x2 + 128))), (3, .int 4), (2, .int (nI b0)), (0, .ref h), (1, .int (nI p0))] := hl
                  refine lv_iload hx hb d_Ut_codeAt_78 (lv_at hl 0 rfl) ?_
                  refine lv_iload_n hx hb d_Ut_codeAt_80 rfl (lv_at hl 3 rfl) ?_
                  refine lv_icmp_ge (tgt := 131) hx hb d_Ut_codeAt_81 (by decide) (fun c9 => by first | exact absurd c9 (by decide) | exact absurd (by decide) c9) (fun _ => ?_)
                  refine lv_aload_n hx hb d_Ut_codeAt_84 rfl (lv_at hl 5 rfl) ?_
                  refine lv_iload_n hx hb d_Ut_codeAt_85 rfl (lv_at hl 6 rfl) ?_
                  refine lv_iload hx hb d_Ut_codeAt_86 (lv_at hl 0 rfl) ?_
                  refine lv_iadd hx hb d_Ut_codeAt_88 ?_
                  rw [show nI p0 + 3 = nI (p0 + 3) from nI_add p0 3]
                  have hPc := hP.sub (ws' := [(h, .inr (2, [.ref r, .int (nI L.length)])), (r, .inl (cA, cap, .inl f))]) [0, 1] rfl
                  have hKc := hK.sub (tys' := [(cA, .byte)]) [0] rfl
                  refine vp_callSi (W.runV (As := [.int (nI (p0 + 3))]) (rest := []) ⟨hx, hb, hml, hown, hg⟩ (c_By_at l dC dI h r cA cap f L (nI (p0 + 3)) hL hc hk) (cwV 1 hg (gi_V kw_363 kw_194 kw_195 kw_2 kw_196) rfl rfl rfl (by decide +kernel) ⟨Nat.le_of_ble_eq_true rfl, Nat.le_of_ble_eq_true rfl⟩) (zz_prJV hPc hKc _ (q0 := 0) (ci := 2) rfl rfl) rfl rfl hl.1 rfl (lv_room (Nat.le_of_ble_eq_true rfl)) d_Ut_codeAt_89 ⟨Nat.le_of_ble_eq_true rfl, Nat.le_of_ble_eq_true rfl⟩) (fun r_3 hr_3 => ?_)
                  rcases ut_co_c hL (p := p0 + 3) (by omega) (by omega) with ⟨hno, hbd⟩ | ⟨x3, hx3, hs3, e3⟩
                  · skip
                    rw [← hr_3] at hbd
                    refine lv_istore (lv' := [(6, .int r_3), (5, .int 3), (4, .int (nI (((b0 - 240) * 64 + x1) * 64 + x2))), (3, .int 4), (2, .int (nI b0)), (0, .ref h), (1, .int (nI p0))]) hx hb d_Ut_codeAt_92 hl (by decide) rfl (fun ls hl => ?_)
                    refine lv_iload hx hb d_Ut_codeAt_94 (lv_at hl 0 rfl) ?_
                    refine lv_sipush (v := 128) hx hb d_Ut_codeAt_96 (by decide) ?_
                    refine lv_icmp_lt (tgt := 110) hx hb d_Ut_codeAt_99 (by decide) (fun c_99 => ?_) (fun c_99 => ?_)
                    · skip
                      refine lv_iconst (v := (-1)) hx hb d_Ut_codeAt_110 (by decide) ?_
                      exact zz_iretR hx hb hr hlocks d_Ut_codeAt_111 (by rw [ut_at4 hin eb (by omega), hs1, ut_bd_s, hs2, ut_bd_s, hno]; rfl)
                    · skip
                      refine lv_iload hx hb d_Ut_codeAt_102 (lv_at hl 0 rfl) ?_
                      refine lv_sipush (v := 192) hx hb d_Ut_codeAt_104 (by decide) ?_
                      refine lv_icmp_lt (tgt := 112) hx hb d_Ut_codeAt_107 (by decide) (fun c9 => by first | exact absurd c9 (ut_nl hbd c_99) | exact absurd (ut_nl hbd c_99) c9) (fun _ => ?_)
                      refine lv_iconst (v := (-1)) hx hb d_Ut_codeAt_110 (by decide) ?_
                      exact zz_iretR hx hb hr hlocks d_Ut_codeAt_111 (by rw [ut_at4 hin eb (by omega), hs1, ut_bd_s, hs2, ut_bd_s, hno]; rfl)
                  · skip
                    rw [e3] at hr_3
                    subst hr_3
                    refine lv_istore (lv' := [(6, .int (nI (x3 + 128))), (5, .int 3), (4, .int (nI (((b0 - 240) * 64 + x1) * 64 + x2))), (3, .int 4), (2, .int (nI b0)), (0, .ref h), (1, .int (nI p0))]) hx hb d_Ut_codeAt_92 hl (by decide) rfl (fun ls hl => ?_)
                    refine lv_iload hx hb d_Ut_codeAt_94 (lv_at hl 0 rfl) ?_
                    refine lv_sipush (v := 128) hx hb d_Ut_codeAt_96 (by decide) ?_
                    refine lv_icmp_lt (tgt := 110) hx hb d_Ut_codeAt_99 (by decide) (fun c9 => by first | exact absurd c9 (nI_nlt (a := x3 + 128) (b := 128) (by omega) (by omega)) | exact absurd (nI_nlt (a := x3 + 128) (b := 128) (by omega) (by omega)) c9) (fun _ => ?_)
                    refine lv_iload hx hb d_Ut_codeAt_102 (lv_at hl 0 rfl) ?_
                    refine lv_sipush (v := 192) hx hb d_Ut_codeAt_104 (by decide) ?_
                    refine lv_icmp_lt (tgt := 112) hx hb d_Ut_codeAt_107 (by decide) (fun _ => ?_) (fun c9 => by first | exact absurd c9 (nI_lt (a := x3 + 128) (b := 192) (by omega) (by decide)) | exact absurd (nI_lt (a := x3 + 128) (b := 192) (by omega) (by decide)) c9)
                    refine lv_iload hx hb d_Ut_codeAt_112 (lv_at hl 2 rfl) ?_
                    refine lv_bipush (v := 6) hx hb d_Ut_codeAt_114 (by decide) ?_
                    refine lv_ishl hx hb d_Ut_codeAt_116 ?_
                    refine lv_iload hx hb d_Ut_codeAt_117 (lv_at hl 0 rfl) ?_
                    refine lv_bipush (v := 63) hx hb d_Ut_codeAt_119 (by decide) ?_
                    refine lv_iand hx hb d_Ut_codeAt_121 ?_
                    refine lv_ior hx hb d_Ut_codeAt_122 ?_
                    rw [ut_sh (a := (((b0 - 240) * 64 + x1) * 64 + x2)) (x := x3) (by omega) hx3]
                    refine lv_istore (lv' := [(4, .int (nI ((((b0 - 240) * 64 + x1) * 64 + x2) * 64 + x3))), (6, .int (nI (x3 + 128))), (5, .int 3), (3, .int 4), (2, .int (nI b0)), (0, .ref h), (1, .int (nI p0))]) hx hb d_Ut_codeAt_123 hl (by decide) rfl (fun ls hl => ?_)
                    refine lv_iinc (v := 3 + 1) (lv' := [(5, .int (3 + 1)), (4, .int (nI ((((b0 - 240) * 64 + x1) * 64 + x2) * 64 + x3))), (6, .int (nI (x3 + 128))), (3, .int 4), (2, .int (nI b0)), (0, .ref h), (1, .int (nI p0))]) hx hb d_Ut_codeAt_125 hl (k := 2) rfl rfl (by decide) rfl (fun ls hl => ?_)
                    refine lv_goto (tgt := 78) hx hb d_Ut_codeAt_128 (by decide) ?_
                    have hl : lv_has ls 7 [(5, .int 4), (4, .int (nI ((((b0 - 240) * 64 + x1) * 64 + x2) * 64 + x3))), (6, .int (nI (x3 + 128))), (3, .int 4), (2, .int (nI b0)), (0, .ref h), (1, .int (nI p0))] := hl
                    refine lv_iload hx hb d_Ut_codeAt_78 (lv_at hl 0 rfl) ?_
                    refine lv_iload_n hx hb d_Ut_codeAt_80 rfl (lv_at hl 3 rfl) ?_
                    refine lv_icmp_ge (tgt := 131) hx hb d_Ut_codeAt_81 (by decide) (fun _ => ?_) (fun c9 => by first | exact absurd c9 (by decide) | exact absurd (by decide) c9)
                    refine lv_iload hx hb d_Ut_codeAt_131 (lv_at hl 1 rfl) ?_
                    refine lv_i2l hx hb d_Ut_codeAt_133 rfl ?_
                    have hPc := hP.sub (ws' := []) [] rfl
                    have hKc := hK.sub (tys' := []) [] rfl
                    refine vp_callSi (W.runS (As := [.long ((nI ((((b0 - 240) * 64 + x1) * 64 + x2) * 64 + x3)).toInt64)]) (rest := []) ⟨hx, hb, hml, hown, hg⟩ (c_Ut_isCode l dC dI ((nI ((((b0 - 240) * 64 + x1) * 64 + x2) * 64 + x3)).toInt64) ) (va_cwS 1 hg (gi_S kw_364 kw_365 kw_21 kw_366) rfl rfl rfl (by decide +kernel) ⟨Nat.le_of_ble_eq_true rfl, Nat.le_of_ble_eq_true rfl⟩) (zz_prJS hPc hKc _) rfl rfl hl.1 rfl (lv_room (Nat.le_of_ble_eq_true rfl)) d_Ut_codeAt_134 ⟨Nat.le_of_ble_eq_true rfl, Nat.le_of_ble_eq_true rfl⟩) (fun r_4 hr_4 => ?_)
                    rw [ut_tl (n := ((((b0 - 240) * 64 + x1) * 64 + x2) * 64 + x3)) (by omega)] at hr_4
                    refine lv_if_eq (tgt := 154) hx hb d_Ut_codeAt_137 (by decide) (fun c_137 => ?_) (fun c_137 => ?_)
                    · skip
                      refine lv_iconst (v := (-1)) hx hb d_Ut_codeAt_154 (by decide) ?_
                      exact zz_iretR hx hb hr hlocks d_Ut_codeAt_155 (by rw [ut_at4 hin eb (by omega), hs1, ut_bd_s, hs2, ut_bd_s, hs3, ut_bd_s]; unfold ut_fi; rw [if_neg (fun z => by rw [by_z_f hr_4 c_137] at z; exact absurd z.1 (by decide))]; rfl)
                    · skip
                      have hok := by_z_t hr_4 c_137
                      refine lv_iload hx hb d_Ut_codeAt_140 (lv_at hl 1 rfl) ?_
                      have hPc := hP.sub (ws' := []) [] rfl
                      have hKc := hK.sub (tys' := []) [] rfl
                      refine vp_callSi (W.runS (As := [.int (nI ((((b0 - 240) * 64 + x1) * 64 + x2) * 64 + x3))]) (rest := []) ⟨hx, hb, hml, hown, hg⟩ (c_Ut_bytesOf l dC dI ((((b0 - 240) * 64 + x1) * 64 + x2) * 64 + x3) (by omega)) (va_cwS 1 hg (gi_S kw_370 kw_371 kw_21 kw_372) rfl rfl rfl (by decide +kernel) ⟨Nat.le_of_ble_eq_true rfl, Nat.le_of_ble_eq_true rfl⟩) (zz_prJS hPc hKc _) rfl rfl hl.1 rfl (lv_room (Nat.le_of_ble_eq_true rfl)) d_Ut_codeAt_142 ⟨Nat.le_of_ble_eq_true rfl, Nat.le_of_ble_eq_true rfl⟩) (fun r_5 hr_5 => ?_)
                      refine lv_iload_n hx hb d_Ut_codeAt_145 rfl (lv_at hl 3 rfl) ?_
                      refine lv_icmp_ne (tgt := 154) hx hb d_Ut_codeAt_146 (by decide) (fun c_146 => ?_) (fun c_146 => ?_)
                      · skip
                        refine lv_iconst (v := (-1)) hx hb d_Ut_codeAt_154 (by decide) ?_
                        exact zz_iretR hx hb hr hlocks d_Ut_codeAt_155 (by rw [ut_at4 hin eb (by omega), hs1, ut_bd_s, hs2, ut_bd_s, hs3, ut_bd_s]; unfold ut_fi; rw [if_neg (fun z => c_146 (by rw [hr_5, z.2]; rfl))]; rfl)
                      · skip
                        have hbn : ut_bn ((((b0 - 240) * 64 + x1) * 64 + x2) * 64 + x3) = 4 := nI_e1 (b := 4) (by rw [← hr_5]; exact c_146) (ut_bnl _) (by decide)
                        refine lv_iload hx hb d_Ut_codeAt_149 (lv_at hl 1 rfl) ?_
                        refine lv_goto (tgt := 155) hx hb d_Ut_codeAt_151 (by decide) ?_
                        exact zz_iretR hx hb hr hlocks d_Ut_codeAt_155 (by rw [ut_at4 hin eb (by omega), hs1, ut_bd_s, hs2, ut_bd_s, hs3, ut_bd_s]; unfold ut_fi; rw [if_pos ⟨hok, hbn⟩]; rfl)
            · skip
              have f_58 : b0 < 240 := Nat.lt_of_not_le (fun z => c_58 (nI_le (a := 240) z (by omega)))
              refine lv_iconst (v := 3) hx hb d_Ut_codeAt_61 (by decide) ?_
              refine lv_goto (tgt := 66) hx hb d_Ut_codeAt_62 (by decide) ?_
              refine lv_istore_n (lv' := [(3, .int 3), (2, .int (nI b0)), (0, .ref h), (1, .int (nI p0))]) hx hb d_Ut_codeAt_66 rfl hl (by decide) rfl (fun ls hl => ?_)
              refine lv_iload_n hx hb d_Ut_codeAt_67 rfl (lv_at hl 1 rfl) ?_
              refine lv_bipush (v := 127) hx hb d_Ut_codeAt_68 (by decide) ?_
              refine lv_iload_n hx hb d_Ut_codeAt_70 rfl (lv_at hl 0 rfl) ?_
              refine lv_ishr hx hb d_Ut_codeAt_71 ?_
              refine lv_iand hx hb d_Ut_codeAt_72 ?_
              rw [ut_m3 (b := b0) (by omega)]
              refine lv_istore (lv' := [(4, .int (nI (b0 - 224))), (3, .int 3), (2, .int (nI b0)), (0, .ref h), (1, .int (nI p0))]) hx hb d_Ut_codeAt_73 hl (by decide) rfl (fun ls hl => ?_)
              refine lv_iconst (v := 1) hx hb d_Ut_codeAt_75 (by decide) ?_
              refine lv_istore (lv' := [(5, .int 1), (4, .int (nI (b0 - 224))), (3, .int 3), (2, .int (nI b0)), (0, .ref h), (1, .int (nI p0))]) hx hb d_Ut_codeAt_76 hl (by decide) rfl (fun ls hl => ?_)
              have hl : lv_has ls 7 [(5, .int 1), (4, .int (nI (b0 - 224))), (3, .int 3), (2, .int (nI b0)), (0, .ref h), (1, .int (nI p0))] := hl
              refine lv_iload hx hb d_Ut_codeAt_78 (lv_at hl 0 rfl) ?_
              refine lv_iload_n hx hb d_Ut_codeAt_80 rfl (lv_at hl 2 rfl) ?_
              refine lv_icmp_ge (tgt := 131) hx hb d_Ut_codeAt_81 (by decide) (fun c9 => by first | exact absurd c9 (by decide) | exact absurd (by decide) c9) (fun _ => ?_)
              refine lv_aload_n hx hb d_Ut_codeAt_84 rfl (lv_at hl 4 rfl) ?_
              refine lv_iload_n hx hb d_Ut_codeAt_85 rfl (lv_at hl 5 rfl) ?_
              refine lv_iload hx hb d_Ut_codeAt_86 (lv_at hl 0 rfl) ?_
              refine lv_iadd hx hb d_Ut_codeAt_88 ?_
              rw [show nI p0 + 1 = nI (p0 + 1) from nI_add p0 1]
              have hPc := hP.sub (ws' := [(h, .inr (2, [.ref r, .int (nI L.length)])), (r, .inl (cA, cap, .inl f))]) [0, 1] rfl
              have hKc := hK.sub (tys' := [(cA, .byte)]) [0] rfl
              refine vp_callSi (W.runV (As := [.int (nI (p0 + 1))]) (rest := []) ⟨hx, hb, hml, hown, hg⟩ (c_By_at l dC dI h r cA cap f L (nI (p0 + 1)) hL hc hk) (cwV 1 hg (gi_V kw_363 kw_194 kw_195 kw_2 kw_196) rfl rfl rfl (by decide +kernel) ⟨Nat.le_of_ble_eq_true rfl, Nat.le_of_ble_eq_true rfl⟩) (zz_prJV hPc hKc _ (q0 := 0) (ci := 2) rfl rfl) rfl rfl hl.1 rfl (lv_room (Nat.le_of_ble_eq_true rfl)) d_Ut_codeAt_89 ⟨Nat.le_of_ble_eq_true rfl, Nat.le_of_ble_eq_true rfl⟩) (fun r_6 hr_6 => ?_)
              rcases ut_co_c hL (p := p0 + 1) (by omega) (by omega) with ⟨hno, hbd⟩ | ⟨x1, hx1, hs1, e1⟩
              · skip
                rw [← hr_6] at hbd
                refine lv_istore (lv' := [(6, .int r_6), (5, .int 1), (4, .int (nI (b0 - 224))), (3, .int 3), (2, .int (nI b0)), (0, .ref h), (1, .int (nI p0))]) hx hb d_Ut_codeAt_92 hl (by decide) rfl (fun ls hl => ?_)
                refine lv_iload hx hb d_Ut_codeAt_94 (lv_at hl 0 rfl) ?_
                refine lv_sipush (v := 128) hx hb d_Ut_codeAt_96 (by decide) ?_
                refine lv_icmp_lt (tgt := 110) hx hb d_Ut_codeAt_99 (by decide) (fun c_99 => ?_) (fun c_99 => ?_)
                · skip
                  refine lv_iconst (v := (-1)) hx hb d_Ut_codeAt_110 (by decide) ?_
                  exact zz_iretR hx hb hr hlocks d_Ut_codeAt_111 (by rw [ut_at3 hin eb (by omega), hno]; rfl)
                · skip
                  refine lv_iload hx hb d_Ut_codeAt_102 (lv_at hl 0 rfl) ?_
                  refine lv_sipush (v := 192) hx hb d_Ut_codeAt_104 (by decide) ?_
                  refine lv_icmp_lt (tgt := 112) hx hb d_Ut_codeAt_107 (by decide) (fun c9 => by first | exact absurd c9 (ut_nl hbd c_99) | exact absurd (ut_nl hbd c_99) c9) (fun _ => ?_)
                  refine lv_iconst (v := (-1)) hx hb d_Ut_codeAt_110 (by decide) ?_
                  exact zz_iretR hx hb hr hlocks d_Ut_codeAt_111 (by rw [ut_at3 hin eb (by omega), hno]; rfl)
              · skip
                rw [e1] at hr_6
                subst hr_6
                refine lv_istore (lv' := [(6, .int (nI (x1 + 128))), (5, .int 1), (4, .int (nI (b0 - 224))), (3, .int 3), (2, .int (nI b0)), (0, .ref h), (1, .int (nI p0))]) hx hb d_Ut_codeAt_92 hl (by decide) rfl (fun ls hl => ?_)
                refine lv_iload hx hb d_Ut_codeAt_94 (lv_at hl 0 rfl) ?_
                refine lv_sipush (v := 128) hx hb d_Ut_codeAt_96 (by decide) ?_
                refine lv_icmp_lt (tgt := 110) hx hb d_Ut_codeAt_99 (by decide) (fun c9 => by first | exact absurd c9 (nI_nlt (a := x1 + 128) (b := 128) (by omega) (by omega)) | exact absurd (nI_nlt (a := x1 + 128) (b := 128) (by omega) (by omega)) c9) (fun _ => ?_)
                refine lv_iload hx hb d_Ut_codeAt_102 (lv_at hl 0 rfl) ?_
                refine lv_sipush (v := 192) hx hb d_Ut_codeAt_104 (by decide) ?_
                refine lv_icmp_lt (tgt := 112) hx hb d_Ut_codeAt_107 (by decide) (fun _ => ?_) (fun c9 => by first | exact absurd c9 (nI_lt (a := x1 + 128) (b := 192) (by omega) (by decide)) | exact absurd (nI_lt (a := x1 + 128) (b := 192) (by omega) (by decide)) c9)
                refine lv_iload hx hb d_Ut_codeAt_112 (lv_at hl 2 rfl) ?_
                refine lv_bipush (v := 6) hx hb d_Ut_codeAt_114 (by decide) ?_
                refine lv_ishl hx hb d_Ut_codeAt_116 ?_
                refine lv_iload hx hb d_Ut_codeAt_117 (lv_at hl 0 rfl) ?_
                refine lv_bipush (v := 63) hx hb d_Ut_codeAt_119 (by decide) ?_
                refine lv_iand hx hb d_Ut_codeAt_121 ?_
                refine lv_ior hx hb d_Ut_codeAt_122 ?_
                rw [ut_sh (a := (b0 - 224)) (x := x1) (by omega) hx1]
                refine lv_istore (lv' := [(4, .int (nI ((b0 - 224) * 64 + x1))), (6, .int (nI (x1 + 128))), (5, .int 1), (3, .int 3), (2, .int (nI b0)), (0, .ref h), (1, .int (nI p0))]) hx hb d_Ut_codeAt_123 hl (by decide) rfl (fun ls hl => ?_)
                refine lv_iinc (v := 1 + 1) (lv' := [(5, .int (1 + 1)), (4, .int (nI ((b0 - 224) * 64 + x1))), (6, .int (nI (x1 + 128))), (3, .int 3), (2, .int (nI b0)), (0, .ref h), (1, .int (nI p0))]) hx hb d_Ut_codeAt_125 hl (k := 2) rfl rfl (by decide) rfl (fun ls hl => ?_)
                refine lv_goto (tgt := 78) hx hb d_Ut_codeAt_128 (by decide) ?_
                have hl : lv_has ls 7 [(5, .int 2), (4, .int (nI ((b0 - 224) * 64 + x1))), (6, .int (nI (x1 + 128))), (3, .int 3), (2, .int (nI b0)), (0, .ref h), (1, .int (nI p0))] := hl
                refine lv_iload hx hb d_Ut_codeAt_78 (lv_at hl 0 rfl) ?_
                refine lv_iload_n hx hb d_Ut_codeAt_80 rfl (lv_at hl 3 rfl) ?_
                refine lv_icmp_ge (tgt := 131) hx hb d_Ut_codeAt_81 (by decide) (fun c9 => by first | exact absurd c9 (by decide) | exact absurd (by decide) c9) (fun _ => ?_)
                refine lv_aload_n hx hb d_Ut_codeAt_84 rfl (lv_at hl 5 rfl) ?_
                refine lv_iload_n hx hb d_Ut_codeAt_85 rfl (lv_at hl 6 rfl) ?_
                refine lv_iload hx hb d_Ut_codeAt_86 (lv_at hl 0 rfl) ?_
                refine lv_iadd hx hb d_Ut_codeAt_88 ?_
                rw [show nI p0 + 2 = nI (p0 + 2) from nI_add p0 2]
                have hPc := hP.sub (ws' := [(h, .inr (2, [.ref r, .int (nI L.length)])), (r, .inl (cA, cap, .inl f))]) [0, 1] rfl
                have hKc := hK.sub (tys' := [(cA, .byte)]) [0] rfl
                refine vp_callSi (W.runV (As := [.int (nI (p0 + 2))]) (rest := []) ⟨hx, hb, hml, hown, hg⟩ (c_By_at l dC dI h r cA cap f L (nI (p0 + 2)) hL hc hk) (cwV 1 hg (gi_V kw_363 kw_194 kw_195 kw_2 kw_196) rfl rfl rfl (by decide +kernel) ⟨Nat.le_of_ble_eq_true rfl, Nat.le_of_ble_eq_true rfl⟩) (zz_prJV hPc hKc _ (q0 := 0) (ci := 2) rfl rfl) rfl rfl hl.1 rfl (lv_room (Nat.le_of_ble_eq_true rfl)) d_Ut_codeAt_89 ⟨Nat.le_of_ble_eq_true rfl, Nat.le_of_ble_eq_true rfl⟩) (fun r_7 hr_7 => ?_)
                rcases ut_co_c hL (p := p0 + 2) (by omega) (by omega) with ⟨hno, hbd⟩ | ⟨x2, hx2, hs2, e2⟩
                · skip
                  rw [← hr_7] at hbd
                  refine lv_istore (lv' := [(6, .int r_7), (5, .int 2), (4, .int (nI ((b0 - 224) * 64 + x1))), (3, .int 3), (2, .int (nI b0)), (0, .ref h), (1, .int (nI p0))]) hx hb d_Ut_codeAt_92 hl (by decide) rfl (fun ls hl => ?_)
                  refine lv_iload hx hb d_Ut_codeAt_94 (lv_at hl 0 rfl) ?_
                  refine lv_sipush (v := 128) hx hb d_Ut_codeAt_96 (by decide) ?_
                  refine lv_icmp_lt (tgt := 110) hx hb d_Ut_codeAt_99 (by decide) (fun c_99 => ?_) (fun c_99 => ?_)
                  · skip
                    refine lv_iconst (v := (-1)) hx hb d_Ut_codeAt_110 (by decide) ?_
                    exact zz_iretR hx hb hr hlocks d_Ut_codeAt_111 (by rw [ut_at3 hin eb (by omega), hs1, ut_bd_s, hno]; rfl)
                  · skip
                    refine lv_iload hx hb d_Ut_codeAt_102 (lv_at hl 0 rfl) ?_
                    refine lv_sipush (v := 192) hx hb d_Ut_codeAt_104 (by decide) ?_
                    refine lv_icmp_lt (tgt := 112) hx hb d_Ut_codeAt_107 (by decide) (fun c9 => by first | exact absurd c9 (ut_nl hbd c_99) | exact absurd (ut_nl hbd c_99) c9) (fun _ => ?_)
                    refine lv_iconst (v := (-1)) hx hb d_Ut_codeAt_110 (by decide) ?_
                    exact zz_iretR hx hb hr hlocks d_Ut_codeAt_111 (by rw [ut_at3 hin eb (by omega), hs1, ut_bd_s, hno]; rfl)
                · skip
                  rw [e2] at hr_7
                  subst hr_7
                  refine lv_istore (lv' := [(6, .int (nI (x2 + 128))), (5, .int 2), (4, .int (nI ((b0 - 224) * 64 + x1))), (3, .int 3), (2, .int (nI b0)), (0, .ref h), (1, .int (nI p0))]) hx hb d_Ut_codeAt_92 hl (by decide) rfl (fun ls hl => ?_)
                  refine lv_iload hx hb d_Ut_codeAt_94 (lv_at hl 0 rfl) ?_
                  refine lv_sipush (v := 128) hx hb d_Ut_codeAt_96 (by decide) ?_
                  refine lv_icmp_lt (tgt := 110) hx hb d_Ut_codeAt_99 (by decide) (fun c9 => by first | exact absurd c9 (nI_nlt (a := x2 + 128) (b := 128) (by omega) (by omega)) | exact absurd (nI_nlt (a := x2 + 128) (b := 128) (by omega) (by omega)) c9) (fun _ => ?_)
                  refine lv_iload hx hb d_Ut_codeAt_102 (lv_at hl 0 rfl) ?_
                  refine lv_sipush (v := 192) hx hb d_Ut_codeAt_104 (by decide) ?_
                  refine lv_icmp_lt (tgt := 112) hx hb d_Ut_codeAt_107 (by decide) (fun _ => ?_) (fun c9 => by first | exact absurd c9 (nI_lt (a := x2 + 128) (b := 192) (by omega) (by decide)) | exact absurd (nI_lt (a := x2 + 128) (b := 192) (by omega) (by decide)) c9)
                  refine lv_iload hx hb d_Ut_codeAt_112 (lv_at hl 2 rfl) ?_
                  refine lv_bipush (v := 6) hx hb d_Ut_codeAt_114 (by decide) ?_
                  refine lv_ishl hx hb d_Ut_codeAt_116 ?_
                  refine lv_iload hx hb d_Ut_codeAt_117 (lv_at hl 0 rfl) ?_
                  refine lv_bipush (v := 63) hx hb d_Ut_codeAt_119 (by decide) ?_
                  refine lv_iand hx hb d_Ut_codeAt_121 ?_
                  refine lv_ior hx hb d_Ut_codeAt_122 ?_
                  rw [ut_sh (a := ((b0 - 224) * 64 + x1)) (x := x2) (by omega) hx2]
                  refine lv_istore (lv' := [(4, .int (nI (((b0 - 224) * 64 + x1) * 64 + x2))), (6, .int (nI (x2 + 128))), (5, .int 2), (3, .int 3), (2, .int (nI b0)), (0, .ref h), (1, .int (nI p0))]) hx hb d_Ut_codeAt_123 hl (by decide) rfl (fun ls hl => ?_)
                  refine lv_iinc (v := 2 + 1) (lv' := [(5, .int (2 + 1)), (4, .int (nI (((b0 - 224) * 64 + x1) * 64 + x2))), (6, .int (nI (x2 + 128))), (3, .int 3), (2, .int (nI b0)), (0, .ref h), (1, .int (nI p0))]) hx hb d_Ut_codeAt_125 hl (k := 2) rfl rfl (by decide) rfl (fun ls hl => ?_)
                  refine lv_goto (tgt := 78) hx hb d_Ut_codeAt_128 (by decide) ?_
                  have hl : lv_has ls 7 [(5, .int 3), (4, .int (nI (((b0 - 224) * 64 + x1) * 64 + x2))), (6, .int (nI (x2 + 128))), (3, .int 3), (2, .int (nI b0)), (0, .ref h), (1, .int (nI p0))] := hl
                  refine lv_iload hx hb d_Ut_codeAt_78 (lv_at hl 0 rfl) ?_
                  refine lv_iload_n hx hb d_Ut_codeAt_80 rfl (lv_at hl 3 rfl) ?_
                  refine lv_icmp_ge (tgt := 131) hx hb d_Ut_codeAt_81 (by decide) (fun _ => ?_) (fun c9 => by first | exact absurd c9 (by decide) | exact absurd (by decide) c9)
                  refine lv_iload hx hb d_Ut_codeAt_131 (lv_at hl 1 rfl) ?_
                  refine lv_i2l hx hb d_Ut_codeAt_133 rfl ?_
                  have hPc := hP.sub (ws' := []) [] rfl
                  have hKc := hK.sub (tys' := []) [] rfl
                  refine vp_callSi (W.runS (As := [.long ((nI (((b0 - 224) * 64 + x1) * 64 + x2)).toInt64)]) (rest := []) ⟨hx, hb, hml, hown, hg⟩ (c_Ut_isCode l dC dI ((nI (((b0 - 224) * 64 + x1) * 64 + x2)).toInt64) ) (va_cwS 1 hg (gi_S kw_364 kw_365 kw_21 kw_366) rfl rfl rfl (by decide +kernel) ⟨Nat.le_of_ble_eq_true rfl, Nat.le_of_ble_eq_true rfl⟩) (zz_prJS hPc hKc _) rfl rfl hl.1 rfl (lv_room (Nat.le_of_ble_eq_true rfl)) d_Ut_codeAt_134 ⟨Nat.le_of_ble_eq_true rfl, Nat.le_of_ble_eq_true rfl⟩) (fun r_8 hr_8 => ?_)
                  rw [ut_tl (n := (((b0 - 224) * 64 + x1) * 64 + x2)) (by omega)] at hr_8
                  refine lv_if_eq (tgt := 154) hx hb d_Ut_codeAt_137 (by decide) (fun c_137 => ?_) (fun c_137 => ?_)
                  · skip
                    refine lv_iconst (v := (-1)) hx hb d_Ut_codeAt_154 (by decide) ?_
                    exact zz_iretR hx hb hr hlocks d_Ut_codeAt_155 (by rw [ut_at3 hin eb (by omega), hs1, ut_bd_s, hs2, ut_bd_s]; unfold ut_fi; rw [if_neg (fun z => by rw [by_z_f hr_8 c_137] at z; exact absurd z.1 (by decide))]; rfl)
                  · skip
                    have hok := by_z_t hr_8 c_137
                    refine lv_iload hx hb d_Ut_codeAt_140 (lv_at hl 1 rfl) ?_
                    have hPc := hP.sub (ws' := []) [] rfl
                    have hKc := hK.sub (tys' := []) [] rfl
                    refine vp_callSi (W.runS (As := [.int (nI (((b0 - 224) * 64 + x1) * 64 + x2))]) (rest := []) ⟨hx, hb, hml, hown, hg⟩ (c_Ut_bytesOf l dC dI (((b0 - 224) * 64 + x1) * 64 + x2) (by omega)) (va_cwS 1 hg (gi_S kw_370 kw_371 kw_21 kw_372) rfl rfl rfl (by decide +kernel) ⟨Nat.le_of_ble_eq_true rfl, Nat.le_of_ble_eq_true rfl⟩) (zz_prJS hPc hKc _) rfl rfl hl.1 rfl (lv_room (Nat.le_of_ble_eq_true rfl)) d_Ut_codeAt_142 ⟨Nat.le_of_ble_eq_true rfl, Nat.le_of_ble_eq_true rfl⟩) (fun r_9 hr_9 => ?_)
                    refine lv_iload_n hx hb d_Ut_codeAt_145 rfl (lv_at hl 3 rfl) ?_
                    refine lv_icmp_ne (tgt := 154) hx hb d_Ut_codeAt_146 (by decide) (fun c_146 => ?_) (fun c_146 => ?_)
                    · skip
                      refine lv_iconst (v := (-1)) hx hb d_Ut_codeAt_154 (by decide) ?_
                      exact zz_iretR hx hb hr hlocks d_Ut_codeAt_155 (by rw [ut_at3 hin eb (by omega), hs1, ut_bd_s, hs2, ut_bd_s]; unfold ut_fi; rw [if_neg (fun z => c_146 (by rw [hr_9, z.2]; rfl))]; rfl)
                    · skip
                      have hbn : ut_bn (((b0 - 224) * 64 + x1) * 64 + x2) = 3 := nI_e1 (b := 3) (by rw [← hr_9]; exact c_146) (ut_bnl _) (by decide)
                      refine lv_iload hx hb d_Ut_codeAt_149 (lv_at hl 1 rfl) ?_
                      refine lv_goto (tgt := 155) hx hb d_Ut_codeAt_151 (by decide) ?_
                      exact zz_iretR hx hb hr hlocks d_Ut_codeAt_155 (by rw [ut_at3 hin eb (by omega), hs1, ut_bd_s, hs2, ut_bd_s]; unfold ut_fi; rw [if_pos ⟨hok, hbn⟩]; rfl)
          · skip
            have f_47 : b0 < 224 := Nat.lt_of_not_le (fun z => c_47 (nI_le (a := 224) z (by omega)))
            refine lv_iconst (v := 2) hx hb d_Ut_codeAt_50 (by decide) ?_
            refine lv_goto (tgt := 66) hx hb d_Ut_codeAt_51 (by decide) ?_
            refine lv_istore_n (lv' := [(3, .int 2), (2, .int (nI b0)), (0, .ref h), (1, .int (nI p0))]) hx hb d_Ut_codeAt_66 rfl hl (by decide) rfl (fun ls hl => ?_)
            refine lv_iload_n hx hb d_Ut_codeAt_67 rfl (lv_at hl 1 rfl) ?_
            refine lv_bipush (v := 127) hx hb d_Ut_codeAt_68 (by decide) ?_
            refine lv_iload_n hx hb d_Ut_codeAt_70 rfl (lv_at hl 0 rfl) ?_
            refine lv_ishr hx hb d_Ut_codeAt_71 ?_
            refine lv_iand hx hb d_Ut_codeAt_72 ?_
            rw [ut_m2 (b := b0) (by omega)]
            refine lv_istore (lv' := [(4, .int (nI (b0 - 192))), (3, .int 2), (2, .int (nI b0)), (0, .ref h), (1, .int (nI p0))]) hx hb d_Ut_codeAt_73 hl (by decide) rfl (fun ls hl => ?_)
            refine lv_iconst (v := 1) hx hb d_Ut_codeAt_75 (by decide) ?_
            refine lv_istore (lv' := [(5, .int 1), (4, .int (nI (b0 - 192))), (3, .int 2), (2, .int (nI b0)), (0, .ref h), (1, .int (nI p0))]) hx hb d_Ut_codeAt_76 hl (by decide) rfl (fun ls hl => ?_)
            have hl : lv_has ls 7 [(5, .int 1), (4, .int (nI (b0 - 192))), (3, .int 2), (2, .int (nI b0)), (0, .ref h), (1, .int (nI p0))] := hl
            refine lv_iload hx hb d_Ut_codeAt_78 (lv_at hl 0 rfl) ?_
            refine lv_iload_n hx hb d_Ut_codeAt_80 rfl (lv_at hl 2 rfl) ?_
            refine lv_icmp_ge (tgt := 131) hx hb d_Ut_codeAt_81 (by decide) (fun c9 => by first | exact absurd c9 (by decide) | exact absurd (by decide) c9) (fun _ => ?_)
            refine lv_aload_n hx hb d_Ut_codeAt_84 rfl (lv_at hl 4 rfl) ?_
            refine lv_iload_n hx hb d_Ut_codeAt_85 rfl (lv_at hl 5 rfl) ?_
            refine lv_iload hx hb d_Ut_codeAt_86 (lv_at hl 0 rfl) ?_
            refine lv_iadd hx hb d_Ut_codeAt_88 ?_
            rw [show nI p0 + 1 = nI (p0 + 1) from nI_add p0 1]
            have hPc := hP.sub (ws' := [(h, .inr (2, [.ref r, .int (nI L.length)])), (r, .inl (cA, cap, .inl f))]) [0, 1] rfl
            have hKc := hK.sub (tys' := [(cA, .byte)]) [0] rfl
            refine vp_callSi (W.runV (As := [.int (nI (p0 + 1))]) (rest := []) ⟨hx, hb, hml, hown, hg⟩ (c_By_at l dC dI h r cA cap f L (nI (p0 + 1)) hL hc hk) (cwV 1 hg (gi_V kw_363 kw_194 kw_195 kw_2 kw_196) rfl rfl rfl (by decide +kernel) ⟨Nat.le_of_ble_eq_true rfl, Nat.le_of_ble_eq_true rfl⟩) (zz_prJV hPc hKc _ (q0 := 0) (ci := 2) rfl rfl) rfl rfl hl.1 rfl (lv_room (Nat.le_of_ble_eq_true rfl)) d_Ut_codeAt_89 ⟨Nat.le_of_ble_eq_true rfl, Nat.le_of_ble_eq_true rfl⟩) (fun r_10 hr_10 => ?_)
            rcases ut_co_c hL (p := p0 + 1) (by omega) (by omega) with ⟨hno, hbd⟩ | ⟨x1, hx1, hs1, e1⟩
            · skip
              rw [← hr_10] at hbd
              refine lv_istore (lv' := [(6, .int r_10), (5, .int 1), (4, .int (nI (b0 - 192))), (3, .int 2), (2, .int (nI b0)), (0, .ref h), (1, .int (nI p0))]) hx hb d_Ut_codeAt_92 hl (by decide) rfl (fun ls hl => ?_)
              refine lv_iload hx hb d_Ut_codeAt_94 (lv_at hl 0 rfl) ?_
              refine lv_sipush (v := 128) hx hb d_Ut_codeAt_96 (by decide) ?_
              refine lv_icmp_lt (tgt := 110) hx hb d_Ut_codeAt_99 (by decide) (fun c_99 => ?_) (fun c_99 => ?_)
              · skip
                refine lv_iconst (v := (-1)) hx hb d_Ut_codeAt_110 (by decide) ?_
                exact zz_iretR hx hb hr hlocks d_Ut_codeAt_111 (by rw [ut_at2 hin eb (by omega), hno]; rfl)
              · skip
                refine lv_iload hx hb d_Ut_codeAt_102 (lv_at hl 0 rfl) ?_
                refine lv_sipush (v := 192) hx hb d_Ut_codeAt_104 (by decide) ?_
                refine lv_icmp_lt (tgt := 112) hx hb d_Ut_codeAt_107 (by decide) (fun c9 => by first | exact absurd c9 (ut_nl hbd c_99) | exact absurd (ut_nl hbd c_99) c9) (fun _ => ?_)
                refine lv_iconst (v := (-1)) hx hb d_Ut_codeAt_110 (by decide) ?_
                exact zz_iretR hx hb hr hlocks d_Ut_codeAt_111 (by rw [ut_at2 hin eb (by omega), hno]; rfl)
            · skip
              rw [e1] at hr_10
              subst hr_10
              refine lv_istore (lv' := [(6, .int (nI (x1 + 128))), (5, .int 1), (4, .int (nI (b0 - 192))), (3, .int 2), (2, .int (nI b0)), (0, .ref h), (1, .int (nI p0))]) hx hb d_Ut_codeAt_92 hl (by decide) rfl (fun ls hl => ?_)
              refine lv_iload hx hb d_Ut_codeAt_94 (lv_at hl 0 rfl) ?_
              refine lv_sipush (v := 128) hx hb d_Ut_codeAt_96 (by decide) ?_
              refine lv_icmp_lt (tgt := 110) hx hb d_Ut_codeAt_99 (by decide) (fun c9 => by first | exact absurd c9 (nI_nlt (a := x1 + 128) (b := 128) (by omega) (by omega)) | exact absurd (nI_nlt (a := x1 + 128) (b := 128) (by omega) (by omega)) c9) (fun _ => ?_)
              refine lv_iload hx hb d_Ut_codeAt_102 (lv_at hl 0 rfl) ?_
              refine lv_sipush (v := 192) hx hb d_Ut_codeAt_104 (by decide) ?_
              refine lv_icmp_lt (tgt := 112) hx hb d_Ut_codeAt_107 (by decide) (fun _ => ?_) (fun c9 => by first | exact absurd c9 (nI_lt (a := x1 + 128) (b := 192) (by omega) (by decide)) | exact absurd (nI_lt (a := x1 + 128) (b := 192) (by omega) (by decide)) c9)
              refine lv_iload hx hb d_Ut_codeAt_112 (lv_at hl 2 rfl) ?_
              refine lv_bipush (v := 6) hx hb d_Ut_codeAt_114 (by decide) ?_
              refine lv_ishl hx hb d_Ut_codeAt_116 ?_
              refine lv_iload hx hb d_Ut_codeAt_117 (lv_at hl 0 rfl) ?_
              refine lv_bipush (v := 63) hx hb d_Ut_codeAt_119 (by decide) ?_
              refine lv_iand hx hb d_Ut_codeAt_121 ?_
              refine lv_ior hx hb d_Ut_codeAt_122 ?_
              rw [ut_sh (a := (b0 - 192)) (x := x1) (by omega) hx1]
              refine lv_istore (lv' := [(4, .int (nI ((b0 - 192) * 64 + x1))), (6, .int (nI (x1 + 128))), (5, .int 1), (3, .int 2), (2, .int (nI b0)), (0, .ref h), (1, .int (nI p0))]) hx hb d_Ut_codeAt_123 hl (by decide) rfl (fun ls hl => ?_)
              refine lv_iinc (v := 1 + 1) (lv' := [(5, .int (1 + 1)), (4, .int (nI ((b0 - 192) * 64 + x1))), (6, .int (nI (x1 + 128))), (3, .int 2), (2, .int (nI b0)), (0, .ref h), (1, .int (nI p0))]) hx hb d_Ut_codeAt_125 hl (k := 2) rfl rfl (by decide) rfl (fun ls hl => ?_)
              refine lv_goto (tgt := 78) hx hb d_Ut_codeAt_128 (by decide) ?_
              have hl : lv_has ls 7 [(5, .int 2), (4, .int (nI ((b0 - 192) * 64 + x1))), (6, .int (nI (x1 + 128))), (3, .int 2), (2, .int (nI b0)), (0, .ref h), (1, .int (nI p0))] := hl
              refine lv_iload hx hb d_Ut_codeAt_78 (lv_at hl 0 rfl) ?_
              refine lv_iload_n hx hb d_Ut_codeAt_80 rfl (lv_at hl 3 rfl) ?_
              refine lv_icmp_ge (tgt := 131) hx hb d_Ut_codeAt_81 (by decide) (fun _ => ?_) (fun c9 => by first | exact absurd c9 (by decide) | exact absurd (by decide) c9)
              refine lv_iload hx hb d_Ut_codeAt_131 (lv_at hl 1 rfl) ?_
              refine lv_i2l hx hb d_Ut_codeAt_133 rfl ?_
              have hPc := hP.sub (ws' := []) [] rfl
              have hKc := hK.sub (tys' := []) [] rfl
              refine vp_callSi (W.runS (As := [.long ((nI ((b0 - 192) * 64 + x1)).toInt64)]) (rest := []) ⟨hx, hb, hml, hown, hg⟩ (c_Ut_isCode l dC dI ((nI ((b0 - 192) * 64 + x1)).toInt64) ) (va_cwS 1 hg (gi_S kw_364 kw_365 kw_21 kw_366) rfl rfl rfl (by decide +kernel) ⟨Nat.le_of_ble_eq_true rfl, Nat.le_of_ble_eq_true rfl⟩) (zz_prJS hPc hKc _) rfl rfl hl.1 rfl (lv_room (Nat.le_of_ble_eq_true rfl)) d_Ut_codeAt_134 ⟨Nat.le_of_ble_eq_true rfl, Nat.le_of_ble_eq_true rfl⟩) (fun r_11 hr_11 => ?_)
              rw [ut_tl (n := ((b0 - 192) * 64 + x1)) (by omega)] at hr_11
              refine lv_if_eq (tgt := 154) hx hb d_Ut_codeAt_137 (by decide) (fun c_137 => ?_) (fun c_137 => ?_)
              · skip
                refine lv_iconst (v := (-1)) hx hb d_Ut_codeAt_154 (by decide) ?_
                exact zz_iretR hx hb hr hlocks d_Ut_codeAt_155 (by rw [ut_at2 hin eb (by omega), hs1, ut_bd_s]; unfold ut_fi; rw [if_neg (fun z => by rw [by_z_f hr_11 c_137] at z; exact absurd z.1 (by decide))]; rfl)
              · skip
                have hok := by_z_t hr_11 c_137
                refine lv_iload hx hb d_Ut_codeAt_140 (lv_at hl 1 rfl) ?_
                have hPc := hP.sub (ws' := []) [] rfl
                have hKc := hK.sub (tys' := []) [] rfl
                refine vp_callSi (W.runS (As := [.int (nI ((b0 - 192) * 64 + x1))]) (rest := []) ⟨hx, hb, hml, hown, hg⟩ (c_Ut_bytesOf l dC dI ((b0 - 192) * 64 + x1) (by omega)) (va_cwS 1 hg (gi_S kw_370 kw_371 kw_21 kw_372) rfl rfl rfl (by decide +kernel) ⟨Nat.le_of_ble_eq_true rfl, Nat.le_of_ble_eq_true rfl⟩) (zz_prJS hPc hKc _) rfl rfl hl.1 rfl (lv_room (Nat.le_of_ble_eq_true rfl)) d_Ut_codeAt_142 ⟨Nat.le_of_ble_eq_true rfl, Nat.le_of_ble_eq_true rfl⟩) (fun r_12 hr_12 => ?_)
                refine lv_iload_n hx hb d_Ut_codeAt_145 rfl (lv_at hl 3 rfl) ?_
                refine lv_icmp_ne (tgt := 154) hx hb d_Ut_codeAt_146 (by decide) (fun c_146 => ?_) (fun c_146 => ?_)
                · skip
                  refine lv_iconst (v := (-1)) hx hb d_Ut_codeAt_154 (by decide) ?_
                  exact zz_iretR hx hb hr hlocks d_Ut_codeAt_155 (by rw [ut_at2 hin eb (by omega), hs1, ut_bd_s]; unfold ut_fi; rw [if_neg (fun z => c_146 (by rw [hr_12, z.2]; rfl))]; rfl)
                · skip
                  have hbn : ut_bn ((b0 - 192) * 64 + x1) = 2 := nI_e1 (b := 2) (by rw [← hr_12]; exact c_146) (ut_bnl _) (by decide)
                  refine lv_iload hx hb d_Ut_codeAt_149 (lv_at hl 1 rfl) ?_
                  refine lv_goto (tgt := 155) hx hb d_Ut_codeAt_151 (by decide) ?_
                  exact zz_iretR hx hb hr hlocks d_Ut_codeAt_155 (by rw [ut_at2 hin eb (by omega), hs1, ut_bd_s]; unfold ut_fi; rw [if_pos ⟨hok, hbn⟩]; rfl)
        · skip
          have f_29 : 248 ≤ b0 := Nat.le_of_not_lt (fun z => c_29 (nI_lt (b := 248) z (by omega)))
          refine lv_iconst (v := (-1)) hx hb d_Ut_codeAt_32 (by decide) ?_
          exact zz_iretR hx hb hr hlocks d_Ut_codeAt_33 (by rw [ut_atx hin eb (by omega)]; rfl)
  · skip
    rw [by_at_out hin (by omega)] at hr1
    subst hr1
    refine lv_istore_n (lv' := [(2, .int (-1)), (0, .ref h), (1, .int (nI p0))]) hx hb d_Ut_codeAt_5 rfl hl (by decide) rfl (fun ls hl => ?_)
    refine lv_iload_n hx hb d_Ut_codeAt_6 rfl (lv_at hl 0 rfl) ?_
    refine lv_iconst (v := (-1)) hx hb d_Ut_codeAt_7 (by decide) ?_
    refine lv_icmp_eq (tgt := 32) hx hb d_Ut_codeAt_8 (by decide) (fun _ => ?_) (fun c9 => by first | exact absurd c9 rfl | exact absurd rfl c9)
    refine lv_iconst (v := (-1)) hx hb d_Ut_codeAt_32 (by decide) ?_
    exact zz_iretR hx hb hr hlocks d_Ut_codeAt_33 (by unfold ut_at; rw [if_pos (by omega)]; rfl)
