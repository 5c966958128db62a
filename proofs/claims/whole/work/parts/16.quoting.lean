/-! QUOTING -/
def qu_b (mk v : Nat) : List Nat := if v = 92 ∨ v = mk then [92, v] else if 32 ≤ v ∧ v < 127 then [v] else if 7 ≤ v ∧ v ≤ 13 then [92, [97, 98, 116, 110, 118, 102, 114].getD (v - 7) 0] else [92, 120, nu_d 97 (v / 16), nu_d 97 (v % 16)]
def qu_c (c : Nat) : List Nat := 39 :: ((if c < 128 then qu_b 39 c else ut_8 c) ++ [39])
theorem by_c {k : Nat} (h : k < 256) : ([by_b (nI k)] : List Nat) = [k] := by rw [by_b_n h]
theorem qe_1 {cap mk v : Nat} {L : List Nat} (h : v = 92 ∨ v = mk) (hv : v < 256) : by_ap cap (by_ap cap L [by_b 92]) [by_b (nI v)] = by_ap cap L (qu_b mk v) := by
  rw [by_ap_ap, by_b_n hv]; unfold qu_b; rw [if_pos h]; rfl
theorem qe_2 {cap mk v : Nat} {L : List Nat} (h : 32 ≤ v ∧ v < 127) (h1 : v ≠ 92) (h2 : v ≠ mk) : by_ap cap L [by_b (nI v)] = by_ap cap L (qu_b mk v) := by
  rw [by_b_n (by omega)]; unfold qu_b; rw [if_neg (by omega), if_pos h]
theorem qe_3 {cap mk v : Nat} {L : List Nat} (h : 7 ≤ v ∧ v - 7 < 7) (h1 : v ≠ 92) (h2 : v ≠ mk) : by_ap cap (by_ap cap L [by_b 92]) [by_b (nI ((kxB 12).getD (v - 7) 0))] = by_ap cap L (qu_b mk v) := by
  rw [by_ap_ap, by_b_n (kx_bd (by decide) (show v - 7 < (kxB 12).length from h.2))]; unfold qu_b; rw [if_neg (by omega), if_neg (by omega), if_pos (by omega)]; rfl
theorem qe_4 {cap mk v : Nat} {L : List Nat} (h : v < 256 ∧ ¬ (32 ≤ v ∧ v < 127) ∧ ¬ (7 ≤ v ∧ v ≤ 13)) (h1 : v ≠ 92) (h2 : v ≠ mk) : by_ap cap (by_ap cap (by_ap cap (by_ap cap L [by_b 92]) [by_b 120]) [by_b (nI (nu_d 97 (v / 16)))]) [by_b (nI (nu_d 97 (v % 16)))] = by_ap cap L (qu_b mk v) := by
  rw [by_ap_ap, by_ap_ap, by_ap_ap, by_b_n (nu_d_lt (by omega) (by decide)), by_b_n (nu_d_lt (by omega) (by decide))]; unfold qu_b; rw [if_neg (by omega), if_neg h.2.1, if_neg h.2.2]; rfl
theorem qu_h1 {v : Nat} (h : v < 256) : (nI v >>> ((4 : Int32) &&& 31)) &&& 15 = nI (v / 16) := by
  rw [pk_shrN (by omega) ((4 : Int32) &&& 31) 4 (by decide), pk_andN (by omega) 4 (by decide)]; exact congrArg nI (by omega)
theorem qu_h2 {v : Nat} (h : v < 256) : nI v &&& 15 = nI (v % 16) := by rw [pk_andN (by omega) 4 (by decide)]
theorem qc_1 {cap c : Nat} {L : List Nat} (h : c < 128) : by_ap cap (by_ap cap (by_ap cap L [by_b 39]) (qu_b 39 c)) [by_b 39] = by_ap cap L (qu_c c) := by
  rw [by_ap_ap, by_ap_ap]; unfold qu_c; rw [if_pos h]; rfl
theorem qc_2 {cap c : Nat} {L : List Nat} (h : 128 ≤ c) : by_ap cap (by_ap cap (by_ap cap L [by_b 39]) (ut_8 c)) [by_b 39] = by_ap cap L (qu_c c) := by
  rw [by_ap_ap, by_ap_ap]; unfold qu_c; rw [if_neg (by omega)]; rfl
/-- what one place of a text gives -/
def qu_p (L : List Nat) (p : Nat) : List Nat := if 1 < ut_bo (ut_at L p) then by_sg L p (ut_bo (ut_at L p)) else qu_b 34 (L.getD p 0)
def qu_g (L : List Nat) : Nat → Nat → List Nat
  | 0, _ => []
  | k + 1, p => if p < L.length then qu_p L p ++ qu_g L k (p + ut_bo (ut_at L p)) else []
def qu_t (L : List Nat) : List Nat := 34 :: (qu_g L L.length 0 ++ [34])
/-- E is what the places ahead of p have given -/
def qt_I (L E : List Nat) (p : Nat) : Prop := ∃ k, L.length ≤ p + k ∧ qu_g L L.length 0 = E ++ qu_g L k p
theorem qt_I0 (L : List Nat) : qt_I L [] 0 := ⟨L.length, by omega, rfl⟩
theorem qt_pos (o : Option Nat) : 1 ≤ ut_bo o := by
  cases o with
  | none => exact Nat.le_refl 1
  | some c => show 1 ≤ ut_bn c; unfold ut_bn; split <;> (try split) <;> (try split) <;> decide
theorem qt_lt (o : Option Nat) : ut_bo o < 2 ^ 31 := by
  cases o with
  | none => decide
  | some c => exact ut_bnl c
theorem qt_E {L E : List Nat} {p : Nat} (h : qt_I L E p) (hp : p < L.length) : qt_I L (E ++ qu_p L p) (p + ut_bo (ut_at L p)) := by
  obtain ⟨k, hk, e⟩ := h
  obtain ⟨j, rfl⟩ : ∃ j, k = j + 1 := ⟨k - 1, by omega⟩
  have := qt_pos (ut_at L p)
  refine ⟨j, by omega, ?_⟩
  rw [e, qu_g, if_pos hp, List.append_assoc]
theorem qt_end {cap p : Nat} {L E M : List Nat} (h : qt_I L E p) (hp : p = L.length) : by_ap cap (by_ap cap M (34 :: E)) [by_b 34] = by_ap cap M (qu_t L) := by
  obtain ⟨k, hk, e⟩ := h
  have e2 : qu_g L k p = [] := by
    cases k with
    | zero => rfl
    | succ k => rw [qu_g, if_neg (by omega)]
  rw [e2, List.append_nil] at e
  rw [by_ap_ap]; unfold qu_t; rw [e]; rfl
theorem qt_p1 {L : List Nat} {p : Nat} (h : ut_bo (ut_at L p) ≤ 1) : qu_p L p = qu_b 34 (L.getD p 0) := if_neg (by omega)
theorem qt_p2 {L : List Nat} {p : Nat} (h : 1 < ut_bo (ut_at L p)) : qu_p L p = by_sg L p (ut_bo (ut_at L p)) := if_pos h
theorem qt_s {cap p : Nat} {L E M X : List Nat} {f : Nat → Int32} (h : qt_I L E p) (hp : p < L.length) (hL : by_L L f) (hX : qu_p L p = X) : by_ap cap (by_ap cap M (34 :: E)) X = by_ap cap M (34 :: (E ++ qu_p L p)) := by
  rw [by_ap_ap, hX]; rfl
theorem qt_mx {o : Option Nat} : (if (1 : Int32) < nI (ut_bo o) then nI (ut_bo o) else 1) = nI (ut_bo o) := by
  have h := qt_pos o
  have h2 := qt_lt o
  generalize ut_bo o = b at h h2
  rcases Nat.lt_or_ge 1 b with q | q
  · exact if_pos (nI_lt (a := 1) q h2)
  · rw [show b = 1 by omega]; rfl
theorem ut_bdE {o : Option Nat} {f : Nat → Option Nat} {c : Nat} (h : ut_bd o f = some c) : ∃ x, o = some x ∧ f x = some c := by
  cases o with
  | none => exact absurd h (by intro z; cases z)
  | some x => exact ⟨x, rfl, h⟩
theorem ut_fiE {c n d : Nat} (h : ut_fi c n = some d) : d = c ∧ ut_ok c = true ∧ ut_bn c = n := by
  unfold ut_fi at h
  by_cases q : ut_ok c = true ∧ ut_bn c = n
  · rw [if_pos q] at h; exact ⟨(Option.some.inj h).symm, q⟩
  · rw [if_neg q] at h; cases h
theorem ut_coE {L : List Nat} {p x : Nat} (h : ut_co L p = some x) : p < L.length ∧ 128 ≤ L.getD p 0 ∧ L.getD p 0 < 192 ∧ x = L.getD p 0 - 128 := by
  unfold ut_co at h
  by_cases q : p < L.length ∧ 128 ≤ L.getD p 0 ∧ L.getD p 0 < 192
  · rw [if_pos q] at h; exact ⟨q.1, q.2.1, q.2.2, (Option.some.inj h).symm⟩
  · rw [if_neg q] at h; cases h
/-- a code's bytes are all there -/
theorem qt_in {L : List Nat} {p c : Nat} (h : ut_at L p = some c) : p + ut_bn c ≤ L.length ∧ c ≤ 1114111 ∧ ut_ok c = true := by
  unfold ut_at at h
  by_cases h0 : ¬ p < L.length
  · rw [if_pos h0] at h; cases h
  rw [if_neg h0] at h
  by_cases h1 : L.getD p 0 < 128
  · rw [if_pos h1] at h
    have e := Option.some.inj h
    refine ⟨?_, by omega, decide_eq_true (by omega)⟩
    unfold ut_bn; rw [if_pos (by omega)]; omega
  rw [if_neg h1] at h
  by_cases h2 : L.getD p 0 < 192 ∨ 248 ≤ L.getD p 0
  · rw [if_pos h2] at h; cases h
  rw [if_neg h2] at h
  by_cases h3 : L.getD p 0 < 224
  · rw [if_pos h3] at h
    obtain ⟨x, e1, h⟩ := ut_bdE h
    obtain ⟨rfl, q2, q3⟩ := ut_fiE h
    have := ut_coE e1
    have q4 := of_decide_eq_true q2
    exact ⟨by rw [q3]; omega, by omega, q2⟩
  rw [if_neg h3] at h
  by_cases h4 : L.getD p 0 < 240
  · rw [if_pos h4] at h
    obtain ⟨x, e1, h⟩ := ut_bdE h
    obtain ⟨y, e2, h⟩ := ut_bdE h
    obtain ⟨rfl, q2, q3⟩ := ut_fiE h
    have := ut_coE e2
    have q4 := of_decide_eq_true q2
    exact ⟨by rw [q3]; omega, by omega, q2⟩
  rw [if_neg h4] at h
  obtain ⟨x, e1, h⟩ := ut_bdE h
  obtain ⟨y, e2, h⟩ := ut_bdE h
  obtain ⟨z, e3, h⟩ := ut_bdE h
  obtain ⟨rfl, q2, q3⟩ := ut_fiE h
  have := ut_coE e3
  have q4 := of_decide_eq_true q2
  exact ⟨by rw [q3]; omega, by omega, q2⟩
theorem qt_cl (L : List Nat) (p : Nat) : ∀ c, ut_at L p = some c → c < 2147483648 := fun c h => by have := (qt_in h).2.1; omega
theorem qt_le {L : List Nat} {f : Nat → Int32} {p : Nat} (hL : by_L L f) (hp : p < L.length) : p + ut_bo (ut_at L p) ≤ L.length := by
  cases e : ut_at L p with
  | none => show p + 1 ≤ L.length; omega
  | some c => exact (qt_in e).1
abbrev y_Qu_putByte : MethodName := ⟨"TextForge$Quoting", "putByte", "(IILTextForge$Bytes;)V"⟩
abbrev w_Qu_putByte : List Cond := Cond.code y_Qu_putByte prog_9_method_4_code 4 none :: gw
theorem d_Qu_putByte_0 : decode prog_9_method_4_code 0 = .ok (.iload_n 0, 1) := by decide +kernel
theorem d_Qu_putByte_1 : decode prog_9_method_4_code 1 = .ok (.bipush 7, 2) := by decide +kernel
theorem d_Qu_putByte_3 : decode prog_9_method_4_code 3 = .ok (.isub, 1) := by decide +kernel
theorem d_Qu_putByte_4 : decode prog_9_method_4_code 4 = .ok (.istore_n 3, 1) := by decide +kernel
theorem d_Qu_putByte_5 : decode prog_9_method_4_code 5 = .ok (.iload_n 0, 1) := by decide +kernel
theorem d_Qu_putByte_6 : decode prog_9_method_4_code 6 = .ok (.bipush 92, 2) := by decide +kernel
theorem d_Qu_putByte_8 : decode prog_9_method_4_code 8 = .ok (.if_icmp .eq 8, 3) := by decide +kernel
theorem d_Qu_putByte_11 : decode prog_9_method_4_code 11 = .ok (.iload_n 0, 1) := by decide +kernel
theorem d_Qu_putByte_12 : decode prog_9_method_4_code 12 = .ok (.iload_n 1, 1) := by decide +kernel
theorem d_Qu_putByte_13 : decode prog_9_method_4_code 13 = .ok (.if_icmp .ne 17, 3) := by decide +kernel
theorem d_Qu_putByte_16 : decode prog_9_method_4_code 16 = .ok (.aload_n 2, 1) := by decide +kernel
theorem d_Qu_putByte_17 : decode prog_9_method_4_code 17 = .ok (.bipush 92, 2) := by decide +kernel
theorem d_Qu_putByte_19 : decode prog_9_method_4_code 19 = .ok (.invokevirtual 7, 3) := by decide +kernel
theorem d_Qu_putByte_22 : decode prog_9_method_4_code 22 = .ok (.aload_n 2, 1) := by decide +kernel
theorem d_Qu_putByte_23 : decode prog_9_method_4_code 23 = .ok (.iload_n 0, 1) := by decide +kernel
theorem d_Qu_putByte_24 : decode prog_9_method_4_code 24 = .ok (.invokevirtual 7, 3) := by decide +kernel
theorem d_Qu_putByte_27 : decode prog_9_method_4_code 27 = .ok (.goto 95, 3) := by decide +kernel
theorem d_Qu_putByte_30 : decode prog_9_method_4_code 30 = .ok (.iload_n 0, 1) := by decide +kernel
theorem d_Qu_putByte_31 : decode prog_9_method_4_code 31 = .ok (.bipush 32, 2) := by decide +kernel
theorem d_Qu_putByte_33 : decode prog_9_method_4_code 33 = .ok (.if_icmp .lt 17, 3) := by decide +kernel
theorem d_Qu_putByte_36 : decode prog_9_method_4_code 36 = .ok (.iload_n 0, 1) := by decide +kernel
theorem d_Qu_putByte_37 : decode prog_9_method_4_code 37 = .ok (.bipush 127, 2) := by decide +kernel
theorem d_Qu_putByte_39 : decode prog_9_method_4_code 39 = .ok (.if_icmp .ge 11, 3) := by decide +kernel
theorem d_Qu_putByte_42 : decode prog_9_method_4_code 42 = .ok (.aload_n 2, 1) := by decide +kernel
theorem d_Qu_putByte_43 : decode prog_9_method_4_code 43 = .ok (.iload_n 0, 1) := by decide +kernel
theorem d_Qu_putByte_44 : decode prog_9_method_4_code 44 = .ok (.invokevirtual 7, 3) := by decide +kernel
theorem d_Qu_putByte_47 : decode prog_9_method_4_code 47 = .ok (.goto 75, 3) := by decide +kernel
theorem d_Qu_putByte_50 : decode prog_9_method_4_code 50 = .ok (.iload_n 3, 1) := by decide +kernel
theorem d_Qu_putByte_51 : decode prog_9_method_4_code 51 = .ok (.ifCond .lt 31, 3) := by decide +kernel
theorem d_Qu_putByte_54 : decode prog_9_method_4_code 54 = .ok (.iload_n 3, 1) := by decide +kernel
theorem d_Qu_putByte_55 : decode prog_9_method_4_code 55 = .ok (.ldc 50, 2) := by decide +kernel
theorem d_Qu_putByte_57 : decode prog_9_method_4_code 57 = .ok (.invokevirtual 52, 3) := by decide +kernel
theorem d_Qu_putByte_60 : decode prog_9_method_4_code 60 = .ok (.if_icmp .ge 22, 3) := by decide +kernel
theorem d_Qu_putByte_63 : decode prog_9_method_4_code 63 = .ok (.aload_n 2, 1) := by decide +kernel
theorem d_Qu_putByte_64 : decode prog_9_method_4_code 64 = .ok (.bipush 92, 2) := by decide +kernel
theorem d_Qu_putByte_66 : decode prog_9_method_4_code 66 = .ok (.invokevirtual 7, 3) := by decide +kernel
theorem d_Qu_putByte_69 : decode prog_9_method_4_code 69 = .ok (.aload_n 2, 1) := by decide +kernel
theorem d_Qu_putByte_70 : decode prog_9_method_4_code 70 = .ok (.ldc 50, 2) := by decide +kernel
theorem d_Qu_putByte_72 : decode prog_9_method_4_code 72 = .ok (.iload_n 3, 1) := by decide +kernel
theorem d_Qu_putByte_73 : decode prog_9_method_4_code 73 = .ok (.invokevirtual 55, 3) := by decide +kernel
theorem d_Qu_putByte_76 : decode prog_9_method_4_code 76 = .ok (.invokevirtual 7, 3) := by decide +kernel
theorem d_Qu_putByte_79 : decode prog_9_method_4_code 79 = .ok (.goto 43, 3) := by decide +kernel
theorem d_Qu_putByte_82 : decode prog_9_method_4_code 82 = .ok (.aload_n 2, 1) := by decide +kernel
theorem d_Qu_putByte_83 : decode prog_9_method_4_code 83 = .ok (.bipush 92, 2) := by decide +kernel
theorem d_Qu_putByte_85 : decode prog_9_method_4_code 85 = .ok (.invokevirtual 7, 3) := by decide +kernel
theorem d_Qu_putByte_88 : decode prog_9_method_4_code 88 = .ok (.aload_n 2, 1) := by decide +kernel
theorem d_Qu_putByte_89 : decode prog_9_method_4_code 89 = .ok (.bipush 120, 2) := by decide +kernel
theorem d_Qu_putByte_91 : decode prog_9_method_4_code 91 = .ok (.invokevirtual 7, 3) := by decide +kernel
theorem d_Qu_putByte_94 : decode prog_9_method_4_code 94 = .ok (.aload_n 2, 1) := by decide +kernel
theorem d_Qu_putByte_95 : decode prog_9_method_4_code 95 = .ok (.iload_n 0, 1) := by decide +kernel
theorem d_Qu_putByte_96 : decode prog_9_method_4_code 96 = .ok (.iconst 4, 1) := by decide +kernel
theorem d_Qu_putByte_97 : decode prog_9_method_4_code 97 = .ok (.ishr, 1) := by decide +kernel
theorem d_Qu_putByte_98 : decode prog_9_method_4_code 98 = .ok (.bipush 15, 2) := by decide +kernel
theorem d_Qu_putByte_100 : decode prog_9_method_4_code 100 = .ok (.iand, 1) := by decide +kernel
theorem d_Qu_putByte_101 : decode prog_9_method_4_code 101 = .ok (.bipush 97, 2) := by decide +kernel
theorem d_Qu_putByte_103 : decode prog_9_method_4_code 103 = .ok (.invokestatic 59, 3) := by decide +kernel
theorem d_Qu_putByte_106 : decode prog_9_method_4_code 106 = .ok (.invokevirtual 7, 3) := by decide +kernel
theorem d_Qu_putByte_109 : decode prog_9_method_4_code 109 = .ok (.aload_n 2, 1) := by decide +kernel
theorem d_Qu_putByte_110 : decode prog_9_method_4_code 110 = .ok (.iload_n 0, 1) := by decide +kernel
theorem d_Qu_putByte_111 : decode prog_9_method_4_code 111 = .ok (.bipush 15, 2) := by decide +kernel
theorem d_Qu_putByte_113 : decode prog_9_method_4_code 113 = .ok (.iand, 1) := by decide +kernel
theorem d_Qu_putByte_114 : decode prog_9_method_4_code 114 = .ok (.bipush 97, 2) := by decide +kernel
theorem d_Qu_putByte_116 : decode prog_9_method_4_code 116 = .ok (.invokestatic 59, 3) := by decide +kernel
theorem d_Qu_putByte_119 : decode prog_9_method_4_code 119 = .ok (.invokevirtual 7, 3) := by decide +kernel
theorem d_Qu_putByte_122 : decode prog_9_method_4_code 122 = .ok (.return_, 1) := by decide +kernel
set_option maxHeartbeats 4000000 in
set_option maxRecDepth 100000 in
theorem c_Qu_putByte (l : Launch) (dC : Nat → ClassId) (dI : Nat → Nat → Nat) (ad : Nat → Nat) (h r : Nat) (cA : ClassId) (cap : Nat) (f : Nat → Int32) (L : List Nat) (v mk : Nat) (hL : by_L L f) (hc : L.length ≤ cap) (hk : cap < 2147483648) (hv : v < 256) (hm : mk < 256) : yM_v (S := Nat → Int32) ad l y_Qu_putByte w_Qu_putByte { frames := 4, cells := 0, slots := 0, locals := 85 } (dC, dI) vwCl [.int (nI v), .int (nI mk), .ref h] [(h, .inr (2, [.ref r, .int (nI L.length)])), (r, .inl (cA, cap, .inl f))] [(cA, .byte)] (fun (u : Nat → Int32) => by_L (by_ap cap L (qu_b mk v)) u) (fun u => [(h, .inr (2, [.ref r, .int (nI (by_ap cap L (qu_b mk v)).length)])), (r, .inl (cA, cap, .inl u))]) (fun u => [(cA, .byte)]) 0 0 := by
  refine zy_enterv (cc := prog_9_method_4_code) (nL := 4) (ret := none) (by decide) rfl (Nat.le_of_ble_eq_true rfl) ?_
  intro p e s m below meth c A ls C0 hA hS hP hK hD hl hX
  obtain ⟨hx, hb, hml, hown, hg, hr, hlocks, hin⟩ := C0
  have hown : s.vm.findClass "TextForge$Quoting" = some m.cls := hown
  have hP : va_P (dC, dI) vwCl [(h, .inr (2, [.ref r, .int (nI L.length)])), (r, .inl (cA, cap, .inl f))] s.heap := hP
  have hK : va_K (dC, dI) vwCl [(cA, .byte)] s := hK
  have hD : va_D A [(h, .inr (2, [.ref r, .int (nI L.length)])), (r, .inl (cA, cap, .inl f))] := hD
  have hl : lv_has ls 4 [(0, .int (nI v)), (1, .int (nI mk)), (2, .ref h)] := hl
  refine lv_iload_n hx hb d_Qu_putByte_0 rfl (lv_at hl 0 rfl) ?_
  refine lv_bipush (v := 7) hx hb d_Qu_putByte_1 (by decide) ?_
  refine lv_isub hx hb d_Qu_putByte_3 ?_
  refine lv_istore_n (lv' := [(3, .int ((nI v) - 7)), (0, .int (nI v)), (1, .int (nI mk)), (2, .ref h)]) hx hb d_Qu_putByte_4 rfl hl (by decide) rfl (fun ls hl => ?_)
  refine lv_iload_n hx hb d_Qu_putByte_5 rfl (lv_at hl 1 rfl) ?_
  refine lv_bipush (v := 92) hx hb d_Qu_putByte_6 (by decide) ?_
  refine lv_icmp_eq (tgt := 16) hx hb d_Qu_putByte_8 (by decide) (fun c_8 => ?_) (fun c_8 => ?_)
  · skip
    have f_8 : v = 92 := nI_e1 (b := 92) c_8 (by omega) (by omega)
    refine lv_aload_n hx hb d_Qu_putByte_16 rfl (lv_at hl 3 rfl) ?_
    refine lv_bipush (v := 92) hx hb d_Qu_putByte_17 (by decide) ?_
    have hPc := hP.sub (ws' := [(h, .inr (2, [.ref r, .int (nI L.length)])), (r, .inl (cA, cap, .inl f))]) [0, 1] rfl
    have hKc := hK.sub (tys' := [(cA, .byte)]) [0] rfl
    have hDc := hD.sub (ws' := [(h, .inr (2, [.ref r, .int (nI L.length)])), (r, .inl (cA, cap, .inl f))]) [0, 1] (by decide) rfl
    have hFc := va_free (wc := [(h, .inr (2, [.ref r, .int (nI L.length)])), (r, .inl (cA, cap, .inl f))]) hD hS hA [0, 1] rfl
    refine zz_callv (va_runV (As := [.int 92]) (rest := []) ⟨hx, hb, hml, hown, hg⟩ (c_By_add l dC dI h r cA cap f L 92 hL hc hk  s.heap.size) (cwV 1 hg (gi_V kw_358 kw_166 kw_167 kw_2 kw_168) rfl rfl rfl (by decide +kernel) ⟨Nat.le_of_ble_eq_true rfl, Nat.le_of_ble_eq_true rfl⟩) (zz_preV hPc hKc hDc _ (q0 := 0) (ci := 2) rfl rfl) rfl rfl hl.1 rfl (lv_room (Nat.le_of_ble_eq_true rfl)) d_Qu_putByte_19 ⟨Nat.le_of_ble_eq_true rfl, Nat.le_of_ble_eq_true rfl⟩) hS hFc (fun u H1 k9 p9 d9 => va_join (wr := []) hP hD [0, 1] [] rfl rfl (by decide) (by decide) k9 hFc p9 d9) (fun u H locs hw hP hD hK1 hS => ?_)
    obtain ⟨u_1, rfl⟩ : ∃ z, z = u := ⟨_, rfl⟩
    try dsimp only at hw
    have hP : va_P (dC, dI) vwCl [(h, .inr (2, [.ref r, .int (nI (by_ap cap L [by_b 92]).length)])), (r, .inl (cA, cap, .inl u_1))] H := hP
    have hD : va_D A [(h, .inr (2, [.ref r, .int (nI (by_ap cap L [by_b 92]).length)])), (r, .inl (cA, cap, .inl u_1))] := hD
    have hL_3 := hw
    refine lv_aload_n hx hb d_Qu_putByte_22 rfl (lv_at hl 3 rfl) ?_
    refine lv_iload_n hx hb d_Qu_putByte_23 rfl (lv_at hl 1 rfl) ?_
    have hPc := hP.sub (ws' := [(h, .inr (2, [.ref r, .int (nI (by_ap cap L [by_b 92]).length)])), (r, .inl (cA, cap, .inl u_1))]) [0, 1] rfl
    have hKc := hK.sub (tys' := [(cA, .byte)]) [0] rfl
    have hDc := hD.sub (ws' := [(h, .inr (2, [.ref r, .int (nI (by_ap cap L [by_b 92]).length)])), (r, .inl (cA, cap, .inl u_1))]) [0, 1] (by decide) rfl
    have hFc := va_free (wc := [(h, .inr (2, [.ref r, .int (nI (by_ap cap L [by_b 92]).length)])), (r, .inl (cA, cap, .inl u_1))]) hD hS hA [0, 1] rfl
    refine zz_callv (va_runV (As := [.int (nI v)]) (rest := []) ⟨hx, hb, hml, hown, hg⟩ (c_By_add l dC dI h r cA cap u_1 (by_ap cap L [by_b 92]) (nI v) hL_3 (by_ap_len _ _ _) hk  H.size) (cwV 1 hg (gi_V kw_358 kw_166 kw_167 kw_2 kw_168) rfl rfl rfl (by decide +kernel) ⟨Nat.le_of_ble_eq_true rfl, Nat.le_of_ble_eq_true rfl⟩) (zz_preV hPc hKc hDc _ (q0 := 0) (ci := 2) rfl rfl) rfl rfl hl.1 rfl (lv_room (Nat.le_of_ble_eq_true rfl)) d_Qu_putByte_24 ⟨Nat.le_of_ble_eq_true rfl, Nat.le_of_ble_eq_true rfl⟩) hS hFc (fun u H1 k9 p9 d9 => va_join (wr := []) hP hD [0, 1] [] rfl rfl (by decide) (by decide) k9 hFc p9 d9) (fun u H locs hw hP hD hK1 hS => ?_)
    obtain ⟨u_4, rfl⟩ : ∃ z, z = u := ⟨_, rfl⟩
    try dsimp only at hw
    have hP : va_P (dC, dI) vwCl [(h, .inr (2, [.ref r, .int (nI (by_ap cap (by_ap cap L [by_b 92]) [by_b (nI v)]).length)])), (r, .inl (cA, cap, .inl u_4))] H := hP
    have hD : va_D A [(h, .inr (2, [.ref r, .int (nI (by_ap cap (by_ap cap L [by_b 92]) [by_b (nI v)]).length)])), (r, .inl (cA, cap, .inl u_4))] := hD
    have hL_6 := hw
    refine lv_goto (tgt := 122) hx hb d_Qu_putByte_27 (by decide) ?_
    have hP9 := hP.sub (ws' := [(h, .inr (2, [.ref r, .int (nI (by_ap cap (by_ap cap L [by_b 92]) [by_b (nI v)]).length)])), (r, .inl (cA, cap, .inl u_4))]) [0, 1] rfl
    have hD9 := hD.sub (ws' := [(h, .inr (2, [.ref r, .int (nI (by_ap cap (by_ap cap L [by_b 92]) [by_b (nI v)]).length)])), (r, .inl (cA, cap, .inl u_4))]) [0, 1] (by decide) rfl
    have hK9 := hK.sub (tys' := [(cA, .byte)]) [0] rfl
    rw [qe_1 (Or.inl f_8) hv] at hP9 hD9
    exact zz_vret hx hb hr hlocks d_Qu_putByte_122 hS (by first | exact Nat.le_refl _ | decide | omega | (dsimp only; omega)) (by first | exact Nat.le_refl _ | decide | omega | (dsimp only; omega)) u_4 (by rw [qe_1 (Or.inl f_8) hv] at hL_6; exact hL_6) hP9 hK9 hD9
  · skip
    have f_8 : v ≠ 92 := nI_ne (b := 92) c_8
    refine lv_iload_n hx hb d_Qu_putByte_11 rfl (lv_at hl 1 rfl) ?_
    refine lv_iload_n hx hb d_Qu_putByte_12 rfl (lv_at hl 2 rfl) ?_
    refine lv_icmp_ne (tgt := 30) hx hb d_Qu_putByte_13 (by decide) (fun c_13 => ?_) (fun c_13 => ?_)
    · skip
      have f_13 : v ≠ mk := nI_ne (b := mk) c_13
      refine lv_iload_n hx hb d_Qu_putByte_30 rfl (lv_at hl 1 rfl) ?_
      refine lv_bipush (v := 32) hx hb d_Qu_putByte_31 (by decide) ?_
      refine lv_icmp_lt (tgt := 50) hx hb d_Qu_putByte_33 (by decide) (fun c_33 => ?_) (fun c_33 => ?_)
      · skip
        have f_33 : v < 32 := (nI_ltI (b := 32) (by omega) (by omega)).mp c_33
        rcases Nat.lt_or_ge v 7 with h7 | h7
        · skip
          refine lv_iload_n hx hb d_Qu_putByte_50 rfl (lv_at hl 0 rfl) ?_
          refine lv_if_lt (tgt := 82) hx hb d_Qu_putByte_51 (by decide) (fun _ => ?_) (fun c9 => by first | exact absurd c9 (pk_sneg (b := 7) (by decide) h7) | exact absurd (pk_sneg (b := 7) (by decide) h7) c9)
          refine lv_aload_n hx hb d_Qu_putByte_82 rfl (lv_at hl 3 rfl) ?_
          refine lv_bipush (v := 92) hx hb d_Qu_putByte_83 (by decide) ?_
          have hPc := hP.sub (ws' := [(h, .inr (2, [.ref r, .int (nI L.length)])), (r, .inl (cA, cap, .inl f))]) [0, 1] rfl
          have hKc := hK.sub (tys' := [(cA, .byte)]) [0] rfl
          have hDc := hD.sub (ws' := [(h, .inr (2, [.ref r, .int (nI L.length)])), (r, .inl (cA, cap, .inl f))]) [0, 1] (by decide) rfl
          have hFc := va_free (wc := [(h, .inr (2, [.ref r, .int (nI L.length)])), (r, .inl (cA, cap, .inl f))]) hD hS hA [0, 1] rfl
          refine zz_callv (va_runV (As := [.int 92]) (rest := []) ⟨hx, hb, hml, hown, hg⟩ (c_By_add l dC dI h r cA cap f L 92 hL hc hk  s.heap.size) (cwV 1 hg (gi_V kw_358 kw_166 kw_167 kw_2 kw_168) rfl rfl rfl (by decide +kernel) ⟨Nat.le_of_ble_eq_true rfl, Nat.le_of_ble_eq_true rfl⟩) (zz_preV hPc hKc hDc _ (q0 := 0) (ci := 2) rfl rfl) rfl rfl hl.1 rfl (lv_room (Nat.le_of_ble_eq_true rfl)) d_Qu_putByte_85 ⟨Nat.le_of_ble_eq_true rfl, Nat.le_of_ble_eq_true rfl⟩) hS hFc (fun u H1 k9 p9 d9 => va_join (wr := []) hP hD [0, 1] [] rfl rfl (by decide) (by decide) k9 hFc p9 d9) (fun u H locs hw hP hD hK1 hS => ?_)
          obtain ⟨u_7, rfl⟩ : ∃ z, z = u := ⟨_, rfl⟩
          try dsimp only at hw
          have hP : va_P (dC, dI) vwCl [(h, .inr (2, [.ref r, .int (nI (by_ap cap L [by_b 92]).length)])), (r, .inl (cA, cap, .inl u_7))] H := hP
          have hD : va_D A [(h, .inr (2, [.ref r, .int (nI (by_ap cap L [by_b 92]).length)])), (r, .inl (cA, cap, .inl u_7))] := hD
          have hL_9 := hw
          refine lv_aload_n hx hb d_Qu_putByte_88 rfl (lv_at hl 3 rfl) ?_
          refine lv_bipush (v := 120) hx hb d_Qu_putByte_89 (by decide) ?_
          have hPc := hP.sub (ws' := [(h, .inr (2, [.ref r, .int (nI (by_ap cap L [by_b 92]).length)])), (r, .inl (cA, cap, .inl u_7))]) [0, 1] rfl
          have hKc := hK.sub (tys' := [(cA, .byte)]) [0] rfl
          have hDc := hD.sub (ws' := [(h, .inr (2, [.ref r, .int (nI (by_ap cap L [by_b 92]).length)])), (r, .inl (cA, cap, .inl u_7))]) [0, 1] (by decide) rfl
          have hFc := va_free (wc := [(h, .inr (2, [.ref r, .int (nI (by_ap cap L [by_b 92]).length)])), (r, .inl (cA, cap, .inl u_7))]) hD hS hA [0, 1] rfl
          refine zz_callv (va_runV (As := [.int 120]) (rest := []) ⟨hx, hb, hml, hown, hg⟩ (c_By_add l dC dI h r cA cap u_7 (by_ap cap L [by_b 92]) 120 hL_9 (by_ap_len _ _ _) hk  H.size) (cwV 1 hg (gi_V kw_358 kw_166 kw_167 kw_2 kw_168) rfl rfl rfl (by decide +kernel) ⟨Nat.le_of_ble_eq_true rfl, Nat.le_of_ble_eq_true rfl⟩) (zz_preV hPc hKc hDc _ (q0 := 0) (ci := 2) rfl rfl) rfl rfl hl.1 rfl (lv_room (Nat.le_of_ble_eq_true rfl)) d_Qu_putByte_91 ⟨Nat.le_of_ble_eq_true rfl, Nat.le_of_ble_eq_true rfl⟩) hS hFc (fun u H1 k9 p9 d9 => va_join (wr := []) hP hD [0, 1] [] rfl rfl (by decide) (by decide) k9 hFc p9 d9) (fun u H locs hw hP hD hK1 hS => ?_)
          obtain ⟨u_10, rfl⟩ : ∃ z, z = u := ⟨_, rfl⟩
          try dsimp only at hw
          have hP : va_P (dC, dI) vwCl [(h, .inr (2, [.ref r, .int (nI (by_ap cap (by_ap cap L [by_b 92]) [by_b 120]).length)])), (r, .inl (cA, cap, .inl u_10))] H := hP
          have hD : va_D A [(h, .inr (2, [.ref r, .int (nI (by_ap cap (by_ap cap L [by_b 92]) [by_b 120]).length)])), (r, .inl (cA, cap, .inl u_10))] := hD
          have hL_12 := hw
          refine lv_aload_n hx hb d_Qu_putByte_94 rfl (lv_at hl 3 rfl) ?_
          refine lv_iload_n hx hb d_Qu_putByte_95 rfl (lv_at hl 1 rfl) ?_
          refine lv_iconst (v := 4) hx hb d_Qu_putByte_96 (by decide) ?_
          refine lv_ishr hx hb d_Qu_putByte_97 ?_
          refine lv_bipush (v := 15) hx hb d_Qu_putByte_98 (by decide) ?_
          refine lv_iand hx hb d_Qu_putByte_100 ?_
          rw [qu_h1 hv]
          refine lv_bipush (v := 97) hx hb d_Qu_putByte_101 (by decide) ?_
          have hPc := hP.sub (ws' := []) [] rfl
          have hKc := hK.sub (tys' := []) [] rfl
          refine vp_callSi (W.runS (As := [.int (nI (v / 16)), .int 97]) (rest := [.ref h]) ⟨hx, hb, hml, hown, hg⟩ (c_Nu_digit l dC dI (v / 16) 97 (by omega) (by decide)) (va_cwS 2 hg (gi_S kw_385 kw_386 kw_7 kw_387) rfl rfl rfl (by decide +kernel) ⟨Nat.le_of_ble_eq_true rfl, Nat.le_of_ble_eq_true rfl⟩) (zz_prJS hPc hKc _) rfl rfl hl.1 rfl (lv_room (Nat.le_of_ble_eq_true rfl)) d_Qu_putByte_103 ⟨Nat.le_of_ble_eq_true rfl, Nat.le_of_ble_eq_true rfl⟩) (fun r_13 hr_13 => ?_)
          subst hr_13
          have hPc := hP.sub (ws' := [(h, .inr (2, [.ref r, .int (nI (by_ap cap (by_ap cap L [by_b 92]) [by_b 120]).length)])), (r, .inl (cA, cap, .inl u_10))]) [0, 1] rfl
          have hKc := hK.sub (tys' := [(cA, .byte)]) [0] rfl
          have hDc := hD.sub (ws' := [(h, .inr (2, [.ref r, .int (nI (by_ap cap (by_ap cap L [by_b 92]) [by_b 120]).length)])), (r, .inl (cA, cap, .inl u_10))]) [0, 1] (by decide) rfl
          have hFc := va_free (wc := [(h, .inr (2, [.ref r, .int (nI (by_ap cap (by_ap cap L [by_b 92]) [by_b 120]).length)])), (r, .inl (cA, cap, .inl u_10))]) hD hS hA [0, 1] rfl
          refine zz_callv (va_runV (As := [.int (nI (nu_d 97 (v / 16)))]) (rest := []) ⟨hx, hb, hml, hown, hg⟩ (c_By_add l dC dI h r cA cap u_10 (by_ap cap (by_ap cap L [by_b 92]) [by_b 120]) (nI (nu_d 97 (v / 16))) hL_12 (by_ap_len _ _ _) hk  H.size) (cwV 1 hg (gi_V kw_358 kw_166 kw_167 kw_2 kw_168) rfl rfl rfl (by decide +kernel) ⟨Nat.le_of_ble_eq_true rfl, Nat.le_of_ble_eq_true rfl⟩) (zz_preV hPc hKc hDc _ (q0 := 0) (ci := 2) rfl rfl) rfl rfl hl.1 rfl (lv_room (Nat.le_of_ble_eq_true rfl)) d_Qu_putByte_106 ⟨Nat.le_of_ble_eq_true rfl, Nat.le_of_ble_eq_true rfl⟩) hS hFc (fun u H1 k9 p9 d9 => va_join (wr := []) hP hD [0, 1] [] rfl rfl (by decide) (by decide) k9 hFc p9 d9) (fun u H locs hw hP hD hK1 hS => ?_)
          obtain ⟨u_14, rfl⟩ : ∃ z, z = u := ⟨_, rfl⟩
          try dsimp only at hw
          have hP : va_P (dC, dI) vwCl [(h, .inr (2, [.ref r, .int (nI (by_ap cap (by_ap cap (by_ap cap L [by_b 92]) [by_b 120]) [by_b (nI (nu_d 97 (v / 16)))]).length)])), (r, .inl (cA, cap, .inl u_14))] H := hP
          have hD : va_D A [(h, .inr (2, [.ref r, .int (nI (by_ap cap (by_ap cap (by_ap cap L [by_b 92]) [by_b 120]) [by_b (nI (nu_d 97 (v / 16)))]).length)])), (r, .inl (cA, cap, .inl u_14))] := hD
          have hL_16 := hw
          refine lv_aload_n hx hb d_Qu_putByte_109 rfl (lv_at hl 3 rfl) ?_
          refine lv_iload_n hx hb d_Qu_putByte_110 rfl (lv_at hl 1 rfl) ?_
          refine lv_bipush (v := 15) hx hb d_Qu_putByte_111 (by decide) ?_
          refine lv_iand hx hb d_Qu_putByte_113 ?_
          rw [qu_h2 hv]
          refine lv_bipush (v := 97) hx hb d_Qu_putByte_114 (by decide) ?_
          have hPc := hP.sub (ws' := []) [] rfl
          have hKc := hK.sub (tys' := []) [] rfl
          refine vp_callSi (W.runS (As := [.int (nI (v % 16)), .int 97]) (rest := [.ref h]) ⟨hx, hb, hml, hown, hg⟩ (c_Nu_digit l dC dI (v % 16) 97 (by omega) (by decide)) (va_cwS 2 hg (gi_S kw_385 kw_386 kw_7 kw_387) rfl rfl rfl (by decide +kernel) ⟨Nat.le_of_ble_eq_true rfl, Nat.le_of_ble_eq_true rfl⟩) (zz_prJS hPc hKc _) rfl rfl hl.1 rfl (lv_room (Nat.le_of_ble_eq_true rfl)) d_Qu_putByte_116 ⟨Nat.le_of_ble_eq_true rfl, Nat.le_of_ble_eq_true rfl⟩) (fun r_17 hr_17 => ?_)
          subst hr_17
          have hPc := hP.sub (ws' := [(h, .inr (2, [.ref r, .int (nI (by_ap cap (by_ap cap (by_ap cap L [by_b 92]) [by_b 120]) [by_b (nI (nu_d 97 (v / 16)))]).length)])), (r, .inl (cA, cap, .inl u_14))]) [0, 1] rfl
          have hKc := hK.sub (tys' := [(cA, .byte)]) [0] rfl
          have hDc := hD.sub (ws' := [(h, .inr (2, [.ref r, .int (nI (by_ap cap (by_ap cap (by_ap cap L [by_b 92]) [by_b 120]) [by_b (nI (nu_d 97 (v / 16)))]).length)])), (r, .inl (cA, cap, .inl u_14))]) [0, 1] (by decide) rfl
          have hFc := va_free (wc := [(h, .inr (2, [.ref r, .int (nI (by_ap cap (by_ap cap (by_ap cap L [by_b 92]) [by_b 120]) [by_b (nI (nu_d 97 (v / 16)))]).length)])), (r, .inl (cA, cap, .inl u_14))]) hD hS hA [0, 1] rfl
          refine zz_callv (va_runV (As := [.int (nI (nu_d 97 (v % 16)))]) (rest := []) ⟨hx, hb, hml, hown, hg⟩ (c_By_add l dC dI h r cA cap u_14 (by_ap cap (by_ap cap (by_ap cap L [by_b 92]) [by_b 120]) [by_b (nI (nu_d 97 (v / 16)))]) (nI (nu_d 97 (v % 16))) hL_16 (by_ap_len _ _ _) hk  H.size) (cwV 1 hg (gi_V kw_358 kw_166 kw_167 kw_2 kw_168) rfl rfl rfl (by decide +kernel) ⟨Nat.le_of_ble_eq_true rfl, Nat.le_of_ble_eq_true rfl⟩) (zz_preV hPc hKc hDc _ (q0 := 0) (ci := 2) rfl rfl) rfl rfl hl.1 rfl (lv_room (Nat.le_of_ble_eq_true rfl)) d_Qu_putByte_119 ⟨Nat.le_of_ble_eq_true rfl, Nat.le_of_ble_eq_true rfl⟩) hS hFc (fun u H1 k9 p9 d9 => va_join (wr := []) hP hD [0, 1] [] rfl rfl (by decide) (by decide) k9 hFc p9 d9) (fun u H locs hw hP hD hK1 hS => ?_)
          obtain ⟨u_18, rfl⟩ : ∃ z, z = u := ⟨_, rfl⟩
          try dsimp only at hw
          have hP : va_P (dC, dI) vwCl [(h, .inr (2, [.ref r, .int (nI (by_ap cap (by_ap cap (by_ap cap (by_ap cap L [by_b 92]) [by_b 120]) [by_b (nI (nu_d 97 (v / 16)))]) [by_b (nI (nu_d 97 (v % 16)))]).length)])), (r, .inl (cA, cap, .inl u_18))] H := hP
          have hD : va_D A [(h, .inr (2, [.ref r, .int (nI (by_ap cap (by_ap cap (by_ap cap (by_ap cap L [by_b 92]) [by_b 120]) [by_b (nI (nu_d 97 (v / 16)))]) [by_b (nI (nu_d 97 (v % 16)))]).length)])), (r, .inl (cA, cap, .inl u_18))] := hD
          have hL_20 := hw
          have hP9 := hP.sub (ws' := [(h, .inr (2, [.ref r, .int (nI (by_ap cap (by_ap cap (by_ap cap (by_ap cap L [by_b 92]) [by_b 120]) [by_b (nI (nu_d 97 (v / 16)))]) [by_b (nI (nu_d 97 (v % 16)))]).length)])), (r, .inl (cA, cap, .inl u_18))]) [0, 1] rfl
          have hD9 := hD.sub (ws' := [(h, .inr (2, [.ref r, .int (nI (by_ap cap (by_ap cap (by_ap cap (by_ap cap L [by_b 92]) [by_b 120]) [by_b (nI (nu_d 97 (v / 16)))]) [by_b (nI (nu_d 97 (v % 16)))]).length)])), (r, .inl (cA, cap, .inl u_18))]) [0, 1] (by decide) rfl
          have hK9 := hK.sub (tys' := [(cA, .byte)]) [0] rfl
          rw [qe_4 (by omega) f_8 f_13] at hP9 hD9
          exact zz_vret hx hb hr hlocks d_Qu_putByte_122 hS (by first | exact Nat.le_refl _ | decide | omega | (dsimp only; omega)) (by first | exact Nat.le_refl _ | decide | omega | (dsimp only; omega)) u_18 (by rw [qe_4 (by omega) f_8 f_13] at hL_20; exact hL_20) hP9 hK9 hD9
        · skip
          rw [show nI v - 7 = nI (v - 7) from pk_sub (b := 7) h7] at hl
          have hl : lv_has ls 4 [(3, .int (nI (v - 7))), (0, .int (nI v)), (1, .int (nI mk)), (2, .ref h)] := hl
          refine lv_iload_n hx hb d_Qu_putByte_50 rfl (lv_at hl 0 rfl) ?_
          refine lv_if_lt (tgt := 82) hx hb d_Qu_putByte_51 (by decide) (fun c9 => by first | exact absurd c9 (nI_pos (by omega)) | exact absurd (nI_pos (by omega)) c9) (fun _ => ?_)
          refine lv_iload_n hx hb d_Qu_putByte_54 rfl (lv_at hl 0 rfl) ?_
          refine va_ldcS (q := ad 12) hx hb hown (show vk_R "TextForge$Quoting" 50 "abtnvfr" (ad 12) s from (hX.2.1 12 (by decide)).1) d_Qu_putByte_55 ?_
          have hPc := hP.sub (ws' := []) [] rfl
          have hKc := hK.sub (tys' := []) [] rfl
          refine vp_callSi (W.runV (As := []) (rest := [.int (nI (v - 7))]) ⟨hx, hb, hml, hown, hg⟩ (c_St_length l dC dI ad 12 (by decide)) (cwV 0 hg (gi_V kw_383 kw_305 kw_306 kw_16 kw_307) rfl rfl rfl (by decide +kernel) ⟨Nat.le_of_ble_eq_true rfl, Nat.le_of_ble_eq_true rfl⟩) (zy_prSt (i := 12) (by decide) hX hS hPc hKc _) rfl rfl hl.1 rfl (lv_room (Nat.le_of_ble_eq_true rfl)) d_Qu_putByte_57 ⟨Nat.le_of_ble_eq_true rfl, Nat.le_of_ble_eq_true rfl⟩) (fun r_21 hr_21 => ?_)
          subst hr_21
          refine lv_icmp_ge (tgt := 82) hx hb d_Qu_putByte_60 (by decide) (fun c_60 => ?_) (fun c_60 => ?_)
          · skip
            have f_60 : 7 ≤ v - 7 := Nat.le_of_not_lt (fun z => nI_ge (a := v - 7) (b := 7) z (by decide) c_60)
            refine lv_aload_n hx hb d_Qu_putByte_82 rfl (lv_at hl 3 rfl) ?_
            refine lv_bipush (v := 92) hx hb d_Qu_putByte_83 (by decide) ?_
            have hPc := hP.sub (ws' := [(h, .inr (2, [.ref r, .int (nI L.length)])), (r, .inl (cA, cap, .inl f))]) [0, 1] rfl
            have hKc := hK.sub (tys' := [(cA, .byte)]) [0] rfl
            have hDc := hD.sub (ws' := [(h, .inr (2, [.ref r, .int (nI L.length)])), (r, .inl (cA, cap, .inl f))]) [0, 1] (by decide) rfl
            have hFc := va_free (wc := [(h, .inr (2, [.ref r, .int (nI L.length)])), (r, .inl (cA, cap, .inl f))]) hD hS hA [0, 1] rfl
            refine zz_callv (va_runV (As := [.int 92]) (rest := []) ⟨hx, hb, hml, hown, hg⟩ (c_By_add l dC dI h r cA cap f L 92 hL hc hk  s.heap.size) (cwV 1 hg (gi_V kw_358 kw_166 kw_167 kw_2 kw_168) rfl rfl rfl (by decide +kernel) ⟨Nat.le_of_ble_eq_true rfl, Nat.le_of_ble_eq_true rfl⟩) (zz_preV hPc hKc hDc _ (q0 := 0) (ci := 2) rfl rfl) rfl rfl hl.1 rfl (lv_room (Nat.le_of_ble_eq_true rfl)) d_Qu_putByte_85 ⟨Nat.le_of_ble_eq_true rfl, Nat.le_of_ble_eq_true rfl⟩) hS hFc (fun u H1 k9 p9 d9 => va_join (wr := []) hP hD [0, 1] [] rfl rfl (by decide) (by decide) k9 hFc p9 d9) (fun u H locs hw hP hD hK1 hS => ?_)
            obtain ⟨u_22, rfl⟩ : ∃ z, z = u := ⟨_, rfl⟩
            try dsimp only at hw
            have hP : va_P (dC, dI) vwCl [(h, .inr (2, [.ref r, .int (nI (by_ap cap L [by_b 92]).length)])), (r, .inl (cA, cap, .inl u_22))] H := hP
            have hD : va_D A [(h, .inr (2, [.ref r, .int (nI (by_ap cap L [by_b 92]).length)])), (r, .inl (cA, cap, .inl u_22))] := hD
            have hL_24 := hw
            refine lv_aload_n hx hb d_Qu_putByte_88 rfl (lv_at hl 3 rfl) ?_
            refine lv_bipush (v := 120) hx hb d_Qu_putByte_89 (by decide) ?_
            have hPc := hP.sub (ws' := [(h, .inr (2, [.ref r, .int (nI (by_ap cap L [by_b 92]).length)])), (r, .inl (cA, cap, .inl u_22))]) [0, 1] rfl
            have hKc := hK.sub (tys' := [(cA, .byte)]) [0] rfl
            have hDc := hD.sub (ws' := [(h, .inr (2, [.ref r, .int (nI (by_ap cap L [by_b 92]).length)])), (r, .inl (cA, cap, .inl u_22))]) [0, 1] (by decide) rfl
            have hFc := va_free (wc := [(h, .inr (2, [.ref r, .int (nI (by_ap cap L [by_b 92]).length)])), (r, .inl (cA, cap, .inl u_22))]) hD hS hA [0, 1] rfl
            refine zz_callv (va_runV (As := [.int 120]) (rest := []) ⟨hx, hb, hml, hown, hg⟩ (c_By_add l dC dI h r cA cap u_22 (by_ap cap L [by_b 92]) 120 hL_24 (by_ap_len _ _ _) hk  H.size) (cwV 1 hg (gi_V kw_358 kw_166 kw_167 kw_2 kw_168) rfl rfl rfl (by decide +kernel) ⟨Nat.le_of_ble_eq_true rfl, Nat.le_of_ble_eq_true rfl⟩) (zz_preV hPc hKc hDc _ (q0 := 0) (ci := 2) rfl rfl) rfl rfl hl.1 rfl (lv_room (Nat.le_of_ble_eq_true rfl)) d_Qu_putByte_91 ⟨Nat.le_of_ble_eq_true rfl, Nat.le_of_ble_eq_true rfl⟩) hS hFc (fun u H1 k9 p9 d9 => va_join (wr := []) hP hD [0, 1] [] rfl rfl (by decide) (by decide) k9 hFc p9 d9) (fun u H locs hw hP hD hK1 hS => ?_)
            obtain ⟨u_25, rfl⟩ : ∃ z, z = u := ⟨_, rfl⟩
            try dsimp only at hw
            have hP : va_P (dC, dI) vwCl [(h, .inr (2, [.ref r, .int (nI (by_ap cap (by_ap cap L [by_b 92]) [by_b 120]).length)])), (r, .inl (cA, cap, .inl u_25))] H := hP
            have hD : va_D A [(h, .inr (2, [.ref r, .int (nI (by_ap cap (by_ap cap L [by_b 92]) [by_b 120]).length)])), (r, .inl (cA, cap, .inl u_25))] := hD
            have hL_27 := hw
            refine lv_aload_n hx hb d_Qu_putByte_94 rfl (lv_at hl 3 rfl) ?_
            refine lv_iload_n hx hb d_Qu_putByte_95 rfl (lv_at hl 1 rfl) ?_
            refine lv_iconst (v := 4) hx hb d_Qu_putByte_96 (by decide) ?_
            refine lv_ishr hx hb d_Qu_putByte_97 ?_
            refine lv_bipush (v := 15) hx hb d_Qu_putByte_98 (by decide) ?_
            refine lv_iand hx hb d_Qu_putByte_100 ?_
            rw [qu_h1 hv]
            refine lv_bipush (v := 97) hx hb d_Qu_putByte_101 (by decide) ?_
            have hPc := hP.sub (ws' := []) [] rfl
            have hKc := hK.sub (tys' := []) [] rfl
            refine vp_callSi (W.runS (As := [.int (nI (v / 16)), .int 97]) (rest := [.ref h]) ⟨hx, hb, hml, hown, hg⟩ (c_Nu_digit l dC dI (v / 16) 97 (by omega) (by decide)) (va_cwS 2 hg (gi_S kw_385 kw_386 kw_7 kw_387) rfl rfl rfl (by decide +kernel) ⟨Nat.le_of_ble_eq_true rfl, Nat.le_of_ble_eq_true rfl⟩) (zz_prJS hPc hKc _) rfl rfl hl.1 rfl (lv_room (Nat.le_of_ble_eq_true rfl)) d_Qu_putByte_103 ⟨Nat.le_of_ble_eq_true rfl, Nat.le_of_ble_eq_true rfl⟩) (fun r_28 hr_28 => ?_)
            subst hr_28
            have hPc := hP.sub (ws' := [(h, .inr (2, [.ref r, .int (nI (by_ap cap (by_ap cap L [by_b 92]) [by_b 120]).length)])), (r, .inl (cA, cap, .inl u_25))]) [0, 1] rfl
            have hKc := hK.sub (tys' := [(cA, .byte)]) [0] rfl
            have hDc := hD.sub (ws' := [(h, .inr (2, [.ref r, .int (nI (by_ap cap (by_ap cap L [by_b 92]) [by_b 120]).length)])), (r, .inl (cA, cap, .inl u_25))]) [0, 1] (by decide) rfl
            have hFc := va_free (wc := [(h, .inr (2, [.ref r, .int (nI (by_ap cap (by_ap cap L [by_b 92]) [by_b 120]).length)])), (r, .inl (cA, cap, .inl u_25))]) hD hS hA [0, 1] rfl
            refine zz_callv (va_runV (As := [.int (nI (nu_d 97 (v / 16)))]) (rest := []) ⟨hx, hb, hml, hown, hg⟩ (c_By_add l dC dI h r cA cap u_25 (by_ap cap (by_ap cap L [by_b 92]) [by_b 120]) (nI (nu_d 97 (v / 16))) hL_27 (by_ap_len _ _ _) hk  H.size) (cwV 1 hg (gi_V kw_358 kw_166 kw_167 kw_2 kw_168) rfl rfl rfl (by decide +kernel) ⟨Nat.le_of_ble_eq_true rfl, Nat.le_of_ble_eq_true rfl⟩) (zz_preV hPc hKc hDc _ (q0 := 0) (ci := 2) rfl rfl) rfl rfl hl.1 rfl (lv_room (Nat.le_of_ble_eq_true rfl)) d_Qu_putByte_106 ⟨Nat.le_of_ble_eq_true rfl, Nat.le_of_ble_eq_true rfl⟩) hS hFc (fun u H1 k9 p9 d9 => va_join (wr := []) hP hD [0, 1] [] rfl rfl (by decide) (by decide) k9 hFc p9 d9) (fun u H locs hw hP hD hK1 hS => ?_)
            obtain ⟨u_29, rfl⟩ : ∃ z, z = u := ⟨_, rfl⟩
            try dsimp only at hw
            have hP : va_P (dC, dI) vwCl [(h, .inr (2, [.ref r, .int (nI (by_ap cap (by_ap cap (by_ap cap L [by_b 92]) [by_b 120]) [by_b (nI (nu_d 97 (v / 16)))]).length)])), (r, .inl (cA, cap, .inl u_29))] H := hP
            have hD : va_D A [(h, .inr (2, [.ref r, .int (nI (by_ap cap (by_ap cap (by_ap cap L [by_b 92]) [by_b 120]) [by_b (nI (nu_d 97 (v / 16)))]).length)])), (r, .inl (cA, cap, .inl u_29))] := hD
            have hL_31 := hw
            refine lv_aload_n hx hb d_Qu_putByte_109 rfl (lv_at hl 3 rfl) ?_
            refine lv_iload_n hx hb d_Qu_putByte_110 rfl (lv_at hl 1 rfl) ?_
            refine lv_bipush (v := 15) hx hb d_Qu_putByte_111 (by decide) ?_
            refine lv_iand hx hb d_Qu_putByte_113 ?_
            rw [qu_h2 hv]
            refine lv_bipush (v := 97) hx hb d_Qu_putByte_114 (by decide) ?_
            have hPc := hP.sub (ws' := []) [] rfl
            have hKc := hK.sub (tys' := []) [] rfl
            refine vp_callSi (W.runS (As := [.int (nI (v % 16)), .int 97]) (rest := [.ref h]) ⟨hx, hb, hml, hown, hg⟩ (c_Nu_digit l dC dI (v % 16) 97 (by omega) (by decide)) (va_cwS 2 hg (gi_S kw_385 kw_386 kw_7 kw_387) rfl rfl rfl (by decide +kernel) ⟨Nat.le_of_ble_eq_true rfl, Nat.le_of_ble_eq_true rfl⟩) (zz_prJS hPc hKc _) rfl rfl hl.1 rfl (lv_room (Nat.le_of_ble_eq_true rfl)) d_Qu_putByte_116 ⟨Nat.le_of_ble_eq_true rfl, Nat.le_of_ble_eq_true rfl⟩) (fun r_32 hr_32 => ?_)
            subst hr_32
            have hPc := hP.sub (ws' := [(h, .inr (2, [.ref r, .int (nI (by_ap cap (by_ap cap (by_ap cap L [by_b 92]) [by_b 120]) [by_b (nI (nu_d 97 (v / 16)))]).length)])), (r, .inl (cA, cap, .inl u_29))]) [0, 1] rfl
            have hKc := hK.sub (tys' := [(cA, .byte)]) [0] rfl
            have hDc := hD.sub (ws' := [(h, .inr (2, [.ref r, .int (nI (by_ap cap (by_ap cap (by_ap cap L [by_b 92]) [by_b 120]) [by_b (nI (nu_d 97 (v / 16)))]).length)])), (r, .inl (cA, cap, .inl u_29))]) [0, 1] (by decide) rfl
            have hFc := va_free (wc := [(h, .inr (2, [.ref r, .int (nI (by_ap cap (by_ap cap (by_ap cap L [by_b 92]) [by_b 120]) [by_b (nI (nu_d 97 (v / 16)))]).length)])), (r, .inl (cA, cap, .inl u_29))]) hD hS hA [0, 1] rfl
            refine zz_callv (va_runV (As := [.int (nI (nu_d 97 (v % 16)))]) (rest := []) ⟨hx, hb, hml, hown, hg⟩ (c_By_add l dC dI h r cA cap u_29 (by_ap cap (by_ap cap (by_ap cap L [by_b 92]) [by_b 120]) [by_b (nI (nu_d 97 (v / 16)))]) (nI (nu_d 97 (v % 16))) hL_31 (by_ap_len _ _ _) hk  H.size) (cwV 1 hg (gi_V kw_358 kw_166 kw_167 kw_2 kw_168) rfl rfl rfl (by decide +kernel) ⟨Nat.le_of_ble_eq_true rfl, Nat.le_of_ble_eq_true rfl⟩) (zz_preV hPc hKc hDc _ (q0 := 0) (ci := 2) rfl rfl) rfl rfl hl.1 rfl (lv_room (Nat.le_of_ble_eq_true rfl)) d_Qu_putByte_119 ⟨Nat.le_of_ble_eq_true rfl, Nat.le_of_ble_eq_true rfl⟩) hS hFc (fun u H1 k9 p9 d9 => va_join (wr := []) hP hD [0, 1] [] rfl rfl (by decide) (by decide) k9 hFc p9 d9) (fun u H locs hw hP hD hK1 hS => ?_)
            obtain ⟨u_33, rfl⟩ : ∃ z, z = u := ⟨_, rfl⟩
            try dsimp only at hw
            have hP : va_P (dC, dI) vwCl [(h, .inr (2, [.ref r, .int (nI (by_ap cap (by_ap cap (by_ap cap (by_ap cap L [by_b 92]) [by_b 120]) [by_b (nI (nu_d 97 (v / 16)))]) [by_b (nI (nu_d 97 (v % 16)))]).length)])), (r, .inl (cA, cap, .inl u_33))] H := hP
            have hD : va_D A [(h, .inr (2, [.ref r, .int (nI (by_ap cap (by_ap cap (by_ap cap (by_ap cap L [by_b 92]) [by_b 120]) [by_b (nI (nu_d 97 (v / 16)))]) [by_b (nI (nu_d 97 (v % 16)))]).length)])), (r, .inl (cA, cap, .inl u_33))] := hD
            have hL_35 := hw
            have hP9 := hP.sub (ws' := [(h, .inr (2, [.ref r, .int (nI (by_ap cap (by_ap cap (by_ap cap (by_ap cap L [by_b 92]) [by_b 120]) [by_b (nI (nu_d 97 (v / 16)))]) [by_b (nI (nu_d 97 (v % 16)))]).length)])), (r, .inl (cA, cap, .inl u_33))]) [0, 1] rfl
            have hD9 := hD.sub (ws' := [(h, .inr (2, [.ref r, .int (nI (by_ap cap (by_ap cap (by_ap cap (by_ap cap L [by_b 92]) [by_b 120]) [by_b (nI (nu_d 97 (v / 16)))]) [by_b (nI (nu_d 97 (v % 16)))]).length)])), (r, .inl (cA, cap, .inl u_33))]) [0, 1] (by decide) rfl
            have hK9 := hK.sub (tys' := [(cA, .byte)]) [0] rfl
            rw [qe_4 (by omega) f_8 f_13] at hP9 hD9
            exact zz_vret hx hb hr hlocks d_Qu_putByte_122 hS (by first | exact Nat.le_refl _ | decide | omega | (dsimp only; omega)) (by first | exact Nat.le_refl _ | decide | omega | (dsimp only; omega)) u_33 (by rw [qe_4 (by omega) f_8 f_13] at hL_35; exact hL_35) hP9 hK9 hD9
          · skip
            have f_60 : v - 7 < 7 := Nat.lt_of_not_le (fun z => c_60 (nI_le (a := 7) z (by omega)))
            refine lv_aload_n hx hb d_Qu_putByte_63 rfl (lv_at hl 3 rfl) ?_
            refine lv_bipush (v := 92) hx hb d_Qu_putByte_64 (by decide) ?_
            have hPc := hP.sub (ws' := [(h, .inr (2, [.ref r, .int (nI L.length)])), (r, .inl (cA, cap, .inl f))]) [0, 1] rfl
            have hKc := hK.sub (tys' := [(cA, .byte)]) [0] rfl
            have hDc := hD.sub (ws' := [(h, .inr (2, [.ref r, .int (nI L.length)])), (r, .inl (cA, cap, .inl f))]) [0, 1] (by decide) rfl
            have hFc := va_free (wc := [(h, .inr (2, [.ref r, .int (nI L.length)])), (r, .inl (cA, cap, .inl f))]) hD hS hA [0, 1] rfl
            refine zz_callv (va_runV (As := [.int 92]) (rest := []) ⟨hx, hb, hml, hown, hg⟩ (c_By_add l dC dI h r cA cap f L 92 hL hc hk  s.heap.size) (cwV 1 hg (gi_V kw_358 kw_166 kw_167 kw_2 kw_168) rfl rfl rfl (by decide +kernel) ⟨Nat.le_of_ble_eq_true rfl, Nat.le_of_ble_eq_true rfl⟩) (zz_preV hPc hKc hDc _ (q0 := 0) (ci := 2) rfl rfl) rfl rfl hl.1 rfl (lv_room (Nat.le_of_ble_eq_true rfl)) d_Qu_putByte_66 ⟨Nat.le_of_ble_eq_true rfl, Nat.le_of_ble_eq_true rfl⟩) hS hFc (fun u H1 k9 p9 d9 => va_join (wr := []) hP hD [0, 1] [] rfl rfl (by decide) (by decide) k9 hFc p9 d9) (fun u H locs hw hP hD hK1 hS => ?_)
            obtain ⟨u_36, rfl⟩ : ∃ z, z = u := ⟨_, rfl⟩
            try dsimp only at hw
            have hP : va_P (dC, dI) vwCl [(h, .inr (2, [.ref r, .int (nI (by_ap cap L [by_b 92]).length)])), (r, .inl (cA, cap, .inl u_36))] H := hP
            have hD : va_D A [(h, .inr (2, [.ref r, .int (nI (by_ap cap L [by_b 92]).length)])), (r, .inl (cA, cap, .inl u_36))] := hD
            have hL_38 := hw
            refine lv_aload_n hx hb d_Qu_putByte_69 rfl (lv_at hl 3 rfl) ?_
            refine va_ldcS (q := ad 12) hx hb hown (show vk_R "TextForge$Quoting" 50 "abtnvfr" (ad 12) s from (hX.2.1 12 (by decide)).1) d_Qu_putByte_70 ?_
            refine lv_iload_n hx hb d_Qu_putByte_72 rfl (lv_at hl 0 rfl) ?_
            have hPc := hP.sub (ws' := []) [] rfl
            have hKc := hK.sub (tys' := []) [] rfl
            refine vp_callSi (W.runV (As := [.int (nI (v - 7))]) (rest := [.ref h]) ⟨hx, hb, hml, hown, hg⟩ (c_St_charAt l dC dI ad 12 (v - 7) (by decide) (show v - 7 < (kxB 12).length from f_60)) (cwV 1 hg (gi_V kw_384 kw_315 kw_316 kw_16 kw_317) rfl rfl rfl (by decide +kernel) ⟨Nat.le_of_ble_eq_true rfl, Nat.le_of_ble_eq_true rfl⟩) (zy_prSt (i := 12) (by decide) hX hS hPc hKc _) rfl rfl hl.1 rfl (lv_room (Nat.le_of_ble_eq_true rfl)) d_Qu_putByte_73 ⟨Nat.le_of_ble_eq_true rfl, Nat.le_of_ble_eq_true rfl⟩) (fun r_39 hr_39 => ?_)
            subst hr_39
            have hPc := hP.sub (ws' := [(h, .inr (2, [.ref r, .int (nI (by_ap cap L [by_b 92]).length)])), (r, .inl (cA, cap, .inl u_36))]) [0, 1] rfl
            have hKc := hK.sub (tys' := [(cA, .byte)]) [0] rfl
            have hDc := hD.sub (ws' := [(h, .inr (2, [.ref r, .int (nI (by_ap cap L [by_b 92]).length)])), (r, .inl (cA, cap, .inl u_36))]) [0, 1] (by decide) rfl
            have hFc := va_free (wc := [(h, .inr (2, [.ref r, .int (nI (by_ap cap L [by_b 92]).length)])), (r, .inl (cA, cap, .inl u_36))]) hD hS hA [0, 1] rfl
            refine zz_callv (va_runV (As := [.int (nI ((kxB 12).getD (v - 7) 0))]) (rest := []) ⟨hx, hb, hml, hown, hg⟩ (c_By_add l dC dI h r cA cap u_36 (by_ap cap L [by_b 92]) (nI ((kxB 12).getD (v - 7) 0)) hL_38 (by_ap_len _ _ _) hk  H.size) (cwV 1 hg (gi_V kw_358 kw_166 kw_167 kw_2 kw_168) rfl rfl rfl (by decide +kernel) ⟨Nat.le_of_ble_eq_true rfl, Nat.le_of_ble_eq_true rfl⟩) (zz_preV hPc hKc hDc _ (q0 := 0) (ci := 2) rfl rfl) rfl rfl hl.1 rfl (lv_room (Nat.le_of_ble_eq_true rfl)) d_Qu_putByte_76 ⟨Nat.le_of_ble_eq_true rfl, Nat.le_of_ble_eq_true rfl⟩) hS hFc (fun u H1 k9 p9 d9 => va_join (wr := []) hP hD [0, 1] [] rfl rfl (by decide) (by decide) k9 hFc p9 d9) (fun u H locs hw hP hD hK1 hS => ?_)
            obtain ⟨u_40, rfl⟩ : ∃ z, z = u := ⟨_, rfl⟩
            try dsimp only at hw
            have hP : va_P (dC, dI) vwCl [(h, .inr (2, [.ref r, .int (nI (by_ap cap (by_ap cap L [by_b 92]) [by_b (nI ((kxB 12).getD (v - 7) 0))]).length)])), (r, .inl (cA, cap, .inl u_40))] H := hP
            have hD : va_D A [(h, .inr (2, [.ref r, .int (nI (by_ap cap (by_ap cap L [by_b 92]) [by_b (nI ((kxB 12).getD (v - 7) 0))]).length)])), (r, .inl (cA, cap, .inl u_40))] := hD
            have hL_42 := hw
            refine lv_goto (tgt := 122) hx hb d_Qu_putByte_79 (by decide) ?_
            have hP9 := hP.sub (ws' := [(h, .inr (2, [.ref r, .int (nI (by_ap cap (by_ap cap L [by_b 92]) [by_b (nI ((kxB 12).getD (v - 7) 0))]).length)])), (r, .inl (cA, cap, .inl u_40))]) [0, 1] rfl
            have hD9 := hD.sub (ws' := [(h, .inr (2, [.ref r, .int (nI (by_ap cap (by_ap cap L [by_b 92]) [by_b (nI ((kxB 12).getD (v - 7) 0))]).length)])), (r, .inl (cA, cap, .inl u_40))]) [0, 1] (by decide) rfl
            have hK9 := hK.sub (tys' := [(cA, .byte)]) [0] rfl
            rw [qe_3 (by omega) f_8 f_13] at hP9 hD9
            exact zz_vret hx hb hr hlocks d_Qu_putByte_122 hS (by first | exact Nat.le_refl _ | decide | omega | (dsimp only; omega)) (by first | exact Nat.le_refl _ | decide | omega | (dsimp only; omega)) u_40 (by rw [qe_3 (by omega) f_8 f_13] at hL_42; exact hL_42) hP9 hK9 hD9
      · skip
        have f_33 : 32 ≤ v := Nat.le_of_not_lt (fun z => c_33 (nI_lt (b := 32) z (by omega)))
        refine lv_iload_n hx hb d_Qu_putByte_36 rfl (lv_at hl 1 rfl) ?_
        refine lv_bipush (v := 127) hx hb d_Qu_putByte_37 (by decide) ?_
        refine lv_icmp_ge (tgt := 50) hx hb d_Qu_putByte_39 (by decide) (fun c_39 => ?_) (fun c_39 => ?_)
        · skip
          have f_39 : 127 ≤ v := Nat.le_of_not_lt (fun z => nI_ge (b := 127) z (by omega) c_39)
          rcases Nat.lt_or_ge v 7 with h7 | h7
          · skip
            refine lv_iload_n hx hb d_Qu_putByte_50 rfl (lv_at hl 0 rfl) ?_
            refine lv_if_lt (tgt := 82) hx hb d_Qu_putByte_51 (by decide) (fun _ => ?_) (fun c9 => by first | exact absurd c9 (pk_sneg (b := 7) (by decide) h7) | exact absurd (pk_sneg (b := 7) (by decide) h7) c9)
            refine lv_aload_n hx hb d_Qu_putByte_82 rfl (lv_at hl 3 rfl) ?_
            refine lv_bipush (v := 92) hx hb d_Qu_putByte_83 (by decide) ?_
            have hPc := hP.sub (ws' := [(h, .inr (2, [.ref r, .int (nI L.length)])), (r, .inl (cA, cap, .inl f))]) [0, 1] rfl
            have hKc := hK.sub (tys' := [(cA, .byte)]) [0] rfl
            have hDc := hD.sub (ws' := [(h, .inr (2, [.ref r, .int (nI L.length)])), (r, .inl (cA, cap, .inl f))]) [0, 1] (by decide) rfl
            have hFc := va_free (wc := [(h, .inr (2, [.ref r, .int (nI L.length)])), (r, .inl (cA, cap, .inl f))]) hD hS hA [0, 1] rfl
            refine zz_callv (va_runV (As := [.int 92]) (rest := []) ⟨hx, hb, hml, hown, hg⟩ (c_By_add l dC dI h r cA cap f L 92 hL hc hk  s.heap.size) (cwV 1 hg (gi_V kw_358 kw_166 kw_167 kw_2 kw_168) rfl rfl rfl (by decide +kernel) ⟨Nat.le_of_ble_eq_true rfl, Nat.le_of_ble_eq_true rfl⟩) (zz_preV hPc hKc hDc _ (q0 := 0) (ci := 2) rfl rfl) rfl rfl hl.1 rfl (lv_room (Nat.le_of_ble_eq_true rfl)) d_Qu_putByte_85 ⟨Nat.le_of_ble_eq_true rfl, Nat.le_of_ble_eq_true rfl⟩) hS hFc (fun u H1 k9 p9 d9 => va_join (wr := []) hP hD [0, 1] [] rfl rfl (by decide) (by decide) k9 hFc p9 d9) (fun u H locs hw hP hD hK1 hS => ?_)
            obtain ⟨u_43, rfl⟩ : ∃ z, z = u := ⟨_, rfl⟩
            try dsimp only at hw
            have hP : va_P (dC, dI) vwCl [(h, .inr (2, [.ref r, .int (nI (by_ap cap L [by_b 92]).length)])), (r, .inl (cA, cap, .inl u_43))] H := hP
            have hD : va_D A [(h, .inr (2, [.ref r, .int (nI (by_ap cap L [by_b 92]).length)])), (r, .inl (cA, cap, .inl u_43))] := hD
            have hL_45 := hw
            refine lv_aload_n hx hb d_Qu_putByte_88 rfl (lv_at hl 3 rfl) ?_
            refine lv_bipush (v := 120) hx hb d_Qu_putByte_89 (by decide) ?_
            have hPc := hP.sub (ws' := [(h, .inr (2, [.ref r, .int (nI (by_ap cap L [by_b 92]).length)])), (r, .inl (cA, cap, .inl u_43))]) [0, 1] rfl
            have hKc := hK.sub (tys' := [(cA, .byte)]) [0] rfl
            have hDc := hD.sub (ws' := [(h, .inr (2, [.ref r, .int (nI (by_ap cap L [by_b 92]).length)])), (r, .inl (cA, cap, .inl u_43))]) [0, 1] (by decide) rfl
            have hFc := va_free (wc := [(h, .inr (2, [.ref r, .int (nI (by_ap cap L [by_b 92]).length)])), (r, .inl (cA, cap, .inl u_43))]) hD hS hA [0, 1] rfl
            refine zz_callv (va_runV (As := [.int 120]) (rest := []) ⟨hx, hb, hml, hown, hg⟩ (c_By_add l dC dI h r cA cap u_43 (by_ap cap L [by_b 92]) 120 hL_45 (by_ap_len _ _ _) hk  H.size) (cwV 1 hg (gi_V kw_358 kw_166 kw_167 kw_2 kw_168) rfl rfl rfl (by decide +kernel) ⟨Nat.le_of_ble_eq_true rfl, Nat.le_of_ble_eq_true rfl⟩) (zz_preV hPc hKc hDc _ (q0 := 0) (ci := 2) rfl rfl) rfl rfl hl.1 rfl (lv_room (Nat.le_of_ble_eq_true rfl)) d_Qu_putByte_91 ⟨Nat.le_of_ble_eq_true rfl, Nat.le_of_ble_eq_true rfl⟩) hS hFc (fun u H1 k9 p9 d9 => va_join (wr := []) hP hD [0, 1] [] rfl rfl (by decide) (by decide) k9 hFc p9 d9) (fun u H locs hw hP hD hK1 hS => ?_)
            obtain ⟨u_46, rfl⟩ : ∃ z, z = u := ⟨_, rfl⟩
            try dsimp only at hw
            have hP : va_P (dC, dI) vwCl [(h, .inr (2, [.ref r, .int (nI (by_ap cap (by_ap cap L [by_b 92]) [by_b 120]).length)])), (r, .inl (cA, cap, .inl u_46))] H := hP
            have hD : va_D A [(h, .inr (2, [.ref r, .int (nI (by_ap cap (by_ap cap L [by_b 92]) [by_b 120]).length)])), (r, .inl (cA, cap, .inl u_46))] := hD
            have hL_48 := hw
            refine lv_aload_n hx hb d_Qu_putByte_94 rfl (lv_at hl 3 rfl) ?_
            refine lv_iload_n hx hb d_Qu_putByte_95 rfl (lv_at hl 1 rfl) ?_
            refine lv_iconst (v := 4) hx hb d_Qu_putByte_96 (by decide) ?_
            refine lv_ishr hx hb d_Qu_putByte_97 ?_
            refine lv_bipush (v := 15) hx hb d_Qu_putByte_98 (by decide) ?_
            refine lv_iand hx hb d_Qu_putByte_100 ?_
            rw [qu_h1 hv]
            refine lv_bipush (v := 97) hx hb d_Qu_putByte_101 (by decide) ?_
            have hPc := hP.sub (ws' := []) [] rfl
            have hKc := hK.sub (tys' := []) [] rfl
            refine vp_callSi (W.runS (As := [.int (nI (v / 16)), .int 97]) (rest := [.ref h]) ⟨hx, hb, hml, hown, hg⟩ (c_Nu_digit l dC dI (v / 16) 97 (by omega) (by decide)) (va_cwS 2 hg (gi_S kw_385 kw_386 kw_7 kw_387) rfl rfl rfl (by decide +kernel) ⟨Nat.le_of_ble_eq_true rfl, Nat.le_of_ble_eq_true rfl⟩) (zz_prJS hPc hKc _) rfl rfl hl.1 rfl (lv_room (Nat.le_of_ble_eq_true rfl)) d_Qu_putByte_103 ⟨Nat.le_of_ble_eq_true rfl, Nat.le_of_ble_eq_true rfl⟩) (fun r_49 hr_49 => ?_)
            subst hr_49
            have hPc := hP.sub (ws' := [(h, .inr (2, [.ref r, .int (nI (by_ap cap (by_ap cap L [by_b 92]) [by_b 120]).length)])), (r, .inl (cA, cap, .inl u_46))]) [0, 1] rfl
            have hKc := hK.sub (tys' := [(cA, .byte)]) [0] rfl
            have hDc := hD.sub (ws' := [(h, .inr (2, [.ref r, .int (nI (by_ap cap (by_ap cap L [by_b 92]) [by_b 120]).length)])), (r, .inl (cA, cap, .inl u_46))]) [0, 1] (by decide) rfl
            have hFc := va_free (wc := [(h, .inr (2, [.ref r, .int (nI (by_ap cap (by_ap cap L [by_b 92]) [by_b 120]).length)])), (r, .inl (cA, cap, .inl u_46))]) hD hS hA [0, 1] rfl
            refine zz_callv (va_runV (As := [.int (nI (nu_d 97 (v / 16)))]) (rest := []) ⟨hx, hb, hml, hown, hg⟩ (c_By_add l dC dI h r cA cap u_46 (by_ap cap (by_ap cap L [by_b 92]) [by_b 120]) (nI (nu_d 97 (v / 16))) hL_48 (by_ap_len _ _ _) hk  H.size) (cwV 1 hg (gi_V kw_358 kw_166 kw_167 kw_2 kw_168) rfl rfl rfl (by decide +kernel) ⟨Nat.le_of_ble_eq_true rfl, Nat.le_of_ble_eq_true rfl⟩) (zz_preV hPc hKc hDc _ (q0 := 0) (ci := 2) rfl rfl) rfl rfl hl.1 rfl (lv_room (Nat.le_of_ble_eq_true rfl)) d_Qu_putByte_106 ⟨Nat.le_of_ble_eq_true rfl, Nat.le_of_ble_eq_true rfl⟩) hS hFc (fun u H1 k9 p9 d9 => va_join (wr := []) hP hD [0, 1] [] rfl rfl (by decide) (by decide) k9 hFc p9 d9) (fun u H locs hw hP hD hK1 hS => ?_)
            obtain ⟨u_50, rfl⟩ : ∃ z, z = u := ⟨_, rfl⟩
            try dsimp only at hw
            have hP : va_P (dC, dI) vwCl [(h, .inr (2, [.ref r, .int (nI (by_ap cap (by_ap cap (by_ap cap L [by_b 92]) [by_b 120]) [by_b (nI (nu_d 97 (v / 16)))]).length)])), (r, .inl (cA, cap, .inl u_50))] H := hP
            have hD : va_D A [(h, .inr (2, [.ref r, .int (nI (by_ap cap (by_ap cap (by_ap cap L [by_b 92]) [by_b 120]) [by_b (nI (nu_d 97 (v / 16)))]).length)])), (r, .inl (cA, cap, .inl u_50))] := hD
            have hL_52 := hw
            refine lv_aload_n hx hb d_Qu_putByte_109 rfl (lv_at hl 3 rfl) ?_
            refine lv_iload_n hx hb d_Qu_putByte_110 rfl (lv_at hl 1 rfl) ?_
            refine lv_bipush (v := 15) hx hb d_Qu_putByte_111 (by decide) ?_
            refine lv_iand hx hb d_Qu_putByte_113 ?_
            rw [qu_h2 hv]
            refine lv_bipush (v := 97) hx hb d_Qu_putByte_114 (by decide) ?_
            have hPc := hP.sub (ws' := []) [] rfl
            have hKc := hK.sub (tys' := []) [] rfl
            refine vp_callSi (W.runS (As := [.int (nI (v % 16)), .int 97]) (rest := [.ref h]) ⟨hx, hb, hml, hown, hg⟩ (c_Nu_digit l dC dI (v % 16) 97 (by omega) (by decide)) (va_cwS 2 hg (gi_S kw_385 kw_386 kw_7 kw_387) rfl rfl rfl (by decide +kernel) ⟨Nat.le_of_ble_eq_true rfl, Nat.le_of_ble_eq_true rfl⟩) (zz_prJS hPc hKc _) rfl rfl hl.1 rfl (lv_room (Nat.le_of_ble_eq_true rfl)) d_Qu_putByte_116 ⟨Nat.le_of_ble_eq_true rfl, Nat.le_of_ble_eq_true rfl⟩) (fun r_53 hr_53 => ?_)
            subst hr_53
            have hPc := hP.sub (ws' := [(h, .inr (2, [.ref r, .int (nI (by_ap cap (by_ap cap (by_ap cap L [by_b 92]) [by_b 120]) [by_b (nI (nu_d 97 (v / 16)))]).length)])), (r, .inl (cA, cap, .inl u_50))]) [0, 1] rfl
            have hKc := hK.sub (tys' := [(cA, .byte)]) [0] rfl
            have hDc := hD.sub (ws' := [(h, .inr (2, [.ref r, .int (nI (by_ap cap (by_ap cap (by_ap cap L [by_b 92]) [by_b 120]) [by_b (nI (nu_d 97 (v / 16)))]).length)])), (r, .inl (cA, cap, .inl u_50))]) [0, 1] (by decide) rfl
            have hFc := va_free (wc := [(h, .inr (2, [.ref r, .int (nI (by_ap cap (by_ap cap (by_ap cap L [by_b 92]) [by_b 120]) [by_b (nI (nu_d 97 (v / 16)))]).length)])), (r, .inl (cA, cap, .inl u_50))]) hD hS hA [0, 1] rfl
            refine zz_callv (va_runV (As := [.int (nI (nu_d 97 (v % 16)))]) (rest := []) ⟨hx, hb, hml, hown, hg⟩ (c_By_add l dC dI h r cA cap u_50 (by_ap cap (by_ap cap (by_ap cap L [by_b 92]) [by_b 120]) [by_b (nI (nu_d 97 (v / 16)))]) (nI (nu_d 97 (v % 16))) hL_52 (by_ap_len _ _ _) hk  H.size) (cwV 1 hg (gi_V kw_358 kw_166 kw_167 kw_2 kw_168) rfl rfl rfl (by decide +kernel) ⟨Nat.le_of_ble_eq_true rfl, Nat.le_of_ble_eq_true rfl⟩) (zz_preV hPc hKc hDc _ (q0 := 0) (ci := 2) rfl rfl) rfl rfl hl.1 rfl (lv_room (Nat.le_of_ble_eq_true rfl)) d_Qu_putByte_119 ⟨Nat.le_of_ble_eq_true rfl, Nat.le_of_ble_eq_true rfl⟩) hS hFc (fun u H1 k9 p9 d9 => va_join (wr := []) hP hD [0, 1] [] rfl rfl (by decide) (by decide) k9 hFc p9 d9) (fun u H locs hw hP hD hK1 hS => ?_)
            obtain ⟨u_54, rfl⟩ : ∃ z, z = u := ⟨_, rfl⟩
            try dsimp only at hw
            have hP : va_P (dC, dI) vwCl [(h, .inr (2, [.ref r, .int (nI (by_ap cap (by_ap cap (by_ap cap (by_ap cap L [by_b 92]) [by_b 120]) [by_b (nI (nu_d 97 (v / 16)))]) [by_b (nI (nu_d 97 (v % 16)))]).length)])), (r, .inl (cA, cap, .inl u_54))] H := hP
            have hD : va_D A [(h, .inr (2, [.ref r, .int (nI (by_ap cap (by_ap cap (by_ap cap (by_ap cap L [by_b 92]) [by_b 120]) [by_b (nI (nu_d 97 (v / 16)))]) [by_b (nI (nu_d 97 (v % 16)))]).length)])), (r, .inl (cA, cap, .inl u_54))] := hD
            have hL_56 := hw
            have hP9 := hP.sub (ws' := [(h, .inr (2, [.ref r, .int (nI (by_ap cap (by_ap cap (by_ap cap (by_ap cap L [by_b 92]) [by_b 120]) [by_b (nI (nu_d 97 (v / 16)))]) [by_b (nI (nu_d 97 (v % 16)))]).length)])), (r, .inl (cA, cap, .inl u_54))]) [0, 1] rfl
            have hD9 := hD.sub (ws' := [(h, .inr (2, [.ref r, .int (nI (by_ap cap (by_ap cap (by_ap cap (by_ap cap L [by_b 92]) [by_b 120]) [by_b (nI (nu_d 97 (v / 16)))]) [by_b (nI (nu_d 97 (v % 16)))]).length)])), (r, .inl (cA, cap, .inl u_54))]) [0, 1] (by decide) rfl
            have hK9 := hK.sub (tys' := [(cA, .byte)]) [0] rfl
            rw [qe_4 (by omega) f_8 f_13] at hP9 hD9
            exact zz_vret hx hb hr hlocks d_Qu_putByte_122 hS (by first | exact Nat.le_refl _ | decide | omega | (dsimp only; omega)) (by first | exact Nat.le_refl _ | decide | omega | (dsimp only; omega)) u_54 (by rw [qe_4 (by omega) f_8 f_13] at hL_56; exact hL_56) hP9 hK9 hD9
          · skip
            rw [show nI v - 7 = nI (v - 7) from pk_sub (b := 7) h7] at hl
            have hl : lv_has ls 4 [(3, .int (nI (v - 7))), (0, .int (nI v)), (1, .int (nI mk)), (2, .ref h)] := hl
            refine lv_iload_n hx hb d_Qu_putByte_50 rfl (lv_at hl 0 rfl) ?_
            refine lv_if_lt (tgt := 82) hx hb d_Qu_putByte_51 (by decide) (fun c9 => by first | exact absurd c9 (nI_pos (by omega)) | exact absurd (nI_pos (by omega)) c9) (fun _ => ?_)
            refine lv_iload_n hx hb d_Qu_putByte_54 rfl (lv_at hl 0 rfl) ?_
            refine va_ldcS (q := ad 12) hx hb hown (show vk_R "TextForge$Quoting" 50 "abtnvfr" (ad 12) s from (hX.2.1 12 (by decide)).1) d_Qu_putByte_55 ?_
            have hPc := hP.sub (ws' := []) [] rfl
            have hKc := hK.sub (tys' := []) [] rfl
            refine vp_callSi (W.runV (As := []) (rest := [.int (nI (v - 7))]) ⟨hx, hb, hml, hown, hg⟩ (c_St_length l dC dI ad 12 (by decide)) (cwV 0 hg (gi_V kw_383 kw_305 kw_306 kw_16 kw_307) rfl rfl rfl (by decide +kernel) ⟨Nat.le_of_ble_eq_true rfl, Nat.le_of_ble_eq_true rfl⟩) (zy_prSt (i := 12) (by decide) hX hS hPc hKc _) rfl rfl hl.1 rfl (lv_room (Nat.le_of_ble_eq_true rfl)) d_Qu_putByte_57 ⟨Nat.le_of_ble_eq_true rfl, Nat.le_of_ble_eq_true rfl⟩) (fun r_57 hr_57 => ?_)
            subst hr_57
            refine lv_icmp_ge (tgt := 82) hx hb d_Qu_putByte_60 (by decide) (fun c_60 => ?_) (fun c_60 => ?_)
            · skip
              have f_60 : 7 ≤ v - 7 := Nat.le_of_not_lt (fun z => nI_ge (a := v - 7) (b := 7) z (by decide) c_60)
              refine lv_aload_n hx hb d_Qu_putByte_82 rfl (lv_at hl 3 rfl) ?_
              refine lv_bipush (v := 92) hx hb d_Qu_putByte_83 (by decide) ?_
              have hPc := hP.sub (ws' := [(h, .inr (2, [.ref r, .int (nI L.length)])), (r, .inl (cA, cap, .inl f))]) [0, 1] rfl
              have hKc := hK.sub (tys' := [(cA, .byte)]) [0] rfl
              have hDc := hD.sub (ws' := [(h, .inr (2, [.ref r, .int (nI L.length)])), (r, .inl (cA, cap, .inl f))]) [0, 1] (by decide) rfl
              have hFc := va_free (wc := [(h, .inr (2, [.ref r, .int (nI L.length)])), (r, .inl (cA, cap, .inl f))]) hD hS hA [0, 1] rfl
              refine zz_callv (va_runV (As := [.int 92]) (rest := []) ⟨hx, hb, hml, hown, hg⟩ (c_By_add l dC dI h r cA cap f L 92 hL hc hk  s.heap.size) (cwV 1 hg (gi_V kw_358 kw_166 kw_167 kw_2 kw_168) rfl rfl rfl (by decide +kernel) ⟨Nat.le_of_ble_eq_true rfl, Nat.le_of_ble_eq_true rfl⟩) (zz_preV hPc hKc hDc _ (q0 := 0) (ci := 2) rfl rfl) rfl rfl hl.1 rfl (lv_room (Nat.le_of_ble_eq_true rfl)) d_Qu_putByte_85 ⟨Nat.le_of_ble_eq_true rfl, Nat.le_of_ble_eq_true rfl⟩) hS hFc (fun u H1 k9 p9 d9 => va_join (wr := []) hP hD [0, 1] [] rfl rfl (by decide) (by decide) k9 hFc p9 d9) (fun u H locs hw hP hD hK1 hS => ?_)
              obtain ⟨u_58, rfl⟩ : ∃ z, z = u := ⟨_, rfl⟩
              try dsimp only at hw
              have hP : va_P (dC, dI) vwCl [(h, .inr (2, [.ref r, .int (nI (by_ap cap L [by_b 92]).length)])), (r, .inl (cA, cap, .inl u_58))] H := hP
              have hD : va_D A [(h, .inr (2, [.ref r, .int (nI (by_ap cap L [by_b 92]).length)])), (r, .inl (cA, cap, .inl u_58))] := hD
              have hL_60 := hw
              refine lv_aload_n hx hb d_Qu_putByte_88 rfl (lv_at hl 3 rfl) ?_
              refine lv_bipush (v := 120) hx hb d_Qu_putByte_89 (by decide) ?_
              have hPc := hP.sub (ws' := [(h, .inr (2, [.ref r, .int (nI (by_ap cap L [by_b 92]).length)])), (r, .inl (cA, cap, .inl u_58))]) [0, 1] rfl
              have hKc := hK.sub (tys' := [(cA, .byte)]) [0] rfl
              have hDc := hD.sub (ws' := [(h, .inr (2, [.ref r, .int (nI (by_ap cap L [by_b 92]).length)])), (r, .inl (cA, cap, .inl u_58))]) [0, 1] (by decide) rfl
              have hFc := va_free (wc := [(h, .inr (2, [.ref r, .int (nI (by_ap cap L [by_b 92]).length)])), (r, .inl (cA, cap, .inl u_58))]) hD hS hA [0, 1] rfl
              refine zz_callv (va_runV (As := [.int 120]) (rest := []) ⟨hx, hb, hml, hown, hg⟩ (c_By_add l dC dI h r cA cap u_58 (by_ap cap L [by_b 92]) 120 hL_60 (by_ap_len _ _ _) hk  H.size) (cwV 1 hg (gi_V kw_358 kw_166 kw_167 kw_2 kw_168) rfl rfl rfl (by decide +kernel) ⟨Nat.le_of_ble_eq_true rfl, Nat.le_of_ble_eq_true rfl⟩) (zz_preV hPc hKc hDc _ (q0 := 0) (ci := 2) rfl rfl) rfl rfl hl.1 rfl (lv_room (Nat.le_of_ble_eq_true rfl)) d_Qu_putByte_91 ⟨Nat.le_of_ble_eq_true rfl, Nat.le_of_ble_eq_true rfl⟩) hS hFc (fun u H1 k9 p9 d9 => va_join (wr := []) hP hD [0, 1] [] rfl rfl (by decide) (by decide) k9 hFc p9 d9) (fun u H locs hw hP hD hK1 hS => ?_)
              obtain ⟨u_61, rfl⟩ : ∃ z, z = u := ⟨_, rfl⟩
              try dsimp only at hw
              have hP : va_P (dC, dI) vwCl [(h, .inr (2, [.ref r, .int (nI (by_ap cap (by_ap cap L [by_b 92]) [by_b 120]).length)])), (r, .inl (cA, cap, .inl u_61))] H := hP
              have hD : va_D A [(h, .inr (2, [.ref r, .int (nI (by_ap cap (by_ap cap L [by_b 92]) [by_b 120]).length)])), (r, .inl (cA, cap, .inl u_61))] := hD
              have hL_63 := hw
              refine lv_aload_n hx hb d_Qu_putByte_94 rfl (lv_at hl 3 rfl) ?_
              refine lv_iload_n hx hb d_Qu_putByte_95 rfl (lv_at hl 1 rfl) ?_
              refine lv_iconst (v := 4) hx hb d_Qu_putByte_96 (by decide) ?_
              refine lv_ishr hx hb d_Qu_putByte_97 ?_
              refine lv_bipush (v := 15) hx hb d_Qu_putByte_98 (by decide) ?_
              refine lv_iand hx hb d_Qu_putByte_100 ?_
              rw [qu_h1 hv]
              refine lv_bipush (v := 97) hx hb d_Qu_putByte_101 (by decide) ?_
              have hPc := hP.sub (ws' := []) [] rfl
              have hKc := hK.sub (tys' := []) [] rfl
              refine vp_callSi (W.runS (As := [.int (nI (v / 16)), .int 97]) (rest := [.ref h]) ⟨hx, hb, hml, hown, hg⟩ (c_Nu_digit l dC dI (v / 16) 97 (by omega) (by decide)) (va_cwS 2 hg (gi_S kw_385 kw_386 kw_7 kw_387) rfl rfl rfl (by decide +kernel) ⟨Nat.le_of_ble_eq_true rfl, Nat.le_of_ble_eq_true rfl⟩) (zz_prJS hPc hKc _) rfl rfl hl.1 rfl (lv_room (Nat.le_of_ble_eq_true rfl)) d_Qu_putByte_103 ⟨Nat.le_of_ble_eq_true rfl, Nat.le_of_ble_eq_true rfl⟩) (fun r_64 hr_64 => ?_)
              subst hr_64
              have hPc := hP.sub (ws' := [(h, .inr (2, [.ref r, .int (nI (by_ap cap (by_ap cap L [by_b 92]) [by_b 120]).length)])), (r, .inl (cA, cap, .inl u_61))]) [0, 1] rfl
              have hKc := hK.sub (tys' := [(cA, .byte)]) [0] rfl
              have hDc := hD.sub (ws' := [(h, .inr (2, [.ref r, .int (nI (by_ap cap (by_ap cap L [by_b 92]) [by_b 120]).length)])), (r, .inl (cA, cap, .inl u_61))]) [0, 1] (by decide) rfl
              have hFc := va_free (wc := [(h, .inr (2, [.ref r, .int (nI (by_ap cap (by_ap cap L [by_b 92]) [by_b 120]).length)])), (r, .inl (cA, cap, .inl u_61))]) hD hS hA [0, 1] rfl
              refine zz_callv (va_runV (As := [.int (nI (nu_d 97 (v / 16)))]) (rest := []) ⟨hx, hb, hml, hown, hg⟩ (c_By_add l dC dI h r cA cap u_61 (by_ap cap (by_ap cap L [by_b 92]) [by_b 120]) (nI (nu_d 97 (v / 16))) hL_63 (by_ap_len _ _ _) hk  H.size) (cwV 1 hg (gi_V kw_358 kw_166 kw_167 kw_2 kw_168) rfl rfl rfl (by decide +kernel) ⟨Nat.le_of_ble_eq_true rfl, Nat.le_of_ble_eq_true rfl⟩) (zz_preV hPc hKc hDc _ (q0 := 0) (ci := 2) rfl rfl) rfl rfl hl.1 rfl (lv_room (Nat.le_of_ble_eq_true rfl)) d_Qu_putByte_106 ⟨Nat.le_of_ble_eq_true rfl, Nat.le_of_ble_eq_true rfl⟩) hS hFc (fun u H1 k9 p9 d9 => va_join (wr := []) hP hD [0, 1] [] rfl rfl (by decide) (by decide) k9 hFc p9 d9) (fun u H locs hw hP hD hK1 hS => ?_)
              obtain ⟨u_65, rfl⟩ : ∃ z, z = u := ⟨_, rfl⟩
              try dsimp only at hw
              have hP : va_P (dC, dI) vwCl [(h, .inr (2, [.ref r, .int (nI (by_ap cap (by_ap cap (by_ap cap L [by_b 92]) [by_b 120]) [by_b (nI (nu_d 97 (v / 16)))]).length)])), (r, .inl (cA, cap, .inl u_65))] H := hP
              have hD : va_D A [(h, .inr (2, [.ref r, .int (nI (by_ap cap (by_ap cap (by_ap cap L [by_b 92]) [by_b 120]) [by_b (nI (nu_d 97 (v / 16)))]).length)])), (r, .inl (cA, cap, .inl u_65))] := hD
              have hL_67 := hw
              refine lv_aload_n hx hb d_Qu_putByte_109 rfl (lv_at hl 3 rfl) ?_
              refine lv_iload_n hx hb d_Qu_putByte_110 rfl (lv_at hl 1 rfl) ?_
              refine lv_bipush (v := 15) hx hb d_Qu_putByte_111 (by decide) ?_
              refine lv_iand hx hb d_Qu_putByte_113 ?_
              rw [qu_h2 hv]
              refine lv_bipush (v := 97) hx hb d_Qu_putByte_114 (by decide) ?_
              have hPc := hP.sub (ws' := []) [] rfl
              have hKc := hK.sub (tys' := []) [] rfl
              refine vp_callSi (W.runS (As := [.int (nI (v % 16)), .int 97]) (rest := [.ref h]) ⟨hx, hb, hml, hown, hg⟩ (c_Nu_digit l dC dI (v % 16) 97 (by omega) (by decide)) (va_cwS 2 hg (gi_S kw_385 kw_386 kw_7 kw_387) rfl rfl rfl (by decide +kernel) ⟨Nat.le_of_ble_eq_true rfl, Nat.le_of_ble_eq_true rfl⟩) (zz_prJS hPc hKc _) rfl rfl hl.1 rfl (lv_room (Nat.le_of_ble_eq_true rfl)) d_Qu_putByte_116 ⟨Nat.le_of_ble_eq_true rfl, Nat.le_of_ble_eq_true rfl⟩) (fun r_68 hr_68 => ?_)
              subst hr_68
              have hPc := hP.sub (ws' := [(h, .inr (2, [.ref r, .int (nI (by_ap cap (by_ap cap (by_ap cap L [by_b 92]) [by_b 120]) [by_b (nI (nu_d 97 (v / 16)))]).length)])), (r, .inl (cA, cap, .inl u_65))]) [0, 1] rfl
              have hKc := hK.sub (tys' := [(cA, .byte)]) [0] rfl
              have hDc := hD.sub (ws' := [(h, .inr (2, [.ref r, .int (nI (by_ap cap (by_ap cap (by_ap cap L [by_b 92]) [by_b 120]) [by_b (nI (nu_d 97 (v / 16)))]).length)])), (r, .inl (cA, cap, .inl u_65))]) [0, 1] (by decide) rfl
              have hFc := va_free (wc := [(h, .inr (2, [.ref r, .int (nI (by_ap cap (by_ap cap (by_ap cap L [by_b 92]) [by_b 120]) [by_b (nI (nu_d 97 (v / 16)))]).length)])), (r, .inl (cA, cap, .inl u_65))]) hD hS hA [0, 1] rfl
              refine zz_callv (va_runV (As := [.int (nI (nu_d 97 (v % 16)))]) (rest := []) ⟨hx, hb, hml, hown, hg⟩ (c_By_add l dC dI h r cA cap u_65 (by_ap cap (by_ap cap (by_ap cap L [by_b 92]) [by_b 120]) [by_b (nI (nu_d 97 (v / 16)))]) (nI (nu_d 97 (v % 16))) hL_67 (by_ap_len _ _ _) hk  H.size) (cwV 1 hg (gi_V kw_358 kw_166 kw_167 kw_2 kw_168) rfl rfl rfl (by decide +kernel) ⟨Nat.le_of_ble_eq_true rfl, Nat.le_of_ble_eq_true rfl⟩) (zz_preV hPc hKc hDc _ (q0 := 0) (ci := 2) rfl rfl) rfl rfl hl.1 rfl (lv_room (Nat.le_of_ble_eq_true rfl)) d_Qu_putByte_119 ⟨Nat.le_of_ble_eq_true rfl, Nat.le_of_ble_eq_true rfl⟩) hS hFc (fun u H1 k9 p9 d9 => va_join (wr := []) hP hD [0, 1] [] rfl rfl (by decide) (by decide) k9 hFc p9 d9) (fun u H locs hw hP hD hK1 hS => ?_)
              obtain ⟨u_69, rfl⟩ : ∃ z, z = u := ⟨_, rfl⟩
              try dsimp only at hw
              have hP : va_P (dC, dI) vwCl [(h, .inr (2, [.ref r, .int (nI (by_ap cap (by_ap cap (by_ap cap (by_ap cap L [by_b 92]) [by_b 120]) [by_b (nI (nu_d 97 (v / 16)))]) [by_b (nI (nu_d 97 (v % 16)))]).length)])), (r, .inl (cA, cap, .inl u_69))] H := hP
              have hD : va_D A [(h, .inr (2, [.ref r, .int (nI (by_ap cap (by_ap cap (by_ap cap (by_ap cap L [by_b 92]) [by_b 120]) [by_b (nI (nu_d 97 (v / 16)))]) [by_b (nI (nu_d 97 (v % 16)))]).length)])), (r, .inl (cA, cap, .inl u_69))] := hD
              have hL_71 := hw
              have hP9 := hP.sub (ws' := [(h, .inr (2, [.ref r, .int (nI (by_ap cap (by_ap cap (by_ap cap (by_ap cap L [by_b 92]) [by_b 120]) [by_b (nI (nu_d 97 (v / 16)))]) [by_b (nI (nu_d 97 (v % 16)))]).length)])), (r, .inl (cA, cap, .inl u_69))]) [0, 1] rfl
              have hD9 := hD.sub (ws' := [(h, .inr (2, [.ref r, .int (nI (by_ap cap (by_ap cap (by_ap cap (by_ap cap L [by_b 92]) [by_b 120]) [by_b (nI (nu_d 97 (v / 16)))]) [by_b (nI (nu_d 97 (v % 16)))]).length)])), (r, .inl (cA, cap, .inl u_69))]) [0, 1] (by decide) rfl
              have hK9 := hK.sub (tys' := [(cA, .byte)]) [0] rfl
              rw [qe_4 (by omega) f_8 f_13] at hP9 hD9
              exact zz_vret hx hb hr hlocks d_Qu_putByte_122 hS (by first | exact Nat.le_refl _ | decide | omega | (dsimp only; omega)) (by first | exact Nat.le_refl _ | decide | omega | (dsimp only; omega)) u_69 (by rw [qe_4 (by omega) f_8 f_13] at hL_71; exact hL_71) hP9 hK9 hD9
            · skip
              have f_60 : v - 7 < 7 := Nat.lt_of_not_le (fun z => c_60 (nI_le (a := 7) z (by omega)))
              refine lv_aload_n hx hb d_Qu_putByte_63 rfl (lv_at hl 3 rfl) ?_
              refine lv_bipush (v := 92) hx hb d_Qu_putByte_64 (by decide) ?_
              have hPc := hP.sub (ws' := [(h, .inr (2, [.ref r, .int (nI L.length)])), (r, .inl (cA, cap, .inl f))]) [0, 1] rfl
              have hKc := hK.sub (tys' := [(cA, .byte)]) [0] rfl
              have hDc := hD.sub (ws' := [(h, .inr (2, [.ref r, .int (nI L.length)])), (r, .inl (cA, cap, .inl f))]) [0, 1] (by decide) rfl
              have hFc := va_free (wc := [(h, .inr (2, [.ref r, .int (nI L.length)])), (r, .inl (cA, cap, .inl f))]) hD hS hA [0, 1] rfl
              refine zz_callv (va_runV (As := [.int 92]) (rest := []) ⟨hx, hb, hml, hown, hg⟩ (c_By_add l dC dI h r cA cap f L 92 hL hc hk  s.heap.size) (cwV 1 hg (gi_V kw_358 kw_166 kw_167 kw_2 kw_168) rfl rfl rfl (by decide +kernel) ⟨Nat.le_of_ble_eq_true rfl, Nat.le_of_ble_eq_true rfl⟩) (zz_preV hPc hKc hDc _ (q0 := 0) (ci := 2) rfl rfl) rfl rfl hl.1 rfl (lv_room (Nat.le_of_ble_eq_true rfl)) d_Qu_putByte_66 ⟨Nat.le_of_ble_eq_true rfl, Nat.le_of_ble_eq_true rfl⟩) hS hFc (fun u H1 k9 p9 d9 => va_join (wr := []) hP hD [0, 1] [] rfl rfl (by decide) (by decide) k9 hFc p9 d9) (fun u H locs hw hP hD hK1 hS => ?_)
              obtain ⟨u_72, rfl⟩ : ∃ z, z = u := ⟨_, rfl⟩
              try dsimp only at hw
              have hP : va_P (dC, dI) vwCl [(h, .inr (2, [.ref r, .int (nI (by_ap cap L [by_b 92]).length)])), (r, .inl (cA, cap, .inl u_72))] H := hP
              have hD : va_D A [(h, .inr (2, [.ref r, .int (nI (by_ap cap L [by_b 92]).length)])), (r, .inl (cA, cap, .inl u_72))] := hD
              have hL_74 := hw
              refine lv_aload_n hx hb d_Qu_putByte_69 rfl (lv_at hl 3 rfl) ?_
              refine va_ldcS (q := ad 12) hx hb hown (show vk_R "TextForge$Quoting" 50 "abtnvfr" (ad 12) s from (hX.2.1 12 (by decide)).1) d_Qu_putByte_70 ?_
              refine lv_iload_n hx hb d_Qu_putByte_72 rfl (lv_at hl 0 rfl) ?_
              have hPc := hP.sub (ws' := []) [] rfl
              have hKc := hK.sub (tys' := []) [] rfl
              refine vp_callSi (W.runV (As := [.int (nI (v - 7))]) (rest := [.ref h]) ⟨hx, hb, hml, hown, hg⟩ (c_St_charAt l dC dI ad 12 (v - 7) (by decide) (show v - 7 < (kxB 12).length from f_60)) (cwV 1 hg (gi_V kw_384 kw_315 kw_316 kw_16 kw_317) rfl rfl rfl (by decide +kernel) ⟨Nat.le_of_ble_eq_true rfl, Nat.le_of_ble_eq_true rfl⟩) (zy_prSt (i := 12) (by decide) hX hS hPc hKc _) rfl rfl hl.1 rfl (lv_room (Nat.le_of_ble_eq_true rfl)) d_Qu_putByte_73 ⟨Nat.le_of_ble_eq_true rfl, Nat.le_of_ble_eq_true rfl⟩) (fun r_75 hr_75 => ?_)
              subst hr_75
              have hPc := hP.sub (ws' := [(h, .inr (2, [.ref r, .int (nI (by_ap cap L [by_b 92]).length)])), (r, .inl (cA, cap, .inl u_72))]) [0, 1] rfl
              have hKc := hK.sub (tys' := [(cA, .byte)]) [0] rfl
              have hDc := hD.sub (ws' := [(h, .inr (2, [.ref r, .int (nI (by_ap cap L [by_b 92]).length)])), (r, .inl (cA, cap, .inl u_72))]) [0, 1] (by decide) rfl
              have hFc := va_free (wc := [(h, .inr (2, [.ref r, .int (nI (by_ap cap L [by_b 92]).length)])), (r, .inl (cA, cap, .inl u_72))]) hD hS hA [0, 1] rfl
              refine zz_callv (va_runV (As := [.int (nI ((kxB 12).getD (v - 7) 0))]) (rest := []) ⟨hx, hb, hml, hown, hg⟩ (c_By_add l dC dI h r cA cap u_72 (by_ap cap L [by_b 92]) (nI ((kxB 12).getD (v - 7) 0)) hL_74 (by_ap_len _ _ _) hk  H.size) (cwV 1 hg (gi_V kw_358 kw_166 kw_167 kw_2 kw_168) rfl rfl rfl (by decide +kernel) ⟨Nat.le_of_ble_eq_true rfl, Nat.le_of_ble_eq_true rfl⟩) (zz_preV hPc hKc hDc _ (q0 := 0) (ci := 2) rfl rfl) rfl rfl hl.1 rfl (lv_room (Nat.le_of_ble_eq_true rfl)) d_Qu_putByte_76 ⟨Nat.le_of_ble_eq_true rfl, Nat.le_of_ble_eq_true rfl⟩) hS hFc (fun u H1 k9 p9 d9 => va_join (wr := []) hP hD [0, 1] [] rfl rfl (by decide) (by decide) k9 hFc p9 d9) (fun u H locs hw hP hD hK1 hS => ?_)
              obtain ⟨u_76, rfl⟩ : ∃ z, z = u := ⟨_, rfl⟩
              try dsimp only at hw
              have hP : va_P (dC, dI) vwCl [(h, .inr (2, [.ref r, .int (nI (by_ap cap (by_ap cap L [by_b 92]) [by_b (nI ((kxB 12).getD (v - 7) 0))]).length)])), (r, .inl (cA, cap, .inl u_76))] H := hP
              have hD : va_D A [(h, .inr (2, [.ref r, .int (nI (by_ap cap (by_ap cap L [by_b 92]) [by_b (nI ((kxB 12).getD (v - 7) 0))]).length)])), (r, .inl (cA, cap, .inl u_76))] := hD
              have hL_78 := hw
              refine lv_goto (tgt := 122) hx hb d_Qu_putByte_79 (by decide) ?_
              have hP9 := hP.sub (ws' := [(h, .inr (2, [.ref r, .int (nI (by_ap cap (by_ap cap L [by_b 92]) [by_b (nI ((kxB 12).getD (v - 7) 0))]).length)])), (r, .inl (cA, cap, .inl u_76))]) [0, 1] rfl
              have hD9 := hD.sub (ws' := [(h, .inr (2, [.ref r, .int (nI (by_ap cap (by_ap cap L [by_b 92]) [by_b (nI ((kxB 12).getD (v - 7) 0))]).length)])), (r, .inl (cA, cap, .inl u_76))]) [0, 1] (by decide) rfl
              have hK9 := hK.sub (tys' := [(cA, .byte)]) [0] rfl
              rw [qe_3 (by omega) f_8 f_13] at hP9 hD9
              exact zz_vret hx hb hr hlocks d_Qu_putByte_122 hS (by first | exact Nat.le_refl _ | decide | omega | (dsimp only; omega)) (by first | exact Nat.le_refl _ | decide | omega | (dsimp only; omega)) u_76 (by rw [qe_3 (by omega) f_8 f_13] at hL_78; exact hL_78) hP9 hK9 hD9
        · skip
          have f_39 : v < 127 := Nat.lt_of_not_le (fun z => c_39 (nI_le (a := 127) z (by omega)))
          refine lv_aload_n hx hb d_Qu_putByte_42 rfl (lv_at hl 3 rfl) ?_
          refine lv_iload_n hx hb d_Qu_putByte_43 rfl (lv_at hl 1 rfl) ?_
          have hPc := hP.sub (ws' := [(h, .inr (2, [.ref r, .int (nI L.length)])), (r, .inl (cA, cap, .inl f))]) [0, 1] rfl
          have hKc := hK.sub (tys' := [(cA, .byte)]) [0] rfl
          have hDc := hD.sub (ws' := [(h, .inr (2, [.ref r, .int (nI L.length)])), (r, .inl (cA, cap, .inl f))]) [0, 1] (by decide) rfl
          have hFc := va_free (wc := [(h, .inr (2, [.ref r, .int (nI L.length)])), (r, .inl (cA, cap, .inl f))]) hD hS hA [0, 1] rfl
          refine zz_callv (va_runV (As := [.int (nI v)]) (rest := []) ⟨hx, hb, hml, hown, hg⟩ (c_By_add l dC dI h r cA cap f L (nI v) hL hc hk  s.heap.size) (cwV 1 hg (gi_V kw_358 kw_166 kw_167 kw_2 kw_168) rfl rfl rfl (by decide +kernel) ⟨Nat.le_of_ble_eq_true rfl, Nat.le_of_ble_eq_true rfl⟩) (zz_preV hPc hKc hDc _ (q0 := 0) (ci := 2) rfl rfl) rfl rfl hl.1 rfl (lv_room (Nat.le_of_ble_eq_true rfl)) d_Qu_putByte_44 ⟨Nat.le_of_ble_eq_true rfl, Nat.le_of_ble_eq_true rfl⟩) hS hFc (fun u H1 k9 p9 d9 => va_join (wr := []) hP hD [0, 1] [] rfl rfl (by decide) (by decide) k9 hFc p9 d9) (fun u H locs hw hP hD hK1 hS => ?_)
          obtain ⟨u_79, rfl⟩ : ∃ z, z = u := ⟨_, rfl⟩
          try dsimp only at hw
          have hP : va_P (dC, dI) vwCl [(h, .inr (2, [.ref r, .int (nI (by_ap cap L [by_b (nI v)]).length)])), (r, .inl (cA, cap, .inl u_79))] H := hP
          have hD : va_D A [(h, .inr (2, [.ref r, .int (nI (by_ap cap L [by_b (nI v)]).length)])), (r, .inl (cA, cap, .inl u_79))] := hD
          have hL_81 := hw
          refine lv_goto (tgt := 122) hx hb d_Qu_putByte_47 (by decide) ?_
          have hP9 := hP.sub (ws' := [(h, .inr (2, [.ref r, .int (nI (by_ap cap L [by_b (nI v)]).length)])), (r, .inl (cA, cap, .inl u_79))]) [0, 1] rfl
          have hD9 := hD.sub (ws' := [(h, .inr (2, [.ref r, .int (nI (by_ap cap L [by_b (nI v)]).length)])), (r, .inl (cA, cap, .inl u_79))]) [0, 1] (by decide) rfl
          have hK9 := hK.sub (tys' := [(cA, .byte)]) [0] rfl
          rw [qe_2 (by omega) f_8 f_13] at hP9 hD9
          exact zz_vret hx hb hr hlocks d_Qu_putByte_122 hS (by first | exact Nat.le_refl _ | decide | omega | (dsimp only; omega)) (by first | exact Nat.le_refl _ | decide | omega | (dsimp only; omega)) u_79 (by rw [qe_2 (by omega) f_8 f_13] at hL_81; exact hL_81) hP9 hK9 hD9
    · skip
      have f_13 : v = mk := nI_e1 (b := mk) c_13 (by omega) (by omega)
      refine lv_aload_n hx hb d_Qu_putByte_16 rfl (lv_at hl 3 rfl) ?_
      refine lv_bipush (v := 92) hx hb d_Qu_putByte_17 (by decide) ?_
      have hPc := hP.sub (ws' := [(h, .inr (2, [.ref r, .int (nI L.length)])), (r, .inl (cA, cap, .inl f))]) [0, 1] rfl
      have hKc := hK.sub (tys' := [(cA, .byte)]) [0] rfl
      have hDc := hD.sub (ws' := [(h, .inr (2, [.ref r, .int (nI L.length)])), (r, .inl (cA, cap, .inl f))]) [0, 1] (by decide) rfl
      have hFc := va_free (wc := [(h, .inr (2, [.ref r, .int (nI L.length)])), (r, .inl (cA, cap, .inl f))]) hD hS hA [0, 1] rfl
      refine zz_callv (va_runV (As := [.int 92]) (rest := []) ⟨hx, hb, hml, hown, hg⟩ (c_By_add l dC dI h r cA cap f L 92 hL hc hk  s.heap.size) (cwV 1 hg (gi_V kw_358 kw_166 kw_167 kw_2 kw_168) rfl rfl rfl (by decide +kernel) ⟨Nat.le_of_ble_eq_true rfl, Nat.le_of_ble_eq_true rfl⟩) (zz_preV hPc hKc hDc _ (q0 := 0) (ci := 2) rfl rfl) rfl rfl hl.1 rfl (lv_room (Nat.le_of_ble_eq_true rfl)) d_Qu_putByte_19 ⟨Nat.le_of_ble_eq_true rfl, Nat.le_of_ble_eq_true rfl⟩) hS hFc (fun u H1 k9 p9 d9 => va_join (wr := []) hP hD [0, 1] [] rfl rfl (by decide) (by decide) k9 hFc p9 d9) (fun u H locs hw hP hD hK1 hS => ?_)
      obtain ⟨u_82, rfl⟩ : ∃ z, z = u := ⟨_, rfl⟩
      try dsimp only at hw
      have hP : va_P (dC, dI) vwCl [(h, .inr (2, [.ref r, .int (nI (by_ap cap L [by_b 92]).length)])), (r, .inl (cA, cap, .inl u_82))] H := hP
      have hD : va_D A [(h, .inr (2, [.ref r, .int (nI (by_ap cap L [by_b 92]).length)])), (r, .inl (cA, cap, .inl u_82))] := hD
      have hL_84 := hw
      refine lv_aload_n hx hb d_Qu_putByte_22 rfl (lv_at hl 3 rfl) ?_
      refine lv_iload_n hx hb d_Qu_putByte_23 rfl (lv_at hl 1 rfl) ?_
      have hPc := hP.sub (ws' := [(h, .inr (2, [.ref r, .int (nI (by_ap cap L [by_b 92]).length)])), (r, .inl (cA, cap, .inl u_82))]) [0, 1] rfl
      have hKc := hK.sub (tys' := [(cA, .byte)]) [0] rfl
      have hDc := hD.sub (ws' := [(h, .inr (2, [.ref r, .int (nI (by_ap cap L [by_b 92]).length)])), (r, .inl (cA, cap, .inl u_82))]) [0, 1] (by decide) rfl
      have hFc := va_free (wc := [(h, .inr (2, [.ref r, .int (nI (by_ap cap L [by_b 92]).length)])), (r, .inl (cA, cap, .inl u_82))]) hD hS hA [0, 1] rfl
      refine zz_callv (va_runV (As := [.int (nI v)]) (rest := []) ⟨hx, hb, hml, hown, hg⟩ (c_By_add l dC dI h r cA cap u_82 (by_ap cap L [by_b 92]) (nI v) hL_84 (by_ap_len _ _ _) hk  H.size) (cwV 1 hg (gi_V kw_358 kw_166 kw_167 kw_2 kw_168) rfl rfl rfl (by decide +kernel) ⟨Nat.le_of_ble_eq_true rfl, Nat.le_of_ble_eq_true rfl⟩) (zz_preV hPc hKc hDc _ (q0 := 0) (ci := 2) rfl rfl) rfl rfl hl.1 rfl (lv_room (Nat.le_of_ble_eq_true rfl)) d_Qu_putByte_24 ⟨Nat.le_of_ble_eq_true rfl, Nat.le_of_ble_eq_true rfl⟩) hS hFc (fun u H1 k9 p9 d9 => va_join (wr := []) hP hD [0, 1] [] rfl rfl (by decide) (by decide) k9 hFc p9 d9) (fun u H locs hw hP hD hK1 hS => ?_)
      obtain ⟨u_85, rfl⟩ : ∃ z, z = u := ⟨_, rfl⟩
      try dsimp only at hw
      have hP : va_P (dC, dI) vwCl [(h, .inr (2, [.ref r, .int (nI (by_ap cap (by_ap cap L [by_b 92]) [by_b (nI v)]).length)])), (r, .inl (cA, cap, .inl u_85))] H := hP
      have hD : va_D A [(h, .inr (2, [.ref r, .int (nI (by_ap cap (by_ap cap L [by_b 92]) [by_b (nI v)]).length)])), (r, .inl (cA, cap, .inl u_85))] := hD
      have hL_87 := hw
      refine lv_goto (tgt := 122) hx hb d_Qu_putByte_27 (by decide) ?_
      have hP9 := hP.sub (ws' := [(h, .inr (2, [.ref r, .int (nI (by_ap cap (by_ap cap L [by_b 92]) [by_b (nI v)]).length)])), (r, .inl (cA, cap, .inl u_85))]) [0, 1] rfl
      have hD9 := hD.sub (ws' := [(h, .inr (2, [.ref r, .int (nI (by_ap cap (by_ap cap L [by_b 92]) [by_b (nI v)]).length)])), (r, .inl (cA, cap, .inl u_85))]) [0, 1] (by decide) rfl
      have hK9 := hK.sub (tys' := [(cA, .byte)]) [0] rfl
      rw [qe_1 (Or.inr f_13) hv] at hP9 hD9
      exact zz_vret hx hb hr hlocks d_Qu_putByte_122 hS (by first | exact Nat.le_refl _ | decide | omega | (dsimp only; omega)) (by first | exact Nat.le_refl _ | decide | omega | (dsimp only; omega)) u_85 (by rw [qe_1 (Or.inr f_13) hv] at hL_87; exact hL_87) hP9 hK9 hD9
abbrev y_Qu_putCode : MethodName := ⟨"TextForge$Quoting", "putCode", "(ILTextForge$Bytes;)V"⟩
abbrev w_Qu_putCode : List Cond := Cond.code y_Qu_putCode prog_9_method_3_code 2 none :: gw
theorem d_Qu_putCode_0 : decode prog_9_method_3_code 0 = .ok (.aload_n 1, 1) := by decide +kernel
theorem d_Qu_putCode_1 : decode prog_9_method_3_code 1 = .ok (.bipush 39, 2) := by decide +kernel
theorem d_Qu_putCode_3 : decode prog_9_method_3_code 3 = .ok (.invokevirtual 7, 3) := by decide +kernel
theorem d_Qu_putCode_6 : decode prog_9_method_3_code 6 = .ok (.iload_n 0, 1) := by decide +kernel
theorem d_Qu_putCode_7 : decode prog_9_method_3_code 7 = .ok (.sipush 128, 3) := by decide +kernel
theorem d_Qu_putCode_10 : decode prog_9_method_3_code 10 = .ok (.if_icmp .ge 13, 3) := by decide +kernel
theorem d_Qu_putCode_13 : decode prog_9_method_3_code 13 = .ok (.iload_n 0, 1) := by decide +kernel
theorem d_Qu_putCode_14 : decode prog_9_method_3_code 14 = .ok (.bipush 39, 2) := by decide +kernel
theorem d_Qu_putCode_16 : decode prog_9_method_3_code 16 = .ok (.aload_n 1, 1) := by decide +kernel
theorem d_Qu_putCode_17 : decode prog_9_method_3_code 17 = .ok (.invokestatic 34, 3) := by decide +kernel
theorem d_Qu_putCode_20 : decode prog_9_method_3_code 20 = .ok (.goto 8, 3) := by decide +kernel
theorem d_Qu_putCode_23 : decode prog_9_method_3_code 23 = .ok (.iload_n 0, 1) := by decide +kernel
theorem d_Qu_putCode_24 : decode prog_9_method_3_code 24 = .ok (.aload_n 1, 1) := by decide +kernel
theorem d_Qu_putCode_25 : decode prog_9_method_3_code 25 = .ok (.invokestatic 46, 3) := by decide +kernel
theorem d_Qu_putCode_28 : decode prog_9_method_3_code 28 = .ok (.aload_n 1, 1) := by decide +kernel
theorem d_Qu_putCode_29 : decode prog_9_method_3_code 29 = .ok (.bipush 39, 2) := by decide +kernel
theorem d_Qu_putCode_31 : decode prog_9_method_3_code 31 = .ok (.invokevirtual 7, 3) := by decide +kernel
theorem d_Qu_putCode_34 : decode prog_9_method_3_code 34 = .ok (.return_, 1) := by decide +kernel
set_option maxHeartbeats 4000000 in
set_option maxRecDepth 100000 in
theorem c_Qu_putCode (l : Launch) (dC : Nat → ClassId) (dI : Nat → Nat → Nat) (ad : Nat → Nat) (h r : Nat) (cA : ClassId) (cap : Nat) (f : Nat → Int32) (L : List Nat) (c0 : Nat) (hL : by_L L f) (hc : L.length ≤ cap) (hk : cap < 2147483648) (hc0 : c0 ≤ 1114111) : yM_v (S := Nat → Int32) ad l y_Qu_putCode w_Qu_putCode { frames := 5, cells := 0, slots := 0, locals := 108 } (dC, dI) vwCl [.int (nI c0), .ref h] [(h, .inr (2, [.ref r, .int (nI L.length)])), (r, .inl (cA, cap, .inl f))] [(cA, .byte)] (fun (u : Nat → Int32) => by_L (by_ap cap L (qu_c c0)) u) (fun u => [(h, .inr (2, [.ref r, .int (nI (by_ap cap L (qu_c c0)).length)])), (r, .inl (cA, cap, .inl u))]) (fun u => [(cA, .byte)]) 0 0 := by
  refine zy_enterv (cc := prog_9_method_3_code) (nL := 2) (ret := none) (by decide) rfl (Nat.le_of_ble_eq_true rfl) ?_
  intro p e s m below meth c A ls C0 hA hS hP hK hD hl hX
  obtain ⟨hx, hb, hml, hown, hg, hr, hlocks, hin⟩ := C0
  have hown : s.vm.findClass "TextForge$Quoting" = some m.cls := hown
  have hP : va_P (dC, dI) vwCl [(h, .inr (2, [.ref r, .int (nI L.length)])), (r, .inl (cA, cap, .inl f))] s.heap := hP
  have hK : va_K (dC, dI) vwCl [(cA, .byte)] s := hK
  have hD : va_D A [(h, .inr (2, [.ref r, .int (nI L.length)])), (r, .inl (cA, cap, .inl f))] := hD
  have hl : lv_has ls 2 [(0, .int (nI c0)), (1, .ref h)] := hl
  refine lv_aload_n hx hb d_Qu_putCode_0 rfl (lv_at hl 1 rfl) ?_
  refine lv_bipush (v := 39) hx hb d_Qu_putCode_1 (by decide) ?_
  have hPc := hP.sub (ws' := [(h, .inr (2, [.ref r, .int (nI L.length)])), (r, .inl (cA, cap, .inl f))]) [0, 1] rfl
  have hKc := hK.sub (tys' := [(cA, .byte)]) [0] rfl
  have hDc := hD.sub (ws' := [(h, .inr (2, [.ref r, .int (nI L.length)])), (r, .inl (cA, cap, .inl f))]) [0, 1] (by decide) rfl
  have hFc := va_free (wc := [(h, .inr (2, [.ref r, .int (nI L.length)])), (r, .inl (cA, cap, .inl f))]) hD hS hA [0, 1] rfl
  refine zz_callv (va_runV (As := [.int 39]) (rest := []) ⟨hx, hb, hml, hown, hg⟩ (c_By_add l dC dI h r cA cap f L 39 hL hc hk  s.heap.size) (cwV 1 hg (gi_V kw_358 kw_166 kw_167 kw_2 kw_168) rfl rfl rfl (by decide +kernel) ⟨Nat.le_of_ble_eq_true rfl, Nat.le_of_ble_eq_true rfl⟩) (zz_preV hPc hKc hDc _ (q0 := 0) (ci := 2) rfl rfl) rfl rfl hl.1 rfl (lv_room (Nat.le_of_ble_eq_true rfl)) d_Qu_putCode_3 ⟨Nat.le_of_ble_eq_true rfl, Nat.le_of_ble_eq_true rfl⟩) hS hFc (fun u H1 k9 p9 d9 => va_join (wr := []) hP hD [0, 1] [] rfl rfl (by decide) (by decide) k9 hFc p9 d9) (fun u H locs hw hP hD hK1 hS => ?_)
  obtain ⟨u_1, rfl⟩ : ∃ z, z = u := ⟨_, rfl⟩
  try dsimp only at hw
  have hP : va_P (dC, dI) vwCl [(h, .inr (2, [.ref r, .int (nI (by_ap cap L [by_b 39]).length)])), (r, .inl (cA, cap, .inl u_1))] H := hP
  have hD : va_D A [(h, .inr (2, [.ref r, .int (nI (by_ap cap L [by_b 39]).length)])), (r, .inl (cA, cap, .inl u_1))] := hD
  have hL_3 := hw
  refine lv_iload_n hx hb d_Qu_putCode_6 rfl (lv_at hl 0 rfl) ?_
  refine lv_sipush (v := 128) hx hb d_Qu_putCode_7 (by decide) ?_
  refine lv_icmp_ge (tgt := 23) hx hb d_Qu_putCode_10 (by decide) (fun c_10 => ?_) (fun c_10 => ?_)
  · skip
    have f_10 : 128 ≤ c0 := Nat.le_of_not_lt (fun z => nI_ge (b := 128) z (by omega) c_10)
    refine lv_iload_n hx hb d_Qu_putCode_23 rfl (lv_at hl 0 rfl) ?_
    refine lv_aload_n hx hb d_Qu_putCode_24 rfl (lv_at hl 1 rfl) ?_
    have hPc := hP.sub (ws' := [(h, .inr (2, [.ref r, .int (nI (by_ap cap L [by_b 39]).length)])), (r, .inl (cA, cap, .inl u_1))]) [0, 1] rfl
    have hKc := hK.sub (tys' := [(cA, .byte)]) [0] rfl
    have hDc := hD.sub (ws' := [(h, .inr (2, [.ref r, .int (nI (by_ap cap L [by_b 39]).length)])), (r, .inl (cA, cap, .inl u_1))]) [0, 1] (by decide) rfl
    have hFc := va_free (wc := [(h, .inr (2, [.ref r, .int (nI (by_ap cap L [by_b 39]).length)])), (r, .inl (cA, cap, .inl u_1))]) hD hS hA [0, 1] rfl
    refine zz_callv (va_runS (As := [.int (nI c0), .ref h]) (rest := []) ⟨hx, hb, hml, hown, hg⟩ (c_Ut_put l dC dI h r cA cap u_1 (by_ap cap L [by_b 39]) c0 hL_3 (by_ap_len _ _ _) hk hc0 H.size) (va_cwS 2 hg (gi_S kw_413 kw_407 kw_21 kw_408) rfl rfl rfl (by decide +kernel) ⟨Nat.le_of_ble_eq_true rfl, Nat.le_of_ble_eq_true rfl⟩) (zz_preS hPc hKc hDc _) rfl rfl hl.1 rfl (lv_room (Nat.le_of_ble_eq_true rfl)) d_Qu_putCode_25 ⟨Nat.le_of_ble_eq_true rfl, Nat.le_of_ble_eq_true rfl⟩) hS hFc (fun u H1 k9 p9 d9 => va_join (wr := []) hP hD [0, 1] [] rfl rfl (by decide) (by decide) k9 hFc p9 d9) (fun u H locs hw hP hD hK1 hS => ?_)
    obtain ⟨u_4, rfl⟩ : ∃ z, z = u := ⟨_, rfl⟩
    try dsimp only at hw
    have hP : va_P (dC, dI) vwCl [(h, .inr (2, [.ref r, .int (nI (by_ap cap (by_ap cap L [by_b 39]) (ut_8 c0)).length)])), (r, .inl (cA, cap, .inl u_4))] H := hP
    have hD : va_D A [(h, .inr (2, [.ref r, .int (nI (by_ap cap (by_ap cap L [by_b 39]) (ut_8 c0)).length)])), (r, .inl (cA, cap, .inl u_4))] := hD
    have hL_6 := hw
    refine lv_aload_n hx hb d_Qu_putCode_28 rfl (lv_at hl 1 rfl) ?_
    refine lv_bipush (v := 39) hx hb d_Qu_putCode_29 (by decide) ?_
    have hPc := hP.sub (ws' := [(h, .inr (2, [.ref r, .int (nI (by_ap cap (by_ap cap L [by_b 39]) (ut_8 c0)).length)])), (r, .inl (cA, cap, .inl u_4))]) [0, 1] rfl
    have hKc := hK.sub (tys' := [(cA, .byte)]) [0] rfl
    have hDc := hD.sub (ws' := [(h, .inr (2, [.ref r, .int (nI (by_ap cap (by_ap cap L [by_b 39]) (ut_8 c0)).length)])), (r, .inl (cA, cap, .inl u_4))]) [0, 1] (by decide) rfl
    have hFc := va_free (wc := [(h, .inr (2, [.ref r, .int (nI (by_ap cap (by_ap cap L [by_b 39]) (ut_8 c0)).length)])), (r, .inl (cA, cap, .inl u_4))]) hD hS hA [0, 1] rfl
    refine zz_callv (va_runV (As := [.int 39]) (rest := []) ⟨hx, hb, hml, hown, hg⟩ (c_By_add l dC dI h r cA cap u_4 (by_ap cap (by_ap cap L [by_b 39]) (ut_8 c0)) 39 hL_6 (by_ap_len _ _ _) hk  H.size) (cwV 1 hg (gi_V kw_358 kw_166 kw_167 kw_2 kw_168) rfl rfl rfl (by decide +kernel) ⟨Nat.le_of_ble_eq_true rfl, Nat.le_of_ble_eq_true rfl⟩) (zz_preV hPc hKc hDc _ (q0 := 0) (ci := 2) rfl rfl) rfl rfl hl.1 rfl (lv_room (Nat.le_of_ble_eq_true rfl)) d_Qu_putCode_31 ⟨Nat.le_of_ble_eq_true rfl, Nat.le_of_ble_eq_true rfl⟩) hS hFc (fun u H1 k9 p9 d9 => va_join (wr := []) hP hD [0, 1] [] rfl rfl (by decide) (by decide) k9 hFc p9 d9) (fun u H locs hw hP hD hK1 hS => ?_)
    obtain ⟨u_7, rfl⟩ : ∃ z, z = u := ⟨_, rfl⟩
    try dsimp only at hw
    have hP : va_P (dC, dI) vwCl [(h, .inr (2, [.ref r, .int (nI (by_ap cap (by_ap cap (by_ap cap L [by_b 39]) (ut_8 c0)) [by_b 39]).length)])), (r, .inl (cA, cap, .inl u_7))] H := hP
    have hD : va_D A [(h, .inr (2, [.ref r, .int (nI (by_ap cap (by_ap cap (by_ap cap L [by_b 39]) (ut_8 c0)) [by_b 39]).length)])), (r, .inl (cA, cap, .inl u_7))] := hD
    have hL_9 := hw
    have hP9 := hP.sub (ws' := [(h, .inr (2, [.ref r, .int (nI (by_ap cap (by_ap cap (by_ap cap L [by_b 39]) (ut_8 c0)) [by_b 39]).length)])), (r, .inl (cA, cap, .inl u_7))]) [0, 1] rfl
    have hD9 := hD.sub (ws' := [(h, .inr (2, [.ref r, .int (nI (by_ap cap (by_ap cap (by_ap cap L [by_b 39]) (ut_8 c0)) [by_b 39]).length)])), (r, .inl (cA, cap, .inl u_7))]) [0, 1] (by decide) rfl
    have hK9 := hK.sub (tys' := [(cA, .byte)]) [0] rfl
    rw [qc_2 f_10] at hP9 hD9
    exact zz_vret hx hb hr hlocks d_Qu_putCode_34 hS (by first | exact Nat.le_refl _ | decide | omega | (dsimp only; omega)) (by first | exact Nat.le_refl _ | decide | omega | (dsimp only; omega)) u_7 (by rw [qc_2 f_10] at hL_9; exact hL_9) hP9 hK9 hD9
  · skip
    have f_10 : c0 < 128 := Nat.lt_of_not_le (fun z => c_10 (nI_le (a := 128) z (by omega)))
    refine lv_iload_n hx hb d_Qu_putCode_13 rfl (lv_at hl 0 rfl) ?_
    refine lv_bipush (v := 39) hx hb d_Qu_putCode_14 (by decide) ?_
    refine lv_aload_n hx hb d_Qu_putCode_16 rfl (lv_at hl 1 rfl) ?_
    have hPc := hP.sub (ws' := [(h, .inr (2, [.ref r, .int (nI (by_ap cap L [by_b 39]).length)])), (r, .inl (cA, cap, .inl u_1))]) [0, 1] rfl
    have hKc := hK.sub (tys' := [(cA, .byte)]) [0] rfl
    have hDc := hD.sub (ws' := [(h, .inr (2, [.ref r, .int (nI (by_ap cap L [by_b 39]).length)])), (r, .inl (cA, cap, .inl u_1))]) [0, 1] (by decide) rfl
    have hFc := va_free (wc := [(h, .inr (2, [.ref r, .int (nI (by_ap cap L [by_b 39]).length)])), (r, .inl (cA, cap, .inl u_1))]) hD hS hA [0, 1] rfl
    refine zz_callv (va_runS (As := [.int (nI c0), .int 39, .ref h]) (rest := []) ⟨hx, hb, hml, hown, hg⟩ (c_Qu_putByte l dC dI ad h r cA cap u_1 (by_ap cap L [by_b 39]) c0 39 hL_3 (by_ap_len _ _ _) hk (by omega) (by decide) H.size) (va_cwS 3 hg (gi_S kw_379 kw_380 kw_20 kw_381) rfl rfl rfl (by decide +kernel) ⟨Nat.le_of_ble_eq_true rfl, Nat.le_of_ble_eq_true rfl⟩) (zy_preS hX hS hFc hPc hKc hDc _) rfl rfl hl.1 rfl (lv_room (Nat.le_of_ble_eq_true rfl)) d_Qu_putCode_17 ⟨Nat.le_of_ble_eq_true rfl, Nat.le_of_ble_eq_true rfl⟩) hS hFc (fun u H1 k9 p9 d9 => va_join (wr := []) hP hD [0, 1] [] rfl rfl (by decide) (by decide) k9 hFc p9 d9) (fun u H locs hw hP hD hK1 hS => ?_)
    obtain ⟨u_10, rfl⟩ : ∃ z, z = u := ⟨_, rfl⟩
    try dsimp only at hw
    have hP : va_P (dC, dI) vwCl [(h, .inr (2, [.ref r, .int (nI (by_ap cap (by_ap cap L [by_b 39]) (qu_b 39 c0)).length)])), (r, .inl (cA, cap, .inl u_10))] H := hP
    have hD : va_D A [(h, .inr (2, [.ref r, .int (nI (by_ap cap (by_ap cap L [by_b 39]) (qu_b 39 c0)).length)])), (r, .inl (cA, cap, .inl u_10))] := hD
    have hL_12 := hw
    refine lv_goto (tgt := 28) hx hb d_Qu_putCode_20 (by decide) ?_
    refine lv_aload_n hx hb d_Qu_putCode_28 rfl (lv_at hl 1 rfl) ?_
    refine lv_bipush (v := 39) hx hb d_Qu_putCode_29 (by decide) ?_
    have hPc := hP.sub (ws' := [(h, .inr (2, [.ref r, .int (nI (by_ap cap (by_ap cap L [by_b 39]) (qu_b 39 c0)).length)])), (r, .inl (cA, cap, .inl u_10))]) [0, 1] rfl
    have hKc := hK.sub (tys' := [(cA, .byte)]) [0] rfl
    have hDc := hD.sub (ws' := [(h, .inr (2, [.ref r, .int (nI (by_ap cap (by_ap cap L [by_b 39]) (qu_b 39 c0)).length)])), (r, .inl (cA, cap, .inl u_10))]) [0, 1] (by decide) rfl
    have hFc := va_free (wc := [(h, .inr (2, [.ref r, .int (nI (by_ap cap (by_ap cap L [by_b 39]) (qu_b 39 c0)).length)])), (r, .inl (cA, cap, .inl u_10))]) hD hS hA [0, 1] rfl
    refine zz_callv (va_runV (As := [.int 39]) (rest := []) ⟨hx, hb, hml, hown, hg⟩ (c_By_add l dC dI h r cA cap u_10 (by_ap cap (by_ap cap L [by_b 39]) (qu_b 39 c0)) 39 hL_12 (by_ap_len _ _ _) hk  H.size) (cwV 1 hg (gi_V kw_358 kw_166 kw_167 kw_2 kw_168) rfl rfl rfl (by decide +kernel) ⟨Nat.le_of_ble_eq_true rfl, Nat.le_of_ble_eq_true rfl⟩) (zz_preV hPc hKc hDc _ (q0 := 0) (ci := 2) rfl rfl) rfl rfl hl.1 rfl (lv_room (Nat.le_of_ble_eq_true rfl)) d_Qu_putCode_31 ⟨Nat.le_of_ble_eq_true rfl, Nat.le_of_ble_eq_true rfl⟩) hS hFc (fun u H1 k9 p9 d9 => va_join (wr := []) hP hD [0, 1] [] rfl rfl (by decide) (by decide) k9 hFc p9 d9) (fun u H locs hw hP hD hK1 hS => ?_)
    obtain ⟨u_13, rfl⟩ : ∃ z, z = u := ⟨_, rfl⟩
    try dsimp only at hw
    have hP : va_P (dC, dI) vwCl [(h, .inr (2, [.ref r, .int (nI (by_ap cap (by_ap cap (by_ap cap L [by_b 39]) (qu_b 39 c0)) [by_b 39]).length)])), (r, .inl (cA, cap, .inl u_13))] H := hP
    have hD : va_D A [(h, .inr (2, [.ref r, .int (nI (by_ap cap (by_ap cap (by_ap cap L [by_b 39]) (qu_b 39 c0)) [by_b 39]).length)])), (r, .inl (cA, cap, .inl u_13))] := hD
    have hL_15 := hw
    have hP9 := hP.sub (ws' := [(h, .inr (2, [.ref r, .int (nI (by_ap cap (by_ap cap (by_ap cap L [by_b 39]) (qu_b 39 c0)) [by_b 39]).length)])), (r, .inl (cA, cap, .inl u_13))]) [0, 1] rfl
    have hD9 := hD.sub (ws' := [(h, .inr (2, [.ref r, .int (nI (by_ap cap (by_ap cap (by_ap cap L [by_b 39]) (qu_b 39 c0)) [by_b 39]).length)])), (r, .inl (cA, cap, .inl u_13))]) [0, 1] (by decide) rfl
    have hK9 := hK.sub (tys' := [(cA, .byte)]) [0] rfl
    rw [qc_1 f_10] at hP9 hD9
    exact zz_vret hx hb hr hlocks d_Qu_putCode_34 hS (by first | exact Nat.le_refl _ | decide | omega | (dsimp only; omega)) (by first | exact Nat.le_refl _ | decide | omega | (dsimp only; omega)) u_13 (by rw [qc_1 f_10] at hL_15; exact hL_15) hP9 hK9 hD9
abbrev y_Qu_putText : MethodName := ⟨"TextForge$Quoting", "putText", "(LTextForge$Bytes;LTextForge$Bytes;)V"⟩
abbrev w_Qu_putText : List Cond := Cond.code y_Qu_putText prog_9_method_2_code 4 none :: gw
theorem d_Qu_putText_0 : decode prog_9_method_2_code 0 = .ok (.aload_n 1, 1) := by decide +kernel
theorem d_Qu_putText_1 : decode prog_9_method_2_code 1 = .ok (.bipush 34, 2) := by decide +kernel
theorem d_Qu_putText_3 : decode prog_9_method_2_code 3 = .ok (.invokevirtual 7, 3) := by decide +kernel
theorem d_Qu_putText_6 : decode prog_9_method_2_code 6 = .ok (.iconst 1, 1) := by decide +kernel
theorem d_Qu_putText_7 : decode prog_9_method_2_code 7 = .ok (.istore_n 2, 1) := by decide +kernel
theorem d_Qu_putText_8 : decode prog_9_method_2_code 8 = .ok (.iconst 0, 1) := by decide +kernel
theorem d_Qu_putText_9 : decode prog_9_method_2_code 9 = .ok (.istore_n 3, 1) := by decide +kernel
theorem d_Qu_putText_10 : decode prog_9_method_2_code 10 = .ok (.iload_n 3, 1) := by decide +kernel
theorem d_Qu_putText_11 : decode prog_9_method_2_code 11 = .ok (.aload_n 0, 1) := by decide +kernel
theorem d_Qu_putText_12 : decode prog_9_method_2_code 12 = .ok (.invokevirtual 13, 3) := by decide +kernel
theorem d_Qu_putText_15 : decode prog_9_method_2_code 15 = .ok (.if_icmp .ge 51, 3) := by decide +kernel
theorem d_Qu_putText_18 : decode prog_9_method_2_code 18 = .ok (.aload_n 0, 1) := by decide +kernel
theorem d_Qu_putText_19 : decode prog_9_method_2_code 19 = .ok (.iload_n 3, 1) := by decide +kernel
theorem d_Qu_putText_20 : decode prog_9_method_2_code 20 = .ok (.invokestatic 17, 3) := by decide +kernel
theorem d_Qu_putText_23 : decode prog_9_method_2_code 23 = .ok (.invokestatic 23, 3) := by decide +kernel
theorem d_Qu_putText_26 : decode prog_9_method_2_code 26 = .ok (.istore_n 2, 1) := by decide +kernel
theorem d_Qu_putText_27 : decode prog_9_method_2_code 27 = .ok (.iload_n 2, 1) := by decide +kernel
theorem d_Qu_putText_28 : decode prog_9_method_2_code 28 = .ok (.iconst 1, 1) := by decide +kernel
theorem d_Qu_putText_29 : decode prog_9_method_2_code 29 = .ok (.if_icmp .le 15, 3) := by decide +kernel
theorem d_Qu_putText_32 : decode prog_9_method_2_code 32 = .ok (.aload_n 1, 1) := by decide +kernel
theorem d_Qu_putText_33 : decode prog_9_method_2_code 33 = .ok (.aload_n 0, 1) := by decide +kernel
theorem d_Qu_putText_34 : decode prog_9_method_2_code 34 = .ok (.iload_n 3, 1) := by decide +kernel
theorem d_Qu_putText_35 : decode prog_9_method_2_code 35 = .ok (.iload_n 3, 1) := by decide +kernel
theorem d_Qu_putText_36 : decode prog_9_method_2_code 36 = .ok (.iload_n 2, 1) := by decide +kernel
theorem d_Qu_putText_37 : decode prog_9_method_2_code 37 = .ok (.iadd, 1) := by decide +kernel
theorem d_Qu_putText_38 : decode prog_9_method_2_code 38 = .ok (.invokevirtual 27, 3) := by decide +kernel
theorem d_Qu_putText_41 : decode prog_9_method_2_code 41 = .ok (.goto 14, 3) := by decide +kernel
theorem d_Qu_putText_44 : decode prog_9_method_2_code 44 = .ok (.aload_n 0, 1) := by decide +kernel
theorem d_Qu_putText_45 : decode prog_9_method_2_code 45 = .ok (.iload_n 3, 1) := by decide +kernel
theorem d_Qu_putText_46 : decode prog_9_method_2_code 46 = .ok (.invokevirtual 31, 3) := by decide +kernel
theorem d_Qu_putText_49 : decode prog_9_method_2_code 49 = .ok (.bipush 34, 2) := by decide +kernel
theorem d_Qu_putText_51 : decode prog_9_method_2_code 51 = .ok (.aload_n 1, 1) := by decide +kernel
theorem d_Qu_putText_52 : decode prog_9_method_2_code 52 = .ok (.invokestatic 34, 3) := by decide +kernel
theorem d_Qu_putText_55 : decode prog_9_method_2_code 55 = .ok (.iload_n 3, 1) := by decide +kernel
theorem d_Qu_putText_56 : decode prog_9_method_2_code 56 = .ok (.iconst 1, 1) := by decide +kernel
theorem d_Qu_putText_57 : decode prog_9_method_2_code 57 = .ok (.iload_n 2, 1) := by decide +kernel
theorem d_Qu_putText_58 : decode prog_9_method_2_code 58 = .ok (.invokestatic 40, 3) := by decide +kernel
theorem d_Qu_putText_61 : decode prog_9_method_2_code 61 = .ok (.iadd, 1) := by decide +kernel
theorem d_Qu_putText_62 : decode prog_9_method_2_code 62 = .ok (.istore_n 3, 1) := by decide +kernel
theorem d_Qu_putText_63 : decode prog_9_method_2_code 63 = .ok (.goto (-53), 3) := by decide +kernel
theorem d_Qu_putText_66 : decode prog_9_method_2_code 66 = .ok (.aload_n 1, 1) := by decide +kernel
theorem d_Qu_putText_67 : decode prog_9_method_2_code 67 = .ok (.bipush 34, 2) := by decide +kernel
theorem d_Qu_putText_69 : decode prog_9_method_2_code 69 = .ok (.invokevirtual 7, 3) := by decide +kernel
theorem d_Qu_putText_72 : decode prog_9_method_2_code 72 = .ok (.return_, 1) := by decide +kernel
set_option maxHeartbeats 4000000 in
set_option maxRecDepth 100000 in
theorem c_Qu_putText (l : Launch) (dC : Nat → ClassId) (dI : Nat → Nat → Nat) (ad : Nat → Nat) (h2 r2 : Nat) (cA2 : ClassId) (cap2 : Nat) (f2 : Nat → Int32) (L2 : List Nat) (h r : Nat) (cA : ClassId) (cap : Nat) (f : Nat → Int32) (L : List Nat) (hL2 : by_L L2 f2) (hc2 : L2.length ≤ cap2) (hk2 : cap2 < 1000000) (hL : by_L L f) (hc : L.length ≤ cap) (hk : cap < 2147483648) : yM_v (S := Nat → Int32) ad l y_Qu_putText w_Qu_putText { frames := 5, cells := 0, slots := 0, locals := 108 } (dC, dI) vwCl [.ref h2, .ref h] [(h2, .inr (2, [.ref r2, .int (nI L2.length)])), (r2, .inl (cA2, cap2, .inl f2)), (h, .inr (2, [.ref r, .int (nI L.length)])), (r, .inl (cA, cap, .inl f))] [(cA2, .byte), (cA, .byte)] (fun (u : Nat → Int32) => by_L (by_ap cap L (qu_t L2)) u) (fun u => [(h2, .inr (2, [.ref r2, .int (nI L2.length)])), (r2, .inl (cA2, cap2, .inl f2)), (h, .inr (2, [.ref r, .int (nI (by_ap cap L (qu_t L2)).length)])), (r, .inl (cA, cap, .inl u))]) (fun u => [(cA2, .byte), (cA, .byte)]) 0 0 := by
  refine zy_enterv (cc := prog_9_method_2_code) (nL := 4) (ret := none) (by decide) rfl (Nat.le_of_ble_eq_true rfl) ?_
  intro p e s m below meth c A ls C0 hA hS hP hK hD hl hX
  obtain ⟨hx, hb, hml, hown, hg, hr, hlocks, hin⟩ := C0
  have hown : s.vm.findClass "TextForge$Quoting" = some m.cls := hown
  have hP : va_P (dC, dI) vwCl [(h2, .inr (2, [.ref r2, .int (nI L2.length)])), (r2, .inl (cA2, cap2, .inl f2)), (h, .inr (2, [.ref r, .int (nI L.length)])), (r, .inl (cA, cap, .inl f))] s.heap := hP
  have hK : va_K (dC, dI) vwCl [(cA2, .byte), (cA, .byte)] s := hK
  have hD : va_D A [(h2, .inr (2, [.ref r2, .int (nI L2.length)])), (r2, .inl (cA2, cap2, .inl f2)), (h, .inr (2, [.ref r, .int (nI L.length)])), (r, .inl (cA, cap, .inl f))] := hD
  have hl : lv_has ls 4 [(0, .ref h2), (1, .ref h)] := hl
  refine lv_aload_n hx hb d_Qu_putText_0 rfl (lv_at hl 1 rfl) ?_
  refine lv_bipush (v := 34) hx hb d_Qu_putText_1 (by decide) ?_
  have hPc := hP.sub (ws' := [(h, .inr (2, [.ref r, .int (nI L.length)])), (r, .inl (cA, cap, .inl f))]) [2, 3] rfl
  have hKc := hK.sub (tys' := [(cA, .byte)]) [1] rfl
  have hDc := hD.sub (ws' := [(h, .inr (2, [.ref r, .int (nI L.length)])), (r, .inl (cA, cap, .inl f))]) [2, 3] (by decide) rfl
  have hFc := va_free (wc := [(h, .inr (2, [.ref r, .int (nI L.length)])), (r, .inl (cA, cap, .inl f))]) hD hS hA [2, 3] rfl
  refine zz_callv (va_runV (As := [.int 34]) (rest := []) ⟨hx, hb, hml, hown, hg⟩ (c_By_add l dC dI h r cA cap f L 34 hL hc hk  s.heap.size) (cwV 1 hg (gi_V kw_358 kw_166 kw_167 kw_2 kw_168) rfl rfl rfl (by decide +kernel) ⟨Nat.le_of_ble_eq_true rfl, Nat.le_of_ble_eq_true rfl⟩) (zz_preV hPc hKc hDc _ (q0 := 0) (ci := 2) rfl rfl) rfl rfl hl.1 rfl (lv_room (Nat.le_of_ble_eq_true rfl)) d_Qu_putText_3 ⟨Nat.le_of_ble_eq_true rfl, Nat.le_of_ble_eq_true rfl⟩) hS hFc (fun u H1 k9 p9 d9 => va_join (wr := [(h2, .inr (2, [.ref r2, .int (nI L2.length)])), (r2, .inl (cA2, cap2, .inl f2))]) hP hD [2, 3] [0, 1] rfl rfl (by decide) (by decide) k9 hFc p9 d9) (fun u H locs hw hP hD hK1 hS => ?_)
  obtain ⟨u_1, rfl⟩ : ∃ z, z = u := ⟨_, rfl⟩
  try dsimp only at hw
  have hP : va_P (dC, dI) vwCl [(h2, .inr (2, [.ref r2, .int (nI L2.length)])), (r2, .inl (cA2, cap2, .inl f2)), (h, .inr (2, [.ref r, .int (nI (by_ap cap L [by_b 34]).length)])), (r, .inl (cA, cap, .inl u_1))] H := hP
  have hD : va_D A [(h2, .inr (2, [.ref r2, .int (nI L2.length)])), (r2, .inl (cA2, cap2, .inl f2)), (h, .inr (2, [.ref r, .int (nI (by_ap cap L [by_b 34]).length)])), (r, .inl (cA, cap, .inl u_1))] := hD
  have hL_3 := hw
  refine lv_iconst (v := 1) hx hb d_Qu_putText_6 (by decide) ?_
  refine lv_istore_n (lv' := [(2, .int 1), (0, .ref h2), (1, .ref h)]) hx hb d_Qu_putText_7 rfl hl (by decide) rfl (fun ls hl => ?_)
  refine lv_iconst (v := 0) hx hb d_Qu_putText_8 (by decide) ?_
  refine lv_istore_n (lv' := [(3, .int 0), (2, .int 1), (0, .ref h2), (1, .ref h)]) hx hb d_Qu_putText_9 rfl hl (by decide) rfl (fun ls hl => ?_)
  refine zz_loop (fun (x : Nat × Nat × List Nat × (Nat → Int32)) H locs ls => match x with | (p1, b2, E, g) => va_P (dC, dI) vwCl [(h2, .inr (2, [.ref r2, .int (nI L2.length)])), (r2, .inl (cA2, cap2, .inl f2)), (h, .inr (2, [.ref r, .int (nI (by_ap cap L (34 :: E)).length)])), (r, .inl (cA, cap, .inl g))] H ∧ va_D A [(h2, .inr (2, [.ref r2, .int (nI L2.length)])), (r2, .inl (cA2, cap2, .inl f2)), (h, .inr (2, [.ref r, .int (nI (by_ap cap L (34 :: E)).length)])), (r, .inl (cA, cap, .inl g))] ∧ va_S A s.heap H locs ∧ lv_has ls 4 [(0, .ref h2), (1, .ref h), (2, .int (nI b2)), (3, .int (nI p1))] ∧ by_L (by_ap cap L (34 :: E)) g ∧ qt_I L2 E p1 ∧ p1 ≤ L2.length) (fun x => match x with | (p1, b2, E, g) => L2.length - p1) ?_ (0, 1, [], u_1) ⟨hP.sub [0, 1, 2, 3] rfl, hD.sub [0, 1, 2, 3] (by decide) rfl, hS, lv_sub hl [2, 3, 1, 0] rfl, hL_3, (qt_I0 _), (Nat.zero_le _)⟩
  intro x H locs ls hI ih_10
  obtain ⟨p1, b2, E, g⟩ := x
  try dsimp only at hI
  obtain ⟨hP, hD, hS, hl, hLE, hE, hp1⟩ := hI
  refine lv_iload_n hx hb d_Qu_putText_10 rfl (lv_at hl 3 rfl) ?_
  refine lv_aload_n hx hb d_Qu_putText_11 rfl (lv_at hl 0 rfl) ?_
  have hPc := hP.sub (ws' := [(h2, .inr (2, [.ref r2, .int (nI L2.length)]))]) [0] rfl
  have hKc := hK.sub (tys' := []) [] rfl
  refine vp_callSi (W.runV (As := []) (rest := [.int (nI p1)]) ⟨hx, hb, hml, hown, hg⟩ (c_By_length l dC dI h2 (.ref r2) (nI L2.length) ) (cwV 0 hg (gi_V kw_359 kw_158 kw_159 kw_2 kw_160) rfl rfl rfl (by decide +kernel) ⟨Nat.le_of_ble_eq_true rfl, Nat.le_of_ble_eq_true rfl⟩) (zz_prJV hPc hKc _ (q0 := 0) (ci := 2) rfl rfl) rfl rfl hl.1 rfl (lv_room (Nat.le_of_ble_eq_true rfl)) d_Qu_putText_12 ⟨Nat.le_of_ble_eq_true rfl, Nat.le_of_ble_eq_true rfl⟩) (fun r_4 hr_4 => ?_)
  subst hr_4
  refine lv_icmp_ge (tgt := 66) hx hb d_Qu_putText_15 (by decide) (fun c_15 => ?_) (fun c_15 => ?_)
  · skip
    have ep : p1 = L2.length := by have := Nat.le_of_not_lt (fun z => nI_ge (a := p1) (b := L2.length) z (by omega) c_15); omega
    refine lv_aload_n hx hb d_Qu_putText_66 rfl (lv_at hl 1 rfl) ?_
    refine lv_bipush (v := 34) hx hb d_Qu_putText_67 (by decide) ?_
    have hPc := hP.sub (ws' := [(h, .inr (2, [.ref r, .int (nI (by_ap cap L (34 :: E)).length)])), (r, .inl (cA, cap, .inl g))]) [2, 3] rfl
    have hKc := hK.sub (tys' := [(cA, .byte)]) [1] rfl
    have hDc := hD.sub (ws' := [(h, .inr (2, [.ref r, .int (nI (by_ap cap L (34 :: E)).length)])), (r, .inl (cA, cap, .inl g))]) [2, 3] (by decide) rfl
    have hFc := va_free (wc := [(h, .inr (2, [.ref r, .int (nI (by_ap cap L (34 :: E)).length)])), (r, .inl (cA, cap, .inl g))]) hD hS hA [2, 3] rfl
    refine zz_callv (va_runV (As := [.int 34]) (rest := []) ⟨hx, hb, hml, hown, hg⟩ (c_By_add l dC dI h r cA cap g (by_ap cap L (34 :: E)) 34 hLE (by_ap_len _ _ _) hk  H.size) (cwV 1 hg (gi_V kw_358 kw_166 kw_167 kw_2 kw_168) rfl rfl rfl (by decide +kernel) ⟨Nat.le_of_ble_eq_true rfl, Nat.le_of_ble_eq_true rfl⟩) (zz_preV hPc hKc hDc _ (q0 := 0) (ci := 2) rfl rfl) rfl rfl hl.1 rfl (lv_room (Nat.le_of_ble_eq_true rfl)) d_Qu_putText_69 ⟨Nat.le_of_ble_eq_true rfl, Nat.le_of_ble_eq_true rfl⟩) hS hFc (fun u H1 k9 p9 d9 => va_join (wr := [(h2, .inr (2, [.ref r2, .int (nI L2.length)])), (r2, .inl (cA2, cap2, .inl f2))]) hP hD [2, 3] [0, 1] rfl rfl (by decide) (by decide) k9 hFc p9 d9) (fun u H locs hw hP hD hK1 hS => ?_)
    obtain ⟨u_5, rfl⟩ : ∃ z, z = u := ⟨_, rfl⟩
    try dsimp only at hw
    have hP : va_P (dC, dI) vwCl [(h2, .inr (2, [.ref r2, .int (nI L2.length)])), (r2, .inl (cA2, cap2, .inl f2)), (h, .inr (2, [.ref r, .int (nI (by_ap cap (by_ap cap L (34 :: E)) [by_b 34]).length)])), (r, .inl (cA, cap, .inl u_5))] H := hP
    have hD : va_D A [(h2, .inr (2, [.ref r2, .int (nI L2.length)])), (r2, .inl (cA2, cap2, .inl f2)), (h, .inr (2, [.ref r, .int (nI (by_ap cap (by_ap cap L (34 :: E)) [by_b 34]).length)])), (r, .inl (cA, cap, .inl u_5))] := hD
    have hL_7 := hw
    have hP9 := hP.sub (ws' := [(h2, .inr (2, [.ref r2, .int (nI L2.length)])), (r2, .inl (cA2, cap2, .inl f2)), (h, .inr (2, [.ref r, .int (nI (by_ap cap (by_ap cap L (34 :: E)) [by_b 34]).length)])), (r, .inl (cA, cap, .inl u_5))]) [0, 1, 2, 3] rfl
    have hD9 := hD.sub (ws' := [(h2, .inr (2, [.ref r2, .int (nI L2.length)])), (r2, .inl (cA2, cap2, .inl f2)), (h, .inr (2, [.ref r, .int (nI (by_ap cap (by_ap cap L (34 :: E)) [by_b 34]).length)])), (r, .inl (cA, cap, .inl u_5))]) [0, 1, 2, 3] (by decide) rfl
    have hK9 := hK.sub (tys' := [(cA2, .byte), (cA, .byte)]) [0, 1] rfl
    rw [qt_end hE ep] at hP9 hD9
    exact zz_vret hx hb hr hlocks d_Qu_putText_72 hS (by first | exact Nat.le_refl _ | decide | omega | (dsimp only; omega)) (by first | exact Nat.le_refl _ | decide | omega | (dsimp only; omega)) u_5 (by rw [qt_end hE ep] at hL_7; exact hL_7) hP9 hK9 hD9
  · skip
    have hpl : p1 < L2.length := Nat.lt_of_not_le (fun z => c_15 (nI_le z (by omega)))
    refine lv_aload_n hx hb d_Qu_putText_18 rfl (lv_at hl 0 rfl) ?_
    refine lv_iload_n hx hb d_Qu_putText_19 rfl (lv_at hl 3 rfl) ?_
    have hPc := hP.sub (ws' := [(h2, .inr (2, [.ref r2, .int (nI L2.length)])), (r2, .inl (cA2, cap2, .inl f2))]) [0, 1] rfl
    have hKc := hK.sub (tys' := [(cA2, .byte)]) [0] rfl
    refine vp_callSi (W.runS (As := [.ref h2, .int (nI p1)]) (rest := []) ⟨hx, hb, hml, hown, hg⟩ (c_Ut_codeAt l dC dI h2 r2 cA2 cap2 f2 L2 p1 hL2 hc2 (by omega) (by omega)) (va_cwS 2 hg (gi_S kw_360 kw_361 kw_21 kw_362) rfl rfl rfl (by decide +kernel) ⟨Nat.le_of_ble_eq_true rfl, Nat.le_of_ble_eq_true rfl⟩) (zz_prJS hPc hKc _) rfl rfl hl.1 rfl (lv_room (Nat.le_of_ble_eq_true rfl)) d_Qu_putText_20 ⟨Nat.le_of_ble_eq_true rfl, Nat.le_of_ble_eq_true rfl⟩) (fun r_8 hr_8 => ?_)
    have hPc := hP.sub (ws' := []) [] rfl
    have hKc := hK.sub (tys' := []) [] rfl
    refine vp_callSi (W.runS (As := [.int r_8]) (rest := []) ⟨hx, hb, hml, hown, hg⟩ (c_Ut_bytesAt l dC dI (ut_at L2 p1) r_8 hr_8 (qt_cl _ _)) (va_cwS 1 hg (gi_S kw_374 kw_375 kw_21 kw_376) rfl rfl rfl (by decide +kernel) ⟨Nat.le_of_ble_eq_true rfl, Nat.le_of_ble_eq_true rfl⟩) (zz_prJS hPc hKc _) rfl rfl hl.1 rfl (lv_room (Nat.le_of_ble_eq_true rfl)) d_Qu_putText_23 ⟨Nat.le_of_ble_eq_true rfl, Nat.le_of_ble_eq_true rfl⟩) (fun r_9 hr_9 => ?_)
    subst hr_9
    refine lv_istore_n (lv' := [(2, .int (nI (ut_bo (ut_at L2 p1)))), (0, .ref h2), (1, .ref h), (3, .int (nI p1))]) hx hb d_Qu_putText_26 rfl hl (by decide) rfl (fun ls hl => ?_)
    refine lv_iload_n hx hb d_Qu_putText_27 rfl (lv_at hl 0 rfl) ?_
    refine lv_iconst (v := 1) hx hb d_Qu_putText_28 (by decide) ?_
    refine lv_icmp_le (tgt := 44) hx hb d_Qu_putText_29 (by decide) (fun c_29 => ?_) (fun c_29 => ?_)
    · skip
      have f_29 : ut_bo (ut_at L2 p1) ≤ 1 := (nI_leI (b := 1) (qt_lt _) (by decide)).mp c_29
      refine lv_aload_n hx hb d_Qu_putText_44 rfl (lv_at hl 1 rfl) ?_
      refine lv_iload_n hx hb d_Qu_putText_45 rfl (lv_at hl 3 rfl) ?_
      have hPc := hP.sub (ws' := [(h2, .inr (2, [.ref r2, .int (nI L2.length)])), (r2, .inl (cA2, cap2, .inl f2))]) [0, 1] rfl
      have hKc := hK.sub (tys' := [(cA2, .byte)]) [0] rfl
      refine vp_callSi (W.runV (As := [.int (nI p1)]) (rest := []) ⟨hx, hb, hml, hown, hg⟩ (c_By_at l dC dI h2 r2 cA2 cap2 f2 L2 (nI p1) hL2 hc2 (by omega)) (cwV 1 hg (gi_V kw_378 kw_194 kw_195 kw_2 kw_196) rfl rfl rfl (by decide +kernel) ⟨Nat.le_of_ble_eq_true rfl, Nat.le_of_ble_eq_true rfl⟩) (zz_prJV hPc hKc _ (q0 := 0) (ci := 2) rfl rfl) rfl rfl hl.1 rfl (lv_room (Nat.le_of_ble_eq_true rfl)) d_Qu_putText_46 ⟨Nat.le_of_ble_eq_true rfl, Nat.le_of_ble_eq_true rfl⟩) (fun r_10 hr_10 => ?_)
      rw [by_at_in hpl (by omega)] at hr_10
      subst hr_10
      refine lv_bipush (v := 34) hx hb d_Qu_putText_49 (by decide) ?_
      refine lv_aload_n hx hb d_Qu_putText_51 rfl (lv_at hl 2 rfl) ?_
      have hPc := hP.sub (ws' := [(h, .inr (2, [.ref r, .int (nI (by_ap cap L (34 :: E)).length)])), (r, .inl (cA, cap, .inl g))]) [2, 3] rfl
      have hKc := hK.sub (tys' := [(cA, .byte)]) [1] rfl
      have hDc := hD.sub (ws' := [(h, .inr (2, [.ref r, .int (nI (by_ap cap L (34 :: E)).length)])), (r, .inl (cA, cap, .inl g))]) [2, 3] (by decide) rfl
      have hFc := va_free (wc := [(h, .inr (2, [.ref r, .int (nI (by_ap cap L (34 :: E)).length)])), (r, .inl (cA, cap, .inl g))]) hD hS hA [2, 3] rfl
      refine zz_callv (va_runS (As := [.int (nI (L2.getD p1 0)), .int 34, .ref h]) (rest := []) ⟨hx, hb, hml, hown, hg⟩ (c_Qu_putByte l dC dI ad h r cA cap g (by_ap cap L (34 :: E)) (L2.getD p1 0) 34 hLE (by_ap_len _ _ _) hk (hL2 p1 hpl).1 (by decide) H.size) (va_cwS 3 hg (gi_S kw_379 kw_380 kw_20 kw_381) rfl rfl rfl (by decide +kernel) ⟨Nat.le_of_ble_eq_true rfl, Nat.le_of_ble_eq_true rfl⟩) (zy_preS hX hS hFc hPc hKc hDc _) rfl rfl hl.1 rfl (lv_room (Nat.le_of_ble_eq_true rfl)) d_Qu_putText_52 ⟨Nat.le_of_ble_eq_true rfl, Nat.le_of_ble_eq_true rfl⟩) hS hFc (fun u H1 k9 p9 d9 => va_join (wr := [(h2, .inr (2, [.ref r2, .int (nI L2.length)])), (r2, .inl (cA2, cap2, .inl f2))]) hP hD [2, 3] [0, 1] rfl rfl (by decide) (by decide) k9 hFc p9 d9) (fun u H locs hw hP hD hK1 hS => ?_)
      obtain ⟨u_11, rfl⟩ : ∃ z, z = u := ⟨_, rfl⟩
      try dsimp only at hw
      have hP : va_P (dC, dI) vwCl [(h2, .inr (2, [.ref r2, .int (nI L2.length)])), (r2, .inl (cA2, cap2, .inl f2)), (h, .inr (2, [.ref r, .int (nI (by_ap cap (by_ap cap L (34 :: E)) (qu_b 34 (L2.getD p1 0))).length)])), (r, .inl (cA, cap, .inl u_11))] H := hP
      have hD : va_D A [(h2, .inr (2, [.ref r2, .int (nI L2.length)])), (r2, .inl (cA2, cap2, .inl f2)), (h, .inr (2, [.ref r, .int (nI (by_ap cap (by_ap cap L (34 :: E)) (qu_b 34 (L2.getD p1 0))).length)])), (r, .inl (cA, cap, .inl u_11))] := hD
      have hL_13 := hw
      refine lv_iload_n hx hb d_Qu_putText_55 rfl (lv_at hl 3 rfl) ?_
      refine lv_iconst (v := 1) hx hb d_Qu_putText_56 (by decide) ?_
      refine lv_iload_n hx hb d_Qu_putText_57 rfl (lv_at hl 0 rfl) ?_
      refine va_mmax hx hb (by rw [hml]; exact hl.1.symm) hown (hg _ kw_388) (hg _ kw_38) (hg _ kw_3) (hg _ kw_39) (Nat.le_of_ble_eq_true rfl) (Nat.le_of_ble_eq_true rfl) (by first | exact Nat.zero_le _ | decide | omega | (dsimp only; omega)) (by first | exact Nat.zero_le _ | decide | omega | (dsimp only; omega)) d_Qu_putText_58 ?_
      refine lv_iadd hx hb d_Qu_putText_61 ?_
      refine lv_istore_n (lv' := [(3, .int ((nI p1) + (if 1 < (nI (ut_bo (ut_at L2 p1))) then (nI (ut_bo (ut_at L2 p1))) else 1))), (2, .int (nI (ut_bo (ut_at L2 p1)))), (0, .ref h2), (1, .ref h)]) hx hb d_Qu_putText_62 rfl hl (by decide) rfl (fun ls hl => ?_)
      refine lv_goto (tgt := 10) hx hb d_Qu_putText_63 (by decide) ?_
      rw [qt_s hE hpl hL2 (qt_p1 f_29)] at hP hD
      rw [qt_mx, nI_add] at hl
      exact ih_10 (p1 + ut_bo (ut_at L2 p1), ut_bo (ut_at L2 p1), (E ++ qu_p L2 p1), u_11) H locs ls ⟨hP.sub [0, 1, 2, 3] rfl, hD.sub [0, 1, 2, 3] (by decide) rfl, hS, lv_sub hl [2, 3, 1, 0] rfl, (by rw [qt_s hE hpl hL2 (qt_p1 f_29)] at hL_13; exact hL_13), (qt_E hE hpl), (qt_le hL2 hpl)⟩ (by dsimp only; have := qt_pos (ut_at L2 p1); omega)
    · skip
      have f_29 : 1 < ut_bo (ut_at L2 p1) := Nat.lt_of_not_le (fun z => c_29 (nI_le (b := 1) z (by decide)))
      refine lv_aload_n hx hb d_Qu_putText_32 rfl (lv_at hl 2 rfl) ?_
      refine lv_aload_n hx hb d_Qu_putText_33 rfl (lv_at hl 1 rfl) ?_
      refine lv_iload_n hx hb d_Qu_putText_34 rfl (lv_at hl 3 rfl) ?_
      refine lv_iload_n hx hb d_Qu_putText_35 rfl (lv_at hl 3 rfl) ?_
      refine lv_iload_n hx hb d_Qu_putText_36 rfl (lv_at hl 0 rfl) ?_
      refine lv_iadd hx hb d_Qu_putText_37 ?_
      have hPc := hP.sub (ws' := [(h, .inr (2, [.ref r, .int (nI (by_ap cap L (34 :: E)).length)])), (r, .inl (cA, cap, .inl g)), (h2, .inr (2, [.ref r2, .int (nI L2.length)])), (r2, .inl (cA2, cap2, .inl f2))]) [2, 3, 0, 1] rfl
      have hKc := hK.sub (tys' := [(cA, .byte), (cA2, .byte)]) [1, 0] rfl
      have hDc := hD.sub (ws' := [(h, .inr (2, [.ref r, .int (nI (by_ap cap L (34 :: E)).length)])), (r, .inl (cA, cap, .inl g)), (h2, .inr (2, [.ref r2, .int (nI L2.length)])), (r2, .inl (cA2, cap2, .inl f2))]) [2, 3, 0, 1] (by decide) rfl
      have hFc := va_free (wc := [(h, .inr (2, [.ref r, .int (nI (by_ap cap L (34 :: E)).length)])), (r, .inl (cA, cap, .inl g)), (h2, .inr (2, [.ref r2, .int (nI L2.length)])), (r2, .inl (cA2, cap2, .inl f2))]) hD hS hA [2, 3, 0, 1] rfl
      refine zz_callv (va_runV (As := [.ref h2, .int (nI p1), .int ((nI p1) + (nI (ut_bo (ut_at L2 p1))))]) (rest := []) ⟨hx, hb, hml, hown, hg⟩ (c_By_addPart l dC dI h r cA cap g (by_ap cap L (34 :: E)) h2 r2 cA2 cap2 f2 L2 p1 (ut_bo (ut_at L2 p1)) (nI p1) ((nI p1) + (nI (ut_bo (ut_at L2 p1)))) hLE (by_ap_len _ _ _) hk hL2 hc2 (by omega) rfl (nI_add _ _) (qt_le hL2 hpl) H.size) (cwV 3 hg (gi_V kw_377 kw_240 kw_241 kw_2 kw_242) rfl rfl rfl (by decide +kernel) ⟨Nat.le_of_ble_eq_true rfl, Nat.le_of_ble_eq_true rfl⟩) (zz_preV hPc hKc hDc _ (q0 := 0) (ci := 2) rfl rfl) rfl rfl hl.1 rfl (lv_room (Nat.le_of_ble_eq_true rfl)) d_Qu_putText_38 ⟨Nat.le_of_ble_eq_true rfl, Nat.le_of_ble_eq_true rfl⟩) hS hFc (fun u H1 k9 p9 d9 => va_join (wr := []) hP hD [2, 3, 0, 1] [] rfl rfl (by decide) (by decide) k9 hFc p9 d9) (fun u H locs hw hP hD hK1 hS => ?_)
      obtain ⟨u_14, rfl⟩ : ∃ z, z = u := ⟨_, rfl⟩
      try dsimp only at hw
      have hP : va_P (dC, dI) vwCl [(h, .inr (2, [.ref r, .int (nI (by_ap cap (by_ap cap L (34 :: E)) (by_sg L2 p1 (ut_bo (ut_at L2 p1)))).length)])), (r, .inl (cA, cap, .inl u_14)), (h2, .inr (2, [.ref r2, .int (nI L2.length)])), (r2, .inl (cA2, cap2, .inl f2))] H := hP
      have hD : va_D A [(h, .inr (2, [.ref r, .int (nI (by_ap cap (by_ap cap L (34 :: E)) (by_sg L2 p1 (ut_bo (ut_at L2 p1)))).length)])), (r, .inl (cA, cap, .inl u_14)), (h2, .inr (2, [.ref r2, .int (nI L2.length)])), (r2, .inl (cA2, cap2, .inl f2))] := hD
      have hL_16 := hw
      refine lv_goto (tgt := 55) hx hb d_Qu_putText_41 (by decide) ?_
      refine lv_iload_n hx hb d_Qu_putText_55 rfl (lv_at hl 3 rfl) ?_
      refine lv_iconst (v := 1) hx hb d_Qu_putText_56 (by decide) ?_
      refine lv_iload_n hx hb d_Qu_putText_57 rfl (lv_at hl 0 rfl) ?_
      refine va_mmax hx hb (by rw [hml]; exact hl.1.symm) hown (hg _ kw_388) (hg _ kw_38) (hg _ kw_3) (hg _ kw_39) (Nat.le_of_ble_eq_true rfl) (Nat.le_of_ble_eq_true rfl) (by first | exact Nat.zero_le _ | decide | omega | (dsimp only; omega)) (by first | exact Nat.zero_le _ | decide | omega | (dsimp only; omega)) d_Qu_putText_58 ?_
      refine lv_iadd hx hb d_Qu_putText_61 ?_
      refine lv_istore_n (lv' := [(3, .int ((nI p1) + (if 1 < (nI (ut_bo (ut_at L2 p1))) then (nI (ut_bo (ut_at L2 p1))) else 1))), (2, .int (nI (ut_bo (ut_at L2 p1)))), (0, .ref h2), (1, .ref h)]) hx hb d_Qu_putText_62 rfl hl (by decide) rfl (fun ls hl => ?_)
      refine lv_goto (tgt := 10) hx hb d_Qu_putText_63 (by decide) ?_
      rw [qt_s hE hpl hL2 (qt_p2 f_29)] at hP hD
      rw [qt_mx, nI_add] at hl
      exact ih_10 (p1 + ut_bo (ut_at L2 p1), ut_bo (ut_at L2 p1), (E ++ qu_p L2 p1), u_14) H locs ls ⟨hP.sub [2, 3, 0, 1] rfl, hD.sub [2, 3, 0, 1] (by decide) rfl, hS, lv_sub hl [2, 3, 1, 0] rfl, (by rw [qt_s hE hpl hL2 (qt_p2 f_29)] at hL_16; exact hL_16), (qt_E hE hpl), (qt_le hL2 hpl)⟩ (by dsimp only; have := qt_pos (ut_at L2 p1); omega)
