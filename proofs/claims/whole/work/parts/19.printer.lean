/-! PRINTER -/
def pn_l (b q : Bool) (w : Nat) (D : List Nat) : List Nat := (if b then [45] else if q then [43] else []) ++ (List.replicate (w - D.length - (if b || q then 1 else 0)) 48 ++ D.reverse)
/-- the digits that a letter asks for -/
def nu_s (v n : Nat) : Option (List Nat) := if v = 100 then some (nu_f 10 97 64 n) else if v = 120 then some (nu_f (2 ^ 4) 97 64 n) else if v = 88 then some (nu_f (2 ^ 4) 65 64 n) else if v = 98 then some (nu_f (2 ^ 1) 97 64 n) else if v = 111 then some (nu_f (2 ^ 3) 97 64 n) else none
def pn_S (v n : Nat) (r : Int32) (f : Nat → Int32) (k : Int32) : Prop := match nu_s v n with
  | some D => r = 1 ∧ by_L D f ∧ k = nI D.length
  | none => r = 0
def px_h (t : Nat) (B : List Nat) : List Nat := B.flatMap (fun b => [nu_d t (b / 16), nu_d t (b % 16)])
def px_t (v : Nat) (B : List Nat) : Option (List Nat) := if v = 115 then some B else if v = 113 then some (qu_t B) else if v = 120 then some (px_h 97 B) else if v = 88 then some (px_h 65 B) else none
theorem pn_ff {cap w : Nat} {L D : List Nat} (hw : w < 1000) (hD : D.length ≤ 64) : by_ap cap (by_ap cap L (List.replicate (nI w - nI D.length - 0).toNatClampNeg (by_b 48))) D.reverse = by_ap cap L (pn_l false false w D) := by
  have e : (nI w - nI D.length - 0).toNatClampNeg = w - D.length - 0 := by
    show (nI w - nI D.length - 0).toInt.toNat = _
    rw [Int32.sub_zero, pk_sub_toInt (by omega) (by omega)]; omega
  rw [e, by_ap_ap]; rfl
theorem pn_1 {w n : Nat} (hw : w < 1000) (hn : n ≤ 64) : (nI w - nI n - 1).toNatClampNeg = w - n - 1 := by
  show (nI w - nI n - 1).toInt.toNat = _
  have h := pk_sub_toInt (a := w) (b := n) (by omega) (by omega)
  rw [Int32.toInt_sub, h]
  have e1 : (1 : Int32).toInt = 1 := rfl
  rw [e1, Int.bmod_eq_of_le (by omega) (by omega)]; omega
theorem pn_ft {cap w : Nat} {L D : List Nat} (hw : w < 1000) (hD : D.length ≤ 64) : by_ap cap (by_ap cap (by_ap cap L [by_b 43]) (List.replicate (nI w - nI D.length - 1).toNatClampNeg (by_b 48))) D.reverse = by_ap cap L (pn_l false true w D) := by
  rw [pn_1 hw hD, by_ap_ap, by_ap_ap]; rfl
theorem pn_tf {cap w : Nat} {L D : List Nat} (hw : w < 1000) (hD : D.length ≤ 64) : by_ap cap (by_ap cap (by_ap cap L [by_b 45]) (List.replicate (nI w - nI D.length - 1).toNatClampNeg (by_b 48))) D.reverse = by_ap cap L (pn_l true false w D) := by
  rw [pn_1 hw hD, by_ap_ap, by_ap_ap]; rfl
theorem pn_tt {cap w : Nat} {L D : List Nat} (hw : w < 1000) (hD : D.length ≤ 64) : by_ap cap (by_ap cap (by_ap cap L [by_b 45]) (List.replicate (nI w - nI D.length - 1).toNatClampNeg (by_b 48))) D.reverse = by_ap cap L (pn_l true true w D) := by
  rw [pn_1 hw hD, by_ap_ap, by_ap_ap]; rfl
theorem px_h0 {t : Nat} : px_h t [] = [] := rfl
theorem px_n1 {v : Nat} (h : v < 256) : nI v >>> ((4 : Int32) &&& 31) = nI (v / 16) := pk_shrN (by omega) ((4 : Int32) &&& 31) 4 (by decide)
theorem px_hs {cap t j : Nat} {L L2 : List Nat} {f2 : Nat → Int32} (hL2 : by_L L2 f2) (hj : j < L2.length) (ht : t < 240) : by_ap cap (by_ap cap (by_ap cap L (px_h t (L2.take j))) [by_b (nI (nu_d t (L2.getD j 0 / 16)))]) [by_b (nI (nu_d t (L2.getD j 0 % 16)))] = by_ap cap L (px_h t (L2.take (j + 1))) := by
  have h := (hL2 j hj).1
  rw [by_b_n (nu_d_lt (by omega) ht), by_b_n (nu_d_lt (by omega) ht), by_ap_ap, by_ap_ap, List.take_succ, List.getElem?_eq_getElem hj]
  have e : L2.getD j 0 = L2[j] := by rw [List.getD_eq_getElem?_getD, List.getElem?_eq_getElem hj]; rfl
  rw [e]
  unfold px_h
  rw [List.flatMap_append]; congr 1
theorem px_all {cap : Nat} {L L2 : List Nat} : by_ap cap L (by_sg L2 0 L2.length) = by_ap cap L L2 := by unfold by_sg; rw [List.drop_zero, List.take_length]
theorem px_t0 {cap : Nat} {L : List Nat} {f : Nat → Int32} {o : Option (List Nat)} {r : Int32} (h : o = none) (hc : L.length ≤ cap) (hL : by_L L f) (hr : r = 0) : r = by_z o.isSome ∧ by_L (by_ap cap L (o.getD [])) f := by
  subst h; refine ⟨hr, ?_⟩
  show by_L (by_ap cap L []) f
  rw [by_ap_nil hc]; exact hL
theorem nu_fl64 {b t : Nat} : ∀ k n, (nu_f b t k n).length ≤ k := by
  intro k
  induction k with
  | zero => intro n; exact Nat.le_refl 0
  | succ k ih =>
    intro n
    rw [nu_f, List.length_cons]
    split
    · rw [List.length_nil]; omega
    · have := ih (n / b); omega
abbrev y_Pr_putNumeral : MethodName := ⟨"TextForge$Printer", "putNumeral", "(ZZILTextForge$Bytes;)V"⟩
abbrev w_Pr_putNumeral : List Cond := Cond.code y_Pr_putNumeral prog_8_method_9_code 6 none :: gw
theorem d_Pr_putNumeral_0 : decode prog_8_method_9_code 0 = .ok (.iload_n 1, 1) := by decide +kernel
theorem d_Pr_putNumeral_1 : decode prog_8_method_9_code 1 = .ok (.ifCond .ne 7, 3) := by decide +kernel
theorem d_Pr_putNumeral_4 : decode prog_8_method_9_code 4 = .ok (.iload_n 2, 1) := by decide +kernel
theorem d_Pr_putNumeral_5 : decode prog_8_method_9_code 5 = .ok (.ifCond .eq 7, 3) := by decide +kernel
theorem d_Pr_putNumeral_8 : decode prog_8_method_9_code 8 = .ok (.iconst 1, 1) := by decide +kernel
theorem d_Pr_putNumeral_9 : decode prog_8_method_9_code 9 = .ok (.goto 4, 3) := by decide +kernel
theorem d_Pr_putNumeral_12 : decode prog_8_method_9_code 12 = .ok (.iconst 0, 1) := by decide +kernel
theorem d_Pr_putNumeral_13 : decode prog_8_method_9_code 13 = .ok (.istore 5, 2) := by decide +kernel
theorem d_Pr_putNumeral_15 : decode prog_8_method_9_code 15 = .ok (.iload 5, 2) := by decide +kernel
theorem d_Pr_putNumeral_17 : decode prog_8_method_9_code 17 = .ok (.ifCond .eq 19, 3) := by decide +kernel
theorem d_Pr_putNumeral_20 : decode prog_8_method_9_code 20 = .ok (.aload 4, 2) := by decide +kernel
theorem d_Pr_putNumeral_22 : decode prog_8_method_9_code 22 = .ok (.iload_n 1, 1) := by decide +kernel
theorem d_Pr_putNumeral_23 : decode prog_8_method_9_code 23 = .ok (.ifCond .eq 8, 3) := by decide +kernel
theorem d_Pr_putNumeral_26 : decode prog_8_method_9_code 26 = .ok (.bipush 45, 2) := by decide +kernel
theorem d_Pr_putNumeral_28 : decode prog_8_method_9_code 28 = .ok (.goto 5, 3) := by decide +kernel
theorem d_Pr_putNumeral_31 : decode prog_8_method_9_code 31 = .ok (.bipush 43, 2) := by decide +kernel
theorem d_Pr_putNumeral_33 : decode prog_8_method_9_code 33 = .ok (.invokevirtual 64, 3) := by decide +kernel
theorem d_Pr_putNumeral_36 : decode prog_8_method_9_code 36 = .ok (.aload 4, 2) := by decide +kernel
theorem d_Pr_putNumeral_38 : decode prog_8_method_9_code 38 = .ok (.bipush 48, 2) := by decide +kernel
theorem d_Pr_putNumeral_40 : decode prog_8_method_9_code 40 = .ok (.iload_n 3, 1) := by decide +kernel
theorem d_Pr_putNumeral_41 : decode prog_8_method_9_code 41 = .ok (.aload_n 0, 1) := by decide +kernel
theorem d_Pr_putNumeral_42 : decode prog_8_method_9_code 42 = .ok (.getfield 10, 3) := by decide +kernel
theorem d_Pr_putNumeral_45 : decode prog_8_method_9_code 45 = .ok (.invokevirtual 151, 3) := by decide +kernel
theorem d_Pr_putNumeral_48 : decode prog_8_method_9_code 48 = .ok (.isub, 1) := by decide +kernel
theorem d_Pr_putNumeral_49 : decode prog_8_method_9_code 49 = .ok (.iload 5, 2) := by decide +kernel
theorem d_Pr_putNumeral_51 : decode prog_8_method_9_code 51 = .ok (.ifCond .eq 7, 3) := by decide +kernel
theorem d_Pr_putNumeral_54 : decode prog_8_method_9_code 54 = .ok (.iconst 1, 1) := by decide +kernel
theorem d_Pr_putNumeral_55 : decode prog_8_method_9_code 55 = .ok (.goto 4, 3) := by decide +kernel
theorem d_Pr_putNumeral_58 : decode prog_8_method_9_code 58 = .ok (.iconst 0, 1) := by decide +kernel
theorem d_Pr_putNumeral_59 : decode prog_8_method_9_code 59 = .ok (.isub, 1) := by decide +kernel
theorem d_Pr_putNumeral_60 : decode prog_8_method_9_code 60 = .ok (.invokevirtual 154, 3) := by decide +kernel
theorem d_Pr_putNumeral_63 : decode prog_8_method_9_code 63 = .ok (.aload_n 0, 1) := by decide +kernel
theorem d_Pr_putNumeral_64 : decode prog_8_method_9_code 64 = .ok (.getfield 10, 3) := by decide +kernel
theorem d_Pr_putNumeral_67 : decode prog_8_method_9_code 67 = .ok (.aload 4, 2) := by decide +kernel
theorem d_Pr_putNumeral_69 : decode prog_8_method_9_code 69 = .ok (.invokevirtual 158, 3) := by decide +kernel
theorem d_Pr_putNumeral_72 : decode prog_8_method_9_code 72 = .ok (.return_, 1) := by decide +kernel
set_option maxHeartbeats 4000000 in
set_option maxRecDepth 100000 in
theorem c_Pr_putNumeral (l : Launch) (dC : Nat → ClassId) (dI : Nat → Nat → Nat) (hp hn rn : Nat) (cN : ClassId) (fN : Nat → Int32) (kN : Int32) (D : List Nat) (h r : Nat) (cA : ClassId) (cap : Nat) (f : Nat → Int32) (L : List Nat) (b q : Bool) (w : Nat) (hQ : by_L D fN) (hDl : D.length ≤ 64) (hkN : kN = nI D.length) (hL : by_L L f) (hc : L.length ≤ cap) (hk : cap < 2147483648) (hw0 : w < 1000) : zM_v (S := Nat → Int32) l y_Pr_putNumeral w_Pr_putNumeral { frames := 2, cells := 0, slots := 0, locals := 44 } (dC, dI) vwCl [.ref hp, .int (by_z b), .int (by_z q), .int (nI w), .ref h] [(hp, .inr (6, [.ref hn])), (hn, .inr (5, [.ref rn, .int kN])), (rn, .inl (cN, 64, .inl fN)), (h, .inr (2, [.ref r, .int (nI L.length)])), (r, .inl (cA, cap, .inl f))] [(cN, .byte), (cA, .byte)] (fun (u : Nat → Int32) => by_L (by_ap cap L (pn_l b q w D)) u) (fun u => [(hp, .inr (6, [.ref hn])), (hn, .inr (5, [.ref rn, .int kN])), (rn, .inl (cN, 64, .inl fN)), (h, .inr (2, [.ref r, .int (nI (by_ap cap L (pn_l b q w D)).length)])), (r, .inl (cA, cap, .inl u))]) (fun u => [(cN, .byte), (cA, .byte)]) 0 0 := by
  refine zz_enterv (cc := prog_8_method_9_code) (nL := 6) (ret := none) (by decide) rfl (Nat.le_of_ble_eq_true rfl) ?_
  intro p e s m below meth c A ls C0 hA hS hP hK hD hl
  obtain ⟨hx, hb, hml, hown, hg, hr, hlocks, hin⟩ := C0
  have hown : s.vm.findClass "TextForge$Printer" = some m.cls := hown
  have hP : va_P (dC, dI) vwCl [(hp, .inr (6, [.ref hn])), (hn, .inr (5, [.ref rn, .int kN])), (rn, .inl (cN, 64, .inl fN)), (h, .inr (2, [.ref r, .int (nI L.length)])), (r, .inl (cA, cap, .inl f))] s.heap := hP
  have hK : va_K (dC, dI) vwCl [(cN, .byte), (cA, .byte)] s := hK
  have hD : va_D A [(hp, .inr (6, [.ref hn])), (hn, .inr (5, [.ref rn, .int kN])), (rn, .inl (cN, 64, .inl fN)), (h, .inr (2, [.ref r, .int (nI L.length)])), (r, .inl (cA, cap, .inl f))] := hD
  have hl : lv_has ls 6 [(0, .ref hp), (1, .int (by_z b)), (2, .int (by_z q)), (3, .int (nI w)), (4, .ref h)] := hl
  subst hkN
  have hP : va_P (dC, dI) vwCl [(hp, .inr (6, [.ref hn])), (hn, .inr (5, [.ref rn, .int (nI D.length)])), (rn, .inl (cN, 64, .inl fN)), (h, .inr (2, [.ref r, .int (nI L.length)])), (r, .inl (cA, cap, .inl f))] s.heap := hP
  rcases b with _ | _ <;> rcases q with _ | _
  · skip
    have hl : lv_has ls 6 [(0, .ref hp), (1, .int (by_z false)), (2, .int (by_z false)), (3, .int (nI w)), (4, .ref h)] := hl
    refine lv_iload_n hx hb d_Pr_putNumeral_0 rfl (lv_at hl 1 rfl) ?_
    refine lv_if_ne (tgt := 8) hx hb d_Pr_putNumeral_1 (by decide) (fun c9 => by first | exact absurd c9 (by decide) | exact absurd (by decide) c9) (fun _ => ?_)
    refine lv_iload_n hx hb d_Pr_putNumeral_4 rfl (lv_at hl 2 rfl) ?_
    refine lv_if_eq (tgt := 12) hx hb d_Pr_putNumeral_5 (by decide) (fun _ => ?_) (fun c9 => by first | exact absurd c9 (by decide) | exact absurd (by decide) c9)
    refine lv_iconst (v := 0) hx hb d_Pr_putNumeral_12 (by decide) ?_
    refine lv_istore (lv' := [(5, .int 0), (0, .ref hp), (1, .int (by_z false)), (2, .int (by_z false)), (3, .int (nI w)), (4, .ref h)]) hx hb d_Pr_putNumeral_13 hl (by decide) rfl (fun ls hl => ?_)
    refine lv_iload hx hb d_Pr_putNumeral_15 (lv_at hl 0 rfl) ?_
    refine lv_if_eq (tgt := 36) hx hb d_Pr_putNumeral_17 (by decide) (fun _ => ?_) (fun c9 => by first | exact absurd c9 (by decide) | exact absurd (by decide) c9)
    refine lv_aload hx hb d_Pr_putNumeral_36 (lv_at hl 5 rfl) ?_
    refine lv_bipush (v := 48) hx hb d_Pr_putNumeral_38 (by decide) ?_
    refine lv_iload_n hx hb d_Pr_putNumeral_40 rfl (lv_at hl 4 rfl) ?_
    refine lv_aload_n hx hb d_Pr_putNumeral_41 rfl (lv_at hl 1 rfl) ?_
    refine va_get (D := (dC, dI)) (ci := 6) (v := .ref hn) (C := "TextForge$Printer") (T := TX6) (N := 1) hx hb hg iwX6 hown hK hP 0 rfl rfl 0 (by decide) (hg _ kw_110) (fun _ h9 => h9) rfl d_Pr_putNumeral_42 ?_
    have hPc := hP.sub (ws' := [(hn, .inr (5, [.ref rn, .int (nI D.length)]))]) [1] rfl
    have hKc := hK.sub (tys' := []) [] rfl
    refine vp_callSi (W.runV (As := []) (rest := [.int (nI w), .int 48, .ref h]) ⟨hx, hb, hml, hown, hg⟩ (c_Nu_count l dC dI hn (.ref rn) (nI D.length) ) (cwV 0 hg (gi_V kw_268 kw_269 kw_270 kw_7 kw_271) rfl rfl rfl (by decide +kernel) ⟨Nat.le_of_ble_eq_true rfl, Nat.le_of_ble_eq_true rfl⟩) (zz_prJV hPc hKc _ (q0 := 0) (ci := 5) rfl rfl) rfl rfl hl.1 rfl (lv_room (Nat.le_of_ble_eq_true rfl)) d_Pr_putNumeral_45 ⟨Nat.le_of_ble_eq_true rfl, Nat.le_of_ble_eq_true rfl⟩) (fun r_1 hr_1 => ?_)
    subst hr_1
    refine lv_isub hx hb d_Pr_putNumeral_48 ?_
    refine lv_iload hx hb d_Pr_putNumeral_49 (lv_at hl 0 rfl) ?_
    refine lv_if_eq (tgt := 58) hx hb d_Pr_putNumeral_51 (by decide) (fun _ => ?_) (fun c9 => by first | exact absurd c9 (by decide) | exact absurd (by decide) c9)
    refine lv_iconst (v := 0) hx hb d_Pr_putNumeral_58 (by decide) ?_
    refine lv_isub hx hb d_Pr_putNumeral_59 ?_
    have hPc := hP.sub (ws' := [(h, .inr (2, [.ref r, .int (nI L.length)])), (r, .inl (cA, cap, .inl f))]) [3, 4] rfl
    have hKc := hK.sub (tys' := [(cA, .byte)]) [1] rfl
    have hDc := hD.sub (ws' := [(h, .inr (2, [.ref r, .int (nI L.length)])), (r, .inl (cA, cap, .inl f))]) [3, 4] (by decide) rfl
    have hFc := va_free (wc := [(h, .inr (2, [.ref r, .int (nI L.length)])), (r, .inl (cA, cap, .inl f))]) hD hS hA [3, 4] rfl
    refine zz_callv (va_runV (As := [.int 48, .int (((nI w) - (nI D.length)) - 0)]) (rest := []) ⟨hx, hb, hml, hown, hg⟩ (c_By_addTimes l dC dI h r cA cap f L 48 (((nI w) - (nI D.length)) - 0) hL hc hk  s.heap.size) (cwV 2 hg (gi_V kw_272 kw_273 kw_274 kw_2 kw_275) rfl rfl rfl (by decide +kernel) ⟨Nat.le_of_ble_eq_true rfl, Nat.le_of_ble_eq_true rfl⟩) (zz_preV hPc hKc hDc _ (q0 := 0) (ci := 2) rfl rfl) rfl rfl hl.1 rfl (lv_room (Nat.le_of_ble_eq_true rfl)) d_Pr_putNumeral_60 ⟨Nat.le_of_ble_eq_true rfl, Nat.le_of_ble_eq_true rfl⟩) hS hFc (fun u H1 k9 p9 d9 => va_join (wr := [(hp, .inr (6, [.ref hn])), (hn, .inr (5, [.ref rn, .int (nI D.length)])), (rn, .inl (cN, 64, .inl fN))]) hP hD [3, 4] [0, 1, 2] rfl rfl (by decide) (by decide) k9 hFc p9 d9) (fun u H locs hw hP hD hK1 hS => ?_)
    obtain ⟨u_2, rfl⟩ : ∃ z, z = u := ⟨_, rfl⟩
    try dsimp only at hw
    have hP : va_P (dC, dI) vwCl [(hp, .inr (6, [.ref hn])), (hn, .inr (5, [.ref rn, .int (nI D.length)])), (rn, .inl (cN, 64, .inl fN)), (h, .inr (2, [.ref r, .int (nI (by_ap cap L (List.replicate (((nI w) - (nI D.length)) - 0).toNatClampNeg (by_b 48))).length)])), (r, .inl (cA, cap, .inl u_2))] H := hP
    have hD : va_D A [(hp, .inr (6, [.ref hn])), (hn, .inr (5, [.ref rn, .int (nI D.length)])), (rn, .inl (cN, 64, .inl fN)), (h, .inr (2, [.ref r, .int (nI (by_ap cap L (List.replicate (((nI w) - (nI D.length)) - 0).toNatClampNeg (by_b 48))).length)])), (r, .inl (cA, cap, .inl u_2))] := hD
    have hL_4 := hw
    refine lv_aload_n hx hb d_Pr_putNumeral_63 rfl (lv_at hl 1 rfl) ?_
    refine va_get (D := (dC, dI)) (ci := 6) (v := .ref hn) (C := "TextForge$Printer") (T := TX6) (N := 1) hx hb hg iwX6 hown hK hP 0 rfl rfl 0 (by decide) (hg _ kw_110) (fun _ h9 => h9) rfl d_Pr_putNumeral_64 ?_
    refine lv_aload hx hb d_Pr_putNumeral_67 (lv_at hl 5 rfl) ?_
    have hPc := hP.sub (ws' := [(hn, .inr (5, [.ref rn, .int (nI D.length)])), (rn, .inl (cN, 64, .inl fN)), (h, .inr (2, [.ref r, .int (nI (by_ap cap L (List.replicate (((nI w) - (nI D.length)) - 0).toNatClampNeg (by_b 48))).length)])), (r, .inl (cA, cap, .inl u_2))]) [1, 2, 3, 4] rfl
    have hKc := hK.sub (tys' := [(cN, .byte), (cA, .byte)]) [0, 1] rfl
    have hDc := hD.sub (ws' := [(hn, .inr (5, [.ref rn, .int (nI D.length)])), (rn, .inl (cN, 64, .inl fN)), (h, .inr (2, [.ref r, .int (nI (by_ap cap L (List.replicate (((nI w) - (nI D.length)) - 0).toNatClampNeg (by_b 48))).length)])), (r, .inl (cA, cap, .inl u_2))]) [1, 2, 3, 4] (by decide) rfl
    have hFc := va_free (wc := [(hn, .inr (5, [.ref rn, .int (nI D.length)])), (rn, .inl (cN, 64, .inl fN)), (h, .inr (2, [.ref r, .int (nI (by_ap cap L (List.replicate (((nI w) - (nI D.length)) - 0).toNatClampNeg (by_b 48))).length)])), (r, .inl (cA, cap, .inl u_2))]) hD hS hA [1, 2, 3, 4] rfl
    refine zz_callv (va_runV (As := [.ref h]) (rest := []) ⟨hx, hb, hml, hown, hg⟩ (c_Nu_putTo l dC dI hn rn cN fN D h r cA cap u_2 (by_ap cap L (List.replicate (((nI w) - (nI D.length)) - 0).toNatClampNeg (by_b 48))) hQ hDl hL_4 (by_ap_len _ _ _) hk H.size) (cwV 1 hg (gi_V kw_276 kw_277 kw_278 kw_7 kw_279) rfl rfl rfl (by decide +kernel) ⟨Nat.le_of_ble_eq_true rfl, Nat.le_of_ble_eq_true rfl⟩) (zz_preV hPc hKc hDc _ (q0 := 0) (ci := 5) rfl rfl) rfl rfl hl.1 rfl (lv_room (Nat.le_of_ble_eq_true rfl)) d_Pr_putNumeral_69 ⟨Nat.le_of_ble_eq_true rfl, Nat.le_of_ble_eq_true rfl⟩) hS hFc (fun u H1 k9 p9 d9 => va_join (wr := [(hp, .inr (6, [.ref hn]))]) hP hD [1, 2, 3, 4] [0] rfl rfl (by decide) (by decide) k9 hFc p9 d9) (fun u H locs hw hP hD hK1 hS => ?_)
    obtain ⟨u_5, rfl⟩ : ∃ z, z = u := ⟨_, rfl⟩
    try dsimp only at hw
    have hP : va_P (dC, dI) vwCl [(hp, .inr (6, [.ref hn])), (hn, .inr (5, [.ref rn, .int (nI D.length)])), (rn, .inl (cN, 64, .inl fN)), (h, .inr (2, [.ref r, .int (nI (by_ap cap (by_ap cap L (List.replicate (((nI w) - (nI D.length)) - 0).toNatClampNeg (by_b 48))) D.reverse).length)])), (r, .inl (cA, cap, .inl u_5))] H := hP
    have hD : va_D A [(hp, .inr (6, [.ref hn])), (hn, .inr (5, [.ref rn, .int (nI D.length)])), (rn, .inl (cN, 64, .inl fN)), (h, .inr (2, [.ref r, .int (nI (by_ap cap (by_ap cap L (List.replicate (((nI w) - (nI D.length)) - 0).toNatClampNeg (by_b 48))) D.reverse).length)])), (r, .inl (cA, cap, .inl u_5))] := hD
    have hLp := hw
    have hP9 := hP.sub (ws' := [(hp, .inr (6, [.ref hn])), (hn, .inr (5, [.ref rn, .int (nI D.length)])), (rn, .inl (cN, 64, .inl fN)), (h, .inr (2, [.ref r, .int (nI (by_ap cap (by_ap cap L (List.replicate (((nI w) - (nI D.length)) - 0).toNatClampNeg (by_b 48))) D.reverse).length)])), (r, .inl (cA, cap, .inl u_5))]) [0, 1, 2, 3, 4] rfl
    have hD9 := hD.sub (ws' := [(hp, .inr (6, [.ref hn])), (hn, .inr (5, [.ref rn, .int (nI D.length)])), (rn, .inl (cN, 64, .inl fN)), (h, .inr (2, [.ref r, .int (nI (by_ap cap (by_ap cap L (List.replicate (((nI w) - (nI D.length)) - 0).toNatClampNeg (by_b 48))) D.reverse).length)])), (r, .inl (cA, cap, .inl u_5))]) [0, 1, 2, 3, 4] (by decide) rfl
    have hK9 := hK.sub (tys' := [(cN, .byte), (cA, .byte)]) [0, 1] rfl
    rw [pn_ff hw0 hDl] at hP9 hD9
    exact zz_vret hx hb hr hlocks d_Pr_putNumeral_72 hS (by first | exact Nat.le_refl _ | decide | omega | (dsimp only; omega)) (by first | exact Nat.le_refl _ | decide | omega | (dsimp only; omega)) u_5 (by rw [pn_ff hw0 hDl] at hLp; exact hLp) hP9 hK9 hD9
  · skip
    have hl : lv_has ls 6 [(0, .ref hp), (1, .int (by_z false)), (2, .int (by_z true)), (3, .int (nI w)), (4, .ref h)] := hl
    refine lv_iload_n hx hb d_Pr_putNumeral_0 rfl (lv_at hl 1 rfl) ?_
    refine lv_if_ne (tgt := 8) hx hb d_Pr_putNumeral_1 (by decide) (fun c9 => by first | exact absurd c9 (by decide) | exact absurd (by decide) c9) (fun _ => ?_)
    refine lv_iload_n hx hb d_Pr_putNumeral_4 rfl (lv_at hl 2 rfl) ?_
    refine lv_if_eq (tgt := 12) hx hb d_Pr_putNumeral_5 (by decide) (fun c9 => by first | exact absurd c9 (by decide) | exact absurd (by decide) c9) (fun _ => ?_)
    refine lv_iconst (v := 1) hx hb d_Pr_putNumeral_8 (by decide) ?_
    refine lv_goto (tgt := 13) hx hb d_Pr_putNumeral_9 (by decide) ?_
    refine lv_istore (lv' := [(5, .int 1), (0, .ref hp), (1, .int (by_z false)), (2, .int (by_z true)), (3, .int (nI w)), (4, .ref h)]) hx hb d_Pr_putNumeral_13 hl (by decide) rfl (fun ls hl => ?_)
    refine lv_iload hx hb d_Pr_putNumeral_15 (lv_at hl 0 rfl) ?_
    refine lv_if_eq (tgt := 36) hx hb d_Pr_putNumeral_17 (by decide) (fun c9 => by first | exact absurd c9 (by decide) | exact absurd (by decide) c9) (fun _ => ?_)
    refine lv_aload hx hb d_Pr_putNumeral_20 (lv_at hl 5 rfl) ?_
    refine lv_iload_n hx hb d_Pr_putNumeral_22 rfl (lv_at hl 2 rfl) ?_
    refine lv_if_eq (tgt := 31) hx hb d_Pr_putNumeral_23 (by decide) (fun _ => ?_) (fun c9 => by first | exact absurd c9 (by decide) | exact absurd (by decide) c9)
    refine lv_bipush (v := 43) hx hb d_Pr_putNumeral_31 (by decide) ?_
    have hPc := hP.sub (ws' := [(h, .inr (2, [.ref r, .int (nI L.length)])), (r, .inl (cA, cap, .inl f))]) [3, 4] rfl
    have hKc := hK.sub (tys' := [(cA, .byte)]) [1] rfl
    have hDc := hD.sub (ws' := [(h, .inr (2, [.ref r, .int (nI L.length)])), (r, .inl (cA, cap, .inl f))]) [3, 4] (by decide) rfl
    have hFc := va_free (wc := [(h, .inr (2, [.ref r, .int (nI L.length)])), (r, .inl (cA, cap, .inl f))]) hD hS hA [3, 4] rfl
    refine zz_callv (va_runV (As := [.int 43]) (rest := []) ⟨hx, hb, hml, hown, hg⟩ (c_By_add l dC dI h r cA cap f L 43 hL hc hk  s.heap.size) (cwV 1 hg (gi_V kw_213 kw_166 kw_167 kw_2 kw_168) rfl rfl rfl (by decide +kernel) ⟨Nat.le_of_ble_eq_true rfl, Nat.le_of_ble_eq_true rfl⟩) (zz_preV hPc hKc hDc _ (q0 := 0) (ci := 2) rfl rfl) rfl rfl hl.1 rfl (lv_room (Nat.le_of_ble_eq_true rfl)) d_Pr_putNumeral_33 ⟨Nat.le_of_ble_eq_true rfl, Nat.le_of_ble_eq_true rfl⟩) hS hFc (fun u H1 k9 p9 d9 => va_join (wr := [(hp, .inr (6, [.ref hn])), (hn, .inr (5, [.ref rn, .int (nI D.length)])), (rn, .inl (cN, 64, .inl fN))]) hP hD [3, 4] [0, 1, 2] rfl rfl (by decide) (by decide) k9 hFc p9 d9) (fun u H locs hw hP hD hK1 hS => ?_)
    obtain ⟨u_7, rfl⟩ : ∃ z, z = u := ⟨_, rfl⟩
    try dsimp only at hw
    have hP : va_P (dC, dI) vwCl [(hp, .inr (6, [.ref hn])), (hn, .inr (5, [.ref rn, .int (nI D.length)])), (rn, .inl (cN, 64, .inl fN)), (h, .inr (2, [.ref r, .int (nI (by_ap cap L [by_b 43]).length)])), (r, .inl (cA, cap, .inl u_7))] H := hP
    have hD : va_D A [(hp, .inr (6, [.ref hn])), (hn, .inr (5, [.ref rn, .int (nI D.length)])), (rn, .inl (cN, 64, .inl fN)), (h, .inr (2, [.ref r, .int (nI (by_ap cap L [by_b 43]).length)])), (r, .inl (cA, cap, .inl u_7))] := hD
    have hL_9 := hw
    refine lv_aload hx hb d_Pr_putNumeral_36 (lv_at hl 5 rfl) ?_
    refine lv_bipush (v := 48) hx hb d_Pr_putNumeral_38 (by decide) ?_
    refine lv_iload_n hx hb d_Pr_putNumeral_40 rfl (lv_at hl 4 rfl) ?_
    refine lv_aload_n hx hb d_Pr_putNumeral_41 rfl (lv_at hl 1 rfl) ?_
    refine va_get (D := (dC, dI)) (ci := 6) (v := .ref hn) (C := "TextForge$Printer") (T := TX6) (N := 1) hx hb hg iwX6 hown hK hP 0 rfl rfl 0 (by decide) (hg _ kw_110) (fun _ h9 => h9) rfl d_Pr_putNumeral_42 ?_
    have hPc := hP.sub (ws' := [(hn, .inr (5, [.ref rn, .int (nI D.length)]))]) [1] rfl
    have hKc := hK.sub (tys' := []) [] rfl
    refine vp_callSi (W.runV (As := []) (rest := [.int (nI w), .int 48, .ref h]) ⟨hx, hb, hml, hown, hg⟩ (c_Nu_count l dC dI hn (.ref rn) (nI D.length) ) (cwV 0 hg (gi_V kw_268 kw_269 kw_270 kw_7 kw_271) rfl rfl rfl (by decide +kernel) ⟨Nat.le_of_ble_eq_true rfl, Nat.le_of_ble_eq_true rfl⟩) (zz_prJV hPc hKc _ (q0 := 0) (ci := 5) rfl rfl) rfl rfl hl.1 rfl (lv_room (Nat.le_of_ble_eq_true rfl)) d_Pr_putNumeral_45 ⟨Nat.le_of_ble_eq_true rfl, Nat.le_of_ble_eq_true rfl⟩) (fun r_10 hr_10 => ?_)
    subst hr_10
    refine lv_isub hx hb d_Pr_putNumeral_48 ?_
    refine lv_iload hx hb d_Pr_putNumeral_49 (lv_at hl 0 rfl) ?_
    refine lv_if_eq (tgt := 58) hx hb d_Pr_putNumeral_51 (by decide) (fun c9 => by first | exact absurd c9 (by decide) | exact absurd (by decide) c9) (fun _ => ?_)
    refine lv_iconst (v := 1) hx hb d_Pr_putNumeral_54 (by decide) ?_
    refine lv_goto (tgt := 59) hx hb d_Pr_putNumeral_55 (by decide) ?_
    refine lv_isub hx hb d_Pr_putNumeral_59 ?_
    have hPc := hP.sub (ws' := [(h, .inr (2, [.ref r, .int (nI (by_ap cap L [by_b 43]).length)])), (r, .inl (cA, cap, .inl u_7))]) [3, 4] rfl
    have hKc := hK.sub (tys' := [(cA, .byte)]) [1] rfl
    have hDc := hD.sub (ws' := [(h, .inr (2, [.ref r, .int (nI (by_ap cap L [by_b 43]).length)])), (r, .inl (cA, cap, .inl u_7))]) [3, 4] (by decide) rfl
    have hFc := va_free (wc := [(h, .inr (2, [.ref r, .int (nI (by_ap cap L [by_b 43]).length)])), (r, .inl (cA, cap, .inl u_7))]) hD hS hA [3, 4] rfl
    refine zz_callv (va_runV (As := [.int 48, .int (((nI w) - (nI D.length)) - 1)]) (rest := []) ⟨hx, hb, hml, hown, hg⟩ (c_By_addTimes l dC dI h r cA cap u_7 (by_ap cap L [by_b 43]) 48 (((nI w) - (nI D.length)) - 1) hL_9 (by_ap_len _ _ _) hk  H.size) (cwV 2 hg (gi_V kw_272 kw_273 kw_274 kw_2 kw_275) rfl rfl rfl (by decide +kernel) ⟨Nat.le_of_ble_eq_true rfl, Nat.le_of_ble_eq_true rfl⟩) (zz_preV hPc hKc hDc _ (q0 := 0) (ci := 2) rfl rfl) rfl rfl hl.1 rfl (lv_room (Nat.le_of_ble_eq_true rfl)) d_Pr_putNumeral_60 ⟨Nat.le_of_ble_eq_true rfl, Nat.le_of_ble_eq_true rfl⟩) hS hFc (fun u H1 k9 p9 d9 => va_join (wr := [(hp, .inr (6, [.ref hn])), (hn, .inr (5, [.ref rn, .int (nI D.length)])), (rn, .inl (cN, 64, .inl fN))]) hP hD [3, 4] [0, 1, 2] rfl rfl (by decide) (by decide) k9 hFc p9 d9) (fun u H locs hw hP hD hK1 hS => ?_)
    obtain ⟨u_11, rfl⟩ : ∃ z, z = u := ⟨_, rfl⟩
    try dsimp only at hw
    have hP : va_P (dC, dI) vwCl [(hp, .inr (6, [.ref hn])), (hn, .inr (5, [.ref rn, .int (nI D.length)])), (rn, .inl (cN, 64, .inl fN)), (h, .inr (2, [.ref r, .int (nI (by_ap cap (by_ap cap L [by_b 43]) (List.replicate (((nI w) - (nI D.length)) - 1).toNatClampNeg (by_b 48))).length)])), (r, .inl (cA, cap, .inl u_11))] H := hP
    have hD : va_D A [(hp, .inr (6, [.ref hn])), (hn, .inr (5, [.ref rn, .int (nI D.length)])), (rn, .inl (cN, 64, .inl fN)), (h, .inr (2, [.ref r, .int (nI (by_ap cap (by_ap cap L [by_b 43]) (List.replicate (((nI w) - (nI D.length)) - 1).toNatClampNeg (by_b 48))).length)])), (r, .inl (cA, cap, .inl u_11))] := hD
    have hL_13 := hw
    refine lv_aload_n hx hb d_Pr_putNumeral_63 rfl (lv_at hl 1 rfl) ?_
    refine va_get (D := (dC, dI)) (ci := 6) (v := .ref hn) (C := "TextForge$Printer") (T := TX6) (N := 1) hx hb hg iwX6 hown hK hP 0 rfl rfl 0 (by decide) (hg _ kw_110) (fun _ h9 => h9) rfl d_Pr_putNumeral_64 ?_
    refine lv_aload hx hb d_Pr_putNumeral_67 (lv_at hl 5 rfl) ?_
    have hPc := hP.sub (ws' := [(hn, .inr (5, [.ref rn, .int (nI D.length)])), (rn, .inl (cN, 64, .inl fN)), (h, .inr (2, [.ref r, .int (nI (by_ap cap (by_ap cap L [by_b 43]) (List.replicate (((nI w) - (nI D.length)) - 1).toNatClampNeg (by_b 48))).length)])), (r, .inl (cA, cap, .inl u_11))]) [1, 2, 3, 4] rfl
    have hKc := hK.sub (tys' := [(cN, .byte), (cA, .byte)]) [0, 1] rfl
    have hDc := hD.sub (ws' := [(hn, .inr (5, [.ref rn, .int (nI D.length)])), (rn, .inl (cN, 64, .inl fN)), (h, .inr (2, [.ref r, .int (nI (by_ap cap (by_ap cap L [by_b 43]) (List.replicate (((nI w) - (nI D.length)) - 1).toNatClampNeg (by_b 48))).length)])), (r, .inl (cA, cap, .inl u_11))]) [1, 2, 3, 4] (by decide) rfl
    have hFc := va_free (wc := [(hn, .inr (5, [.ref rn, .int (nI D.length)])), (rn, .inl (cN, 64, .inl fN)), (h, .inr (2, [.ref r, .int (nI (by_ap cap (by_ap cap L [by_b 43]) (List.replicate (((nI w) - (nI D.length)) - 1).toNatClampNeg (by_b 48))).length)])), (r, .inl (cA, cap, .inl u_11))]) hD hS hA [1, 2, 3, 4] rfl
    refine zz_callv (va_runV (As := [.ref h]) (rest := []) ⟨hx, hb, hml, hown, hg⟩ (c_Nu_putTo l dC dI hn rn cN fN D h r cA cap u_11 (by_ap cap (by_ap cap L [by_b 43]) (List.replicate (((nI w) - (nI D.length)) - 1).toNatClampNeg (by_b 48))) hQ hDl hL_13 (by_ap_len _ _ _) hk H.size) (cwV 1 hg (gi_V kw_276 kw_277 kw_278 kw_7 kw_279) rfl rfl rfl (by decide +kernel) ⟨Nat.le_of_ble_eq_true rfl, Nat.le_of_ble_eq_true rfl⟩) (zz_preV hPc hKc hDc _ (q0 := 0) (ci := 5) rfl rfl) rfl rfl hl.1 rfl (lv_room (Nat.le_of_ble_eq_true rfl)) d_Pr_putNumeral_69 ⟨Nat.le_of_ble_eq_true rfl, Nat.le_of_ble_eq_true rfl⟩) hS hFc (fun u H1 k9 p9 d9 => va_join (wr := [(hp, .inr (6, [.ref hn]))]) hP hD [1, 2, 3, 4] [0] rfl rfl (by decide) (by decide) k9 hFc p9 d9) (fun u H locs hw hP hD hK1 hS => ?_)
    obtain ⟨u_14, rfl⟩ : ∃ z, z = u := ⟨_, rfl⟩
    try dsimp only at hw
    have hP : va_P (dC, dI) vwCl [(hp, .inr (6, [.ref hn])), (hn, .inr (5, [.ref rn, .int (nI D.length)])), (rn, .inl (cN, 64, .inl fN)), (h, .inr (2, [.ref r, .int (nI (by_ap cap (by_ap cap (by_ap cap L [by_b 43]) (List.replicate (((nI w) - (nI D.length)) - 1).toNatClampNeg (by_b 48))) D.reverse).length)])), (r, .inl (cA, cap, .inl u_14))] H := hP
    have hD : va_D A [(hp, .inr (6, [.ref hn])), (hn, .inr (5, [.ref rn, .int (nI D.length)])), (rn, .inl (cN, 64, .inl fN)), (h, .inr (2, [.ref r, .int (nI (by_ap cap (by_ap cap (by_ap cap L [by_b 43]) (List.replicate (((nI w) - (nI D.length)) - 1).toNatClampNeg (by_b 48))) D.reverse).length)])), (r, .inl (cA, cap, .inl u_14))] := hD
    have hLp := hw
    have hP9 := hP.sub (ws' := [(hp, .inr (6, [.ref hn])), (hn, .inr (5, [.ref rn, .int (nI D.length)])), (rn, .inl (cN, 64, .inl fN)), (h, .inr (2, [.ref r, .int (nI (by_ap cap (by_ap cap (by_ap cap L [by_b 43]) (List.replicate (((nI w) - (nI D.length)) - 1).toNatClampNeg (by_b 48))) D.reverse).length)])), (r, .inl (cA, cap, .inl u_14))]) [0, 1, 2, 3, 4] rfl
    have hD9 := hD.sub (ws' := [(hp, .inr (6, [.ref hn])), (hn, .inr (5, [.ref rn, .int (nI D.length)])), (rn, .inl (cN, 64, .inl fN)), (h, .inr (2, [.ref r, .int (nI (by_ap cap (by_ap cap (by_ap cap L [by_b 43]) (List.replicate (((nI w) - (nI D.length)) - 1).toNatClampNeg (by_b 48))) D.reverse).length)])), (r, .inl (cA, cap, .inl u_14))]) [0, 1, 2, 3, 4] (by decide) rfl
    have hK9 := hK.sub (tys' := [(cN, .byte), (cA, .byte)]) [0, 1] rfl
    rw [pn_ft hw0 hDl] at hP9 hD9
    exact zz_vret hx hb hr hlocks d_Pr_putNumeral_72 hS (by first | exact Nat.le_refl _ | decide | omega | (dsimp only; omega)) (by first | exact Nat.le_refl _ | decide | omega | (dsimp only; omega)) u_14 (by rw [pn_ft hw0 hDl] at hLp; exact hLp) hP9 hK9 hD9
  · skip
    have hl : lv_has ls 6 [(0, .ref hp), (1, .int (by_z true)), (2, .int (by_z false)), (3, .int (nI w)), (4, .ref h)] := hl
    refine lv_iload_n hx hb d_Pr_putNumeral_0 rfl (lv_at hl 1 rfl) ?_
    refine lv_if_ne (tgt := 8) hx hb d_Pr_putNumeral_1 (by decide) (fun _ => ?_) (fun c9 => by first | exact absurd c9 (by decide) | exact absurd (by decide) c9)
    refine lv_iconst (v := 1) hx hb d_Pr_putNumeral_8 (by decide) ?_
    refine lv_goto (tgt := 13) hx hb d_Pr_putNumeral_9 (by decide) ?_
    refine lv_istore (lv' := [(5, .int 1), (0, .ref hp), (1, .int (by_z true)), (2, .int (by_z false)), (3, .int (nI w)), (4, .ref h)]) hx hb d_Pr_putNumeral_13 hl (by decide) rfl (fun ls hl => ?_)
    refine lv_iload hx hb d_Pr_putNumeral_15 (lv_at hl 0 rfl) ?_
    refine lv_if_eq (tgt := 36) hx hb d_Pr_putNumeral_17 (by decide) (fun c9 => by first | exact absurd c9 (by decide) | exact absurd (by decide) c9) (fun _ => ?_)
    refine lv_aload hx hb d_Pr_putNumeral_20 (lv_at hl 5 rfl) ?_
    refine lv_iload_n hx hb d_Pr_putNumeral_22 rfl (lv_at hl 2 rfl) ?_
    refine lv_if_eq (tgt := 31) hx hb d_Pr_putNumeral_23 (by decide) (fun c9 => by first | exact absurd c9 (by decide) | exact absurd (by decide) c9) (fun _ => ?_)
    refine lv_bipush (v := 45) hx hb d_Pr_putNumeral_26 (by decide) ?_
    refine lv_goto (tgt := 33) hx hb d_Pr_putNumeral_28 (by decide) ?_
    have hPc := hP.sub (ws' := [(h, .inr (2, [.ref r, .int (nI L.length)])), (r, .inl (cA, cap, .inl f))]) [3, 4] rfl
    have hKc := hK.sub (tys' := [(cA, .byte)]) [1] rfl
    have hDc := hD.sub (ws' := [(h, .inr (2, [.ref r, .int (nI L.length)])), (r, .inl (cA, cap, .inl f))]) [3, 4] (by decide) rfl
    have hFc := va_free (wc := [(h, .inr (2, [.ref r, .int (nI L.length)])), (r, .inl (cA, cap, .inl f))]) hD hS hA [3, 4] rfl
    refine zz_callv (va_runV (As := [.int 45]) (rest := []) ⟨hx, hb, hml, hown, hg⟩ (c_By_add l dC dI h r cA cap f L 45 hL hc hk  s.heap.size) (cwV 1 hg (gi_V kw_213 kw_166 kw_167 kw_2 kw_168) rfl rfl rfl (by decide +kernel) ⟨Nat.le_of_ble_eq_true rfl, Nat.le_of_ble_eq_true rfl⟩) (zz_preV hPc hKc hDc _ (q0 := 0) (ci := 2) rfl rfl) rfl rfl hl.1 rfl (lv_room (Nat.le_of_ble_eq_true rfl)) d_Pr_putNumeral_33 ⟨Nat.le_of_ble_eq_true rfl, Nat.le_of_ble_eq_true rfl⟩) hS hFc (fun u H1 k9 p9 d9 => va_join (wr := [(hp, .inr (6, [.ref hn])), (hn, .inr (5, [.ref rn, .int (nI D.length)])), (rn, .inl (cN, 64, .inl fN))]) hP hD [3, 4] [0, 1, 2] rfl rfl (by decide) (by decide) k9 hFc p9 d9) (fun u H locs hw hP hD hK1 hS => ?_)
    obtain ⟨u_16, rfl⟩ : ∃ z, z = u := ⟨_, rfl⟩
    try dsimp only at hw
    have hP : va_P (dC, dI) vwCl [(hp, .inr (6, [.ref hn])), (hn, .inr (5, [.ref rn, .int (nI D.length)])), (rn, .inl (cN, 64, .inl fN)), (h, .inr (2, [.ref r, .int (nI (by_ap cap L [by_b 45]).length)])), (r, .inl (cA, cap, .inl u_16))] H := hP
    have hD : va_D A [(hp, .inr (6, [.ref hn])), (hn, .inr (5, [.ref rn, .int (nI D.length)])), (rn, .inl (cN, 64, .inl fN)), (h, .inr (2, [.ref r, .int (nI (by_ap cap L [by_b 45]).length)])), (r, .inl (cA, cap, .inl u_16))] := hD
    have hL_18 := hw
    refine lv_aload hx hb d_Pr_putNumeral_36 (lv_at hl 5 rfl) ?_
    refine lv_bipush (v := 48) hx hb d_Pr_putNumeral_38 (by decide) ?_
    refine lv_iload_n hx hb d_Pr_putNumeral_40 rfl (lv_at hl 4 rfl) ?_
    refine lv_aload_n hx hb d_Pr_putNumeral_41 rfl (lv_at hl 1 rfl) ?_
    refine va_get (D := (dC, dI)) (ci := 6) (v := .ref hn) (C := "TextForge$Printer") (T := TX6) (N := 1) hx hb hg iwX6 hown hK hP 0 rfl rfl 0 (by decide) (hg _ kw_110) (fun _ h9 => h9) rfl d_Pr_putNumeral_42 ?_
    have hPc := hP.sub (ws' := [(hn, .inr (5, [.ref rn, .int (nI D.length)]))]) [1] rfl
    have hKc := hK.sub (tys' := []) [] rfl
    refine vp_callSi (W.runV (As := []) (rest := [.int (nI w), .int 48, .ref h]) ⟨hx, hb, hml, hown, hg⟩ (c_Nu_count l dC dI hn (.ref rn) (nI D.length) ) (cwV 0 hg (gi_V kw_268 kw_269 kw_270 kw_7 kw_271) rfl rfl rfl (by decide +kernel) ⟨Nat.le_of_ble_eq_true rfl, Nat.le_of_ble_eq_true rfl⟩) (zz_prJV hPc hKc _ (q0 := 0) (ci := 5) rfl rfl) rfl rfl hl.1 rfl (lv_room (Nat.le_of_ble_eq_true rfl)) d_Pr_putNumeral_45 ⟨Nat.le_of_ble_eq_true rfl, Nat.le_of_ble_eq_true rfl⟩) (fun r_19 hr_19 => ?_)
    subst hr_19
    refine lv_isub hx hb d_Pr_putNumeral_48 ?_
    refine lv_iload hx hb d_Pr_putNumeral_49 (lv_at hl 0 rfl) ?_
    refine lv_if_eq (tgt := 58) hx hb d_Pr_putNumeral_51 (by decide) (fun c9 => by first | exact absurd c9 (by decide) | exact absurd (by decide) c9) (fun _ => ?_)
    refine lv_iconst (v := 1) hx hb d_Pr_putNumeral_54 (by decide) ?_
    refine lv_goto (tgt := 59) hx hb d_Pr_putNumeral_55 (by decide) ?_
    refine lv_isub hx hb d_Pr_putNumeral_59 ?_
    have hPc := hP.sub (ws' := [(h, .inr (2, [.ref r, .int (nI (by_ap cap L [by_b 45]).length)])), (r, .inl (cA, cap, .inl u_16))]) [3, 4] rfl
    have hKc := hK.sub (tys' := [(cA, .byte)]) [1] rfl
    have hDc := hD.sub (ws' := [(h, .inr (2, [.ref r, .int (nI (by_ap cap L [by_b 45]).length)])), (r, .inl (cA, cap, .inl u_16))]) [3, 4] (by decide) rfl
    have hFc := va_free (wc := [(h, .inr (2, [.ref r, .int (nI (by_ap cap L [by_b 45]).length)])), (r, .inl (cA, cap, .inl u_16))]) hD hS hA [3, 4] rfl
    refine zz_callv (va_runV (As := [.int 48, .int (((nI w) - (nI D.length)) - 1)]) (rest := []) ⟨hx, hb, hml, hown, hg⟩ (c_By_addTimes l dC dI h r cA cap u_16 (by_ap cap L [by_b 45]) 48 (((nI w) - (nI D.length)) - 1) hL_18 (by_ap_len _ _ _) hk  H.size) (cwV 2 hg (gi_V kw_272 kw_273 kw_274 kw_2 kw_275) rfl rfl rfl (by decide +kernel) ⟨Nat.le_of_ble_eq_true rfl, Nat.le_of_ble_eq_true rfl⟩) (zz_preV hPc hKc hDc _ (q0 := 0) (ci := 2) rfl rfl) rfl rfl hl.1 rfl (lv_room (Nat.le_of_ble_eq_true rfl)) d_Pr_putNumeral_60 ⟨Nat.le_of_ble_eq_true rfl, Nat.le_of_ble_eq_true rfl⟩) hS hFc (fun u H1 k9 p9 d9 => va_join (wr := [(hp, .inr (6, [.ref hn])), (hn, .inr (5, [.ref rn, .int (nI D.length)])), (rn, .inl (cN, 64, .inl fN))]) hP hD [3, 4] [0, 1, 2] rfl rfl (by decide) (by decide) k9 hFc p9 d9) (fun u H locs hw hP hD hK1 hS => ?_)
    obtain ⟨u_20, rfl⟩ : ∃ z, z = u := ⟨_, rfl⟩
    try dsimp only at hw
    have hP : va_P (dC, dI) vwCl [(hp, .inr (6, [.ref hn])), (hn, .inr (5, [.ref rn, .int (nI D.length)])), (rn, .inl (cN, 64, .inl fN)), (h, .inr (2, [.ref r, .int (nI (by_ap cap (by_ap cap L [by_b 45]) (List.replicate (((nI w) - (nI D.length)) - 1).toNatClampNeg (by_b 48))).length)])), (r, .inl (cA, cap, .inl u_20))] H := hP
    have hD : va_D A [(hp, .inr (6, [.ref hn])), (hn, .inr (5, [.ref rn, .int (nI D.length)])), (rn, .inl (cN, 64, .inl fN)), (h, .inr (2, [.ref r, .int (nI (by_ap cap (by_ap cap L [by_b 45]) (List.replicate (((nI w) - (nI D.length)) - 1).toNatClampNeg (by_b 48))).length)])), (r, .inl (cA, cap, .inl u_20))] := hD
    have hL_22 := hw
    refine lv_aload_n hx hb d_Pr_putNumeral_63 rfl (lv_at hl 1 rfl) ?_
    refine va_get (D := (dC, dI)) (ci := 6) (v := .ref hn) (C := "TextForge$Printer") (T := TX6) (N := 1) hx hb hg iwX6 hown hK hP 0 rfl rfl 0 (by decide) (hg _ kw_110) (fun _ h9 => h9) rfl d_Pr_putNumeral_64 ?_
    refine lv_aload hx hb d_Pr_putNumeral_67 (lv_at hl 5 rfl) ?_
    have hPc := hP.sub (ws' := [(hn, .inr (5, [.ref rn, .int (nI D.length)])), (rn, .inl (cN, 64, .inl fN)), (h, .inr (2, [.ref r, .int (nI (by_ap cap (by_ap cap L [by_b 45]) (List.replicate (((nI w) - (nI D.length)) - 1).toNatClampNeg (by_b 48))).length)])), (r, .inl (cA, cap, .inl u_20))]) [1, 2, 3, 4] rfl
    have hKc := hK.sub (tys' := [(cN, .byte), (cA, .byte)]) [0, 1] rfl
    have hDc := hD.sub (ws' := [(hn, .inr (5, [.ref rn, .int (nI D.length)])), (rn, .inl (cN, 64, .inl fN)), (h, .inr (2, [.ref r, .int (nI (by_ap cap (by_ap cap L [by_b 45]) (List.replicate (((nI w) - (nI D.length)) - 1).toNatClampNeg (by_b 48))).length)])), (r, .inl (cA, cap, .inl u_20))]) [1, 2, 3, 4] (by decide) rfl
    have hFc := va_free (wc := [(hn, .inr (5, [.ref rn, .int (nI D.length)])), (rn, .inl (cN, 64, .inl fN)), (h, .inr (2, [.ref r, .int (nI (by_ap cap (by_ap cap L [by_b 45]) (List.replicate (((nI w) - (nI D.length)) - 1).toNatClampNeg (by_b 48))).length)])), (r, .inl (cA, cap, .inl u_20))]) hD hS hA [1, 2, 3, 4] rfl
    refine zz_callv (va_runV (As := [.ref h]) (rest := []) ⟨hx, hb, hml, hown, hg⟩ (c_Nu_putTo l dC dI hn rn cN fN D h r cA cap u_20 (by_ap cap (by_ap cap L [by_b 45]) (List.replicate (((nI w) - (nI D.length)) - 1).toNatClampNeg (by_b 48))) hQ hDl hL_22 (by_ap_len _ _ _) hk H.size) (cwV 1 hg (gi_V kw_276 kw_277 kw_278 kw_7 kw_279) rfl rfl rfl (by decide +kernel) ⟨Nat.le_of_ble_eq_true rfl, Nat.le_of_ble_eq_true rfl⟩) (zz_preV hPc hKc hDc _ (q0 := 0) (ci := 5) rfl rfl) rfl rfl hl.1 rfl (lv_room (Nat.le_of_ble_eq_true rfl)) d_Pr_putNumeral_69 ⟨Nat.le_of_ble_eq_true rfl, Nat.le_of_ble_eq_true rfl⟩) hS hFc (fun u H1 k9 p9 d9 => va_join (wr := [(hp, .inr (6, [.ref hn]))]) hP hD [1, 2, 3, 4] [0] rfl rfl (by decide) (by decide) k9 hFc p9 d9) (fun u H locs hw hP hD hK1 hS => ?_)
    obtain ⟨u_23, rfl⟩ : ∃ z, z = u := ⟨_, rfl⟩
    try dsimp only at hw
    have hP : va_P (dC, dI) vwCl [(hp, .inr (6, [.ref hn])), (hn, .inr (5, [.ref rn, .int (nI D.length)])), (rn, .inl (cN, 64, .inl fN)), (h, .inr (2, [.ref r, .int (nI (by_ap cap (by_ap cap (by_ap cap L [by_b 45]) (List.replicate (((nI w) - (nI D.length)) - 1).toNatClampNeg (by_b 48))) D.reverse).length)])), (r, .inl (cA, cap, .inl u_23))] H := hP
    have hD : va_D A [(hp, .inr (6, [.ref hn])), (hn, .inr (5, [.ref rn, .int (nI D.length)])), (rn, .inl (cN, 64, .inl fN)), (h, .inr (2, [.ref r, .int (nI (by_ap cap (by_ap cap (by_ap cap L [by_b 45]) (List.replicate (((nI w) - (nI D.length)) - 1).toNatClampNeg (by_b 48))) D.reverse).length)])), (r, .inl (cA, cap, .inl u_23))] := hD
    have hLp := hw
    have hP9 := hP.sub (ws' := [(hp, .inr (6, [.ref hn])), (hn, .inr (5, [.ref rn, .int (nI D.length)])), (rn, .inl (cN, 64, .inl fN)), (h, .inr (2, [.ref r, .int (nI (by_ap cap (by_ap cap (by_ap cap L [by_b 45]) (List.replicate (((nI w) - (nI D.length)) - 1).toNatClampNeg (by_b 48))) D.reverse).length)])), (r, .inl (cA, cap, .inl u_23))]) [0, 1, 2, 3, 4] rfl
    have hD9 := hD.sub (ws' := [(hp, .inr (6, [.ref hn])), (hn, .inr (5, [.ref rn, .int (nI D.length)])), (rn, .inl (cN, 64, .inl fN)), (h, .inr (2, [.ref r, .int (nI (by_ap cap (by_ap cap (by_ap cap L [by_b 45]) (List.replicate (((nI w) - (nI D.length)) - 1).toNatClampNeg (by_b 48))) D.reverse).length)])), (r, .inl (cA, cap, .inl u_23))]) [0, 1, 2, 3, 4] (by decide) rfl
    have hK9 := hK.sub (tys' := [(cN, .byte), (cA, .byte)]) [0, 1] rfl
    rw [pn_tf hw0 hDl] at hP9 hD9
    exact zz_vret hx hb hr hlocks d_Pr_putNumeral_72 hS (by first | exact Nat.le_refl _ | decide | omega | (dsimp only; omega)) (by first | exact Nat.le_refl _ | decide | omega | (dsimp only; omega)) u_23 (by rw [pn_tf hw0 hDl] at hLp; exact hLp) hP9 hK9 hD9
  · skip
    have hl : lv_has ls 6 [(0, .ref hp), (1, .int (by_z true)), (2, .int (by_z true)), (3, .int (nI w)), (4, .ref h)] := hl
    refine lv_iload_n hx hb d_Pr_putNumeral_0 rfl (lv_at hl 1 rfl) ?_
    refine lv_if_ne (tgt := 8) hx hb d_Pr_putNumeral_1 (by decide) (fun _ => ?_) (fun c9 => by first | exact absurd c9 (by decide) | exact absurd (by decide) c9)
    refine lv_iconst (v := 1) hx hb d_Pr_putNumeral_8 (by decide) ?_
    refine lv_goto (tgt := 13) hx hb d_Pr_putNumeral_9 (by decide) ?_
    refine lv_istore (lv' := [(5, .int 1), (0, .ref hp), (1, .int (by_z true)), (2, .int (by_z true)), (3, .int (nI w)), (4, .ref h)]) hx hb d_Pr_putNumeral_13 hl (by decide) rfl (fun ls hl => ?_)
    refine lv_iload hx hb d_Pr_putNumeral_15 (lv_at hl 0 rfl) ?_
    refine lv_if_eq (tgt := 36) hx hb d_Pr_putNumeral_17 (by decide) (fun c9 => by first | exact absurd c9 (by decide) | exact absurd (by decide) c9) (fun _ => ?_)
    refine lv_aload hx hb d_Pr_putNumeral_20 (lv_at hl 5 rfl) ?_
    refine lv_iload_n hx hb d_Pr_putNumeral_22 rfl (lv_at hl 2 rfl) ?_
    refine lv_if_eq (tgt := 31) hx hb d_Pr_putNumeral_23 (by decide) (fun c9 => by first | exact absurd c9 (by decide) | exact absurd (by decide) c9) (fun _ => ?_)
    refine lv_bipush (v := 45) hx hb d_Pr_putNumeral_26 (by decide) ?_
    refine lv_goto (tgt := 33) hx hb d_Pr_putNumeral_28 (by decide) ?_
    have hPc := hP.sub (ws' := [(h, .inr (2, [.ref r, .int (nI L.length)])), (r, .inl (cA, cap, .inl f))]) [3, 4] rfl
    have hKc := hK.sub (tys' := [(cA, .byte)]) [1] rfl
    have hDc := hD.sub (ws' := [(h, .inr (2, [.ref r, .int (nI L.length)])), (r, .inl (cA, cap, .inl f))]) [3, 4] (by decide) rfl
    have hFc := va_free (wc := [(h, .inr (2, [.ref r, .int (nI L.length)])), (r, .inl (cA, cap, .inl f))]) hD hS hA [3, 4] rfl
    refine zz_callv (va_runV (As := [.int 45]) (rest := []) ⟨hx, hb, hml, hown, hg⟩ (c_By_add l dC dI h r cA cap f L 45 hL hc hk  s.heap.size) (cwV 1 hg (gi_V kw_213 kw_166 kw_167 kw_2 kw_168) rfl rfl rfl (by decide +kernel) ⟨Nat.le_of_ble_eq_true rfl, Nat.le_of_ble_eq_true rfl⟩) (zz_preV hPc hKc hDc _ (q0 := 0) (ci := 2) rfl rfl) rfl rfl hl.1 rfl (lv_room (Nat.le_of_ble_eq_true rfl)) d_Pr_putNumeral_33 ⟨Nat.le_of_ble_eq_true rfl, Nat.le_of_ble_eq_true rfl⟩) hS hFc (fun u H1 k9 p9 d9 => va_join (wr := [(hp, .inr (6, [.ref hn])), (hn, .inr (5, [.ref rn, .int (nI D.length)])), (rn, .inl (cN, 64, .inl fN))]) hP hD [3, 4] [0, 1, 2] rfl rfl (by decide) (by decide) k9 hFc p9 d9) (fun u H locs hw hP hD hK1 hS => ?_)
    obtain ⟨u_25, rfl⟩ : ∃ z, z = u := ⟨_, rfl⟩
    try dsimp only at hw
    have hP : va_P (dC, dI) vwCl [(hp, .inr (6, [.ref hn])), (hn, .inr (5, [.ref rn, .int (nI D.length)])), (rn, .inl (cN, 64, .inl fN)), (h, .inr (2, [.ref r, .int (nI (by_ap cap L [by_b 45]).length)])), (r, .inl (cA, cap, .inl u_25))] H := hP
    have hD : va_D A [(hp, .inr (6, [.ref hn])), (hn, .inr (5, [.ref rn, .int (nI D.length)])), (rn, .inl (cN, 64, .inl fN)), (h, .inr (2, [.ref r, .int (nI (by_ap cap L [by_b 45]).length)])), (r, .inl (cA, cap, .inl u_25))] := hD
    have hL_27 := hw
    refine lv_aload hx hb d_Pr_putNumeral_36 (lv_at hl 5 rfl) ?_
    refine lv_bipush (v := 48) hx hb d_Pr_putNumeral_38 (by decide) ?_
    refine lv_iload_n hx hb d_Pr_putNumeral_40 rfl (lv_at hl 4 rfl) ?_
    refine lv_aload_n hx hb d_Pr_putNumeral_41 rfl (lv_at hl 1 rfl) ?_
    refine va_get (D := (dC, dI)) (ci := 6) (v := .ref hn) (C := "TextForge$Printer") (T := TX6) (N := 1) hx hb hg iwX6 hown hK hP 0 rfl rfl 0 (by decide) (hg _ kw_110) (fun _ h9 => h9) rfl d_Pr_putNumeral_42 ?_
    have hPc := hP.sub (ws' := [(hn, .inr (5, [.ref rn, .int (nI D.length)]))]) [1] rfl
    have hKc := hK.sub (tys' := []) [] rfl
    refine vp_callSi (W.runV (As := []) (rest := [.int (nI w), .int 48, .ref h]) ⟨hx, hb, hml, hown, hg⟩ (c_Nu_count l dC dI hn (.ref rn) (nI D.length) ) (cwV 0 hg (gi_V kw_268 kw_269 kw_270 kw_7 kw_271) rfl rfl rfl (by decide +kernel) ⟨Nat.le_of_ble_eq_true rfl, Nat.le_of_ble_eq_true rfl⟩) (zz_prJV hPc hKc _ (q0 := 0) (ci := 5) rfl rfl) rfl rfl hl.1 rfl (lv_room (Nat.le_of_ble_eq_true rfl)) d_Pr_putNumeral_45 ⟨Nat.le_of_ble_eq_true rfl, Nat.le_of_ble_eq_true rfl⟩) (fun r_28 hr_28 => ?_)
    subst hr_28
    refine lv_isub hx hb d_Pr_putNumeral_48 ?_
    refine lv_iload hx hb d_Pr_putNumeral_49 (lv_at hl 0 rfl) ?_
    refine lv_if_eq (tgt := 58) hx hb d_Pr_putNumeral_51 (by decide) (fun c9 => by first | exact absurd c9 (by decide) | exact absurd (by decide) c9) (fun _ => ?_)
    refine lv_iconst (v := 1) hx hb d_Pr_putNumeral_54 (by decide) ?_
    refine lv_goto (tgt := 59) hx hb d_Pr_putNumeral_55 (by decide) ?_
    refine lv_isub hx hb d_Pr_putNumeral_59 ?_
    have hPc := hP.sub (ws' := [(h, .inr (2, [.ref r, .int (nI (by_ap cap L [by_b 45]).length)])), (r, .inl (cA, cap, .inl u_25))]) [3, 4] rfl
    have hKc := hK.sub (tys' := [(cA, .byte)]) [1] rfl
    have hDc := hD.sub (ws' := [(h, .inr (2, [.ref r, .int (nI (by_ap cap L [by_b 45]).length)])), (r, .inl (cA, cap, .inl u_25))]) [3, 4] (by decide) rfl
    have hFc := va_free (wc := [(h, .inr (2, [.ref r, .int (nI (by_ap cap L [by_b 45]).length)])), (r, .inl (cA, cap, .inl u_25))]) hD hS hA [3, 4] rfl
    refine zz_callv (va_runV (As := [.int 48, .int (((nI w) - (nI D.length)) - 1)]) (rest := []) ⟨hx, hb, hml, hown, hg⟩ (c_By_addTimes l dC dI h r cA cap u_25 (by_ap cap L [by_b 45]) 48 (((nI w) - (nI D.length)) - 1) hL_27 (by_ap_len _ _ _) hk  H.size) (cwV 2 hg (gi_V kw_272 kw_273 kw_274 kw_2 kw_275) rfl rfl rfl (by decide +kernel) ⟨Nat.le_of_ble_eq_true rfl, Nat.le_of_ble_eq_true rfl⟩) (zz_preV hPc hKc hDc _ (q0 := 0) (ci := 2) rfl rfl) rfl rfl hl.1 rfl (lv_room (Nat.le_of_ble_eq_true rfl)) d_Pr_putNumeral_60 ⟨Nat.le_of_ble_eq_true rfl, Nat.le_of_ble_eq_true rfl⟩) hS hFc (fun u H1 k9 p9 d9 => va_join (wr := [(hp, .inr (6, [.ref hn])), (hn, .inr (5, [.ref rn, .int (nI D.length)])), (rn, .inl (cN, 64, .inl fN))]) hP hD [3, 4] [0, 1, 2] rfl rfl (by decide) (by decide) k9 hFc p9 d9) (fun u H locs hw hP hD hK1 hS => ?_)
    obtain ⟨u_29, rfl⟩ : ∃ z, z = u := ⟨_, rfl⟩
    try dsimp only at hw
    have hP : va_P (dC, dI) vwCl [(hp, .inr (6, [.ref hn])), (hn, .inr (5, [.ref rn, .int (nI D.length)])), (rn, .inl (cN, 64, .inl fN)), (h, .inr (2, [.ref r, .int (nI (by_ap cap (by_ap cap L [by_b 45]) (List.replicate (((nI w) - (nI D.length)) - 1).toNatClampNeg (by_b 48))).length)])), (r, .inl (cA, cap, .inl u_29))] H := hP
    have hD : va_D A [(hp, .inr (6, [.ref hn])), (hn, .inr (5, [.ref rn, .int (nI D.length)])), (rn, .inl (cN, 64, .inl fN)), (h, .inr (2, [.ref r, .int (nI (by_ap cap (by_ap cap L [by_b 45]) (List.replicate (((nI w) - (nI D.length)) - 1).toNatClampNeg (by_b 48))).length)])), (r, .inl (cA, cap, .inl u_29))] := hD
    have hL_31 := hw
    refine lv_aload_n hx hb d_Pr_putNumeral_63 rfl (lv_at hl 1 rfl) ?_
    refine va_get (D := (dC, dI)) (ci := 6) (v := .ref hn) (C := "TextForge$Printer") (T := TX6) (N := 1) hx hb hg iwX6 hown hK hP 0 rfl rfl 0 (by decide) (hg _ kw_110) (fun _ h9 => h9) rfl d_Pr_putNumeral_64 ?_
    refine lv_aload hx hb d_Pr_putNumeral_67 (lv_at hl 5 rfl) ?_
    have hPc := hP.sub (ws' := [(hn, .inr (5, [.ref rn, .int (nI D.length)])), (rn, .inl (cN, 64, .inl fN)), (h, .inr (2, [.ref r, .int (nI (by_ap cap (by_ap cap L [by_b 45]) (List.replicate (((nI w) - (nI D.length)) - 1).toNatClampNeg (by_b 48))).length)])), (r, .inl (cA, cap, .inl u_29))]) [1, 2, 3, 4] rfl
    have hKc := hK.sub (tys' := [(cN, .byte), (cA, .byte)]) [0, 1] rfl
    have hDc := hD.sub (ws' := [(hn, .inr (5, [.ref rn, .int (nI D.length)])), (rn, .inl (cN, 64, .inl fN)), (h, .inr (2, [.ref r, .int (nI (by_ap cap (by_ap cap L [by_b 45]) (List.replicate (((nI w) - (nI D.length)) - 1).toNatClampNeg (by_b 48))).length)])), (r, .inl (cA, cap, .inl u_29))]) [1, 2, 3, 4] (by decide) rfl
    have hFc := va_free (wc := [(hn, .inr (5, [.ref rn, .int (nI D.length)])), (rn, .inl (cN, 64, .inl fN)), (h, .inr (2, [.ref r, .int (nI (by_ap cap (by_ap cap L [by_b 45]) (List.replicate (((nI w) - (nI D.length)) - 1).toNatClampNeg (by_b 48))).length)])), (r, .inl (cA, cap, .inl u_29))]) hD hS hA [1, 2, 3, 4] rfl
    refine zz_callv (va_runV (As := [.ref h]) (rest := []) ⟨hx, hb, hml, hown, hg⟩ (c_Nu_putTo l dC dI hn rn cN fN D h r cA cap u_29 (by_ap cap (by_ap cap L [by_b 45]) (List.replicate (((nI w) - (nI D.length)) - 1).toNatClampNeg (by_b 48))) hQ hDl hL_31 (by_ap_len _ _ _) hk H.size) (cwV 1 hg (gi_V kw_276 kw_277 kw_278 kw_7 kw_279) rfl rfl rfl (by decide +kernel) ⟨Nat.le_of_ble_eq_true rfl, Nat.le_of_ble_eq_true rfl⟩) (zz_preV hPc hKc hDc _ (q0 := 0) (ci := 5) rfl rfl) rfl rfl hl.1 rfl (lv_room (Nat.le_of_ble_eq_true rfl)) d_Pr_putNumeral_69 ⟨Nat.le_of_ble_eq_true rfl, Nat.le_of_ble_eq_true rfl⟩) hS hFc (fun u H1 k9 p9 d9 => va_join (wr := [(hp, .inr (6, [.ref hn]))]) hP hD [1, 2, 3, 4] [0] rfl rfl (by decide) (by decide) k9 hFc p9 d9) (fun u H locs hw hP hD hK1 hS => ?_)
    obtain ⟨u_32, rfl⟩ : ∃ z, z = u := ⟨_, rfl⟩
    try dsimp only at hw
    have hP : va_P (dC, dI) vwCl [(hp, .inr (6, [.ref hn])), (hn, .inr (5, [.ref rn, .int (nI D.length)])), (rn, .inl (cN, 64, .inl fN)), (h, .inr (2, [.ref r, .int (nI (by_ap cap (by_ap cap (by_ap cap L [by_b 45]) (List.replicate (((nI w) - (nI D.length)) - 1).toNatClampNeg (by_b 48))) D.reverse).length)])), (r, .inl (cA, cap, .inl u_32))] H := hP
    have hD : va_D A [(hp, .inr (6, [.ref hn])), (hn, .inr (5, [.ref rn, .int (nI D.length)])), (rn, .inl (cN, 64, .inl fN)), (h, .inr (2, [.ref r, .int (nI (by_ap cap (by_ap cap (by_ap cap L [by_b 45]) (List.replicate (((nI w) - (nI D.length)) - 1).toNatClampNeg (by_b 48))) D.reverse).length)])), (r, .inl (cA, cap, .inl u_32))] := hD
    have hLp := hw
    have hP9 := hP.sub (ws' := [(hp, .inr (6, [.ref hn])), (hn, .inr (5, [.ref rn, .int (nI D.length)])), (rn, .inl (cN, 64, .inl fN)), (h, .inr (2, [.ref r, .int (nI (by_ap cap (by_ap cap (by_ap cap L [by_b 45]) (List.replicate (((nI w) - (nI D.length)) - 1).toNatClampNeg (by_b 48))) D.reverse).length)])), (r, .inl (cA, cap, .inl u_32))]) [0, 1, 2, 3, 4] rfl
    have hD9 := hD.sub (ws' := [(hp, .inr (6, [.ref hn])), (hn, .inr (5, [.ref rn, .int (nI D.length)])), (rn, .inl (cN, 64, .inl fN)), (h, .inr (2, [.ref r, .int (nI (by_ap cap (by_ap cap (by_ap cap L [by_b 45]) (List.replicate (((nI w) - (nI D.length)) - 1).toNatClampNeg (by_b 48))) D.reverse).length)])), (r, .inl (cA, cap, .inl u_32))]) [0, 1, 2, 3, 4] (by decide) rfl
    have hK9 := hK.sub (tys' := [(cN, .byte), (cA, .byte)]) [0, 1] rfl
    rw [pn_tt hw0 hDl] at hP9 hD9
    exact zz_vret hx hb hr hlocks d_Pr_putNumeral_72 hS (by first | exact Nat.le_refl _ | decide | omega | (dsimp only; omega)) (by first | exact Nat.le_refl _ | decide | omega | (dsimp only; omega)) u_32 (by rw [pn_tt hw0 hDl] at hLp; exact hLp) hP9 hK9 hD9
abbrev y_Pr_setNumeral : MethodName := ⟨"TextForge$Printer", "setNumeral", "(IJ)Z"⟩
abbrev w_Pr_setNumeral : List Cond := Cond.code y_Pr_setNumeral prog_8_method_8_code 4 (some .boolean) :: gw
theorem d_Pr_setNumeral_0 : decode prog_8_method_8_code 0 = .ok (.iload_n 1, 1) := by decide +kernel
theorem d_Pr_setNumeral_1 : decode prog_8_method_8_code 1 = .ok (.lookupswitch 113 #[(88, 74), (98, 87), (100, 51), (111, 100), (120, 61)], 51) := by decide +kernel
theorem d_Pr_setNumeral_52 : decode prog_8_method_8_code 52 = .ok (.aload_n 0, 1) := by decide +kernel
theorem d_Pr_setNumeral_53 : decode prog_8_method_8_code 53 = .ok (.getfield 10, 3) := by decide +kernel
theorem d_Pr_setNumeral_56 : decode prog_8_method_8_code 56 = .ok (.lload_n 2, 1) := by decide +kernel
theorem d_Pr_setNumeral_57 : decode prog_8_method_8_code 57 = .ok (.invokevirtual 40, 3) := by decide +kernel
theorem d_Pr_setNumeral_60 : decode prog_8_method_8_code 60 = .ok (.iconst 1, 1) := by decide +kernel
theorem d_Pr_setNumeral_61 : decode prog_8_method_8_code 61 = .ok (.ireturn, 1) := by decide +kernel
theorem d_Pr_setNumeral_62 : decode prog_8_method_8_code 62 = .ok (.aload_n 0, 1) := by decide +kernel
theorem d_Pr_setNumeral_63 : decode prog_8_method_8_code 63 = .ok (.getfield 10, 3) := by decide +kernel
theorem d_Pr_setNumeral_66 : decode prog_8_method_8_code 66 = .ok (.lload_n 2, 1) := by decide +kernel
theorem d_Pr_setNumeral_67 : decode prog_8_method_8_code 67 = .ok (.iconst 4, 1) := by decide +kernel
theorem d_Pr_setNumeral_68 : decode prog_8_method_8_code 68 = .ok (.bipush 97, 2) := by decide +kernel
theorem d_Pr_setNumeral_70 : decode prog_8_method_8_code 70 = .ok (.invokevirtual 147, 3) := by decide +kernel
theorem d_Pr_setNumeral_73 : decode prog_8_method_8_code 73 = .ok (.iconst 1, 1) := by decide +kernel
theorem d_Pr_setNumeral_74 : decode prog_8_method_8_code 74 = .ok (.ireturn, 1) := by decide +kernel
theorem d_Pr_setNumeral_75 : decode prog_8_method_8_code 75 = .ok (.aload_n 0, 1) := by decide +kernel
theorem d_Pr_setNumeral_76 : decode prog_8_method_8_code 76 = .ok (.getfield 10, 3) := by decide +kernel
theorem d_Pr_setNumeral_79 : decode prog_8_method_8_code 79 = .ok (.lload_n 2, 1) := by decide +kernel
theorem d_Pr_setNumeral_80 : decode prog_8_method_8_code 80 = .ok (.iconst 4, 1) := by decide +kernel
theorem d_Pr_setNumeral_81 : decode prog_8_method_8_code 81 = .ok (.bipush 65, 2) := by decide +kernel
theorem d_Pr_setNumeral_83 : decode prog_8_method_8_code 83 = .ok (.invokevirtual 147, 3) := by decide +kernel
theorem d_Pr_setNumeral_86 : decode prog_8_method_8_code 86 = .ok (.iconst 1, 1) := by decide +kernel
theorem d_Pr_setNumeral_87 : decode prog_8_method_8_code 87 = .ok (.ireturn, 1) := by decide +kernel
theorem d_Pr_setNumeral_88 : decode prog_8_method_8_code 88 = .ok (.aload_n 0, 1) := by decide +kernel
theorem d_Pr_setNumeral_89 : decode prog_8_method_8_code 89 = .ok (.getfield 10, 3) := by decide +kernel
theorem d_Pr_setNumeral_92 : decode prog_8_method_8_code 92 = .ok (.lload_n 2, 1) := by decide +kernel
theorem d_Pr_setNumeral_93 : decode prog_8_method_8_code 93 = .ok (.iconst 1, 1) := by decide +kernel
theorem d_Pr_setNumeral_94 : decode prog_8_method_8_code 94 = .ok (.bipush 97, 2) := by decide +kernel
theorem d_Pr_setNumeral_96 : decode prog_8_method_8_code 96 = .ok (.invokevirtual 147, 3) := by decide +kernel
theorem d_Pr_setNumeral_99 : decode prog_8_method_8_code 99 = .ok (.iconst 1, 1) := by decide +kernel
theorem d_Pr_setNumeral_100 : decode prog_8_method_8_code 100 = .ok (.ireturn, 1) := by decide +kernel
theorem d_Pr_setNumeral_101 : decode prog_8_method_8_code 101 = .ok (.aload_n 0, 1) := by decide +kernel
theorem d_Pr_setNumeral_102 : decode prog_8_method_8_code 102 = .ok (.getfield 10, 3) := by decide +kernel
theorem d_Pr_setNumeral_105 : decode prog_8_method_8_code 105 = .ok (.lload_n 2, 1) := by decide +kernel
theorem d_Pr_setNumeral_106 : decode prog_8_method_8_code 106 = .ok (.iconst 3, 1) := by decide +kernel
theorem d_Pr_setNumeral_107 : decode prog_8_method_8_code 107 = .ok (.bipush 97, 2) := by decide +kernel
theorem d_Pr_setNumeral_109 : decode prog_8_method_8_code 109 = .ok (.invokevirtual 147, 3) := by decide +kernel
theorem d_Pr_setNumeral_112 : decode prog_8_method_8_code 112 = .ok (.iconst 1, 1) := by decide +kernel
theorem d_Pr_setNumeral_113 : decode prog_8_method_8_code 113 = .ok (.ireturn, 1) := by decide +kernel
theorem d_Pr_setNumeral_114 : decode prog_8_method_8_code 114 = .ok (.iconst 0, 1) := by decide +kernel
theorem d_Pr_setNumeral_115 : decode prog_8_method_8_code 115 = .ok (.ireturn, 1) := by decide +kernel
set_option maxHeartbeats 4000000 in
set_option maxRecDepth 100000 in
theorem c_Pr_setNumeral (l : Launch) (dC : Nat → ClassId) (dI : Nat → Nat → Nat) (hp hn rn : Nat) (cN : ClassId) (fN : Nat → Int32) (kN : Int32) (v n0 : Nat) (hv : v < 256) (hn0 : n0 < 2 ^ 64) : zM_i (S := (Nat → Int32) × Int32) l y_Pr_setNumeral w_Pr_setNumeral { frames := 2, cells := 0, slots := 0, locals := 47 } (dC, dI) vwCl [.ref hp, .int (nI v), .long (lN n0)] [(hp, .inr (6, [.ref hn])), (hn, .inr (5, [.ref rn, .int kN])), (rn, .inl (cN, 64, .inl fN))] [(cN, .byte)] (fun (r : Int32) (u : (Nat → Int32) × Int32) => match u with | (f1, k1) => pn_S v n0 r f1 k1) (fun u => match u with | (f1, k1) => [(hp, .inr (6, [.ref hn])), (hn, .inr (5, [.ref rn, .int k1])), (rn, .inl (cN, 64, .inl f1))]) (fun u => match u with | (f1, k1) => [(cN, .byte)]) 0 0 := by
  refine zz_enteri (cc := prog_8_method_8_code) (nL := 4) (ret := (some .boolean)) (by decide) rfl (Nat.le_of_ble_eq_true rfl) ?_
  intro p e s m below meth c A ls C0 hA hS hP hK hD hl
  obtain ⟨hx, hb, hml, hown, hg, hr, hlocks, hin⟩ := C0
  have hown : s.vm.findClass "TextForge$Printer" = some m.cls := hown
  have hP : va_P (dC, dI) vwCl [(hp, .inr (6, [.ref hn])), (hn, .inr (5, [.ref rn, .int kN])), (rn, .inl (cN, 64, .inl fN))] s.heap := hP
  have hK : va_K (dC, dI) vwCl [(cN, .byte)] s := hK
  have hD : va_D A [(hp, .inr (6, [.ref hn])), (hn, .inr (5, [.ref rn, .int kN])), (rn, .inl (cN, 64, .inl fN))] := hD
  have hl : lv_has ls 4 [(0, .ref hp), (1, .int (nI v)), (2, .long (lN n0))] := hl
  refine lv_iload_n hx hb d_Pr_setNumeral_0 rfl (lv_at hl 1 rfl) ?_
  by_cases h88 : v = 88
  · subst h88
    have hl : lv_has ls 4 [(0, .ref hp), (1, .int (nI 88)), (2, .long (lN n0))] := hl
    refine lv_lookup (tgt := 75) (off := 74) hx hb d_Pr_setNumeral_1 (by decide) (by decide) (by decide) ?_
    refine lv_aload_n hx hb d_Pr_setNumeral_75 rfl (lv_at hl 0 rfl) ?_
    refine va_get (D := (dC, dI)) (ci := 6) (v := .ref hn) (C := "TextForge$Printer") (T := TX6) (N := 1) hx hb hg iwX6 hown hK hP 0 rfl rfl 0 (by decide) (hg _ kw_110) (fun _ h9 => h9) rfl d_Pr_setNumeral_76 ?_
    refine lv_lload_n hx hb d_Pr_setNumeral_79 rfl (lv_at hl 2 rfl) ?_
    refine lv_iconst (v := 4) hx hb d_Pr_setNumeral_80 (by decide) ?_
    refine lv_bipush (v := 65) hx hb d_Pr_setNumeral_81 (by decide) ?_
    have hPc := hP.sub (ws' := [(hn, .inr (5, [.ref rn, .int kN])), (rn, .inl (cN, 64, .inl fN))]) [1, 2] rfl
    have hKc := hK.sub (tys' := [(cN, .byte)]) [0] rfl
    have hDc := hD.sub (ws' := [(hn, .inr (5, [.ref rn, .int kN])), (rn, .inl (cN, 64, .inl fN))]) [1, 2] (by decide) rfl
    have hFc := va_free (wc := [(hn, .inr (5, [.ref rn, .int kN])), (rn, .inl (cN, 64, .inl fN))]) hD hS hA [1, 2] rfl
    refine zz_callv (va_runV (As := [.long (lN n0), .int 4, .int 65]) (rest := []) ⟨hx, hb, hml, hown, hg⟩ (c_Nu_setByBits l dC dI hn rn cN fN kN n0 4 65 hn0 (by decide) (by decide) s.heap.size) (cwV 3 hg (gi_V kw_418 kw_419 kw_420 kw_7 kw_421) rfl rfl rfl (by decide +kernel) ⟨Nat.le_of_ble_eq_true rfl, Nat.le_of_ble_eq_true rfl⟩) (zz_preV hPc hKc hDc _ (q0 := 0) (ci := 5) rfl rfl) rfl rfl hl.1 rfl (lv_room (Nat.le_of_ble_eq_true rfl)) d_Pr_setNumeral_83 ⟨Nat.le_of_ble_eq_true rfl, Nat.le_of_ble_eq_true rfl⟩) hS hFc (fun u H1 k9 p9 d9 => va_join (wr := [(hp, .inr (6, [.ref hn]))]) hP hD [1, 2] [0] rfl rfl (by decide) (by decide) k9 hFc p9 d9) (fun u H locs hw hP hD hK1 hS => ?_)
    obtain ⟨u_1, rfl⟩ : ∃ z, z = u := ⟨_, rfl⟩
    try dsimp only at hw
    have hP : va_P (dC, dI) vwCl [(hp, .inr (6, [.ref hn])), (hn, .inr (5, [.ref rn, .int (nI (nu_f (2 ^ 4) 65 64 n0).length)])), (rn, .inl (cN, 64, .inl u_1))] H := hP
    have hD : va_D A [(hp, .inr (6, [.ref hn])), (hn, .inr (5, [.ref rn, .int (nI (nu_f (2 ^ 4) 65 64 n0).length)])), (rn, .inl (cN, 64, .inl u_1))] := hD
    have hLs := hw
    refine lv_iconst (v := 1) hx hb d_Pr_setNumeral_86 (by decide) ?_
    have hP9 := hP.sub (ws' := [(hp, .inr (6, [.ref hn])), (hn, .inr (5, [.ref rn, .int (nI (nu_f (2 ^ 4) 65 64 n0).length)])), (rn, .inl (cN, 64, .inl u_1))]) [0, 1, 2] rfl
    have hD9 := hD.sub (ws' := [(hp, .inr (6, [.ref hn])), (hn, .inr (5, [.ref rn, .int (nI (nu_f (2 ^ 4) 65 64 n0).length)])), (rn, .inl (cN, 64, .inl u_1))]) [0, 1, 2] (by decide) rfl
    have hK9 := hK.sub (tys' := [(cN, .byte)]) [0] rfl
    exact zz_zret hx hb hr hlocks d_Pr_setNumeral_87 (by decide) hS (by first | exact Nat.le_refl _ | decide | omega | (dsimp only; omega)) (by first | exact Nat.le_refl _ | decide | omega | (dsimp only; omega)) (u_1, (nI (nu_f (2 ^ 4) 65 64 n0).length)) ⟨rfl, hLs, rfl⟩ hP9 hK9 hD9
  · skip
    by_cases h98 : v = 98
    · subst h98
      have hl : lv_has ls 4 [(0, .ref hp), (1, .int (nI 98)), (2, .long (lN n0))] := hl
      refine lv_lookup (tgt := 88) (off := 87) hx hb d_Pr_setNumeral_1 (by decide) (by decide) (by decide) ?_
      refine lv_aload_n hx hb d_Pr_setNumeral_88 rfl (lv_at hl 0 rfl) ?_
      refine va_get (D := (dC, dI)) (ci := 6) (v := .ref hn) (C := "TextForge$Printer") (T := TX6) (N := 1) hx hb hg iwX6 hown hK hP 0 rfl rfl 0 (by decide) (hg _ kw_110) (fun _ h9 => h9) rfl d_Pr_setNumeral_89 ?_
      refine lv_lload_n hx hb d_Pr_setNumeral_92 rfl (lv_at hl 2 rfl) ?_
      refine lv_iconst (v := 1) hx hb d_Pr_setNumeral_93 (by decide) ?_
      refine lv_bipush (v := 97) hx hb d_Pr_setNumeral_94 (by decide) ?_
      have hPc := hP.sub (ws' := [(hn, .inr (5, [.ref rn, .int kN])), (rn, .inl (cN, 64, .inl fN))]) [1, 2] rfl
      have hKc := hK.sub (tys' := [(cN, .byte)]) [0] rfl
      have hDc := hD.sub (ws' := [(hn, .inr (5, [.ref rn, .int kN])), (rn, .inl (cN, 64, .inl fN))]) [1, 2] (by decide) rfl
      have hFc := va_free (wc := [(hn, .inr (5, [.ref rn, .int kN])), (rn, .inl (cN, 64, .inl fN))]) hD hS hA [1, 2] rfl
      refine zz_callv (va_runV (As := [.long (lN n0), .int 1, .int 97]) (rest := []) ⟨hx, hb, hml, hown, hg⟩ (c_Nu_setByBits l dC dI hn rn cN fN kN n0 1 97 hn0 (by decide) (by decide) s.heap.size) (cwV 3 hg (gi_V kw_418 kw_419 kw_420 kw_7 kw_421) rfl rfl rfl (by decide +kernel) ⟨Nat.le_of_ble_eq_true rfl, Nat.le_of_ble_eq_true rfl⟩) (zz_preV hPc hKc hDc _ (q0 := 0) (ci := 5) rfl rfl) rfl rfl hl.1 rfl (lv_room (Nat.le_of_ble_eq_true rfl)) d_Pr_setNumeral_96 ⟨Nat.le_of_ble_eq_true rfl, Nat.le_of_ble_eq_true rfl⟩) hS hFc (fun u H1 k9 p9 d9 => va_join (wr := [(hp, .inr (6, [.ref hn]))]) hP hD [1, 2] [0] rfl rfl (by decide) (by decide) k9 hFc p9 d9) (fun u H locs hw hP hD hK1 hS => ?_)
      obtain ⟨u_3, rfl⟩ : ∃ z, z = u := ⟨_, rfl⟩
      try dsimp only at hw
      have hP : va_P (dC, dI) vwCl [(hp, .inr (6, [.ref hn])), (hn, .inr (5, [.ref rn, .int (nI (nu_f (2 ^ 1) 97 64 n0).length)])), (rn, .inl (cN, 64, .inl u_3))] H := hP
      have hD : va_D A [(hp, .inr (6, [.ref hn])), (hn, .inr (5, [.ref rn, .int (nI (nu_f (2 ^ 1) 97 64 n0).length)])), (rn, .inl (cN, 64, .inl u_3))] := hD
      have hLs := hw
      refine lv_iconst (v := 1) hx hb d_Pr_setNumeral_99 (by decide) ?_
      have hP9 := hP.sub (ws' := [(hp, .inr (6, [.ref hn])), (hn, .inr (5, [.ref rn, .int (nI (nu_f (2 ^ 1) 97 64 n0).length)])), (rn, .inl (cN, 64, .inl u_3))]) [0, 1, 2] rfl
      have hD9 := hD.sub (ws' := [(hp, .inr (6, [.ref hn])), (hn, .inr (5, [.ref rn, .int (nI (nu_f (2 ^ 1) 97 64 n0).length)])), (rn, .inl (cN, 64, .inl u_3))]) [0, 1, 2] (by decide) rfl
      have hK9 := hK.sub (tys' := [(cN, .byte)]) [0] rfl
      exact zz_zret hx hb hr hlocks d_Pr_setNumeral_100 (by decide) hS (by first | exact Nat.le_refl _ | decide | omega | (dsimp only; omega)) (by first | exact Nat.le_refl _ | decide | omega | (dsimp only; omega)) (u_3, (nI (nu_f (2 ^ 1) 97 64 n0).length)) ⟨rfl, hLs, rfl⟩ hP9 hK9 hD9
    · skip
      by_cases h100 : v = 100
      · subst h100
        have hl : lv_has ls 4 [(0, .ref hp), (1, .int (nI 100)), (2, .long (lN n0))] := hl
        refine lv_lookup (tgt := 52) (off := 51) hx hb d_Pr_setNumeral_1 (by decide) (by decide) (by decide) ?_
        refine lv_aload_n hx hb d_Pr_setNumeral_52 rfl (lv_at hl 0 rfl) ?_
        refine va_get (D := (dC, dI)) (ci := 6) (v := .ref hn) (C := "TextForge$Printer") (T := TX6) (N := 1) hx hb hg iwX6 hown hK hP 0 rfl rfl 0 (by decide) (hg _ kw_110) (fun _ h9 => h9) rfl d_Pr_setNumeral_53 ?_
        refine lv_lload_n hx hb d_Pr_setNumeral_56 rfl (lv_at hl 2 rfl) ?_
        have hPc := hP.sub (ws' := [(hn, .inr (5, [.ref rn, .int kN])), (rn, .inl (cN, 64, .inl fN))]) [1, 2] rfl
        have hKc := hK.sub (tys' := [(cN, .byte)]) [0] rfl
        have hDc := hD.sub (ws' := [(hn, .inr (5, [.ref rn, .int kN])), (rn, .inl (cN, 64, .inl fN))]) [1, 2] (by decide) rfl
        have hFc := va_free (wc := [(hn, .inr (5, [.ref rn, .int kN])), (rn, .inl (cN, 64, .inl fN))]) hD hS hA [1, 2] rfl
        refine zz_callv (va_runV (As := [.long (lN n0)]) (rest := []) ⟨hx, hb, hml, hown, hg⟩ (c_Nu_setDecimal l dC dI hn rn cN fN kN n0 hn0 s.heap.size) (cwV 1 hg (gi_V kw_256 kw_257 kw_258 kw_7 kw_259) rfl rfl rfl (by decide +kernel) ⟨Nat.le_of_ble_eq_true rfl, Nat.le_of_ble_eq_true rfl⟩) (zz_preV hPc hKc hDc _ (q0 := 0) (ci := 5) rfl rfl) rfl rfl hl.1 rfl (lv_room (Nat.le_of_ble_eq_true rfl)) d_Pr_setNumeral_57 ⟨Nat.le_of_ble_eq_true rfl, Nat.le_of_ble_eq_true rfl⟩) hS hFc (fun u H1 k9 p9 d9 => va_join (wr := [(hp, .inr (6, [.ref hn]))]) hP hD [1, 2] [0] rfl rfl (by decide) (by decide) k9 hFc p9 d9) (fun u H locs hw hP hD hK1 hS => ?_)
        obtain ⟨u_5, rfl⟩ : ∃ z, z = u := ⟨_, rfl⟩
        try dsimp only at hw
        have hP : va_P (dC, dI) vwCl [(hp, .inr (6, [.ref hn])), (hn, .inr (5, [.ref rn, .int (nI (nu_f 10 97 64 n0).length)])), (rn, .inl (cN, 64, .inl u_5))] H := hP
        have hD : va_D A [(hp, .inr (6, [.ref hn])), (hn, .inr (5, [.ref rn, .int (nI (nu_f 10 97 64 n0).length)])), (rn, .inl (cN, 64, .inl u_5))] := hD
        have hLs := hw
        refine lv_iconst (v := 1) hx hb d_Pr_setNumeral_60 (by decide) ?_
        have hP9 := hP.sub (ws' := [(hp, .inr (6, [.ref hn])), (hn, .inr (5, [.ref rn, .int (nI (nu_f 10 97 64 n0).length)])), (rn, .inl (cN, 64, .inl u_5))]) [0, 1, 2] rfl
        have hD9 := hD.sub (ws' := [(hp, .inr (6, [.ref hn])), (hn, .inr (5, [.ref rn, .int (nI (nu_f 10 97 64 n0).length)])), (rn, .inl (cN, 64, .inl u_5))]) [0, 1, 2] (by decide) rfl
        have hK9 := hK.sub (tys' := [(cN, .byte)]) [0] rfl
        exact zz_zret hx hb hr hlocks d_Pr_setNumeral_61 (by decide) hS (by first | exact Nat.le_refl _ | decide | omega | (dsimp only; omega)) (by first | exact Nat.le_refl _ | decide | omega | (dsimp only; omega)) (u_5, (nI (nu_f 10 97 64 n0).length)) ⟨rfl, hLs, rfl⟩ hP9 hK9 hD9
      · skip
        by_cases h111 : v = 111
        · subst h111
          have hl : lv_has ls 4 [(0, .ref hp), (1, .int (nI 111)), (2, .long (lN n0))] := hl
          refine lv_lookup (tgt := 101) (off := 100) hx hb d_Pr_setNumeral_1 (by decide) (by decide) (by decide) ?_
          refine lv_aload_n hx hb d_Pr_setNumeral_101 rfl (lv_at hl 0 rfl) ?_
          refine va_get (D := (dC, dI)) (ci := 6) (v := .ref hn) (C := "TextForge$Printer") (T := TX6) (N := 1) hx hb hg iwX6 hown hK hP 0 rfl rfl 0 (by decide) (hg _ kw_110) (fun _ h9 => h9) rfl d_Pr_setNumeral_102 ?_
          refine lv_lload_n hx hb d_Pr_setNumeral_105 rfl (lv_at hl 2 rfl) ?_
          refine lv_iconst (v := 3) hx hb d_Pr_setNumeral_106 (by decide) ?_
          refine lv_bipush (v := 97) hx hb d_Pr_setNumeral_107 (by decide) ?_
          have hPc := hP.sub (ws' := [(hn, .inr (5, [.ref rn, .int kN])), (rn, .inl (cN, 64, .inl fN))]) [1, 2] rfl
          have hKc := hK.sub (tys' := [(cN, .byte)]) [0] rfl
          have hDc := hD.sub (ws' := [(hn, .inr (5, [.ref rn, .int kN])), (rn, .inl (cN, 64, .inl fN))]) [1, 2] (by decide) rfl
          have hFc := va_free (wc := [(hn, .inr (5, [.ref rn, .int kN])), (rn, .inl (cN, 64, .inl fN))]) hD hS hA [1, 2] rfl
          refine zz_callv (va_runV (As := [.long (lN n0), .int 3, .int 97]) (rest := []) ⟨hx, hb, hml, hown, hg⟩ (c_Nu_setByBits l dC dI hn rn cN fN kN n0 3 97 hn0 (by decide) (by decide) s.heap.size) (cwV 3 hg (gi_V kw_418 kw_419 kw_420 kw_7 kw_421) rfl rfl rfl (by decide +kernel) ⟨Nat.le_of_ble_eq_true rfl, Nat.le_of_ble_eq_true rfl⟩) (zz_preV hPc hKc hDc _ (q0 := 0) (ci := 5) rfl rfl) rfl rfl hl.1 rfl (lv_room (Nat.le_of_ble_eq_true rfl)) d_Pr_setNumeral_109 ⟨Nat.le_of_ble_eq_true rfl, Nat.le_of_ble_eq_true rfl⟩) hS hFc (fun u H1 k9 p9 d9 => va_join (wr := [(hp, .inr (6, [.ref hn]))]) hP hD [1, 2] [0] rfl rfl (by decide) (by decide) k9 hFc p9 d9) (fun u H locs hw hP hD hK1 hS => ?_)
          obtain ⟨u_7, rfl⟩ : ∃ z, z = u := ⟨_, rfl⟩
          try dsimp only at hw
          have hP : va_P (dC, dI) vwCl [(hp, .inr (6, [.ref hn])), (hn, .inr (5, [.ref rn, .int (nI (nu_f (2 ^ 3) 97 64 n0).length)])), (rn, .inl (cN, 64, .inl u_7))] H := hP
          have hD : va_D A [(hp, .inr (6, [.ref hn])), (hn, .inr (5, [.ref rn, .int (nI (nu_f (2 ^ 3) 97 64 n0).length)])), (rn, .inl (cN, 64, .inl u_7))] := hD
          have hLs := hw
          refine lv_iconst (v := 1) hx hb d_Pr_setNumeral_112 (by decide) ?_
          have hP9 := hP.sub (ws' := [(hp, .inr (6, [.ref hn])), (hn, .inr (5, [.ref rn, .int (nI (nu_f (2 ^ 3) 97 64 n0).length)])), (rn, .inl (cN, 64, .inl u_7))]) [0, 1, 2] rfl
          have hD9 := hD.sub (ws' := [(hp, .inr (6, [.ref hn])), (hn, .inr (5, [.ref rn, .int (nI (nu_f (2 ^ 3) 97 64 n0).length)])), (rn, .inl (cN, 64, .inl u_7))]) [0, 1, 2] (by decide) rfl
          have hK9 := hK.sub (tys' := [(cN, .byte)]) [0] rfl
          exact zz_zret hx hb hr hlocks d_Pr_setNumeral_113 (by decide) hS (by first | exact Nat.le_refl _ | decide | omega | (dsimp only; omega)) (by first | exact Nat.le_refl _ | decide | omega | (dsimp only; omega)) (u_7, (nI (nu_f (2 ^ 3) 97 64 n0).length)) ⟨rfl, hLs, rfl⟩ hP9 hK9 hD9
        · skip
          by_cases h120 : v = 120
          · subst h120
            have hl : lv_has ls 4 [(0, .ref hp), (1, .int (nI 120)), (2, .long (lN n0))] := hl
            refine lv_lookup (tgt := 62) (off := 61) hx hb d_Pr_setNumeral_1 (by decide) (by decide) (by decide) ?_
            refine lv_aload_n hx hb d_Pr_setNumeral_62 rfl (lv_at hl 0 rfl) ?_
            refine va_get (D := (dC, dI)) (ci := 6) (v := .ref hn) (C := "TextForge$Printer") (T := TX6) (N := 1) hx hb hg iwX6 hown hK hP 0 rfl rfl 0 (by decide) (hg _ kw_110) (fun _ h9 => h9) rfl d_Pr_setNumeral_63 ?_
            refine lv_lload_n hx hb d_Pr_setNumeral_66 rfl (lv_at hl 2 rfl) ?_
            refine lv_iconst (v := 4) hx hb d_Pr_setNumeral_67 (by decide) ?_
            refine lv_bipush (v := 97) hx hb d_Pr_setNumeral_68 (by decide) ?_
            have hPc := hP.sub (ws' := [(hn, .inr (5, [.ref rn, .int kN])), (rn, .inl (cN, 64, .inl fN))]) [1, 2] rfl
            have hKc := hK.sub (tys' := [(cN, .byte)]) [0] rfl
            have hDc := hD.sub (ws' := [(hn, .inr (5, [.ref rn, .int kN])), (rn, .inl (cN, 64, .inl fN))]) [1, 2] (by decide) rfl
            have hFc := va_free (wc := [(hn, .inr (5, [.ref rn, .int kN])), (rn, .inl (cN, 64, .inl fN))]) hD hS hA [1, 2] rfl
            refine zz_callv (va_runV (As := [.long (lN n0), .int 4, .int 97]) (rest := []) ⟨hx, hb, hml, hown, hg⟩ (c_Nu_setByBits l dC dI hn rn cN fN kN n0 4 97 hn0 (by decide) (by decide) s.heap.size) (cwV 3 hg (gi_V kw_418 kw_419 kw_420 kw_7 kw_421) rfl rfl rfl (by decide +kernel) ⟨Nat.le_of_ble_eq_true rfl, Nat.le_of_ble_eq_true rfl⟩) (zz_preV hPc hKc hDc _ (q0 := 0) (ci := 5) rfl rfl) rfl rfl hl.1 rfl (lv_room (Nat.le_of_ble_eq_true rfl)) d_Pr_setNumeral_70 ⟨Nat.le_of_ble_eq_true rfl, Nat.le_of_ble_eq_true rfl⟩) hS hFc (fun u H1 k9 p9 d9 => va_join (wr := [(hp, .inr (6, [.ref hn]))]) hP hD [1, 2] [0] rfl rfl (by decide) (by decide) k9 hFc p9 d9) (fun u H locs hw hP hD hK1 hS => ?_)
            obtain ⟨u_9, rfl⟩ : ∃ z, z = u := ⟨_, rfl⟩
            try dsimp only at hw
            have hP : va_P (dC, dI) vwCl [(hp, .inr (6, [.ref hn])), (hn, .inr (5, [.ref rn, .int (nI (nu_f (2 ^ 4) 97 64 n0).length)])), (rn, .inl (cN, 64, .inl u_9))] H := hP
            have hD : va_D A [(hp, .inr (6, [.ref hn])), (hn, .inr (5, [.ref rn, .int (nI (nu_f (2 ^ 4) 97 64 n0).length)])), (rn, .inl (cN, 64, .inl u_9))] := hD
            have hLs := hw
            refine lv_iconst (v := 1) hx hb d_Pr_setNumeral_73 (by decide) ?_
            have hP9 := hP.sub (ws' := [(hp, .inr (6, [.ref hn])), (hn, .inr (5, [.ref rn, .int (nI (nu_f (2 ^ 4) 97 64 n0).length)])), (rn, .inl (cN, 64, .inl u_9))]) [0, 1, 2] rfl
            have hD9 := hD.sub (ws' := [(hp, .inr (6, [.ref hn])), (hn, .inr (5, [.ref rn, .int (nI (nu_f (2 ^ 4) 97 64 n0).length)])), (rn, .inl (cN, 64, .inl u_9))]) [0, 1, 2] (by decide) rfl
            have hK9 := hK.sub (tys' := [(cN, .byte)]) [0] rfl
            exact zz_zret hx hb hr hlocks d_Pr_setNumeral_74 (by decide) hS (by first | exact Nat.le_refl _ | decide | omega | (dsimp only; omega)) (by first | exact Nat.le_refl _ | decide | omega | (dsimp only; omega)) (u_9, (nI (nu_f (2 ^ 4) 97 64 n0).length)) ⟨rfl, hLs, rfl⟩ hP9 hK9 hD9
          · skip
            refine lv_lookup (tgt := 114) (off := 113) hx hb d_Pr_setNumeral_1 (by decide) (by show Op.lookupswitch.offset [(88, 74), (98, 87), (100, 51), (111, 100), (120, 61)] _ _ = _; rw [lv_osw (k := 88) (fun z => h88 (nI_e1 (b := 88) z (by omega) (by decide))) (by decide), lv_osw (k := 98) (fun z => h98 (nI_e1 (b := 98) z (by omega) (by decide))) (by decide), lv_osw (k := 100) (fun z => h100 (nI_e1 (b := 100) z (by omega) (by decide))) (by decide), lv_osw (k := 111) (fun z => h111 (nI_e1 (b := 111) z (by omega) (by decide))) (by decide), lv_osw (k := 120) (fun z => h120 (nI_e1 (b := 120) z (by omega) (by decide))) (by decide)]; rfl) (by decide) ?_
            refine lv_iconst (v := 0) hx hb d_Pr_setNumeral_114 (by decide) ?_
            have hP9 := hP.sub (ws' := [(hp, .inr (6, [.ref hn])), (hn, .inr (5, [.ref rn, .int kN])), (rn, .inl (cN, 64, .inl fN))]) [0, 1, 2] rfl
            have hD9 := hD.sub (ws' := [(hp, .inr (6, [.ref hn])), (hn, .inr (5, [.ref rn, .int kN])), (rn, .inl (cN, 64, .inl fN))]) [0, 1, 2] (by decide) rfl
            have hK9 := hK.sub (tys' := [(cN, .byte)]) [0] rfl
            exact zz_zret hx hb hr hlocks d_Pr_setNumeral_115 (by decide) hS (by first | exact Nat.le_refl _ | decide | omega | (dsimp only; omega)) (by first | exact Nat.le_refl _ | decide | omega | (dsimp only; omega)) (fN, kN) (by unfold pn_S nu_s; rw [if_neg h100, if_neg h120, if_neg h88, if_neg h98, if_neg h111]) hP9 hK9 hD9
abbrev y_Pr_putHex : MethodName := ⟨"TextForge$Printer", "putHex", "(LTextForge$Bytes;ILTextForge$Bytes;)V"⟩
abbrev w_Pr_putHex : List Cond := Cond.code y_Pr_putHex prog_8_method_6_code 4 none :: gw
theorem d_Pr_putHex_0 : decode prog_8_method_6_code 0 = .ok (.iconst 0, 1) := by decide +kernel
theorem d_Pr_putHex_1 : decode prog_8_method_6_code 1 = .ok (.istore_n 3, 1) := by decide +kernel
theorem d_Pr_putHex_2 : decode prog_8_method_6_code 2 = .ok (.iload_n 3, 1) := by decide +kernel
theorem d_Pr_putHex_3 : decode prog_8_method_6_code 3 = .ok (.aload_n 0, 1) := by decide +kernel
theorem d_Pr_putHex_4 : decode prog_8_method_6_code 4 = .ok (.invokevirtual 22, 3) := by decide +kernel
theorem d_Pr_putHex_7 : decode prog_8_method_6_code 7 = .ok (.if_icmp .ge 40, 3) := by decide +kernel
theorem d_Pr_putHex_10 : decode prog_8_method_6_code 10 = .ok (.aload_n 2, 1) := by decide +kernel
theorem d_Pr_putHex_11 : decode prog_8_method_6_code 11 = .ok (.aload_n 0, 1) := by decide +kernel
theorem d_Pr_putHex_12 : decode prog_8_method_6_code 12 = .ok (.iload_n 3, 1) := by decide +kernel
theorem d_Pr_putHex_13 : decode prog_8_method_6_code 13 = .ok (.invokevirtual 113, 3) := by decide +kernel
theorem d_Pr_putHex_16 : decode prog_8_method_6_code 16 = .ok (.iconst 4, 1) := by decide +kernel
theorem d_Pr_putHex_17 : decode prog_8_method_6_code 17 = .ok (.ishr, 1) := by decide +kernel
theorem d_Pr_putHex_18 : decode prog_8_method_6_code 18 = .ok (.iload_n 1, 1) := by decide +kernel
theorem d_Pr_putHex_19 : decode prog_8_method_6_code 19 = .ok (.invokestatic 117, 3) := by decide +kernel
theorem d_Pr_putHex_22 : decode prog_8_method_6_code 22 = .ok (.invokevirtual 64, 3) := by decide +kernel
theorem d_Pr_putHex_25 : decode prog_8_method_6_code 25 = .ok (.aload_n 2, 1) := by decide +kernel
theorem d_Pr_putHex_26 : decode prog_8_method_6_code 26 = .ok (.aload_n 0, 1) := by decide +kernel
theorem d_Pr_putHex_27 : decode prog_8_method_6_code 27 = .ok (.iload_n 3, 1) := by decide +kernel
theorem d_Pr_putHex_28 : decode prog_8_method_6_code 28 = .ok (.invokevirtual 113, 3) := by decide +kernel
theorem d_Pr_putHex_31 : decode prog_8_method_6_code 31 = .ok (.bipush 15, 2) := by decide +kernel
theorem d_Pr_putHex_33 : decode prog_8_method_6_code 33 = .ok (.iand, 1) := by decide +kernel
theorem d_Pr_putHex_34 : decode prog_8_method_6_code 34 = .ok (.iload_n 1, 1) := by decide +kernel
theorem d_Pr_putHex_35 : decode prog_8_method_6_code 35 = .ok (.invokestatic 117, 3) := by decide +kernel
theorem d_Pr_putHex_38 : decode prog_8_method_6_code 38 = .ok (.invokevirtual 64, 3) := by decide +kernel
theorem d_Pr_putHex_41 : decode prog_8_method_6_code 41 = .ok (.iinc 3 1, 3) := by decide +kernel
theorem d_Pr_putHex_44 : decode prog_8_method_6_code 44 = .ok (.goto (-42), 3) := by decide +kernel
theorem d_Pr_putHex_47 : decode prog_8_method_6_code 47 = .ok (.return_, 1) := by decide +kernel
set_option maxHeartbeats 4000000 in
set_option maxRecDepth 100000 in
theorem c_Pr_putHex (l : Launch) (dC : Nat → ClassId) (dI : Nat → Nat → Nat) (h2 r2 : Nat) (cA2 : ClassId) (cap2 : Nat) (f2 : Nat → Int32) (L2 : List Nat) (t : Nat) (h r : Nat) (cA : ClassId) (cap : Nat) (f : Nat → Int32) (L : List Nat) (hL2 : by_L L2 f2) (hc2 : L2.length ≤ cap2) (hk2 : cap2 < 1000000) (ht : t < 240) (hL : by_L L f) (hc : L.length ≤ cap) (hk : cap < 2147483648) : zM_v (S := Nat → Int32) l y_Pr_putHex w_Pr_putHex { frames := 1, cells := 0, slots := 0, locals := 21 } (dC, dI) vwCl [.ref h2, .int (nI t), .ref h] [(h2, .inr (2, [.ref r2, .int (nI L2.length)])), (r2, .inl (cA2, cap2, .inl f2)), (h, .inr (2, [.ref r, .int (nI L.length)])), (r, .inl (cA, cap, .inl f))] [(cA2, .byte), (cA, .byte)] (fun (u : Nat → Int32) => by_L (by_ap cap L (px_h t L2)) u) (fun u => [(h2, .inr (2, [.ref r2, .int (nI L2.length)])), (r2, .inl (cA2, cap2, .inl f2)), (h, .inr (2, [.ref r, .int (nI (by_ap cap L (px_h t L2)).length)])), (r, .inl (cA, cap, .inl u))]) (fun u => [(cA2, .byte), (cA, .byte)]) 0 0 := by
  refine zz_enterv (cc := prog_8_method_6_code) (nL := 4) (ret := none) (by decide) rfl (Nat.le_of_ble_eq_true rfl) ?_
  intro p e s m below meth c A ls C0 hA hS hP hK hD hl
  obtain ⟨hx, hb, hml, hown, hg, hr, hlocks, hin⟩ := C0
  have hown : s.vm.findClass "TextForge$Printer" = some m.cls := hown
  have hP : va_P (dC, dI) vwCl [(h2, .inr (2, [.ref r2, .int (nI L2.length)])), (r2, .inl (cA2, cap2, .inl f2)), (h, .inr (2, [.ref r, .int (nI L.length)])), (r, .inl (cA, cap, .inl f))] s.heap := hP
  have hK : va_K (dC, dI) vwCl [(cA2, .byte), (cA, .byte)] s := hK
  have hD : va_D A [(h2, .inr (2, [.ref r2, .int (nI L2.length)])), (r2, .inl (cA2, cap2, .inl f2)), (h, .inr (2, [.ref r, .int (nI L.length)])), (r, .inl (cA, cap, .inl f))] := hD
  have hl : lv_has ls 4 [(0, .ref h2), (1, .int (nI t)), (2, .ref h)] := hl
  refine lv_iconst (v := 0) hx hb d_Pr_putHex_0 (by decide) ?_
  refine lv_istore_n (lv' := [(3, .int 0), (0, .ref h2), (1, .int (nI t)), (2, .ref h)]) hx hb d_Pr_putHex_1 rfl hl (by decide) rfl (fun ls hl => ?_)
  rw [show nI L.length = nI (by_ap cap L (px_h t (L2.take 0))).length by rw [List.take_zero, px_h0, by_ap_nil hc]] at hP hD
  refine zz_loop (fun (x : Nat × (Nat → Int32)) H locs ls => match x with | (j, g) => va_P (dC, dI) vwCl [(h2, .inr (2, [.ref r2, .int (nI L2.length)])), (r2, .inl (cA2, cap2, .inl f2)), (h, .inr (2, [.ref r, .int (nI (by_ap cap L (px_h t (L2.take j))).length)])), (r, .inl (cA, cap, .inl g))] H ∧ va_D A [(h2, .inr (2, [.ref r2, .int (nI L2.length)])), (r2, .inl (cA2, cap2, .inl f2)), (h, .inr (2, [.ref r, .int (nI (by_ap cap L (px_h t (L2.take j))).length)])), (r, .inl (cA, cap, .inl g))] ∧ va_S A s.heap H locs ∧ lv_has ls 4 [(0, .ref h2), (1, .int (nI t)), (2, .ref h), (3, .int (nI j))] ∧ by_L (by_ap cap L (px_h t (L2.take j))) g ∧ j ≤ L2.length) (fun x => match x with | (j, g) => L2.length - j) ?_ (0, f) ⟨hP.sub [0, 1, 2, 3] rfl, hD.sub [0, 1, 2, 3] (by decide) rfl, hS, lv_sub hl [1, 2, 3, 0] rfl, (by rw [List.take_zero, px_h0, by_ap_nil hc]; exact hL), (Nat.zero_le _)⟩
  intro x H locs ls hI ih_2
  obtain ⟨j, g⟩ := x
  try dsimp only at hI
  obtain ⟨hP, hD, hS, hl, hLj, hj⟩ := hI
  refine lv_iload_n hx hb d_Pr_putHex_2 rfl (lv_at hl 3 rfl) ?_
  refine lv_aload_n hx hb d_Pr_putHex_3 rfl (lv_at hl 0 rfl) ?_
  have hPc := hP.sub (ws' := [(h2, .inr (2, [.ref r2, .int (nI L2.length)]))]) [0] rfl
  have hKc := hK.sub (tys' := []) [] rfl
  refine vp_callSi (W.runV (As := []) (rest := [.int (nI j)]) ⟨hx, hb, hml, hown, hg⟩ (c_By_length l dC dI h2 (.ref r2) (nI L2.length) ) (cwV 0 hg (gi_V kw_214 kw_158 kw_159 kw_2 kw_160) rfl rfl rfl (by decide +kernel) ⟨Nat.le_of_ble_eq_true rfl, Nat.le_of_ble_eq_true rfl⟩) (zz_prJV hPc hKc _ (q0 := 0) (ci := 2) rfl rfl) rfl rfl hl.1 rfl (lv_room (Nat.le_of_ble_eq_true rfl)) d_Pr_putHex_4 ⟨Nat.le_of_ble_eq_true rfl, Nat.le_of_ble_eq_true rfl⟩) (fun r_1 hr_1 => ?_)
  subst hr_1
  refine lv_icmp_ge (tgt := 47) hx hb d_Pr_putHex_7 (by decide) (fun c_7 => ?_) (fun c_7 => ?_)
  · skip
    have ej : j = L2.length := by have := Nat.le_of_not_lt (fun z => nI_ge (a := j) (b := L2.length) z (by omega) c_7); omega
    have hP9 := hP.sub (ws' := [(h2, .inr (2, [.ref r2, .int (nI L2.length)])), (r2, .inl (cA2, cap2, .inl f2)), (h, .inr (2, [.ref r, .int (nI (by_ap cap L (px_h t (L2.take j))).length)])), (r, .inl (cA, cap, .inl g))]) [0, 1, 2, 3] rfl
    have hD9 := hD.sub (ws' := [(h2, .inr (2, [.ref r2, .int (nI L2.length)])), (r2, .inl (cA2, cap2, .inl f2)), (h, .inr (2, [.ref r, .int (nI (by_ap cap L (px_h t (L2.take j))).length)])), (r, .inl (cA, cap, .inl g))]) [0, 1, 2, 3] (by decide) rfl
    have hK9 := hK.sub (tys' := [(cA2, .byte), (cA, .byte)]) [0, 1] rfl
    rw [ej] at hP9 hD9
    rw [List.take_length] at hP9 hD9
    exact zz_vret hx hb hr hlocks d_Pr_putHex_47 hS (by first | exact Nat.le_refl _ | decide | omega | (dsimp only; omega)) (by first | exact Nat.le_refl _ | decide | omega | (dsimp only; omega)) g (by rw [ej, List.take_length] at hLj; exact hLj) hP9 hK9 hD9
  · skip
    have hj2 : j < L2.length := Nat.lt_of_not_le (fun z => c_7 (nI_le z (by omega)))
    refine lv_aload_n hx hb d_Pr_putHex_10 rfl (lv_at hl 2 rfl) ?_
    refine lv_aload_n hx hb d_Pr_putHex_11 rfl (lv_at hl 0 rfl) ?_
    refine lv_iload_n hx hb d_Pr_putHex_12 rfl (lv_at hl 3 rfl) ?_
    have hPc := hP.sub (ws' := [(h2, .inr (2, [.ref r2, .int (nI L2.length)])), (r2, .inl (cA2, cap2, .inl f2))]) [0, 1] rfl
    have hKc := hK.sub (tys' := [(cA2, .byte)]) [0] rfl
    refine vp_callSi (W.runV (As := [.int (nI j)]) (rest := [.ref h]) ⟨hx, hb, hml, hown, hg⟩ (c_By_at l dC dI h2 r2 cA2 cap2 f2 L2 (nI j) hL2 hc2 (by omega)) (cwV 1 hg (gi_V kw_392 kw_194 kw_195 kw_2 kw_196) rfl rfl rfl (by decide +kernel) ⟨Nat.le_of_ble_eq_true rfl, Nat.le_of_ble_eq_true rfl⟩) (zz_prJV hPc hKc _ (q0 := 0) (ci := 2) rfl rfl) rfl rfl hl.1 rfl (lv_room (Nat.le_of_ble_eq_true rfl)) d_Pr_putHex_13 ⟨Nat.le_of_ble_eq_true rfl, Nat.le_of_ble_eq_true rfl⟩) (fun r_2 hr_2 => ?_)
    rw [by_at_in hj2 (by omega)] at hr_2
    subst hr_2
    refine lv_iconst (v := 4) hx hb d_Pr_putHex_16 (by decide) ?_
    refine lv_ishr hx hb d_Pr_putHex_17 ?_
    rw [px_n1 (hL2 j hj2).1]
    refine lv_iload_n hx hb d_Pr_putHex_18 rfl (lv_at hl 1 rfl) ?_
    have hPc := hP.sub (ws' := []) [] rfl
    have hKc := hK.sub (tys' := []) [] rfl
    refine vp_callSi (W.runS (As := [.int (nI (L2.getD j 0 / 16)), .int (nI t)]) (rest := [.ref h]) ⟨hx, hb, hml, hown, hg⟩ (c_Nu_digit l dC dI (L2.getD j 0 / 16) t (by have := (hL2 j hj2).1; omega) (by omega)) (va_cwS 2 hg (gi_S kw_393 kw_386 kw_7 kw_387) rfl rfl rfl (by decide +kernel) ⟨Nat.le_of_ble_eq_true rfl, Nat.le_of_ble_eq_true rfl⟩) (zz_prJS hPc hKc _) rfl rfl hl.1 rfl (lv_room (Nat.le_of_ble_eq_true rfl)) d_Pr_putHex_19 ⟨Nat.le_of_ble_eq_true rfl, Nat.le_of_ble_eq_true rfl⟩) (fun r_3 hr_3 => ?_)
    subst hr_3
    have hPc := hP.sub (ws' := [(h, .inr (2, [.ref r, .int (nI (by_ap cap L (px_h t (L2.take j))).length)])), (r, .inl (cA, cap, .inl g))]) [2, 3] rfl
    have hKc := hK.sub (tys' := [(cA, .byte)]) [1] rfl
    have hDc := hD.sub (ws' := [(h, .inr (2, [.ref r, .int (nI (by_ap cap L (px_h t (L2.take j))).length)])), (r, .inl (cA, cap, .inl g))]) [2, 3] (by decide) rfl
    have hFc := va_free (wc := [(h, .inr (2, [.ref r, .int (nI (by_ap cap L (px_h t (L2.take j))).length)])), (r, .inl (cA, cap, .inl g))]) hD hS hA [2, 3] rfl
    refine zz_callv (va_runV (As := [.int (nI (nu_d t (L2.getD j 0 / 16)))]) (rest := []) ⟨hx, hb, hml, hown, hg⟩ (c_By_add l dC dI h r cA cap g (by_ap cap L (px_h t (L2.take j))) (nI (nu_d t (L2.getD j 0 / 16))) hLj (by_ap_len _ _ _) hk  H.size) (cwV 1 hg (gi_V kw_213 kw_166 kw_167 kw_2 kw_168) rfl rfl rfl (by decide +kernel) ⟨Nat.le_of_ble_eq_true rfl, Nat.le_of_ble_eq_true rfl⟩) (zz_preV hPc hKc hDc _ (q0 := 0) (ci := 2) rfl rfl) rfl rfl hl.1 rfl (lv_room (Nat.le_of_ble_eq_true rfl)) d_Pr_putHex_22 ⟨Nat.le_of_ble_eq_true rfl, Nat.le_of_ble_eq_true rfl⟩) hS hFc (fun u H1 k9 p9 d9 => va_join (wr := [(h2, .inr (2, [.ref r2, .int (nI L2.length)])), (r2, .inl (cA2, cap2, .inl f2))]) hP hD [2, 3] [0, 1] rfl rfl (by decide) (by decide) k9 hFc p9 d9) (fun u H locs hw hP hD hK1 hS => ?_)
    obtain ⟨u_4, rfl⟩ : ∃ z, z = u := ⟨_, rfl⟩
    try dsimp only at hw
    have hP : va_P (dC, dI) vwCl [(h2, .inr (2, [.ref r2, .int (nI L2.length)])), (r2, .inl (cA2, cap2, .inl f2)), (h, .inr (2, [.ref r, .int (nI (by_ap cap (by_ap cap L (px_h t (L2.take j))) [by_b (nI (nu_d t (L2.getD j 0 / 16)))]).length)])), (r, .inl (cA, cap, .inl u_4))] H := hP
    have hD : va_D A [(h2, .inr (2, [.ref r2, .int (nI L2.length)])), (r2, .inl (cA2, cap2, .inl f2)), (h, .inr (2, [.ref r, .int (nI (by_ap cap (by_ap cap L (px_h t (L2.take j))) [by_b (nI (nu_d t (L2.getD j 0 / 16)))]).length)])), (r, .inl (cA, cap, .inl u_4))] := hD
    have hL_6 := hw
    refine lv_aload_n hx hb d_Pr_putHex_25 rfl (lv_at hl 2 rfl) ?_
    refine lv_aload_n hx hb d_Pr_putHex_26 rfl (lv_at hl 0 rfl) ?_
    refine lv_iload_n hx hb d_Pr_putHex_27 rfl (lv_at hl 3 rfl) ?_
    have hPc := hP.sub (ws' := [(h2, .inr (2, [.ref r2, .int (nI L2.length)])), (r2, .inl (cA2, cap2, .inl f2))]) [0, 1] rfl
    have hKc := hK.sub (tys' := [(cA2, .byte)]) [0] rfl
    refine vp_callSi (W.runV (As := [.int (nI j)]) (rest := [.ref h]) ⟨hx, hb, hml, hown, hg⟩ (c_By_at l dC dI h2 r2 cA2 cap2 f2 L2 (nI j) hL2 hc2 (by omega)) (cwV 1 hg (gi_V kw_392 kw_194 kw_195 kw_2 kw_196) rfl rfl rfl (by decide +kernel) ⟨Nat.le_of_ble_eq_true rfl, Nat.le_of_ble_eq_true rfl⟩) (zz_prJV hPc hKc _ (q0 := 0) (ci := 2) rfl rfl) rfl rfl hl.1 rfl (lv_room (Nat.le_of_ble_eq_true rfl)) d_Pr_putHex_28 ⟨Nat.le_of_ble_eq_true rfl, Nat.le_of_ble_eq_true rfl⟩) (fun r_7 hr_7 => ?_)
    rw [by_at_in hj2 (by omega)] at hr_7
    subst hr_7
    refine lv_bipush (v := 15) hx hb d_Pr_putHex_31 (by decide) ?_
    refine lv_iand hx hb d_Pr_putHex_33 ?_
    rw [qu_h2 (hL2 j hj2).1]
    refine lv_iload_n hx hb d_Pr_putHex_34 rfl (lv_at hl 1 rfl) ?_
    have hPc := hP.sub (ws' := []) [] rfl
    have hKc := hK.sub (tys' := []) [] rfl
    refine vp_callSi (W.runS (As := [.int (nI (L2.getD j 0 % 16)), .int (nI t)]) (rest := [.ref h]) ⟨hx, hb, hml, hown, hg⟩ (c_Nu_digit l dC dI (L2.getD j 0 % 16) t (by have := (hL2 j hj2).1; omega) (by omega)) (va_cwS 2 hg (gi_S kw_393 kw_386 kw_7 kw_387) rfl rfl rfl (by decide +kernel) ⟨Nat.le_of_ble_eq_true rfl, Nat.le_of_ble_eq_true rfl⟩) (zz_prJS hPc hKc _) rfl rfl hl.1 rfl (lv_room (Nat.le_of_ble_eq_true rfl)) d_Pr_putHex_35 ⟨Nat.le_of_ble_eq_true rfl, Nat.le_of_ble_eq_true rfl⟩) (fun r_8 hr_8 => ?_)
    subst hr_8
    have hPc := hP.sub (ws' := [(h, .inr (2, [.ref r, .int (nI (by_ap cap (by_ap cap L (px_h t (L2.take j))) [by_b (nI (nu_d t (L2.getD j 0 / 16)))]).length)])), (r, .inl (cA, cap, .inl u_4))]) [2, 3] rfl
    have hKc := hK.sub (tys' := [(cA, .byte)]) [1] rfl
    have hDc := hD.sub (ws' := [(h, .inr (2, [.ref r, .int (nI (by_ap cap (by_ap cap L (px_h t (L2.take j))) [by_b (nI (nu_d t (L2.getD j 0 / 16)))]).length)])), (r, .inl (cA, cap, .inl u_4))]) [2, 3] (by decide) rfl
    have hFc := va_free (wc := [(h, .inr (2, [.ref r, .int (nI (by_ap cap (by_ap cap L (px_h t (L2.take j))) [by_b (nI (nu_d t (L2.getD j 0 / 16)))]).length)])), (r, .inl (cA, cap, .inl u_4))]) hD hS hA [2, 3] rfl
    refine zz_callv (va_runV (As := [.int (nI (nu_d t (L2.getD j 0 % 16)))]) (rest := []) ⟨hx, hb, hml, hown, hg⟩ (c_By_add l dC dI h r cA cap u_4 (by_ap cap (by_ap cap L (px_h t (L2.take j))) [by_b (nI (nu_d t (L2.getD j 0 / 16)))]) (nI (nu_d t (L2.getD j 0 % 16))) hL_6 (by_ap_len _ _ _) hk  H.size) (cwV 1 hg (gi_V kw_213 kw_166 kw_167 kw_2 kw_168) rfl rfl rfl (by decide +kernel) ⟨Nat.le_of_ble_eq_true rfl, Nat.le_of_ble_eq_true rfl⟩) (zz_preV hPc hKc hDc _ (q0 := 0) (ci := 2) rfl rfl) rfl rfl hl.1 rfl (lv_room (Nat.le_of_ble_eq_true rfl)) d_Pr_putHex_38 ⟨Nat.le_of_ble_eq_true rfl, Nat.le_of_ble_eq_true rfl⟩) hS hFc (fun u H1 k9 p9 d9 => va_join (wr := [(h2, .inr (2, [.ref r2, .int (nI L2.length)])), (r2, .inl (cA2, cap2, .inl f2))]) hP hD [2, 3] [0, 1] rfl rfl (by decide) (by decide) k9 hFc p9 d9) (fun u H locs hw hP hD hK1 hS => ?_)
    obtain ⟨u_9, rfl⟩ : ∃ z, z = u := ⟨_, rfl⟩
    try dsimp only at hw
    have hP : va_P (dC, dI) vwCl [(h2, .inr (2, [.ref r2, .int (nI L2.length)])), (r2, .inl (cA2, cap2, .inl f2)), (h, .inr (2, [.ref r, .int (nI (by_ap cap (by_ap cap (by_ap cap L (px_h t (L2.take j))) [by_b (nI (nu_d t (L2.getD j 0 / 16)))]) [by_b (nI (nu_d t (L2.getD j 0 % 16)))]).length)])), (r, .inl (cA, cap, .inl u_9))] H := hP
    have hD : va_D A [(h2, .inr (2, [.ref r2, .int (nI L2.length)])), (r2, .inl (cA2, cap2, .inl f2)), (h, .inr (2, [.ref r, .int (nI (by_ap cap (by_ap cap (by_ap cap L (px_h t (L2.take j))) [by_b (nI (nu_d t (L2.getD j 0 / 16)))]) [by_b (nI (nu_d t (L2.getD j 0 % 16)))]).length)])), (r, .inl (cA, cap, .inl u_9))] := hD
    have hL_11 := hw
    refine lv_iinc (v := (nI j) + 1) (lv' := [(3, .int ((nI j) + 1)), (0, .ref h2), (1, .int (nI t)), (2, .ref h)]) hx hb d_Pr_putHex_41 hl (k := 3) rfl rfl (by decide) rfl (fun ls hl => ?_)
    refine lv_goto (tgt := 2) hx hb d_Pr_putHex_44 (by decide) ?_
    rw [px_hs hL2 hj2 ht] at hP hD
    rw [nI_1] at hl
    exact ih_2 (j + 1, u_9) H locs ls ⟨hP.sub [0, 1, 2, 3] rfl, hD.sub [0, 1, 2, 3] (by decide) rfl, hS, lv_sub hl [1, 2, 3, 0] rfl, (by rw [px_hs hL2 hj2 ht] at hL_11; exact hL_11), (by omega)⟩ (by dsimp only; omega)
abbrev y_Pr_putText : MethodName := ⟨"TextForge$Printer", "putText", "(ILTextForge$Bytes;LTextForge$Bytes;)Z"⟩
abbrev w_Pr_putText : List Cond := Cond.code y_Pr_putText prog_8_method_5_code 3 (some .boolean) :: gw
theorem d_Pr_putText_0 : decode prog_8_method_5_code 0 = .ok (.iload_n 0, 1) := by decide +kernel
theorem d_Pr_putText_1 : decode prog_8_method_5_code 1 = .ok (.lookupswitch 80 #[(88, 71), (113, 55), (115, 43), (120, 62)], 43) := by decide +kernel
theorem d_Pr_putText_44 : decode prog_8_method_5_code 44 = .ok (.aload_n 2, 1) := by decide +kernel
theorem d_Pr_putText_45 : decode prog_8_method_5_code 45 = .ok (.aload_n 1, 1) := by decide +kernel
theorem d_Pr_putText_46 : decode prog_8_method_5_code 46 = .ok (.iconst 0, 1) := by decide +kernel
theorem d_Pr_putText_47 : decode prog_8_method_5_code 47 = .ok (.aload_n 1, 1) := by decide +kernel
theorem d_Pr_putText_48 : decode prog_8_method_5_code 48 = .ok (.invokevirtual 22, 3) := by decide +kernel
theorem d_Pr_putText_51 : decode prog_8_method_5_code 51 = .ok (.invokevirtual 28, 3) := by decide +kernel
theorem d_Pr_putText_54 : decode prog_8_method_5_code 54 = .ok (.iconst 1, 1) := by decide +kernel
theorem d_Pr_putText_55 : decode prog_8_method_5_code 55 = .ok (.ireturn, 1) := by decide +kernel
theorem d_Pr_putText_56 : decode prog_8_method_5_code 56 = .ok (.aload_n 1, 1) := by decide +kernel
theorem d_Pr_putText_57 : decode prog_8_method_5_code 57 = .ok (.aload_n 2, 1) := by decide +kernel
theorem d_Pr_putText_58 : decode prog_8_method_5_code 58 = .ok (.invokestatic 104, 3) := by decide +kernel
theorem d_Pr_putText_61 : decode prog_8_method_5_code 61 = .ok (.iconst 1, 1) := by decide +kernel
theorem d_Pr_putText_62 : decode prog_8_method_5_code 62 = .ok (.ireturn, 1) := by decide +kernel
theorem d_Pr_putText_63 : decode prog_8_method_5_code 63 = .ok (.aload_n 1, 1) := by decide +kernel
theorem d_Pr_putText_64 : decode prog_8_method_5_code 64 = .ok (.bipush 97, 2) := by decide +kernel
theorem d_Pr_putText_66 : decode prog_8_method_5_code 66 = .ok (.aload_n 2, 1) := by decide +kernel
theorem d_Pr_putText_67 : decode prog_8_method_5_code 67 = .ok (.invokestatic 109, 3) := by decide +kernel
theorem d_Pr_putText_70 : decode prog_8_method_5_code 70 = .ok (.iconst 1, 1) := by decide +kernel
theorem d_Pr_putText_71 : decode prog_8_method_5_code 71 = .ok (.ireturn, 1) := by decide +kernel
theorem d_Pr_putText_72 : decode prog_8_method_5_code 72 = .ok (.aload_n 1, 1) := by decide +kernel
theorem d_Pr_putText_73 : decode prog_8_method_5_code 73 = .ok (.bipush 65, 2) := by decide +kernel
theorem d_Pr_putText_75 : decode prog_8_method_5_code 75 = .ok (.aload_n 2, 1) := by decide +kernel
theorem d_Pr_putText_76 : decode prog_8_method_5_code 76 = .ok (.invokestatic 109, 3) := by decide +kernel
theorem d_Pr_putText_79 : decode prog_8_method_5_code 79 = .ok (.iconst 1, 1) := by decide +kernel
theorem d_Pr_putText_80 : decode prog_8_method_5_code 80 = .ok (.ireturn, 1) := by decide +kernel
theorem d_Pr_putText_81 : decode prog_8_method_5_code 81 = .ok (.iconst 0, 1) := by decide +kernel
theorem d_Pr_putText_82 : decode prog_8_method_5_code 82 = .ok (.ireturn, 1) := by decide +kernel
set_option maxHeartbeats 4000000 in
set_option maxRecDepth 100000 in
theorem c_Pr_putText (l : Launch) (dC : Nat → ClassId) (dI : Nat → Nat → Nat) (ad : Nat → Nat) (v : Nat) (h2 r2 : Nat) (cA2 : ClassId) (cap2 : Nat) (f2 : Nat → Int32) (L2 : List Nat) (h r : Nat) (cA : ClassId) (cap : Nat) (f : Nat → Int32) (L : List Nat) (hv : v < 256) (hL2 : by_L L2 f2) (hc2 : L2.length ≤ cap2) (hk2 : cap2 < 1000000) (hL : by_L L f) (hc : L.length ≤ cap) (hk : cap < 2147483648) : yM_i (S := Nat → Int32) ad l y_Pr_putText w_Pr_putText { frames := 6, cells := 0, slots := 0, locals := 131 } (dC, dI) vwCl [.int (nI v), .ref h2, .ref h] [(h2, .inr (2, [.ref r2, .int (nI L2.length)])), (r2, .inl (cA2, cap2, .inl f2)), (h, .inr (2, [.ref r, .int (nI L.length)])), (r, .inl (cA, cap, .inl f))] [(cA2, .byte), (cA, .byte)] (fun (r : Int32) (u : Nat → Int32) => r = by_z (px_t v L2).isSome ∧ by_L (by_ap cap L ((px_t v L2).getD [])) u) (fun u => [(h2, .inr (2, [.ref r2, .int (nI L2.length)])), (r2, .inl (cA2, cap2, .inl f2)), (h, .inr (2, [.ref r, .int (nI (by_ap cap L ((px_t v L2).getD [])).length)])), (r, .inl (cA, cap, .inl u))]) (fun u => [(cA2, .byte), (cA, .byte)]) 0 0 := by
  refine zy_enteri (cc := prog_8_method_5_code) (nL := 3) (ret := (some .boolean)) (by decide) rfl (Nat.le_of_ble_eq_true rfl) ?_
  intro p e s m below meth c A ls C0 hA hS hP hK hD hl hX
  obtain ⟨hx, hb, hml, hown, hg, hr, hlocks, hin⟩ := C0
  have hown : s.vm.findClass "TextForge$Printer" = some m.cls := hown
  have hP : va_P (dC, dI) vwCl [(h2, .inr (2, [.ref r2, .int (nI L2.length)])), (r2, .inl (cA2, cap2, .inl f2)), (h, .inr (2, [.ref r, .int (nI L.length)])), (r, .inl (cA, cap, .inl f))] s.heap := hP
  have hK : va_K (dC, dI) vwCl [(cA2, .byte), (cA, .byte)] s := hK
  have hD : va_D A [(h2, .inr (2, [.ref r2, .int (nI L2.length)])), (r2, .inl (cA2, cap2, .inl f2)), (h, .inr (2, [.ref r, .int (nI L.length)])), (r, .inl (cA, cap, .inl f))] := hD
  have hl : lv_has ls 3 [(0, .int (nI v)), (1, .ref h2), (2, .ref h)] := hl
  refine lv_iload_n hx hb d_Pr_putText_0 rfl (lv_at hl 0 rfl) ?_
  by_cases h88 : v = 88
  · subst h88
    have hl : lv_has ls 3 [(0, .int (nI 88)), (1, .ref h2), (2, .ref h)] := hl
    refine lv_lookup (tgt := 72) (off := 71) hx hb d_Pr_putText_1 (by decide) (by decide) (by decide) ?_
    refine lv_aload_n hx hb d_Pr_putText_72 rfl (lv_at hl 1 rfl) ?_
    refine lv_bipush (v := 65) hx hb d_Pr_putText_73 (by decide) ?_
    refine lv_aload_n hx hb d_Pr_putText_75 rfl (lv_at hl 2 rfl) ?_
    have hPc := hP.sub (ws' := [(h2, .inr (2, [.ref r2, .int (nI L2.length)])), (r2, .inl (cA2, cap2, .inl f2)), (h, .inr (2, [.ref r, .int (nI L.length)])), (r, .inl (cA, cap, .inl f))]) [0, 1, 2, 3] rfl
    have hKc := hK.sub (tys' := [(cA2, .byte), (cA, .byte)]) [0, 1] rfl
    have hDc := hD.sub (ws' := [(h2, .inr (2, [.ref r2, .int (nI L2.length)])), (r2, .inl (cA2, cap2, .inl f2)), (h, .inr (2, [.ref r, .int (nI L.length)])), (r, .inl (cA, cap, .inl f))]) [0, 1, 2, 3] (by decide) rfl
    have hFc := va_free (wc := [(h2, .inr (2, [.ref r2, .int (nI L2.length)])), (r2, .inl (cA2, cap2, .inl f2)), (h, .inr (2, [.ref r, .int (nI L.length)])), (r, .inl (cA, cap, .inl f))]) hD hS hA [0, 1, 2, 3] rfl
    refine zz_callv (va_runS (As := [.ref h2, .int 65, .ref h]) (rest := []) ⟨hx, hb, hml, hown, hg⟩ (c_Pr_putHex l dC dI h2 r2 cA2 cap2 f2 L2 65 h r cA cap f L hL2 hc2 hk2 (by decide) hL hc hk s.heap.size) (va_cwS 3 hg (gi_S kw_389 kw_390 kw_6 kw_391) rfl rfl rfl (by decide +kernel) ⟨Nat.le_of_ble_eq_true rfl, Nat.le_of_ble_eq_true rfl⟩) (zz_preS hPc hKc hDc _) rfl rfl hl.1 rfl (lv_room (Nat.le_of_ble_eq_true rfl)) d_Pr_putText_76 ⟨Nat.le_of_ble_eq_true rfl, Nat.le_of_ble_eq_true rfl⟩) hS hFc (fun u H1 k9 p9 d9 => va_join (wr := []) hP hD [0, 1, 2, 3] [] rfl rfl (by decide) (by decide) k9 hFc p9 d9) (fun u H locs hw hP hD hK1 hS => ?_)
    obtain ⟨u_1, rfl⟩ : ∃ z, z = u := ⟨_, rfl⟩
    try dsimp only at hw
    have hP : va_P (dC, dI) vwCl [(h2, .inr (2, [.ref r2, .int (nI L2.length)])), (r2, .inl (cA2, cap2, .inl f2)), (h, .inr (2, [.ref r, .int (nI (by_ap cap L (px_h 65 L2)).length)])), (r, .inl (cA, cap, .inl u_1))] H := hP
    have hD : va_D A [(h2, .inr (2, [.ref r2, .int (nI L2.length)])), (r2, .inl (cA2, cap2, .inl f2)), (h, .inr (2, [.ref r, .int (nI (by_ap cap L (px_h 65 L2)).length)])), (r, .inl (cA, cap, .inl u_1))] := hD
    have hLp := hw
    refine lv_iconst (v := 1) hx hb d_Pr_putText_79 (by decide) ?_
    have hP9 := hP.sub (ws' := [(h2, .inr (2, [.ref r2, .int (nI L2.length)])), (r2, .inl (cA2, cap2, .inl f2)), (h, .inr (2, [.ref r, .int (nI (by_ap cap L (px_h 65 L2)).length)])), (r, .inl (cA, cap, .inl u_1))]) [0, 1, 2, 3] rfl
    have hD9 := hD.sub (ws' := [(h2, .inr (2, [.ref r2, .int (nI L2.length)])), (r2, .inl (cA2, cap2, .inl f2)), (h, .inr (2, [.ref r, .int (nI (by_ap cap L (px_h 65 L2)).length)])), (r, .inl (cA, cap, .inl u_1))]) [0, 1, 2, 3] (by decide) rfl
    have hK9 := hK.sub (tys' := [(cA2, .byte), (cA, .byte)]) [0, 1] rfl
    exact zz_zret hx hb hr hlocks d_Pr_putText_80 (by decide) hS (by first | exact Nat.le_refl _ | decide | omega | (dsimp only; omega)) (by first | exact Nat.le_refl _ | decide | omega | (dsimp only; omega)) u_1 ⟨rfl, hLp⟩ hP9 hK9 hD9
  · skip
    by_cases h113 : v = 113
    · subst h113
      have hl : lv_has ls 3 [(0, .int (nI 113)), (1, .ref h2), (2, .ref h)] := hl
      refine lv_lookup (tgt := 56) (off := 55) hx hb d_Pr_putText_1 (by decide) (by decide) (by decide) ?_
      refine lv_aload_n hx hb d_Pr_putText_56 rfl (lv_at hl 1 rfl) ?_
      refine lv_aload_n hx hb d_Pr_putText_57 rfl (lv_at hl 2 rfl) ?_
      have hPc := hP.sub (ws' := [(h2, .inr (2, [.ref r2, .int (nI L2.length)])), (r2, .inl (cA2, cap2, .inl f2)), (h, .inr (2, [.ref r, .int (nI L.length)])), (r, .inl (cA, cap, .inl f))]) [0, 1, 2, 3] rfl
      have hKc := hK.sub (tys' := [(cA2, .byte), (cA, .byte)]) [0, 1] rfl
      have hDc := hD.sub (ws' := [(h2, .inr (2, [.ref r2, .int (nI L2.length)])), (r2, .inl (cA2, cap2, .inl f2)), (h, .inr (2, [.ref r, .int (nI L.length)])), (r, .inl (cA, cap, .inl f))]) [0, 1, 2, 3] (by decide) rfl
      have hFc := va_free (wc := [(h2, .inr (2, [.ref r2, .int (nI L2.length)])), (r2, .inl (cA2, cap2, .inl f2)), (h, .inr (2, [.ref r, .int (nI L.length)])), (r, .inl (cA, cap, .inl f))]) hD hS hA [0, 1, 2, 3] rfl
      refine zz_callv (va_runS (As := [.ref h2, .ref h]) (rest := []) ⟨hx, hb, hml, hown, hg⟩ (c_Qu_putText l dC dI ad h2 r2 cA2 cap2 f2 L2 h r cA cap f L hL2 hc2 hk2 hL hc hk s.heap.size) (va_cwS 2 hg (gi_S kw_355 kw_356 kw_20 kw_357) rfl rfl rfl (by decide +kernel) ⟨Nat.le_of_ble_eq_true rfl, Nat.le_of_ble_eq_true rfl⟩) (zy_preS hX hS hFc hPc hKc hDc _) rfl rfl hl.1 rfl (lv_room (Nat.le_of_ble_eq_true rfl)) d_Pr_putText_58 ⟨Nat.le_of_ble_eq_true rfl, Nat.le_of_ble_eq_true rfl⟩) hS hFc (fun u H1 k9 p9 d9 => va_join (wr := []) hP hD [0, 1, 2, 3] [] rfl rfl (by decide) (by decide) k9 hFc p9 d9) (fun u H locs hw hP hD hK1 hS => ?_)
      obtain ⟨u_3, rfl⟩ : ∃ z, z = u := ⟨_, rfl⟩
      try dsimp only at hw
      have hP : va_P (dC, dI) vwCl [(h2, .inr (2, [.ref r2, .int (nI L2.length)])), (r2, .inl (cA2, cap2, .inl f2)), (h, .inr (2, [.ref r, .int (nI (by_ap cap L (qu_t L2)).length)])), (r, .inl (cA, cap, .inl u_3))] H := hP
      have hD : va_D A [(h2, .inr (2, [.ref r2, .int (nI L2.length)])), (r2, .inl (cA2, cap2, .inl f2)), (h, .inr (2, [.ref r, .int (nI (by_ap cap L (qu_t L2)).length)])), (r, .inl (cA, cap, .inl u_3))] := hD
      have hLp := hw
      refine lv_iconst (v := 1) hx hb d_Pr_putText_61 (by decide) ?_
      have hP9 := hP.sub (ws' := [(h2, .inr (2, [.ref r2, .int (nI L2.length)])), (r2, .inl (cA2, cap2, .inl f2)), (h, .inr (2, [.ref r, .int (nI (by_ap cap L (qu_t L2)).length)])), (r, .inl (cA, cap, .inl u_3))]) [0, 1, 2, 3] rfl
      have hD9 := hD.sub (ws' := [(h2, .inr (2, [.ref r2, .int (nI L2.length)])), (r2, .inl (cA2, cap2, .inl f2)), (h, .inr (2, [.ref r, .int (nI (by_ap cap L (qu_t L2)).length)])), (r, .inl (cA, cap, .inl u_3))]) [0, 1, 2, 3] (by decide) rfl
      have hK9 := hK.sub (tys' := [(cA2, .byte), (cA, .byte)]) [0, 1] rfl
      exact zz_zret hx hb hr hlocks d_Pr_putText_62 (by decide) hS (by first | exact Nat.le_refl _ | decide | omega | (dsimp only; omega)) (by first | exact Nat.le_refl _ | decide | omega | (dsimp only; omega)) u_3 ⟨rfl, hLp⟩ hP9 hK9 hD9
    · skip
      by_cases h115 : v = 115
      · subst h115
        have hl : lv_has ls 3 [(0, .int (nI 115)), (1, .ref h2), (2, .ref h)] := hl
        refine lv_lookup (tgt := 44) (off := 43) hx hb d_Pr_putText_1 (by decide) (by decide) (by decide) ?_
        refine lv_aload_n hx hb d_Pr_putText_44 rfl (lv_at hl 2 rfl) ?_
        refine lv_aload_n hx hb d_Pr_putText_45 rfl (lv_at hl 1 rfl) ?_
        refine lv_iconst (v := 0) hx hb d_Pr_putText_46 (by decide) ?_
        refine lv_aload_n hx hb d_Pr_putText_47 rfl (lv_at hl 1 rfl) ?_
        have hPc := hP.sub (ws' := [(h2, .inr (2, [.ref r2, .int (nI L2.length)]))]) [0] rfl
        have hKc := hK.sub (tys' := []) [] rfl
        refine vp_callSi (W.runV (As := []) (rest := [.int 0, .ref h2, .ref h]) ⟨hx, hb, hml, hown, hg⟩ (c_By_length l dC dI h2 (.ref r2) (nI L2.length) ) (cwV 0 hg (gi_V kw_214 kw_158 kw_159 kw_2 kw_160) rfl rfl rfl (by decide +kernel) ⟨Nat.le_of_ble_eq_true rfl, Nat.le_of_ble_eq_true rfl⟩) (zz_prJV hPc hKc _ (q0 := 0) (ci := 2) rfl rfl) rfl rfl hl.1 rfl (lv_room (Nat.le_of_ble_eq_true rfl)) d_Pr_putText_48 ⟨Nat.le_of_ble_eq_true rfl, Nat.le_of_ble_eq_true rfl⟩) (fun r_5 hr_5 => ?_)
        subst hr_5
        have hPc := hP.sub (ws' := [(h, .inr (2, [.ref r, .int (nI L.length)])), (r, .inl (cA, cap, .inl f)), (h2, .inr (2, [.ref r2, .int (nI L2.length)])), (r2, .inl (cA2, cap2, .inl f2))]) [2, 3, 0, 1] rfl
        have hKc := hK.sub (tys' := [(cA, .byte), (cA2, .byte)]) [1, 0] rfl
        have hDc := hD.sub (ws' := [(h, .inr (2, [.ref r, .int (nI L.length)])), (r, .inl (cA, cap, .inl f)), (h2, .inr (2, [.ref r2, .int (nI L2.length)])), (r2, .inl (cA2, cap2, .inl f2))]) [2, 3, 0, 1] (by decide) rfl
        have hFc := va_free (wc := [(h, .inr (2, [.ref r, .int (nI L.length)])), (r, .inl (cA, cap, .inl f)), (h2, .inr (2, [.ref r2, .int (nI L2.length)])), (r2, .inl (cA2, cap2, .inl f2))]) hD hS hA [2, 3, 0, 1] rfl
        refine zz_callv (va_runV (As := [.ref h2, .int 0, .int (nI L2.length)]) (rest := []) ⟨hx, hb, hml, hown, hg⟩ (c_By_addPart l dC dI h r cA cap f L h2 r2 cA2 cap2 f2 L2 0 L2.length 0 (nI L2.length) hL hc hk hL2 hc2 (by omega) rfl (by rw [Nat.zero_add]) (by omega) s.heap.size) (cwV 3 hg (gi_V kw_239 kw_240 kw_241 kw_2 kw_242) rfl rfl rfl (by decide +kernel) ⟨Nat.le_of_ble_eq_true rfl, Nat.le_of_ble_eq_true rfl⟩) (zz_preV hPc hKc hDc _ (q0 := 0) (ci := 2) rfl rfl) rfl rfl hl.1 rfl (lv_room (Nat.le_of_ble_eq_true rfl)) d_Pr_putText_51 ⟨Nat.le_of_ble_eq_true rfl, Nat.le_of_ble_eq_true rfl⟩) hS hFc (fun u H1 k9 p9 d9 => va_join (wr := []) hP hD [2, 3, 0, 1] [] rfl rfl (by decide) (by decide) k9 hFc p9 d9) (fun u H locs hw hP hD hK1 hS => ?_)
        obtain ⟨u_6, rfl⟩ : ∃ z, z = u := ⟨_, rfl⟩
        try dsimp only at hw
        have hP : va_P (dC, dI) vwCl [(h, .inr (2, [.ref r, .int (nI (by_ap cap L (by_sg L2 0 L2.length)).length)])), (r, .inl (cA, cap, .inl u_6)), (h2, .inr (2, [.ref r2, .int (nI L2.length)])), (r2, .inl (cA2, cap2, .inl f2))] H := hP
        have hD : va_D A [(h, .inr (2, [.ref r, .int (nI (by_ap cap L (by_sg L2 0 L2.length)).length)])), (r, .inl (cA, cap, .inl u_6)), (h2, .inr (2, [.ref r2, .int (nI L2.length)])), (r2, .inl (cA2, cap2, .inl f2))] := hD
        have hLp := hw
        refine lv_iconst (v := 1) hx hb d_Pr_putText_54 (by decide) ?_
        have hP9 := hP.sub (ws' := [(h2, .inr (2, [.ref r2, .int (nI L2.length)])), (r2, .inl (cA2, cap2, .inl f2)), (h, .inr (2, [.ref r, .int (nI (by_ap cap L (by_sg L2 0 L2.length)).length)])), (r, .inl (cA, cap, .inl u_6))]) [2, 3, 0, 1] rfl
        have hD9 := hD.sub (ws' := [(h2, .inr (2, [.ref r2, .int (nI L2.length)])), (r2, .inl (cA2, cap2, .inl f2)), (h, .inr (2, [.ref r, .int (nI (by_ap cap L (by_sg L2 0 L2.length)).length)])), (r, .inl (cA, cap, .inl u_6))]) [2, 3, 0, 1] (by decide) rfl
        have hK9 := hK.sub (tys' := [(cA2, .byte), (cA, .byte)]) [0, 1] rfl
        rw [px_all] at hP9 hD9
        exact zz_zret hx hb hr hlocks d_Pr_putText_55 (by decide) hS (by first | exact Nat.le_refl _ | decide | omega | (dsimp only; omega)) (by first | exact Nat.le_refl _ | decide | omega | (dsimp only; omega)) u_6 ⟨rfl, by rw [px_all] at hLp; exact hLp⟩ hP9 hK9 hD9
      · skip
        by_cases h120 : v = 120
        · subst h120
          have hl : lv_has ls 3 [(0, .int (nI 120)), (1, .ref h2), (2, .ref h)] := hl
          refine lv_lookup (tgt := 63) (off := 62) hx hb d_Pr_putText_1 (by decide) (by decide) (by decide) ?_
          refine lv_aload_n hx hb d_Pr_putText_63 rfl (lv_at hl 1 rfl) ?_
          refine lv_bipush (v := 97) hx hb d_Pr_putText_64 (by decide) ?_
          refine lv_aload_n hx hb d_Pr_putText_66 rfl (lv_at hl 2 rfl) ?_
          have hPc := hP.sub (ws' := [(h2, .inr (2, [.ref r2, .int (nI L2.length)])), (r2, .inl (cA2, cap2, .inl f2)), (h, .inr (2, [.ref r, .int (nI L.length)])), (r, .inl (cA, cap, .inl f))]) [0, 1, 2, 3] rfl
          have hKc := hK.sub (tys' := [(cA2, .byte), (cA, .byte)]) [0, 1] rfl
          have hDc := hD.sub (ws' := [(h2, .inr (2, [.ref r2, .int (nI L2.length)])), (r2, .inl (cA2, cap2, .inl f2)), (h, .inr (2, [.ref r, .int (nI L.length)])), (r, .inl (cA, cap, .inl f))]) [0, 1, 2, 3] (by decide) rfl
          have hFc := va_free (wc := [(h2, .inr (2, [.ref r2, .int (nI L2.length)])), (r2, .inl (cA2, cap2, .inl f2)), (h, .inr (2, [.ref r, .int (nI L.length)])), (r, .inl (cA, cap, .inl f))]) hD hS hA [0, 1, 2, 3] rfl
          refine zz_callv (va_runS (As := [.ref h2, .int 97, .ref h]) (rest := []) ⟨hx, hb, hml, hown, hg⟩ (c_Pr_putHex l dC dI h2 r2 cA2 cap2 f2 L2 97 h r cA cap f L hL2 hc2 hk2 (by decide) hL hc hk s.heap.size) (va_cwS 3 hg (gi_S kw_389 kw_390 kw_6 kw_391) rfl rfl rfl (by decide +kernel) ⟨Nat.le_of_ble_eq_true rfl, Nat.le_of_ble_eq_true rfl⟩) (zz_preS hPc hKc hDc _) rfl rfl hl.1 rfl (lv_room (Nat.le_of_ble_eq_true rfl)) d_Pr_putText_67 ⟨Nat.le_of_ble_eq_true rfl, Nat.le_of_ble_eq_true rfl⟩) hS hFc (fun u H1 k9 p9 d9 => va_join (wr := []) hP hD [0, 1, 2, 3] [] rfl rfl (by decide) (by decide) k9 hFc p9 d9) (fun u H locs hw hP hD hK1 hS => ?_)
          obtain ⟨u_8, rfl⟩ : ∃ z, z = u := ⟨_, rfl⟩
          try dsimp only at hw
          have hP : va_P (dC, dI) vwCl [(h2, .inr (2, [.ref r2, .int (nI L2.length)])), (r2, .inl (cA2, cap2, .inl f2)), (h, .inr (2, [.ref r, .int (nI (by_ap cap L (px_h 97 L2)).length)])), (r, .inl (cA, cap, .inl u_8))] H := hP
          have hD : va_D A [(h2, .inr (2, [.ref r2, .int (nI L2.length)])), (r2, .inl (cA2, cap2, .inl f2)), (h, .inr (2, [.ref r, .int (nI (by_ap cap L (px_h 97 L2)).length)])), (r, .inl (cA, cap, .inl u_8))] := hD
          have hLp := hw
          refine lv_iconst (v := 1) hx hb d_Pr_putText_70 (by decide) ?_
          have hP9 := hP.sub (ws' := [(h2, .inr (2, [.ref r2, .int (nI L2.length)])), (r2, .inl (cA2, cap2, .inl f2)), (h, .inr (2, [.ref r, .int (nI (by_ap cap L (px_h 97 L2)).length)])), (r, .inl (cA, cap, .inl u_8))]) [0, 1, 2, 3] rfl
          have hD9 := hD.sub (ws' := [(h2, .inr (2, [.ref r2, .int (nI L2.length)])), (r2, .inl (cA2, cap2, .inl f2)), (h, .inr (2, [.ref r, .int (nI (by_ap cap L (px_h 97 L2)).length)])), (r, .inl (cA, cap, .inl u_8))]) [0, 1, 2, 3] (by decide) rfl
          have hK9 := hK.sub (tys' := [(cA2, .byte), (cA, .byte)]) [0, 1] rfl
          exact zz_zret hx hb hr hlocks d_Pr_putText_71 (by decide) hS (by first | exact Nat.le_refl _ | decide | omega | (dsimp only; omega)) (by first | exact Nat.le_refl _ | decide | omega | (dsimp only; omega)) u_8 ⟨rfl, hLp⟩ hP9 hK9 hD9
        · skip
          refine lv_lookup (tgt := 81) (off := 80) hx hb d_Pr_putText_1 (by decide) (by show Op.lookupswitch.offset [(88, 71), (113, 55), (115, 43), (120, 62)] _ _ = _; rw [lv_osw (k := 88) (fun z => h88 (nI_e1 (b := 88) z (by omega) (by decide))) (by decide), lv_osw (k := 113) (fun z => h113 (nI_e1 (b := 113) z (by omega) (by decide))) (by decide), lv_osw (k := 115) (fun z => h115 (nI_e1 (b := 115) z (by omega) (by decide))) (by decide), lv_osw (k := 120) (fun z => h120 (nI_e1 (b := 120) z (by omega) (by decide))) (by decide)]; rfl) (by decide) ?_
          refine lv_iconst (v := 0) hx hb d_Pr_putText_81 (by decide) ?_
          have hP9 := hP.sub (ws' := [(h2, .inr (2, [.ref r2, .int (nI L2.length)])), (r2, .inl (cA2, cap2, .inl f2)), (h, .inr (2, [.ref r, .int (nI L.length)])), (r, .inl (cA, cap, .inl f))]) [0, 1, 2, 3] rfl
          have hD9 := hD.sub (ws' := [(h2, .inr (2, [.ref r2, .int (nI L2.length)])), (r2, .inl (cA2, cap2, .inl f2)), (h, .inr (2, [.ref r, .int (nI L.length)])), (r, .inl (cA, cap, .inl f))]) [0, 1, 2, 3] (by decide) rfl
          have hK9 := hK.sub (tys' := [(cA2, .byte), (cA, .byte)]) [0, 1] rfl
          rw [show nI L.length = nI (by_ap cap L ((px_t v L2).getD [])).length by rw [show px_t v L2 = none from by unfold px_t; rw [if_neg h115, if_neg h113, if_neg h120, if_neg h88]]; show _ = nI (by_ap cap L []).length; rw [by_ap_nil hc]] at hP9 hD9
          exact zz_zret hx hb hr hlocks d_Pr_putText_82 (by decide) hS (by first | exact Nat.le_refl _ | decide | omega | (dsimp only; omega)) (by first | exact Nat.le_refl _ | decide | omega | (dsimp only; omega)) f (px_t0 (by rw [show px_t v L2 = none from by unfold px_t; rw [if_neg h115, if_neg h113, if_neg h120, if_neg h88]]) hc hL rfl) hP9 hK9 hD9
