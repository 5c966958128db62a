/-! TEXTFORGE: feed, end, clear, parsed, size, keptOfResult, requireRoomForArgument, digitOf -/
def fd_5 (a b c d e : Int32) : List Nat := by_4 a ++ (by_4 b ++ (by_4 c ++ (by_4 d ++ by_4 e)))
def fd_l (F : List Nat) (a b c d e : Int32) : List Nat := if F.length + 20 ≤ 4096 then F ++ fd_5 a b c d e else F
theorem fd_len (a b c d e : Int32) : (fd_5 a b c d e).length = 20 := rfl
theorem fd_no {F : List Nat} {a b c d e : Int32} (h : ¬ F.length + 20 ≤ 4096) : fd_l F a b c d e = F := if_neg h
theorem by_ap_fit {cap : Nat} {L M : List Nat} (h : L.length + M.length ≤ cap) : by_ap cap L M = L ++ M := by unfold by_ap; rw [List.take_of_length_le (by rw [List.length_append]; exact h)]
theorem fd_yes {F : List Nat} {a b c d e : Int32} (h : F.length + 20 ≤ 4096) : by_ap 4096 (by_ap 4096 (by_ap 4096 (by_ap 4096 (by_ap 4096 F (by_4 a)) (by_4 b)) (by_4 c)) (by_4 d)) (by_4 e) = fd_l F a b c d e := by
  rw [by_ap_ap, by_ap_ap, by_ap_ap, by_ap_ap, fd_l, if_pos h]
  exact by_ap_fit (M := fd_5 a b c d e) (by rw [fd_len]; exact h)
def en_b (F : List Nat) (v : Int32) : Bool := decide (0 ≤ v.toInt ∧ v.toInt ≤ F.length)
def en_l (F : List Nat) (v : Int32) : List Nat := if en_b F v then F.take v.toNatClampNeg else F
theorem en_b0 {F : List Nat} {v : Int32} (h : v < 0) : en_b F v = false := decide_eq_false (fun z => by have := Int32.lt_iff_toInt_lt.mp h; simp at this; omega)
theorem en_l0 {F : List Nat} {v : Int32} (h : v < 0) : en_l F v = F := by unfold en_l; rw [en_b0 h]; rfl
theorem en_b1 {F : List Nat} {v : Int32} {k : Nat} (hk : k < 2 ^ 31) (hv : v = nI k) (h : F.length < k) : en_b F v = false := decide_eq_false (fun z => by rw [hv, nI_toInt hk] at z; omega)
theorem en_l1 {F : List Nat} {v : Int32} {k : Nat} (hk : k < 2 ^ 31) (hv : v = nI k) (h : F.length < k) : en_l F v = F := by unfold en_l; rw [en_b1 hk hv h]; rfl
theorem en_b2 {F : List Nat} {v : Int32} {k : Nat} (hk : k < 2 ^ 31) (hv : v = nI k) (h : k ≤ F.length) : en_b F v = true := decide_eq_true (by rw [hv, nI_toInt hk]; omega)
theorem en_l2 {F : List Nat} {v : Int32} {k : Nat} (hk : k < 2 ^ 31) (hv : v = nI k) (h : k ≤ F.length) : en_l F v = F.take k := by unfold en_l; rw [en_b2 hk hv h, hv, nI_clamp hk]; rfl
theorem by_L_take {L : List Nat} {f : Nat → Int32} {k : Nat} (h : by_L L f) : by_L (L.take k) f := by
  intro j hj
  rw [List.length_take] at hj
  have := h j (by omega)
  rw [List.getD_eq_getElem?_getD, List.getElem?_take, if_pos (by omega), ← List.getD_eq_getElem?_getD]
  exact this
/-- what a letter is worth, or -1 -/
def dg_v (v : Int32) : Int32 := if ¬ v < 48 ∧ ¬ 57 < v then v - 48 else if ¬ v < 97 ∧ ¬ 122 < v then v - 97 + 10 else if ¬ v < 65 ∧ ¬ 90 < v then v - 65 + 10 else -1
theorem dg_1 {v : Int32} (h1 : ¬ v < 48) (h2 : ¬ 57 < v) : v - 48 = dg_v v := by unfold dg_v; rw [if_pos ⟨h1, h2⟩]
theorem dg_2 {v : Int32} (h0 : v < 48 ∨ 57 < v) (h1 : ¬ v < 97) (h2 : ¬ 122 < v) : v - 97 + 10 = dg_v v := by unfold dg_v; rw [if_neg (fun z => h0.elim z.1 z.2), if_pos ⟨h1, h2⟩]
theorem dg_3 {v : Int32} (h0 : v < 48 ∨ 57 < v) (h1 : v < 97 ∨ 122 < v) (h2 : ¬ v < 65) (h3 : ¬ 90 < v) : v - 65 + 10 = dg_v v := by unfold dg_v; rw [if_neg (fun z => h0.elim z.1 z.2), if_neg (fun z => h1.elim z.1 z.2), if_pos ⟨h2, h3⟩]
theorem dg_4 {v : Int32} (h0 : v < 48 ∨ 57 < v) (h1 : v < 97 ∨ 122 < v) (h2 : v < 65 ∨ 90 < v) : -1 = dg_v v := by unfold dg_v; rw [if_neg (fun z => h0.elim z.1 z.2), if_neg (fun z => h1.elim z.1 z.2), if_neg (fun z => h2.elim z.1 z.2)]
abbrev y_Tf_feed : MethodName := ⟨"TextForge", "feed", "(IIIII)Z"⟩
abbrev w_Tf_feed : List Cond := Cond.code y_Tf_feed prog_1_method_2_code 6 (some .boolean) :: gw
theorem d_Tf_feed_0 : decode prog_1_method_2_code 0 = .ok (.aload_n 0, 1) := by decide +kernel
theorem d_Tf_feed_1 : decode prog_1_method_2_code 1 = .ok (.getfield 14, 3) := by decide +kernel
theorem d_Tf_feed_4 : decode prog_1_method_2_code 4 = .ok (.invokevirtual 53, 3) := by decide +kernel
theorem d_Tf_feed_7 : decode prog_1_method_2_code 7 = .ok (.bipush 20, 2) := by decide +kernel
theorem d_Tf_feed_9 : decode prog_1_method_2_code 9 = .ok (.iadd, 1) := by decide +kernel
theorem d_Tf_feed_10 : decode prog_1_method_2_code 10 = .ok (.sipush 4096, 3) := by decide +kernel
theorem d_Tf_feed_13 : decode prog_1_method_2_code 13 = .ok (.if_icmp .le 5, 3) := by decide +kernel
theorem d_Tf_feed_16 : decode prog_1_method_2_code 16 = .ok (.iconst 0, 1) := by decide +kernel
theorem d_Tf_feed_17 : decode prog_1_method_2_code 17 = .ok (.ireturn, 1) := by decide +kernel
theorem d_Tf_feed_18 : decode prog_1_method_2_code 18 = .ok (.aload_n 0, 1) := by decide +kernel
theorem d_Tf_feed_19 : decode prog_1_method_2_code 19 = .ok (.getfield 14, 3) := by decide +kernel
theorem d_Tf_feed_22 : decode prog_1_method_2_code 22 = .ok (.iload_n 1, 1) := by decide +kernel
theorem d_Tf_feed_23 : decode prog_1_method_2_code 23 = .ok (.invokevirtual 57, 3) := by decide +kernel
theorem d_Tf_feed_26 : decode prog_1_method_2_code 26 = .ok (.aload_n 0, 1) := by decide +kernel
theorem d_Tf_feed_27 : decode prog_1_method_2_code 27 = .ok (.getfield 14, 3) := by decide +kernel
theorem d_Tf_feed_30 : decode prog_1_method_2_code 30 = .ok (.iload_n 2, 1) := by decide +kernel
theorem d_Tf_feed_31 : decode prog_1_method_2_code 31 = .ok (.invokevirtual 57, 3) := by decide +kernel
theorem d_Tf_feed_34 : decode prog_1_method_2_code 34 = .ok (.aload_n 0, 1) := by decide +kernel
theorem d_Tf_feed_35 : decode prog_1_method_2_code 35 = .ok (.getfield 14, 3) := by decide +kernel
theorem d_Tf_feed_38 : decode prog_1_method_2_code 38 = .ok (.iload_n 3, 1) := by decide +kernel
theorem d_Tf_feed_39 : decode prog_1_method_2_code 39 = .ok (.invokevirtual 57, 3) := by decide +kernel
theorem d_Tf_feed_42 : decode prog_1_method_2_code 42 = .ok (.aload_n 0, 1) := by decide +kernel
theorem d_Tf_feed_43 : decode prog_1_method_2_code 43 = .ok (.getfield 14, 3) := by decide +kernel
theorem d_Tf_feed_46 : decode prog_1_method_2_code 46 = .ok (.iload 4, 2) := by decide +kernel
theorem d_Tf_feed_48 : decode prog_1_method_2_code 48 = .ok (.invokevirtual 57, 3) := by decide +kernel
theorem d_Tf_feed_51 : decode prog_1_method_2_code 51 = .ok (.aload_n 0, 1) := by decide +kernel
theorem d_Tf_feed_52 : decode prog_1_method_2_code 52 = .ok (.getfield 14, 3) := by decide +kernel
theorem d_Tf_feed_55 : decode prog_1_method_2_code 55 = .ok (.iload 5, 2) := by decide +kernel
theorem d_Tf_feed_57 : decode prog_1_method_2_code 57 = .ok (.invokevirtual 57, 3) := by decide +kernel
theorem d_Tf_feed_60 : decode prog_1_method_2_code 60 = .ok (.iconst 1, 1) := by decide +kernel
theorem d_Tf_feed_61 : decode prog_1_method_2_code 61 = .ok (.ireturn, 1) := by decide +kernel
set_option maxHeartbeats 4000000 in
set_option maxRecDepth 100000 in
theorem c_Tf_feed (l : Launch) (dC : Nat → ClassId) (dI : Nat → Nat → Nat) (tf hf hq hs hd hp hc : Nat) (ln : Int64) (rf : Nat) (cB : ClassId) (ff : Nat → Int32) (F : List Nat) (v1 v2 v3 v4 v5 : Int32) (hLf : by_L F ff) (hcf : F.length ≤ 4096) : zM_i (S := Nat → Int32) l y_Tf_feed w_Tf_feed { frames := 2, cells := 0, slots := 0, locals := 42 } (dC, dI) vwCl [.ref tf, .int v1, .int v2, .int v3, .int v4, .int v5] [(tf, .inr (7, [.ref hf, .ref hq, .ref hs, .ref hd, .ref hp, .ref hc, .long ln])), (hf, .inr (2, [.ref rf, .int (nI F.length)])), (rf, .inl (cB, 4096, .inl ff))] [(cB, .byte)] (fun (r : Int32) (u : Nat → Int32) => r = by_z (decide (F.length + 20 ≤ 4096)) ∧ by_L (fd_l F v1 v2 v3 v4 v5) u) (fun u => [(tf, .inr (7, [.ref hf, .ref hq, .ref hs, .ref hd, .ref hp, .ref hc, .long ln])), (hf, .inr (2, [.ref rf, .int (nI (fd_l F v1 v2 v3 v4 v5).length)])), (rf, .inl (cB, 4096, .inl u))]) (fun u => [(cB, .byte)]) 0 0 := by
  refine zz_enteri (cc := prog_1_method_2_code) (nL := 6) (ret := (some .boolean)) (by decide) rfl (Nat.le_of_ble_eq_true rfl) ?_
  intro p e s m below meth c A ls C0 hA hS hP hK hD hl
  obtain ⟨hx, hb, hml, hown, hg, hr, hlocks, hin⟩ := C0
  have hown : s.vm.findClass "TextForge" = some m.cls := hown
  have hP : va_P (dC, dI) vwCl [(tf, .inr (7, [.ref hf, .ref hq, .ref hs, .ref hd, .ref hp, .ref hc, .long ln])), (hf, .inr (2, [.ref rf, .int (nI F.length)])), (rf, .inl (cB, 4096, .inl ff))] s.heap := hP
  have hK : va_K (dC, dI) vwCl [(cB, .byte)] s := hK
  have hD : va_D A [(tf, .inr (7, [.ref hf, .ref hq, .ref hs, .ref hd, .ref hp, .ref hc, .long ln])), (hf, .inr (2, [.ref rf, .int (nI F.length)])), (rf, .inl (cB, 4096, .inl ff))] := hD
  have hl : lv_has ls 6 [(0, .ref tf), (1, .int v1), (2, .int v2), (3, .int v3), (4, .int v4), (5, .int v5)] := hl
  refine lv_aload_n hx hb d_Tf_feed_0 rfl (lv_at hl 0 rfl) ?_
  refine va_get (D := (dC, dI)) (ci := 7) (v := .ref hf) (C := "TextForge") (T := TX7) (N := 7) hx hb hg iwX7 hown hK hP 0 rfl rfl 0 (by decide) (hg _ kw_131) (fun _ h9 => h9) rfl d_Tf_feed_1 ?_
  have hPc := hP.sub (ws' := [(hf, .inr (2, [.ref rf, .int (nI F.length)]))]) [1] rfl
  have hKc := hK.sub (tys' := []) [] rfl
  refine vp_callSi (W.runV (As := []) (rest := []) ⟨hx, hb, hml, hown, hg⟩ (c_By_length l dC dI hf (.ref rf) (nI F.length) ) (cwV 0 hg (gi_V kw_157 kw_158 kw_159 kw_2 kw_160) rfl rfl rfl (by decide +kernel) ⟨Nat.le_of_ble_eq_true rfl, Nat.le_of_ble_eq_true rfl⟩) (zz_prJV hPc hKc _ (q0 := 0) (ci := 2) rfl rfl) rfl rfl hl.1 rfl (lv_room (Nat.le_of_ble_eq_true rfl)) d_Tf_feed_4 ⟨Nat.le_of_ble_eq_true rfl, Nat.le_of_ble_eq_true rfl⟩) (fun r_1 hr_1 => ?_)
  subst hr_1
  refine lv_bipush (v := 20) hx hb d_Tf_feed_7 (by decide) ?_
  refine lv_iadd hx hb d_Tf_feed_9 ?_
  rw [show nI F.length + 20 = nI (F.length + 20) from nI_add _ 20]
  refine lv_sipush (v := 4096) hx hb d_Tf_feed_10 (by decide) ?_
  refine lv_icmp_le (tgt := 18) hx hb d_Tf_feed_13 (by decide) (fun c_13 => ?_) (fun c_13 => ?_)
  · skip
    have f_13 : F.length + 20 ≤ 4096 := (nI_leI (b := 4096) (by omega) (by omega)).mp c_13
    refine lv_aload_n hx hb d_Tf_feed_18 rfl (lv_at hl 0 rfl) ?_
    refine va_get (D := (dC, dI)) (ci := 7) (v := .ref hf) (C := "TextForge") (T := TX7) (N := 7) hx hb hg iwX7 hown hK hP 0 rfl rfl 0 (by decide) (hg _ kw_131) (fun _ h9 => h9) rfl d_Tf_feed_19 ?_
    refine lv_iload_n hx hb d_Tf_feed_22 rfl (lv_at hl 1 rfl) ?_
    have hPc := hP.sub (ws' := [(hf, .inr (2, [.ref rf, .int (nI F.length)])), (rf, .inl (cB, 4096, .inl ff))]) [1, 2] rfl
    have hKc := hK.sub (tys' := [(cB, .byte)]) [0] rfl
    have hDc := hD.sub (ws' := [(hf, .inr (2, [.ref rf, .int (nI F.length)])), (rf, .inl (cB, 4096, .inl ff))]) [1, 2] (by decide) rfl
    have hFc := va_free (wc := [(hf, .inr (2, [.ref rf, .int (nI F.length)])), (rf, .inl (cB, 4096, .inl ff))]) hD hS hA [1, 2] rfl
    refine zz_callv (va_runV (As := [.int v1]) (rest := []) ⟨hx, hb, hml, hown, hg⟩ (c_By_addFourBytes l dC dI hf rf cB 4096 ff F v1 hLf hcf (by decide)  s.heap.size) (cwV 1 hg (gi_V kw_161 kw_162 kw_163 kw_2 kw_164) rfl rfl rfl (by decide +kernel) ⟨Nat.le_of_ble_eq_true rfl, Nat.le_of_ble_eq_true rfl⟩) (zz_preV hPc hKc hDc _ (q0 := 0) (ci := 2) rfl rfl) rfl rfl hl.1 rfl (lv_room (Nat.le_of_ble_eq_true rfl)) d_Tf_feed_23 ⟨Nat.le_of_ble_eq_true rfl, Nat.le_of_ble_eq_true rfl⟩) hS hFc (fun u H1 k9 p9 d9 => va_join (wr := [(tf, .inr (7, [.ref hf, .ref hq, .ref hs, .ref hd, .ref hp, .ref hc, .long ln]))]) hP hD [1, 2] [0] rfl rfl (by decide) (by decide) k9 hFc p9 d9) (fun u H locs hw hP hD hK1 hS => ?_)
    obtain ⟨u_2, rfl⟩ : ∃ z, z = u := ⟨_, rfl⟩
    try dsimp only at hw
    have hP : va_P (dC, dI) vwCl [(tf, .inr (7, [.ref hf, .ref hq, .ref hs, .ref hd, .ref hp, .ref hc, .long ln])), (hf, .inr (2, [.ref rf, .int (nI (by_ap 4096 F (by_4 v1)).length)])), (rf, .inl (cB, 4096, .inl u_2))] H := hP
    have hD : va_D A [(tf, .inr (7, [.ref hf, .ref hq, .ref hs, .ref hd, .ref hp, .ref hc, .long ln])), (hf, .inr (2, [.ref rf, .int (nI (by_ap 4096 F (by_4 v1)).length)])), (rf, .inl (cB, 4096, .inl u_2))] := hD
    have hL_4 := hw
    refine lv_aload_n hx hb d_Tf_feed_26 rfl (lv_at hl 0 rfl) ?_
    refine va_get (D := (dC, dI)) (ci := 7) (v := .ref hf) (C := "TextForge") (T := TX7) (N := 7) hx hb hg iwX7 hown hK hP 0 rfl rfl 0 (by decide) (hg _ kw_131) (fun _ h9 => h9) rfl d_Tf_feed_27 ?_
    refine lv_iload_n hx hb d_Tf_feed_30 rfl (lv_at hl 2 rfl) ?_
    have hPc := hP.sub (ws' := [(hf, .inr (2, [.ref rf, .int (nI (by_ap 4096 F (by_4 v1)).length)])), (rf, .inl (cB, 4096, .inl u_2))]) [1, 2] rfl
    have hKc := hK.sub (tys' := [(cB, .byte)]) [0] rfl
    have hDc := hD.sub (ws' := [(hf, .inr (2, [.ref rf, .int (nI (by_ap 4096 F (by_4 v1)).length)])), (rf, .inl (cB, 4096, .inl u_2))]) [1, 2] (by decide) rfl
    have hFc := va_free (wc := [(hf, .inr (2, [.ref rf, .int (nI (by_ap 4096 F (by_4 v1)).length)])), (rf, .inl (cB, 4096, .inl u_2))]) hD hS hA [1, 2] rfl
    refine zz_callv (va_runV (As := [.int v2]) (rest := []) ⟨hx, hb, hml, hown, hg⟩ (c_By_addFourBytes l dC dI hf rf cB 4096 u_2 (by_ap 4096 F (by_4 v1)) v2 hL_4 (by_ap_len _ _ _) (by decide)  H.size) (cwV 1 hg (gi_V kw_161 kw_162 kw_163 kw_2 kw_164) rfl rfl rfl (by decide +kernel) ⟨Nat.le_of_ble_eq_true rfl, Nat.le_of_ble_eq_true rfl⟩) (zz_preV hPc hKc hDc _ (q0 := 0) (ci := 2) rfl rfl) rfl rfl hl.1 rfl (lv_room (Nat.le_of_ble_eq_true rfl)) d_Tf_feed_31 ⟨Nat.le_of_ble_eq_true rfl, Nat.le_of_ble_eq_true rfl⟩) hS hFc (fun u H1 k9 p9 d9 => va_join (wr := [(tf, .inr (7, [.ref hf, .ref hq, .ref hs, .ref hd, .ref hp, .ref hc, .long ln]))]) hP hD [1, 2] [0] rfl rfl (by decide) (by decide) k9 hFc p9 d9) (fun u H locs hw hP hD hK1 hS => ?_)
    obtain ⟨u_5, rfl⟩ : ∃ z, z = u := ⟨_, rfl⟩
    try dsimp only at hw
    have hP : va_P (dC, dI) vwCl [(tf, .inr (7, [.ref hf, .ref hq, .ref hs, .ref hd, .ref hp, .ref hc, .long ln])), (hf, .inr (2, [.ref rf, .int (nI (by_ap 4096 (by_ap 4096 F (by_4 v1)) (by_4 v2)).length)])), (rf, .inl (cB, 4096, .inl u_5))] H := hP
    have hD : va_D A [(tf, .inr (7, [.ref hf, .ref hq, .ref hs, .ref hd, .ref hp, .ref hc, .long ln])), (hf, .inr (2, [.ref rf, .int (nI (by_ap 4096 (by_ap 4096 F (by_4 v1)) (by_4 v2)).length)])), (rf, .inl (cB, 4096, .inl u_5))] := hD
    have hL_7 := hw
    refine lv_aload_n hx hb d_Tf_feed_34 rfl (lv_at hl 0 rfl) ?_
    refine va_get (D := (dC, dI)) (ci := 7) (v := .ref hf) (C := "TextForge") (T := TX7) (N := 7) hx hb hg iwX7 hown hK hP 0 rfl rfl 0 (by decide) (hg _ kw_131) (fun _ h9 => h9) rfl d_Tf_feed_35 ?_
    refine lv_iload_n hx hb d_Tf_feed_38 rfl (lv_at hl 3 rfl) ?_
    have hPc := hP.sub (ws' := [(hf, .inr (2, [.ref rf, .int (nI (by_ap 4096 (by_ap 4096 F (by_4 v1)) (by_4 v2)).length)])), (rf, .inl (cB, 4096, .inl u_5))]) [1, 2] rfl
    have hKc := hK.sub (tys' := [(cB, .byte)]) [0] rfl
    have hDc := hD.sub (ws' := [(hf, .inr (2, [.ref rf, .int (nI (by_ap 4096 (by_ap 4096 F (by_4 v1)) (by_4 v2)).length)])), (rf, .inl (cB, 4096, .inl u_5))]) [1, 2] (by decide) rfl
    have hFc := va_free (wc := [(hf, .inr (2, [.ref rf, .int (nI (by_ap 4096 (by_ap 4096 F (by_4 v1)) (by_4 v2)).length)])), (rf, .inl (cB, 4096, .inl u_5))]) hD hS hA [1, 2] rfl
    refine zz_callv (va_runV (As := [.int v3]) (rest := []) ⟨hx, hb, hml, hown, hg⟩ (c_By_addFourBytes l dC dI hf rf cB 4096 u_5 (by_ap 4096 (by_ap 4096 F (by_4 v1)) (by_4 v2)) v3 hL_7 (by_ap_len _ _ _) (by decide)  H.size) (cwV 1 hg (gi_V kw_161 kw_162 kw_163 kw_2 kw_164) rfl rfl rfl (by decide +kernel) ⟨Nat.le_of_ble_eq_true rfl, Nat.le_of_ble_eq_true rfl⟩) (zz_preV hPc hKc hDc _ (q0 := 0) (ci := 2) rfl rfl) rfl rfl hl.1 rfl (lv_room (Nat.le_of_ble_eq_true rfl)) d_Tf_feed_39 ⟨Nat.le_of_ble_eq_true rfl, Nat.le_of_ble_eq_true rfl⟩) hS hFc (fun u H1 k9 p9 d9 => va_join (wr := [(tf, .inr (7, [.ref hf, .ref hq, .ref hs, .ref hd, .ref hp, .ref hc, .long ln]))]) hP hD [1, 2] [0] rfl rfl (by decide) (by decide) k9 hFc p9 d9) (fun u H locs hw hP hD hK1 hS => ?_)
    obtain ⟨u_8, rfl⟩ : ∃ z, z = u := ⟨_, rfl⟩
    try dsimp only at hw
    have hP : va_P (dC, dI) vwCl [(tf, .inr (7, [.ref hf, .ref hq, .ref hs, .ref hd, .ref hp, .ref hc, .long ln])), (hf, .inr (2, [.ref rf, .int (nI (by_ap 4096 (by_ap 4096 (by_ap 4096 F (by_4 v1)) (by_4 v2)) (by_4 v3)).length)])), (rf, .inl (cB, 4096, .inl u_8))] H := hP
    have hD : va_D A [(tf, .inr (7, [.ref hf, .ref hq, .ref hs, .ref hd, .ref hp, .ref hc, .long ln])), (hf, .inr (2, [.ref rf, .int (nI (by_ap 4096 (by_ap 4096 (by_ap 4096 F (by_4 v1)) (by_4 v2)) (by_4 v3)).length)])), (rf, .inl (cB, 4096, .inl u_8))] := hD
    have hL_10 := hw
    refine lv_aload_n hx hb d_Tf_feed_42 rfl (lv_at hl 0 rfl) ?_
    refine va_get (D := (dC, dI)) (ci := 7) (v := .ref hf) (C := "TextForge") (T := TX7) (N := 7) hx hb hg iwX7 hown hK hP 0 rfl rfl 0 (by decide) (hg _ kw_131) (fun _ h9 => h9) rfl d_Tf_feed_43 ?_
    refine lv_iload hx hb d_Tf_feed_46 (lv_at hl 4 rfl) ?_
    have hPc := hP.sub (ws' := [(hf, .inr (2, [.ref rf, .int (nI (by_ap 4096 (by_ap 4096 (by_ap 4096 F (by_4 v1)) (by_4 v2)) (by_4 v3)).length)])), (rf, .inl (cB, 4096, .inl u_8))]) [1, 2] rfl
    have hKc := hK.sub (tys' := [(cB, .byte)]) [0] rfl
    have hDc := hD.sub (ws' := [(hf, .inr (2, [.ref rf, .int (nI (by_ap 4096 (by_ap 4096 (by_ap 4096 F (by_4 v1)) (by_4 v2)) (by_4 v3)).length)])), (rf, .inl (cB, 4096, .inl u_8))]) [1, 2] (by decide) rfl
    have hFc := va_free (wc := [(hf, .inr (2, [.ref rf, .int (nI (by_ap 4096 (by_ap 4096 (by_ap 4096 F (by_4 v1)) (by_4 v2)) (by_4 v3)).length)])), (rf, .inl (cB, 4096, .inl u_8))]) hD hS hA [1, 2] rfl
    refine zz_callv (va_runV (As := [.int v4]) (rest := []) ⟨hx, hb, hml, hown, hg⟩ (c_By_addFourBytes l dC dI hf rf cB 4096 u_8 (by_ap 4096 (by_ap 4096 (by_ap 4096 F (by_4 v1)) (by_4 v2)) (by_4 v3)) v4 hL_10 (by_ap_len _ _ _) (by decide)  H.size) (cwV 1 hg (gi_V kw_161 kw_162 kw_163 kw_2 kw_164) rfl rfl rfl (by decide +kernel) ⟨Nat.le_of_ble_eq_true rfl, Nat.le_of_ble_eq_true rfl⟩) (zz_preV hPc hKc hDc _ (q0 := 0) (ci := 2) rfl rfl) rfl rfl hl.1 rfl (lv_room (Nat.le_of_ble_eq_true rfl)) d_Tf_feed_48 ⟨Nat.le_of_ble_eq_true rfl, Nat.le_of_ble_eq_true rfl⟩) hS hFc (fun u H1 k9 p9 d9 => va_join (wr := [(tf, .inr (7, [.ref hf, .ref hq, .ref hs, .ref hd, .ref hp, .ref hc, .long ln]))]) hP hD [1, 2] [0] rfl rfl (by decide) (by decide) k9 hFc p9 d9) (fun u H locs hw hP hD hK1 hS => ?_)
    obtain ⟨u_11, rfl⟩ : ∃ z, z = u := ⟨_, rfl⟩
    try dsimp only at hw
    have hP : va_P (dC, dI) vwCl [(tf, .inr (7, [.ref hf, .ref hq, .ref hs, .ref hd, .ref hp, .ref hc, .long ln])), (hf, .inr (2, [.ref rf, .int (nI (by_ap 4096 (by_ap 4096 (by_ap 4096 (by_ap 4096 F (by_4 v1)) (by_4 v2)) (by_4 v3)) (by_4 v4)).length)])), (rf, .inl (cB, 4096, .inl u_11))] H := hP
    have hD : va_D A [(tf, .inr (7, [.ref hf, .ref hq, .ref hs, .ref hd, .ref hp, .ref hc, .long ln])), (hf, .inr (2, [.ref rf, .int (nI (by_ap 4096 (by_ap 4096 (by_ap 4096 (by_ap 4096 F (by_4 v1)) (by_4 v2)) (by_4 v3)) (by_4 v4)).length)])), (rf, .inl (cB, 4096, .inl u_11))] := hD
    have hL_13 := hw
    refine lv_aload_n hx hb d_Tf_feed_51 rfl (lv_at hl 0 rfl) ?_
    refine va_get (D := (dC, dI)) (ci := 7) (v := .ref hf) (C := "TextForge") (T := TX7) (N := 7) hx hb hg iwX7 hown hK hP 0 rfl rfl 0 (by decide) (hg _ kw_131) (fun _ h9 => h9) rfl d_Tf_feed_52 ?_
    refine lv_iload hx hb d_Tf_feed_55 (lv_at hl 5 rfl) ?_
    have hPc := hP.sub (ws' := [(hf, .inr (2, [.ref rf, .int (nI (by_ap 4096 (by_ap 4096 (by_ap 4096 (by_ap 4096 F (by_4 v1)) (by_4 v2)) (by_4 v3)) (by_4 v4)).length)])), (rf, .inl (cB, 4096, .inl u_11))]) [1, 2] rfl
    have hKc := hK.sub (tys' := [(cB, .byte)]) [0] rfl
    have hDc := hD.sub (ws' := [(hf, .inr (2, [.ref rf, .int (nI (by_ap 4096 (by_ap 4096 (by_ap 4096 (by_ap 4096 F (by_4 v1)) (by_4 v2)) (by_4 v3)) (by_4 v4)).length)])), (rf, .inl (cB, 4096, .inl u_11))]) [1, 2] (by decide) rfl
    have hFc := va_free (wc := [(hf, .inr (2, [.ref rf, .int (nI (by_ap 4096 (by_ap 4096 (by_ap 4096 (by_ap 4096 F (by_4 v1)) (by_4 v2)) (by_4 v3)) (by_4 v4)).length)])), (rf, .inl (cB, 4096, .inl u_11))]) hD hS hA [1, 2] rfl
    refine zz_callv (va_runV (As := [.int v5]) (rest := []) ⟨hx, hb, hml, hown, hg⟩ (c_By_addFourBytes l dC dI hf rf cB 4096 u_11 (by_ap 4096 (by_ap 4096 (by_ap 4096 (by_ap 4096 F (by_4 v1)) (by_4 v2)) (by_4 v3)) (by_4 v4)) v5 hL_13 (by_ap_len _ _ _) (by decide)  H.size) (cwV 1 hg (gi_V kw_161 kw_162 kw_163 kw_2 kw_164) rfl rfl rfl (by decide +kernel) ⟨Nat.le_of_ble_eq_true rfl, Nat.le_of_ble_eq_true rfl⟩) (zz_preV hPc hKc hDc _ (q0 := 0) (ci := 2) rfl rfl) rfl rfl hl.1 rfl (lv_room (Nat.le_of_ble_eq_true rfl)) d_Tf_feed_57 ⟨Nat.le_of_ble_eq_true rfl, Nat.le_of_ble_eq_true rfl⟩) hS hFc (fun u H1 k9 p9 d9 => va_join (wr := [(tf, .inr (7, [.ref hf, .ref hq, .ref hs, .ref hd, .ref hp, .ref hc, .long ln]))]) hP hD [1, 2] [0] rfl rfl (by decide) (by decide) k9 hFc p9 d9) (fun u H locs hw hP hD hK1 hS => ?_)
    obtain ⟨u_14, rfl⟩ : ∃ z, z = u := ⟨_, rfl⟩
    try dsimp only at hw
    have hP : va_P (dC, dI) vwCl [(tf, .inr (7, [.ref hf, .ref hq, .ref hs, .ref hd, .ref hp, .ref hc, .long ln])), (hf, .inr (2, [.ref rf, .int (nI (by_ap 4096 (by_ap 4096 (by_ap 4096 (by_ap 4096 (by_ap 4096 F (by_4 v1)) (by_4 v2)) (by_4 v3)) (by_4 v4)) (by_4 v5)).length)])), (rf, .inl (cB, 4096, .inl u_14))] H := hP
    have hD : va_D A [(tf, .inr (7, [.ref hf, .ref hq, .ref hs, .ref hd, .ref hp, .ref hc, .long ln])), (hf, .inr (2, [.ref rf, .int (nI (by_ap 4096 (by_ap 4096 (by_ap 4096 (by_ap 4096 (by_ap 4096 F (by_4 v1)) (by_4 v2)) (by_4 v3)) (by_4 v4)) (by_4 v5)).length)])), (rf, .inl (cB, 4096, .inl u_14))] := hD
    have hL_16 := hw
    refine lv_iconst (v := 1) hx hb d_Tf_feed_60 (by decide) ?_
    have hP9 := hP.sub (ws' := [(tf, .inr (7, [.ref hf, .ref hq, .ref hs, .ref hd, .ref hp, .ref hc, .long ln])), (hf, .inr (2, [.ref rf, .int (nI (by_ap 4096 (by_ap 4096 (by_ap 4096 (by_ap 4096 (by_ap 4096 F (by_4 v1)) (by_4 v2)) (by_4 v3)) (by_4 v4)) (by_4 v5)).length)])), (rf, .inl (cB, 4096, .inl u_14))]) [0, 1, 2] rfl
    have hD9 := hD.sub (ws' := [(tf, .inr (7, [.ref hf, .ref hq, .ref hs, .ref hd, .ref hp, .ref hc, .long ln])), (hf, .inr (2, [.ref rf, .int (nI (by_ap 4096 (by_ap 4096 (by_ap 4096 (by_ap 4096 (by_ap 4096 F (by_4 v1)) (by_4 v2)) (by_4 v3)) (by_4 v4)) (by_4 v5)).length)])), (rf, .inl (cB, 4096, .inl u_14))]) [0, 1, 2] (by decide) rfl
    have hK9 := hK.sub (tys' := [(cB, .byte)]) [0] rfl
    rw [fd_yes (a := v1) (b := v2) (c := v3) (d := v4) (e := v5) f_13] at hP9 hD9
    exact zz_zret hx hb hr hlocks d_Tf_feed_61 (by decide) hS (by first | exact Nat.le_refl _ | decide | omega | (dsimp only; omega)) (by first | exact Nat.le_refl _ | decide | omega | (dsimp only; omega)) u_14 ⟨(by rw [decide_eq_true f_13]; rfl), (by rw [fd_yes f_13] at hL_16; exact hL_16)⟩ hP9 hK9 hD9
  · skip
    have f_13 : 4096 < F.length + 20 := Nat.lt_of_not_le (fun z => c_13 (nI_le (b := 4096) z (by omega)))
    refine lv_iconst (v := 0) hx hb d_Tf_feed_16 (by decide) ?_
    have hP9 := hP.sub (ws' := [(tf, .inr (7, [.ref hf, .ref hq, .ref hs, .ref hd, .ref hp, .ref hc, .long ln])), (hf, .inr (2, [.ref rf, .int (nI F.length)])), (rf, .inl (cB, 4096, .inl ff))]) [0, 1, 2] rfl
    have hD9 := hD.sub (ws' := [(tf, .inr (7, [.ref hf, .ref hq, .ref hs, .ref hd, .ref hp, .ref hc, .long ln])), (hf, .inr (2, [.ref rf, .int (nI F.length)])), (rf, .inl (cB, 4096, .inl ff))]) [0, 1, 2] (by decide) rfl
    have hK9 := hK.sub (tys' := [(cB, .byte)]) [0] rfl
    rw [show nI F.length = nI (fd_l F v1 v2 v3 v4 v5).length by rw [fd_no (by omega)]] at hP9 hD9
    exact zz_zret hx hb hr hlocks d_Tf_feed_17 (by decide) hS (by first | exact Nat.le_refl _ | decide | omega | (dsimp only; omega)) (by first | exact Nat.le_refl _ | decide | omega | (dsimp only; omega)) ff ⟨(by rw [decide_eq_false (by omega)]; rfl), (by rw [fd_no (by omega)]; exact hLf)⟩ hP9 hK9 hD9
abbrev y_Tf_end : MethodName := ⟨"TextForge", "end", "(I)Z"⟩
abbrev w_Tf_end : List Cond := Cond.code y_Tf_end prog_1_method_3_code 2 (some .boolean) :: gw
theorem d_Tf_end_0 : decode prog_1_method_3_code 0 = .ok (.iload_n 1, 1) := by decide +kernel
theorem d_Tf_end_1 : decode prog_1_method_3_code 1 = .ok (.ifCond .lt 14, 3) := by decide +kernel
theorem d_Tf_end_4 : decode prog_1_method_3_code 4 = .ok (.iload_n 1, 1) := by decide +kernel
theorem d_Tf_end_5 : decode prog_1_method_3_code 5 = .ok (.aload_n 0, 1) := by decide +kernel
theorem d_Tf_end_6 : decode prog_1_method_3_code 6 = .ok (.getfield 14, 3) := by decide +kernel
theorem d_Tf_end_9 : decode prog_1_method_3_code 9 = .ok (.invokevirtual 53, 3) := by decide +kernel
theorem d_Tf_end_12 : decode prog_1_method_3_code 12 = .ok (.if_icmp .le 5, 3) := by decide +kernel
theorem d_Tf_end_15 : decode prog_1_method_3_code 15 = .ok (.iconst 0, 1) := by decide +kernel
theorem d_Tf_end_16 : decode prog_1_method_3_code 16 = .ok (.ireturn, 1) := by decide +kernel
theorem d_Tf_end_17 : decode prog_1_method_3_code 17 = .ok (.aload_n 0, 1) := by decide +kernel
theorem d_Tf_end_18 : decode prog_1_method_3_code 18 = .ok (.getfield 14, 3) := by decide +kernel
theorem d_Tf_end_21 : decode prog_1_method_3_code 21 = .ok (.iload_n 1, 1) := by decide +kernel
theorem d_Tf_end_22 : decode prog_1_method_3_code 22 = .ok (.invokevirtual 60, 3) := by decide +kernel
theorem d_Tf_end_25 : decode prog_1_method_3_code 25 = .ok (.iconst 1, 1) := by decide +kernel
theorem d_Tf_end_26 : decode prog_1_method_3_code 26 = .ok (.ireturn, 1) := by decide +kernel
set_option maxHeartbeats 4000000 in
set_option maxRecDepth 100000 in
theorem c_Tf_end (l : Launch) (dC : Nat → ClassId) (dI : Nat → Nat → Nat) (tf hf hq hs hd hp hc : Nat) (ln : Int64) (rf : Nat) (cB : ClassId) (ff : Nat → Int32) (F : List Nat) (v : Int32) (hLf : by_L F ff) (hcf : F.length ≤ 4096) : zM_i (S := Nat → Int32) l y_Tf_end w_Tf_end { frames := 1, cells := 0, slots := 0, locals := 21 } (dC, dI) vwCl [.ref tf, .int v] [(tf, .inr (7, [.ref hf, .ref hq, .ref hs, .ref hd, .ref hp, .ref hc, .long ln])), (hf, .inr (2, [.ref rf, .int (nI F.length)])), (rf, .inl (cB, 4096, .inl ff))] [(cB, .byte)] (fun (r : Int32) (u : Nat → Int32) => r = by_z (en_b F v) ∧ by_L (en_l F v) u) (fun u => [(tf, .inr (7, [.ref hf, .ref hq, .ref hs, .ref hd, .ref hp, .ref hc, .long ln])), (hf, .inr (2, [.ref rf, .int (nI (en_l F v).length)])), (rf, .inl (cB, 4096, .inl u))]) (fun u => [(cB, .byte)]) 0 0 := by
  refine zz_enteri (cc := prog_1_method_3_code) (nL := 2) (ret := (some .boolean)) (by decide) rfl (Nat.le_of_ble_eq_true rfl) ?_
  intro p e s m below meth c A ls C0 hA hS hP hK hD hl
  obtain ⟨hx, hb, hml, hown, hg, hr, hlocks, hin⟩ := C0
  have hown : s.vm.findClass "TextForge" = some m.cls := hown
  have hP : va_P (dC, dI) vwCl [(tf, .inr (7, [.ref hf, .ref hq, .ref hs, .ref hd, .ref hp, .ref hc, .long ln])), (hf, .inr (2, [.ref rf, .int (nI F.length)])), (rf, .inl (cB, 4096, .inl ff))] s.heap := hP
  have hK : va_K (dC, dI) vwCl [(cB, .byte)] s := hK
  have hD : va_D A [(tf, .inr (7, [.ref hf, .ref hq, .ref hs, .ref hd, .ref hp, .ref hc, .long ln])), (hf, .inr (2, [.ref rf, .int (nI F.length)])), (rf, .inl (cB, 4096, .inl ff))] := hD
  have hl : lv_has ls 2 [(0, .ref tf), (1, .int v)] := hl
  refine lv_iload_n hx hb d_Tf_end_0 rfl (lv_at hl 1 rfl) ?_
  refine lv_if_lt (tgt := 15) hx hb d_Tf_end_1 (by decide) (fun c_1 => ?_) (fun c_1 => ?_)
  · skip
    refine lv_iconst (v := 0) hx hb d_Tf_end_15 (by decide) ?_
    have hP9 := hP.sub (ws' := [(tf, .inr (7, [.ref hf, .ref hq, .ref hs, .ref hd, .ref hp, .ref hc, .long ln])), (hf, .inr (2, [.ref rf, .int (nI F.length)])), (rf, .inl (cB, 4096, .inl ff))]) [0, 1, 2] rfl
    have hD9 := hD.sub (ws' := [(tf, .inr (7, [.ref hf, .ref hq, .ref hs, .ref hd, .ref hp, .ref hc, .long ln])), (hf, .inr (2, [.ref rf, .int (nI F.length)])), (rf, .inl (cB, 4096, .inl ff))]) [0, 1, 2] (by decide) rfl
    have hK9 := hK.sub (tys' := [(cB, .byte)]) [0] rfl
    rw [show nI F.length = nI (en_l F v).length by rw [en_l0 c_1]] at hP9 hD9
    exact zz_zret hx hb hr hlocks d_Tf_end_16 (by decide) hS (by first | exact Nat.le_refl _ | decide | omega | (dsimp only; omega)) (by first | exact Nat.le_refl _ | decide | omega | (dsimp only; omega)) ff ⟨(by rw [en_b0 c_1]; rfl), (by rw [en_l0 c_1]; exact hLf)⟩ hP9 hK9 hD9
  · skip
    refine lv_iload_n hx hb d_Tf_end_4 rfl (lv_at hl 1 rfl) ?_
    refine lv_aload_n hx hb d_Tf_end_5 rfl (lv_at hl 0 rfl) ?_
    refine va_get (D := (dC, dI)) (ci := 7) (v := .ref hf) (C := "TextForge") (T := TX7) (N := 7) hx hb hg iwX7 hown hK hP 0 rfl rfl 0 (by decide) (hg _ kw_131) (fun _ h9 => h9) rfl d_Tf_end_6 ?_
    have hPc := hP.sub (ws' := [(hf, .inr (2, [.ref rf, .int (nI F.length)]))]) [1] rfl
    have hKc := hK.sub (tys' := []) [] rfl
    refine vp_callSi (W.runV (As := []) (rest := [.int v]) ⟨hx, hb, hml, hown, hg⟩ (c_By_length l dC dI hf (.ref rf) (nI F.length) ) (cwV 0 hg (gi_V kw_157 kw_158 kw_159 kw_2 kw_160) rfl rfl rfl (by decide +kernel) ⟨Nat.le_of_ble_eq_true rfl, Nat.le_of_ble_eq_true rfl⟩) (zz_prJV hPc hKc _ (q0 := 0) (ci := 2) rfl rfl) rfl rfl hl.1 rfl (lv_room (Nat.le_of_ble_eq_true rfl)) d_Tf_end_9 ⟨Nat.le_of_ble_eq_true rfl, Nat.le_of_ble_eq_true rfl⟩) (fun r_1 hr_1 => ?_)
    subst hr_1
    refine lv_icmp_le (tgt := 17) hx hb d_Tf_end_12 (by decide) (fun c_12 => ?_) (fun c_12 => ?_)
    · skip
      obtain ⟨k, hk, hvk⟩ := nI_of c_1
      have f_12 : k ≤ F.length := (nI_leI hk (by omega)).mp (by rw [← hvk]; exact c_12)
      refine lv_aload_n hx hb d_Tf_end_17 rfl (lv_at hl 0 rfl) ?_
      refine va_get (D := (dC, dI)) (ci := 7) (v := .ref hf) (C := "TextForge") (T := TX7) (N := 7) hx hb hg iwX7 hown hK hP 0 rfl rfl 0 (by decide) (hg _ kw_131) (fun _ h9 => h9) rfl d_Tf_end_18 ?_
      refine lv_iload_n hx hb d_Tf_end_21 rfl (lv_at hl 1 rfl) ?_
      have hPc := hP.sub (ws' := [(hf, .inr (2, [.ref rf, .int (nI F.length)])), (rf, .inl (cB, 4096, .inl ff))]) [1, 2] rfl
      have hKc := hK.sub (tys' := [(cB, .byte)]) [0] rfl
      have hDc := hD.sub (ws' := [(hf, .inr (2, [.ref rf, .int (nI F.length)])), (rf, .inl (cB, 4096, .inl ff))]) [1, 2] (by decide) rfl
      have hFc := va_free (wc := [(hf, .inr (2, [.ref rf, .int (nI F.length)])), (rf, .inl (cB, 4096, .inl ff))]) hD hS hA [1, 2] rfl
      refine zz_callv (va_runV (As := [.int v]) (rest := []) ⟨hx, hb, hml, hown, hg⟩ (c_By_cut l dC dI hf rf cB 4096 ff F k v hLf hcf (by decide) hvk (by omega) s.heap.size) (cwV 1 hg (gi_V kw_173 kw_174 kw_175 kw_2 kw_176) rfl rfl rfl (by decide +kernel) ⟨Nat.le_of_ble_eq_true rfl, Nat.le_of_ble_eq_true rfl⟩) (zz_preV hPc hKc hDc _ (q0 := 0) (ci := 2) rfl rfl) rfl rfl hl.1 rfl (lv_room (Nat.le_of_ble_eq_true rfl)) d_Tf_end_22 ⟨Nat.le_of_ble_eq_true rfl, Nat.le_of_ble_eq_true rfl⟩) hS hFc (fun u H1 k9 p9 d9 => va_join (wr := [(tf, .inr (7, [.ref hf, .ref hq, .ref hs, .ref hd, .ref hp, .ref hc, .long ln]))]) hP hD [1, 2] [0] rfl rfl (by decide) (by decide) k9 hFc p9 d9) (fun u H locs hw hP hD hK1 hS => ?_)
      obtain ⟨f9, rfl⟩ : ∃ z, z = u := ⟨_, rfl⟩
      try dsimp only at hw
      have hP : va_P (dC, dI) vwCl [(tf, .inr (7, [.ref hf, .ref hq, .ref hs, .ref hd, .ref hp, .ref hc, .long ln])), (hf, .inr (2, [.ref rf, .int (nI (List.take k F).length)])), (rf, .inl (cB, 4096, .inl f9))] H := hP
      have hD : va_D A [(tf, .inr (7, [.ref hf, .ref hq, .ref hs, .ref hd, .ref hp, .ref hc, .long ln])), (hf, .inr (2, [.ref rf, .int (nI (List.take k F).length)])), (rf, .inl (cB, 4096, .inl f9))] := hD
      refine lv_iconst (v := 1) hx hb d_Tf_end_25 (by decide) ?_
      have hP9 := hP.sub (ws' := [(tf, .inr (7, [.ref hf, .ref hq, .ref hs, .ref hd, .ref hp, .ref hc, .long ln])), (hf, .inr (2, [.ref rf, .int (nI (List.take k F).length)])), (rf, .inl (cB, 4096, .inl f9))]) [0, 1, 2] rfl
      have hD9 := hD.sub (ws' := [(tf, .inr (7, [.ref hf, .ref hq, .ref hs, .ref hd, .ref hp, .ref hc, .long ln])), (hf, .inr (2, [.ref rf, .int (nI (List.take k F).length)])), (rf, .inl (cB, 4096, .inl f9))]) [0, 1, 2] (by decide) rfl
      have hK9 := hK.sub (tys' := [(cB, .byte)]) [0] rfl
      rw [show nI (List.take k F).length = nI (en_l F v).length by rw [en_l2 hk hvk f_12]] at hP9 hD9
      exact zz_zret hx hb hr hlocks d_Tf_end_26 (by decide) hS (by first | exact Nat.le_refl _ | decide | omega | (dsimp only; omega)) (by first | exact Nat.le_refl _ | decide | omega | (dsimp only; omega)) f9 ⟨(by rw [en_b2 hk hvk f_12]; rfl), (by rw [en_l2 hk hvk f_12, hw]; exact by_L_take hLf)⟩ hP9 hK9 hD9
    · skip
      obtain ⟨k, hk, hvk⟩ := nI_of c_1
      have f_12 : F.length < k := Nat.lt_of_not_le (fun z => c_12 (by rw [hvk]; exact nI_le z (by omega)))
      refine lv_iconst (v := 0) hx hb d_Tf_end_15 (by decide) ?_
      have hP9 := hP.sub (ws' := [(tf, .inr (7, [.ref hf, .ref hq, .ref hs, .ref hd, .ref hp, .ref hc, .long ln])), (hf, .inr (2, [.ref rf, .int (nI F.length)])), (rf, .inl (cB, 4096, .inl ff))]) [0, 1, 2] rfl
      have hD9 := hD.sub (ws' := [(tf, .inr (7, [.ref hf, .ref hq, .ref hs, .ref hd, .ref hp, .ref hc, .long ln])), (hf, .inr (2, [.ref rf, .int (nI F.length)])), (rf, .inl (cB, 4096, .inl ff))]) [0, 1, 2] (by decide) rfl
      have hK9 := hK.sub (tys' := [(cB, .byte)]) [0] rfl
      rw [show nI F.length = nI (en_l F v).length by rw [en_l1 hk hvk f_12]] at hP9 hD9
      exact zz_zret hx hb hr hlocks d_Tf_end_16 (by decide) hS (by first | exact Nat.le_refl _ | decide | omega | (dsimp only; omega)) (by first | exact Nat.le_refl _ | decide | omega | (dsimp only; omega)) ff ⟨(by rw [en_b1 hk hvk f_12]; rfl), (by rw [en_l1 hk hvk f_12]; exact hLf)⟩ hP9 hK9 hD9
abbrev y_Tf_clear : MethodName := ⟨"TextForge", "clear", "()V"⟩
abbrev w_Tf_clear : List Cond := Cond.code y_Tf_clear prog_1_method_8_code 1 none :: gw
theorem d_Tf_clear_0 : decode prog_1_method_8_code 0 = .ok (.aload_n 0, 1) := by decide +kernel
theorem d_Tf_clear_1 : decode prog_1_method_8_code 1 = .ok (.getfield 24, 3) := by decide +kernel
theorem d_Tf_clear_4 : decode prog_1_method_8_code 4 = .ok (.invokevirtual 86, 3) := by decide +kernel
theorem d_Tf_clear_7 : decode prog_1_method_8_code 7 = .ok (.return_, 1) := by decide +kernel
set_option maxHeartbeats 4000000 in
set_option maxRecDepth 100000 in
theorem c_Tf_clear (l : Launch) (dC : Nat → ClassId) (dI : Nat → Nat → Nat) (tf hf hq hs hd hp hc : Nat) (ln : Int64) (rs : Nat) (cR : ClassId) (fR : Nat → Option Nat) (n us : Nat)  : zM_v (S := Unit) l y_Tf_clear w_Tf_clear { frames := 1, cells := 0, slots := 0, locals := 20 } (dC, dI) vwCl [.ref tf] [(tf, .inr (7, [.ref hf, .ref hq, .ref hs, .ref hd, .ref hp, .ref hc, .long ln])), (hs, .inr (1, [.ref rs, .int (nI n), .int (nI us)])), (rs, .inl (cR, 16, .inr (.inr (.inr (.inr fR)))))] [(cR, .object "TextForge$Argument")] (fun (u : Unit) => True) (fun u => [(tf, .inr (7, [.ref hf, .ref hq, .ref hs, .ref hd, .ref hp, .ref hc, .long ln])), (hs, .inr (1, [.ref rs, .int (nI 0), .int (nI 0)])), (rs, .inl (cR, 16, .inr (.inr (.inr (.inr fR)))))]) (fun u => [(cR, .object "TextForge$Argument")]) 0 0 := by
  refine zz_enterv (cc := prog_1_method_8_code) (nL := 1) (ret := none) (by decide) rfl (Nat.le_of_ble_eq_true rfl) ?_
  intro p e s m below meth c A ls C0 hA hS hP hK hD hl
  obtain ⟨hx, hb, hml, hown, hg, hr, hlocks, hin⟩ := C0
  have hown : s.vm.findClass "TextForge" = some m.cls := hown
  have hP : va_P (dC, dI) vwCl [(tf, .inr (7, [.ref hf, .ref hq, .ref hs, .ref hd, .ref hp, .ref hc, .long ln])), (hs, .inr (1, [.ref rs, .int (nI n), .int (nI us)])), (rs, .inl (cR, 16, .inr (.inr (.inr (.inr fR)))))] s.heap := hP
  have hK : va_K (dC, dI) vwCl [(cR, .object "TextForge$Argument")] s := hK
  have hD : va_D A [(tf, .inr (7, [.ref hf, .ref hq, .ref hs, .ref hd, .ref hp, .ref hc, .long ln])), (hs, .inr (1, [.ref rs, .int (nI n), .int (nI us)])), (rs, .inl (cR, 16, .inr (.inr (.inr (.inr fR)))))] := hD
  have hl : lv_has ls 1 [(0, .ref tf)] := hl
  refine lv_aload_n hx hb d_Tf_clear_0 rfl (lv_at hl 0 rfl) ?_
  refine va_get (D := (dC, dI)) (ci := 7) (v := .ref hs) (C := "TextForge") (T := TX7) (N := 7) hx hb hg iwX7 hown hK hP 0 rfl rfl 2 (by decide) (hg _ kw_133) (fun _ h9 => h9) rfl d_Tf_clear_1 ?_
  have hPc := hP.sub (ws' := [(hs, .inr (1, [.ref rs, .int (nI n), .int (nI us)])), (rs, .inl (cR, 16, .inr (.inr (.inr (.inr fR)))))]) [1, 2] rfl
  have hKc := hK.sub (tys' := [(cR, .object "TextForge$Argument")]) [0] rfl
  have hDc := hD.sub (ws' := [(hs, .inr (1, [.ref rs, .int (nI n), .int (nI us)])), (rs, .inl (cR, 16, .inr (.inr (.inr (.inr fR)))))]) [1, 2] (by decide) rfl
  have hFc := va_free (wc := [(hs, .inr (1, [.ref rs, .int (nI n), .int (nI us)])), (rs, .inl (cR, 16, .inr (.inr (.inr (.inr fR)))))]) hD hS hA [1, 2] rfl
  refine zz_callv (va_runV (As := []) (rest := []) ⟨hx, hb, hml, hown, hg⟩ (c_As_drop l dC dI hs rs cR fR n us  s.heap.size) (cwV 0 hg (gi_V kw_181 kw_182 kw_183 kw_4 kw_184) rfl rfl rfl (by decide +kernel) ⟨Nat.le_of_ble_eq_true rfl, Nat.le_of_ble_eq_true rfl⟩) (zz_preV hPc hKc hDc _ (q0 := 0) (ci := 1) rfl rfl) rfl rfl hl.1 rfl (lv_room (Nat.le_of_ble_eq_true rfl)) d_Tf_clear_4 ⟨Nat.le_of_ble_eq_true rfl, Nat.le_of_ble_eq_true rfl⟩) hS hFc (fun u H1 k9 p9 d9 => va_join (wr := [(tf, .inr (7, [.ref hf, .ref hq, .ref hs, .ref hd, .ref hp, .ref hc, .long ln]))]) hP hD [1, 2] [0] rfl rfl (by decide) (by decide) k9 hFc p9 d9) (fun u H locs hw hP hD hK1 hS => ?_)
  obtain ⟨u_1, rfl⟩ : ∃ z, z = u := ⟨_, rfl⟩
  try dsimp only at hw
  have hP : va_P (dC, dI) vwCl [(tf, .inr (7, [.ref hf, .ref hq, .ref hs, .ref hd, .ref hp, .ref hc, .long ln])), (hs, .inr (1, [.ref rs, .int (nI 0), .int (nI 0)])), (rs, .inl (cR, 16, .inr (.inr (.inr (.inr fR)))))] H := hP
  have hD : va_D A [(tf, .inr (7, [.ref hf, .ref hq, .ref hs, .ref hd, .ref hp, .ref hc, .long ln])), (hs, .inr (1, [.ref rs, .int (nI 0), .int (nI 0)])), (rs, .inl (cR, 16, .inr (.inr (.inr (.inr fR)))))] := hD
  have hP9 := hP.sub (ws' := [(tf, .inr (7, [.ref hf, .ref hq, .ref hs, .ref hd, .ref hp, .ref hc, .long ln])), (hs, .inr (1, [.ref rs, .int (nI 0), .int (nI 0)])), (rs, .inl (cR, 16, .inr (.inr (.inr (.inr fR)))))]) [0, 1, 2] rfl
  have hD9 := hD.sub (ws' := [(tf, .inr (7, [.ref hf, .ref hq, .ref hs, .ref hd, .ref hp, .ref hc, .long ln])), (hs, .inr (1, [.ref rs, .int (nI 0), .int (nI 0)])), (rs, .inl (cR, 16, .inr (.inr (.inr (.inr fR)))))]) [0, 1, 2] (by decide) rfl
  have hK9 := hK.sub (tys' := [(cR, .object "TextForge$Argument")]) [0] rfl
  exact zz_vret hx hb hr hlocks d_Tf_clear_7 hS (by first | exact Nat.le_refl _ | decide | omega | (dsimp only; omega)) (by first | exact Nat.le_refl _ | decide | omega | (dsimp only; omega)) () trivial hP9 hK9 hD9
abbrev y_Tf_parsed : MethodName := ⟨"TextForge", "parsed", "()J"⟩
abbrev w_Tf_parsed : List Cond := Cond.code y_Tf_parsed prog_1_method_13_code 1 (some .long) :: gw
theorem d_Tf_parsed_0 : decode prog_1_method_13_code 0 = .ok (.aload_n 0, 1) := by decide +kernel
theorem d_Tf_parsed_1 : decode prog_1_method_13_code 1 = .ok (.getfield 49, 3) := by decide +kernel
theorem d_Tf_parsed_4 : decode prog_1_method_13_code 4 = .ok (.lreturn, 1) := by decide +kernel
set_option maxHeartbeats 4000000 in
set_option maxRecDepth 100000 in
theorem c_Tf_parsed (l : Launch) (dC : Nat → ClassId) (dI : Nat → Nat → Nat) (tf hf hq hs hd hp hc : Nat) (ln : Int64)  : zR_l l y_Tf_parsed w_Tf_parsed { frames := 0, cells := 0, slots := 0, locals := 0 } (dC, dI) vwCl [.ref tf] [(tf, .inr (7, [.ref hf, .ref hq, .ref hs, .ref hd, .ref hp, .ref hc, .long ln]))] [] (fun r : Int64 => r = ln) := by
  refine zz_enterR (cc := prog_1_method_13_code) (nL := 1) (ret := (some .long)) (by decide) rfl (Nat.le_of_ble_eq_true rfl) ?_
  intro p e s m below meth c ls C0 hP hK hl
  obtain ⟨hx, hb, hml, hown, hg, hr, hlocks, hin⟩ := C0
  have hS : va_S (fun _ => False) s.heap s.heap [] := va_S.rf
  have hown : s.vm.findClass "TextForge" = some m.cls := hown
  have hP : va_P (dC, dI) vwCl [(tf, .inr (7, [.ref hf, .ref hq, .ref hs, .ref hd, .ref hp, .ref hc, .long ln]))] s.heap := hP
  have hK : va_K (dC, dI) vwCl [] s := hK
  have hl : lv_has ls 1 [(0, .ref tf)] := hl
  refine lv_aload_n hx hb d_Tf_parsed_0 rfl (lv_at hl 0 rfl) ?_
  refine va_get (D := (dC, dI)) (ci := 7) (v := .long ln) (C := "TextForge") (T := TX7) (N := 7) hx hb hg iwX7 hown hK hP 0 rfl rfl 6 (by decide) (hg _ kw_137) (fun _ h9 => h9) rfl d_Tf_parsed_1 ?_
  exact zz_lretR hx hb hr hlocks d_Tf_parsed_4 rfl
abbrev y_Tf_size : MethodName := ⟨"TextForge", "size", "()I"⟩
abbrev w_Tf_size : List Cond := Cond.code y_Tf_size prog_1_method_17_code 1 (some .int) :: gw
theorem d_Tf_size_0 : decode prog_1_method_17_code 0 = .ok (.aload_n 0, 1) := by decide +kernel
theorem d_Tf_size_1 : decode prog_1_method_17_code 1 = .ok (.getfield 18, 3) := by decide +kernel
theorem d_Tf_size_4 : decode prog_1_method_17_code 4 = .ok (.invokevirtual 53, 3) := by decide +kernel
theorem d_Tf_size_7 : decode prog_1_method_17_code 7 = .ok (.ireturn, 1) := by decide +kernel
set_option maxHeartbeats 4000000 in
set_option maxRecDepth 100000 in
theorem c_Tf_size (l : Launch) (dC : Nat → ClassId) (dI : Nat → Nat → Nat) (tf hf hq hs hd hp hc : Nat) (ln : Int64) (x : Value) (n : Int32)  : zR_i l y_Tf_size w_Tf_size { frames := 1, cells := 0, slots := 0, locals := 20 } (dC, dI) vwCl [.ref tf] [(tf, .inr (7, [.ref hf, .ref hq, .ref hs, .ref hd, .ref hp, .ref hc, .long ln])), (hq, .inr (2, [x, .int n]))] [] (fun r : Int32 => r = n) := by
  refine zz_enterR (cc := prog_1_method_17_code) (nL := 1) (ret := (some .int)) (by decide) rfl (Nat.le_of_ble_eq_true rfl) ?_
  intro p e s m below meth c ls C0 hP hK hl
  obtain ⟨hx, hb, hml, hown, hg, hr, hlocks, hin⟩ := C0
  have hS : va_S (fun _ => False) s.heap s.heap [] := va_S.rf
  have hown : s.vm.findClass "TextForge" = some m.cls := hown
  have hP : va_P (dC, dI) vwCl [(tf, .inr (7, [.ref hf, .ref hq, .ref hs, .ref hd, .ref hp, .ref hc, .long ln])), (hq, .inr (2, [x, .int n]))] s.heap := hP
  have hK : va_K (dC, dI) vwCl [] s := hK
  have hl : lv_has ls 1 [(0, .ref tf)] := hl
  refine lv_aload_n hx hb d_Tf_size_0 rfl (lv_at hl 0 rfl) ?_
  refine va_get (D := (dC, dI)) (ci := 7) (v := .ref hq) (C := "TextForge") (T := TX7) (N := 7) hx hb hg iwX7 hown hK hP 0 rfl rfl 1 (by decide) (hg _ kw_132) (fun _ h9 => h9) rfl d_Tf_size_1 ?_
  have hPc := hP.sub (ws' := [(hq, .inr (2, [x, .int n]))]) [1] rfl
  have hKc := hK.sub (tys' := []) [] rfl
  refine vp_callSi (W.runV (As := []) (rest := []) ⟨hx, hb, hml, hown, hg⟩ (c_By_length l dC dI hq x n ) (cwV 0 hg (gi_V kw_157 kw_158 kw_159 kw_2 kw_160) rfl rfl rfl (by decide +kernel) ⟨Nat.le_of_ble_eq_true rfl, Nat.le_of_ble_eq_true rfl⟩) (zz_prJV hPc hKc _ (q0 := 0) (ci := 2) rfl rfl) rfl rfl hl.1 rfl (lv_room (Nat.le_of_ble_eq_true rfl)) d_Tf_size_4 ⟨Nat.le_of_ble_eq_true rfl, Nat.le_of_ble_eq_true rfl⟩) (fun r_1 hr_1 => ?_)
  exact zz_iretR hx hb hr hlocks d_Tf_size_7 hr_1
abbrev y_Tf_keptOfResult : MethodName := ⟨"TextForge", "keptOfResult", "()I"⟩
abbrev w_Tf_keptOfResult : List Cond := Cond.code y_Tf_keptOfResult prog_1_method_20_code 1 (some .int) :: gw
theorem d_Tf_keptOfResult_0 : decode prog_1_method_20_code 0 = .ok (.aload_n 0, 1) := by decide +kernel
theorem d_Tf_keptOfResult_1 : decode prog_1_method_20_code 1 = .ok (.getfield 18, 3) := by decide +kernel
theorem d_Tf_keptOfResult_4 : decode prog_1_method_20_code 4 = .ok (.sipush 4096, 3) := by decide +kernel
theorem d_Tf_keptOfResult_7 : decode prog_1_method_20_code 7 = .ok (.invokevirtual 60, 3) := by decide +kernel
theorem d_Tf_keptOfResult_10 : decode prog_1_method_20_code 10 = .ok (.aload_n 0, 1) := by decide +kernel
theorem d_Tf_keptOfResult_11 : decode prog_1_method_20_code 11 = .ok (.getfield 18, 3) := by decide +kernel
theorem d_Tf_keptOfResult_14 : decode prog_1_method_20_code 14 = .ok (.invokevirtual 53, 3) := by decide +kernel
theorem d_Tf_keptOfResult_17 : decode prog_1_method_20_code 17 = .ok (.ireturn, 1) := by decide +kernel
set_option maxHeartbeats 4000000 in
set_option maxRecDepth 100000 in
theorem c_Tf_keptOfResult (l : Launch) (dC : Nat → ClassId) (dI : Nat → Nat → Nat) (tf hf hq hs hd hp hc : Nat) (ln : Int64) (rq : Nat) (cB : ClassId) (fq : Nat → Int32) (G : List Nat) (hLq : by_L G fq) (hcq : G.length ≤ 4195) : zM_i (S := Nat → Int32) l y_Tf_keptOfResult w_Tf_keptOfResult { frames := 1, cells := 0, slots := 0, locals := 21 } (dC, dI) vwCl [.ref tf] [(tf, .inr (7, [.ref hf, .ref hq, .ref hs, .ref hd, .ref hp, .ref hc, .long ln])), (hq, .inr (2, [.ref rq, .int (nI G.length)])), (rq, .inl (cB, 4195, .inl fq))] [(cB, .byte)] (fun (r : Int32) (u : Nat → Int32) => r = nI (List.take 4096 G).length ∧ u = fq) (fun u => [(tf, .inr (7, [.ref hf, .ref hq, .ref hs, .ref hd, .ref hp, .ref hc, .long ln])), (hq, .inr (2, [.ref rq, .int (nI (List.take 4096 G).length)])), (rq, .inl (cB, 4195, .inl u))]) (fun u => [(cB, .byte)]) 0 0 := by
  refine zz_enteri (cc := prog_1_method_20_code) (nL := 1) (ret := (some .int)) (by decide) rfl (Nat.le_of_ble_eq_true rfl) ?_
  intro p e s m below meth c A ls C0 hA hS hP hK hD hl
  obtain ⟨hx, hb, hml, hown, hg, hr, hlocks, hin⟩ := C0
  have hown : s.vm.findClass "TextForge" = some m.cls := hown
  have hP : va_P (dC, dI) vwCl [(tf, .inr (7, [.ref hf, .ref hq, .ref hs, .ref hd, .ref hp, .ref hc, .long ln])), (hq, .inr (2, [.ref rq, .int (nI G.length)])), (rq, .inl (cB, 4195, .inl fq))] s.heap := hP
  have hK : va_K (dC, dI) vwCl [(cB, .byte)] s := hK
  have hD : va_D A [(tf, .inr (7, [.ref hf, .ref hq, .ref hs, .ref hd, .ref hp, .ref hc, .long ln])), (hq, .inr (2, [.ref rq, .int (nI G.length)])), (rq, .inl (cB, 4195, .inl fq))] := hD
  have hl : lv_has ls 1 [(0, .ref tf)] := hl
  refine lv_aload_n hx hb d_Tf_keptOfResult_0 rfl (lv_at hl 0 rfl) ?_
  refine va_get (D := (dC, dI)) (ci := 7) (v := .ref hq) (C := "TextForge") (T := TX7) (N := 7) hx hb hg iwX7 hown hK hP 0 rfl rfl 1 (by decide) (hg _ kw_132) (fun _ h9 => h9) rfl d_Tf_keptOfResult_1 ?_
  refine lv_sipush (v := 4096) hx hb d_Tf_keptOfResult_4 (by decide) ?_
  have hPc := hP.sub (ws' := [(hq, .inr (2, [.ref rq, .int (nI G.length)])), (rq, .inl (cB, 4195, .inl fq))]) [1, 2] rfl
  have hKc := hK.sub (tys' := [(cB, .byte)]) [0] rfl
  have hDc := hD.sub (ws' := [(hq, .inr (2, [.ref rq, .int (nI G.length)])), (rq, .inl (cB, 4195, .inl fq))]) [1, 2] (by decide) rfl
  have hFc := va_free (wc := [(hq, .inr (2, [.ref rq, .int (nI G.length)])), (rq, .inl (cB, 4195, .inl fq))]) hD hS hA [1, 2] rfl
  refine zz_callv (va_runV (As := [.int 4096]) (rest := []) ⟨hx, hb, hml, hown, hg⟩ (c_By_cut l dC dI hq rq cB 4195 fq G 4096 4096 hLq hcq (by decide) rfl (by decide) s.heap.size) (cwV 1 hg (gi_V kw_173 kw_174 kw_175 kw_2 kw_176) rfl rfl rfl (by decide +kernel) ⟨Nat.le_of_ble_eq_true rfl, Nat.le_of_ble_eq_true rfl⟩) (zz_preV hPc hKc hDc _ (q0 := 0) (ci := 2) rfl rfl) rfl rfl hl.1 rfl (lv_room (Nat.le_of_ble_eq_true rfl)) d_Tf_keptOfResult_7 ⟨Nat.le_of_ble_eq_true rfl, Nat.le_of_ble_eq_true rfl⟩) hS hFc (fun u H1 k9 p9 d9 => va_join (wr := [(tf, .inr (7, [.ref hf, .ref hq, .ref hs, .ref hd, .ref hp, .ref hc, .long ln]))]) hP hD [1, 2] [0] rfl rfl (by decide) (by decide) k9 hFc p9 d9) (fun u H locs hw hP hD hK1 hS => ?_)
  obtain ⟨f9, rfl⟩ : ∃ z, z = u := ⟨_, rfl⟩
  try dsimp only at hw
  have hP : va_P (dC, dI) vwCl [(tf, .inr (7, [.ref hf, .ref hq, .ref hs, .ref hd, .ref hp, .ref hc, .long ln])), (hq, .inr (2, [.ref rq, .int (nI (List.take 4096 G).length)])), (rq, .inl (cB, 4195, .inl f9))] H := hP
  have hD : va_D A [(tf, .inr (7, [.ref hf, .ref hq, .ref hs, .ref hd, .ref hp, .ref hc, .long ln])), (hq, .inr (2, [.ref rq, .int (nI (List.take 4096 G).length)])), (rq, .inl (cB, 4195, .inl f9))] := hD
  refine lv_aload_n hx hb d_Tf_keptOfResult_10 rfl (lv_at hl 0 rfl) ?_
  refine va_get (D := (dC, dI)) (ci := 7) (v := .ref hq) (C := "TextForge") (T := TX7) (N := 7) hx hb hg iwX7 hown hK hP 0 rfl rfl 1 (by decide) (hg _ kw_132) (fun _ h9 => h9) rfl d_Tf_keptOfResult_11 ?_
  have hPc := hP.sub (ws' := [(hq, .inr (2, [.ref rq, .int (nI (List.take 4096 G).length)]))]) [1] rfl
  have hKc := hK.sub (tys' := []) [] rfl
  refine vp_callSi (W.runV (As := []) (rest := []) ⟨hx, hb, hml, hown, hg⟩ (c_By_length l dC dI hq (.ref rq) (nI (List.take 4096 G).length) ) (cwV 0 hg (gi_V kw_157 kw_158 kw_159 kw_2 kw_160) rfl rfl rfl (by decide +kernel) ⟨Nat.le_of_ble_eq_true rfl, Nat.le_of_ble_eq_true rfl⟩) (zz_prJV hPc hKc _ (q0 := 0) (ci := 2) rfl rfl) rfl rfl hl.1 rfl (lv_room (Nat.le_of_ble_eq_true rfl)) d_Tf_keptOfResult_14 ⟨Nat.le_of_ble_eq_true rfl, Nat.le_of_ble_eq_true rfl⟩) (fun r_2 hr_2 => ?_)
  subst hr_2
  have hP9 := hP.sub (ws' := [(tf, .inr (7, [.ref hf, .ref hq, .ref hs, .ref hd, .ref hp, .ref hc, .long ln])), (hq, .inr (2, [.ref rq, .int (nI (List.take 4096 G).length)])), (rq, .inl (cB, 4195, .inl f9))]) [0, 1, 2] rfl
  have hD9 := hD.sub (ws' := [(tf, .inr (7, [.ref hf, .ref hq, .ref hs, .ref hd, .ref hp, .ref hc, .long ln])), (hq, .inr (2, [.ref rq, .int (nI (List.take 4096 G).length)])), (rq, .inl (cB, 4195, .inl f9))]) [0, 1, 2] (by decide) rfl
  have hK9 := hK.sub (tys' := [(cB, .byte)]) [0] rfl
  exact zz_iret hx hb hr hlocks d_Tf_keptOfResult_17 hS (by first | exact Nat.le_refl _ | decide | omega | (dsimp only; omega)) (by first | exact Nat.le_refl _ | decide | omega | (dsimp only; omega)) f9 ⟨rfl, hw⟩ hP9 hK9 hD9
abbrev y_Tf_requireRoomForArgument : MethodName := ⟨"TextForge", "requireRoomForArgument", "()V"⟩
abbrev w_Tf_requireRoomForArgument : List Cond := Cond.code y_Tf_requireRoomForArgument prog_1_method_19_code 1 none :: gw
theorem d_Tf_requireRoomForArgument_0 : decode prog_1_method_19_code 0 = .ok (.aload_n 0, 1) := by decide +kernel
theorem d_Tf_requireRoomForArgument_1 : decode prog_1_method_19_code 1 = .ok (.getfield 24, 3) := by decide +kernel
theorem d_Tf_requireRoomForArgument_4 : decode prog_1_method_19_code 4 = .ok (.invokevirtual 172, 3) := by decide +kernel
theorem d_Tf_requireRoomForArgument_7 : decode prog_1_method_19_code 7 = .ok (.ifCond .eq 13, 3) := by decide +kernel
theorem d_Tf_requireRoomForArgument_10 : decode prog_1_method_19_code 10 = .ok (.new 175, 3) := by decide +kernel
theorem d_Tf_requireRoomForArgument_13 : decode prog_1_method_19_code 13 = .ok (.dup, 1) := by decide +kernel
theorem d_Tf_requireRoomForArgument_14 : decode prog_1_method_19_code 14 = .ok (.ldc 177, 2) := by decide +kernel
theorem d_Tf_requireRoomForArgument_16 : decode prog_1_method_19_code 16 = .ok (.invokespecial 179, 3) := by decide +kernel
theorem d_Tf_requireRoomForArgument_19 : decode prog_1_method_19_code 19 = .ok (.athrow, 1) := by decide +kernel
theorem d_Tf_requireRoomForArgument_20 : decode prog_1_method_19_code 20 = .ok (.return_, 1) := by decide +kernel
set_option maxHeartbeats 4000000 in
set_option maxRecDepth 100000 in
theorem c_Tf_requireRoomForArgument (l : Launch) (dC : Nat → ClassId) (dI : Nat → Nat → Nat) (tf hf hq hs hd hp hc : Nat) (ln : Int64) (rs : Nat) (cR : ClassId) (fR : Nat → Option Nat) (n us : Nat) (hnn : n < 16) (hus : us < 1000000) : zR_v l y_Tf_requireRoomForArgument w_Tf_requireRoomForArgument { frames := 1, cells := 0, slots := 0, locals := 20 } (dC, dI) vwCl [.ref tf] [(tf, .inr (7, [.ref hf, .ref hq, .ref hs, .ref hd, .ref hp, .ref hc, .long ln])), (hs, .inr (1, [.ref rs, .int (nI n), .int (nI us)])), (rs, .inl (cR, 16, .inr (.inr (.inr (.inr fR)))))] [(cR, .object "TextForge$Argument")] (fun r : Unit => True) := by
  refine zz_enterR (cc := prog_1_method_19_code) (nL := 1) (ret := none) (by decide) rfl (Nat.le_of_ble_eq_true rfl) ?_
  intro p e s m below meth c ls C0 hP hK hl
  obtain ⟨hx, hb, hml, hown, hg, hr, hlocks, hin⟩ := C0
  have hS : va_S (fun _ => False) s.heap s.heap [] := va_S.rf
  have hown : s.vm.findClass "TextForge" = some m.cls := hown
  have hP : va_P (dC, dI) vwCl [(tf, .inr (7, [.ref hf, .ref hq, .ref hs, .ref hd, .ref hp, .ref hc, .long ln])), (hs, .inr (1, [.ref rs, .int (nI n), .int (nI us)])), (rs, .inl (cR, 16, .inr (.inr (.inr (.inr fR)))))] s.heap := hP
  have hK : va_K (dC, dI) vwCl [(cR, .object "TextForge$Argument")] s := hK
  have hl : lv_has ls 1 [(0, .ref tf)] := hl
  refine lv_aload_n hx hb d_Tf_requireRoomForArgument_0 rfl (lv_at hl 0 rfl) ?_
  refine va_get (D := (dC, dI)) (ci := 7) (v := .ref hs) (C := "TextForge") (T := TX7) (N := 7) hx hb hg iwX7 hown hK hP 0 rfl rfl 2 (by decide) (hg _ kw_133) (fun _ h9 => h9) rfl d_Tf_requireRoomForArgument_1 ?_
  have hPc := hP.sub (ws' := [(hs, .inr (1, [.ref rs, .int (nI n), .int (nI us)])), (rs, .inl (cR, 16, .inr (.inr (.inr (.inr fR)))))]) [1, 2] rfl
  have hKc := hK.sub (tys' := [(cR, .object "TextForge$Argument")]) [0] rfl
  refine vp_callSi (W.runV (As := []) (rest := []) ⟨hx, hb, hml, hown, hg⟩ (c_As_isFull l dC dI hs rs cR fR n us (by omega) hus) (cwV 0 hg (gi_V kw_524 kw_525 kw_526 kw_4 kw_527) rfl rfl rfl (by decide +kernel) ⟨Nat.le_of_ble_eq_true rfl, Nat.le_of_ble_eq_true rfl⟩) (zz_prJV hPc hKc _ (q0 := 0) (ci := 1) rfl rfl) rfl rfl hl.1 rfl (lv_room (Nat.le_of_ble_eq_true rfl)) d_Tf_requireRoomForArgument_4 ⟨Nat.le_of_ble_eq_true rfl, Nat.le_of_ble_eq_true rfl⟩) (fun r_1 hr_1 => ?_)
  refine lv_if_eq (tgt := 20) hx hb d_Tf_requireRoomForArgument_7 (by decide) (fun _ => ?_) (fun c9 => by first | exact absurd c9 (by rw [hr_1, decide_eq_false (by omega)]; rfl) | exact absurd (by rw [hr_1, decide_eq_false (by omega)]; rfl) c9)
  exact zz_vretR hx hb hr hlocks d_Tf_requireRoomForArgument_20 trivial
set_option maxHeartbeats 4000000 in
set_option maxRecDepth 100000 in
theorem c_Tf_reqT (l : Launch) (dC : Nat → ClassId) (dI : Nat → Nat → Nat) (ad : Nat → Nat) (tf hf hq hs hd hp hc : Nat) (ln : Int64) (rs : Nat) (cR : ClassId) (fR : Nat → Option Nat) (n us : Nat) (hnt : l.flags = pinnedFlags ++ [noTraceFlag]) (hnn : n = 16) (hus : us < 1000000) : yT ad l y_Tf_requireRoomForArgument w_Tf_requireRoomForArgument { frames := 6, cells := 1, slots := 6, locals := 82 } (dC, dI) vwCl [.ref tf] [(tf, .inr (7, [.ref hf, .ref hq, .ref hs, .ref hd, .ref hp, .ref hc, .long ln])), (hs, .inr (1, [.ref rs, .int (nI n), .int (nI us)])), (rs, .inl (cR, 16, .inr (.inr (.inr (.inr fR)))))] [(cR, .object "TextForge$Argument")] "java/lang/IllegalStateException" := by
  refine zy_enterT (cc := prog_1_method_19_code) (nL := 1) (ret := none) (by decide) rfl (Nat.le_of_ble_eq_true rfl) ?_
  intro p e s m below meth c ls C0 hexc hP hK hl hX
  obtain ⟨hx, hb, hml, hown, hg, hr, hlocks, hin⟩ := C0
  have hS : va_S (fun _ => False) s.heap s.heap [] := va_S.rf
  have hown : s.vm.findClass "TextForge" = some m.cls := hown
  have hP : va_P (dC, dI) vwCl [(tf, .inr (7, [.ref hf, .ref hq, .ref hs, .ref hd, .ref hp, .ref hc, .long ln])), (hs, .inr (1, [.ref rs, .int (nI n), .int (nI us)])), (rs, .inl (cR, 16, .inr (.inr (.inr (.inr fR)))))] s.heap := hP
  have hK : va_K (dC, dI) vwCl [(cR, .object "TextForge$Argument")] s := hK
  have hl : lv_has ls 1 [(0, .ref tf)] := hl
  refine lv_aload_n hx hb d_Tf_requireRoomForArgument_0 rfl (lv_at hl 0 rfl) ?_
  refine va_get (D := (dC, dI)) (ci := 7) (v := .ref hs) (C := "TextForge") (T := TX7) (N := 7) hx hb hg iwX7 hown hK hP 0 rfl rfl 2 (by decide) (hg _ kw_133) (fun _ h9 => h9) rfl d_Tf_requireRoomForArgument_1 ?_
  have hPc := hP.sub (ws' := [(hs, .inr (1, [.ref rs, .int (nI n), .int (nI us)])), (rs, .inl (cR, 16, .inr (.inr (.inr (.inr fR)))))]) [1, 2] rfl
  have hKc := hK.sub (tys' := [(cR, .object "TextForge$Argument")]) [0] rfl
  refine vp_callSi (W.runV (As := []) (rest := []) ⟨hx, hb, hml, hown, hg⟩ (c_As_isFull l dC dI hs rs cR fR n us (by omega) hus) (cwV 0 hg (gi_V kw_524 kw_525 kw_526 kw_4 kw_527) rfl rfl rfl (by decide +kernel) ⟨Nat.le_of_ble_eq_true rfl, Nat.le_of_ble_eq_true rfl⟩) (zz_prJV hPc hKc _ (q0 := 0) (ci := 1) rfl rfl) rfl rfl hl.1 rfl (lv_room (Nat.le_of_ble_eq_true rfl)) d_Tf_requireRoomForArgument_4 ⟨Nat.le_of_ble_eq_true rfl, Nat.le_of_ble_eq_true rfl⟩) (fun r_1 hr_1 => ?_)
  refine lv_if_eq (tgt := 20) hx hb d_Tf_requireRoomForArgument_7 (by decide) (fun c9 => by first | exact absurd c9 (by rw [hr_1, decide_eq_true (by omega)]; decide) | exact absurd (by rw [hr_1, decide_eq_true (by omega)]; decide) c9) (fun _ => ?_)
  exact tx_throw hx hb hml hl.1 hexc hlocks hnt hown (by decide +kernel) (by decide +kernel) (by decide +kernel) (by decide +kernel) (by decide +kernel) (tx_ISE hg hX.2.2.2.2.2) (hg _ kw_528) (hg _ kw_13) (show vk_R "TextForge" 177 "there are as many arguments as there may be" (ad 15) s from (hX.2.1 15 (by decide)).1) d_Tf_requireRoomForArgument_10 d_Tf_requireRoomForArgument_13 d_Tf_requireRoomForArgument_14 d_Tf_requireRoomForArgument_16 d_Tf_requireRoomForArgument_19 (Nat.le_of_ble_eq_true rfl) (Nat.le_of_ble_eq_true rfl) (Nat.le_of_ble_eq_true rfl) (Nat.le_of_ble_eq_true rfl)
abbrev y_Tf_digitOf : MethodName := ⟨"TextForge", "digitOf", "(I)I"⟩
abbrev w_Tf_digitOf : List Cond := Cond.code y_Tf_digitOf prog_1_method_22_code 1 (some .int) :: gw
theorem d_Tf_digitOf_0 : decode prog_1_method_22_code 0 = .ok (.iload_n 0, 1) := by decide +kernel
theorem d_Tf_digitOf_1 : decode prog_1_method_22_code 1 = .ok (.bipush 48, 2) := by decide +kernel
theorem d_Tf_digitOf_3 : decode prog_1_method_22_code 3 = .ok (.if_icmp .lt 14, 3) := by decide +kernel
theorem d_Tf_digitOf_6 : decode prog_1_method_22_code 6 = .ok (.iload_n 0, 1) := by decide +kernel
theorem d_Tf_digitOf_7 : decode prog_1_method_22_code 7 = .ok (.bipush 57, 2) := by decide +kernel
theorem d_Tf_digitOf_9 : decode prog_1_method_22_code 9 = .ok (.if_icmp .gt 8, 3) := by decide +kernel
theorem d_Tf_digitOf_12 : decode prog_1_method_22_code 12 = .ok (.iload_n 0, 1) := by decide +kernel
theorem d_Tf_digitOf_13 : decode prog_1_method_22_code 13 = .ok (.bipush 48, 2) := by decide +kernel
theorem d_Tf_digitOf_15 : decode prog_1_method_22_code 15 = .ok (.isub, 1) := by decide +kernel
theorem d_Tf_digitOf_16 : decode prog_1_method_22_code 16 = .ok (.ireturn, 1) := by decide +kernel
theorem d_Tf_digitOf_17 : decode prog_1_method_22_code 17 = .ok (.iload_n 0, 1) := by decide +kernel
theorem d_Tf_digitOf_18 : decode prog_1_method_22_code 18 = .ok (.bipush 97, 2) := by decide +kernel
theorem d_Tf_digitOf_20 : decode prog_1_method_22_code 20 = .ok (.if_icmp .lt 17, 3) := by decide +kernel
theorem d_Tf_digitOf_23 : decode prog_1_method_22_code 23 = .ok (.iload_n 0, 1) := by decide +kernel
theorem d_Tf_digitOf_24 : decode prog_1_method_22_code 24 = .ok (.bipush 122, 2) := by decide +kernel
theorem d_Tf_digitOf_26 : decode prog_1_method_22_code 26 = .ok (.if_icmp .gt 11, 3) := by decide +kernel
theorem d_Tf_digitOf_29 : decode prog_1_method_22_code 29 = .ok (.iload_n 0, 1) := by decide +kernel
theorem d_Tf_digitOf_30 : decode prog_1_method_22_code 30 = .ok (.bipush 97, 2) := by decide +kernel
theorem d_Tf_digitOf_32 : decode prog_1_method_22_code 32 = .ok (.isub, 1) := by decide +kernel
theorem d_Tf_digitOf_33 : decode prog_1_method_22_code 33 = .ok (.bipush 10, 2) := by decide +kernel
theorem d_Tf_digitOf_35 : decode prog_1_method_22_code 35 = .ok (.iadd, 1) := by decide +kernel
theorem d_Tf_digitOf_36 : decode prog_1_method_22_code 36 = .ok (.ireturn, 1) := by decide +kernel
theorem d_Tf_digitOf_37 : decode prog_1_method_22_code 37 = .ok (.iload_n 0, 1) := by decide +kernel
theorem d_Tf_digitOf_38 : decode prog_1_method_22_code 38 = .ok (.bipush 65, 2) := by decide +kernel
theorem d_Tf_digitOf_40 : decode prog_1_method_22_code 40 = .ok (.if_icmp .lt 19, 3) := by decide +kernel
theorem d_Tf_digitOf_43 : decode prog_1_method_22_code 43 = .ok (.iload_n 0, 1) := by decide +kernel
theorem d_Tf_digitOf_44 : decode prog_1_method_22_code 44 = .ok (.bipush 90, 2) := by decide +kernel
theorem d_Tf_digitOf_46 : decode prog_1_method_22_code 46 = .ok (.if_icmp .gt 13, 3) := by decide +kernel
theorem d_Tf_digitOf_49 : decode prog_1_method_22_code 49 = .ok (.iload_n 0, 1) := by decide +kernel
theorem d_Tf_digitOf_50 : decode prog_1_method_22_code 50 = .ok (.bipush 65, 2) := by decide +kernel
theorem d_Tf_digitOf_52 : decode prog_1_method_22_code 52 = .ok (.isub, 1) := by decide +kernel
theorem d_Tf_digitOf_53 : decode prog_1_method_22_code 53 = .ok (.bipush 10, 2) := by decide +kernel
theorem d_Tf_digitOf_55 : decode prog_1_method_22_code 55 = .ok (.iadd, 1) := by decide +kernel
theorem d_Tf_digitOf_56 : decode prog_1_method_22_code 56 = .ok (.goto 4, 3) := by decide +kernel
theorem d_Tf_digitOf_59 : decode prog_1_method_22_code 59 = .ok (.iconst (-1), 1) := by decide +kernel
theorem d_Tf_digitOf_60 : decode prog_1_method_22_code 60 = .ok (.ireturn, 1) := by decide +kernel
set_option maxHeartbeats 4000000 in
set_option maxRecDepth 100000 in
theorem c_Tf_digitOf (l : Launch) (dC : Nat → ClassId) (dI : Nat → Nat → Nat) (v : Int32)  : zR_i l y_Tf_digitOf w_Tf_digitOf { frames := 0, cells := 0, slots := 0, locals := 0 } (dC, dI) vwCl [.int v] [] [] (fun r : Int32 => r = dg_v v) := by
  refine zz_enterR (cc := prog_1_method_22_code) (nL := 1) (ret := (some .int)) (by decide) rfl (Nat.le_of_ble_eq_true rfl) ?_
  intro p e s m below meth c ls C0 hP hK hl
  obtain ⟨hx, hb, hml, hown, hg, hr, hlocks, hin⟩ := C0
  have hS : va_S (fun _ => False) s.heap s.heap [] := va_S.rf
  have hown : s.vm.findClass "TextForge" = some m.cls := hown
  have hP : va_P (dC, dI) vwCl [] s.heap := hP
  have hK : va_K (dC, dI) vwCl [] s := hK
  have hl : lv_has ls 1 [(0, .int v)] := hl
  refine lv_iload_n hx hb d_Tf_digitOf_0 rfl (lv_at hl 0 rfl) ?_
  refine lv_bipush (v := 48) hx hb d_Tf_digitOf_1 (by decide) ?_
  refine lv_icmp_lt (tgt := 17) hx hb d_Tf_digitOf_3 (by decide) (fun c_3 => ?_) (fun c_3 => ?_)
  · skip
    refine lv_iload_n hx hb d_Tf_digitOf_17 rfl (lv_at hl 0 rfl) ?_
    refine lv_bipush (v := 97) hx hb d_Tf_digitOf_18 (by decide) ?_
    refine lv_icmp_lt (tgt := 37) hx hb d_Tf_digitOf_20 (by decide) (fun c_20 => ?_) (fun c_20 => ?_)
    · skip
      refine lv_iload_n hx hb d_Tf_digitOf_37 rfl (lv_at hl 0 rfl) ?_
      refine lv_bipush (v := 65) hx hb d_Tf_digitOf_38 (by decide) ?_
      refine lv_icmp_lt (tgt := 59) hx hb d_Tf_digitOf_40 (by decide) (fun c_40 => ?_) (fun c_40 => ?_)
      · skip
        refine lv_iconst (v := (-1)) hx hb d_Tf_digitOf_59 (by decide) ?_
        exact zz_iretR hx hb hr hlocks d_Tf_digitOf_60 (dg_4 (Or.inl c_3) (Or.inl c_20) (Or.inl c_40))
      · skip
        refine lv_iload_n hx hb d_Tf_digitOf_43 rfl (lv_at hl 0 rfl) ?_
        refine lv_bipush (v := 90) hx hb d_Tf_digitOf_44 (by decide) ?_
        refine lv_icmp_gt (tgt := 59) hx hb d_Tf_digitOf_46 (by decide) (fun c_46 => ?_) (fun c_46 => ?_)
        · skip
          refine lv_iconst (v := (-1)) hx hb d_Tf_digitOf_59 (by decide) ?_
          exact zz_iretR hx hb hr hlocks d_Tf_digitOf_60 (dg_4 (Or.inl c_3) (Or.inl c_20) (Or.inr c_46))
        · skip
          refine lv_iload_n hx hb d_Tf_digitOf_49 rfl (lv_at hl 0 rfl) ?_
          refine lv_bipush (v := 65) hx hb d_Tf_digitOf_50 (by decide) ?_
          refine lv_isub hx hb d_Tf_digitOf_52 ?_
          refine lv_bipush (v := 10) hx hb d_Tf_digitOf_53 (by decide) ?_
          refine lv_iadd hx hb d_Tf_digitOf_55 ?_
          refine lv_goto (tgt := 60) hx hb d_Tf_digitOf_56 (by decide) ?_
          exact zz_iretR hx hb hr hlocks d_Tf_digitOf_60 (dg_3 (Or.inl c_3) (Or.inl c_20) c_40 c_46)
    · skip
      refine lv_iload_n hx hb d_Tf_digitOf_23 rfl (lv_at hl 0 rfl) ?_
      refine lv_bipush (v := 122) hx hb d_Tf_digitOf_24 (by decide) ?_
      refine lv_icmp_gt (tgt := 37) hx hb d_Tf_digitOf_26 (by decide) (fun c_26 => ?_) (fun c_26 => ?_)
      · skip
        refine lv_iload_n hx hb d_Tf_digitOf_37 rfl (lv_at hl 0 rfl) ?_
        refine lv_bipush (v := 65) hx hb d_Tf_digitOf_38 (by decide) ?_
        refine lv_icmp_lt (tgt := 59) hx hb d_Tf_digitOf_40 (by decide) (fun c_40 => ?_) (fun c_40 => ?_)
        · skip
          refine lv_iconst (v := (-1)) hx hb d_Tf_digitOf_59 (by decide) ?_
          exact zz_iretR hx hb hr hlocks d_Tf_digitOf_60 (dg_4 (Or.inl c_3) (Or.inr c_26) (Or.inl c_40))
        · skip
          refine lv_iload_n hx hb d_Tf_digitOf_43 rfl (lv_at hl 0 rfl) ?_
          refine lv_bipush (v := 90) hx hb d_Tf_digitOf_44 (by decide) ?_
          refine lv_icmp_gt (tgt := 59) hx hb d_Tf_digitOf_46 (by decide) (fun c_46 => ?_) (fun c_46 => ?_)
          · skip
            refine lv_iconst (v := (-1)) hx hb d_Tf_digitOf_59 (by decide) ?_
            exact zz_iretR hx hb hr hlocks d_Tf_digitOf_60 (dg_4 (Or.inl c_3) (Or.inr c_26) (Or.inr c_46))
          · skip
            refine lv_iload_n hx hb d_Tf_digitOf_49 rfl (lv_at hl 0 rfl) ?_
            refine lv_bipush (v := 65) hx hb d_Tf_digitOf_50 (by decide) ?_
            refine lv_isub hx hb d_Tf_digitOf_52 ?_
            refine lv_bipush (v := 10) hx hb d_Tf_digitOf_53 (by decide) ?_
            refine lv_iadd hx hb d_Tf_digitOf_55 ?_
            refine lv_goto (tgt := 60) hx hb d_Tf_digitOf_56 (by decide) ?_
            exact zz_iretR hx hb hr hlocks d_Tf_digitOf_60 (dg_3 (Or.inl c_3) (Or.inr c_26) c_40 c_46)
      · skip
        refine lv_iload_n hx hb d_Tf_digitOf_29 rfl (lv_at hl 0 rfl) ?_
        refine lv_bipush (v := 97) hx hb d_Tf_digitOf_30 (by decide) ?_
        refine lv_isub hx hb d_Tf_digitOf_32 ?_
        refine lv_bipush (v := 10) hx hb d_Tf_digitOf_33 (by decide) ?_
        refine lv_iadd hx hb d_Tf_digitOf_35 ?_
        exact zz_iretR hx hb hr hlocks d_Tf_digitOf_36 (dg_2 (by first | exact Or.inl c_3 | exact Or.inr c_9) c_20 c_26)
  · skip
    refine lv_iload_n hx hb d_Tf_digitOf_6 rfl (lv_at hl 0 rfl) ?_
    refine lv_bipush (v := 57) hx hb d_Tf_digitOf_7 (by decide) ?_
    refine lv_icmp_gt (tgt := 17) hx hb d_Tf_digitOf_9 (by decide) (fun c_9 => ?_) (fun c_9 => ?_)
    · skip
      refine lv_iload_n hx hb d_Tf_digitOf_17 rfl (lv_at hl 0 rfl) ?_
      refine lv_bipush (v := 97) hx hb d_Tf_digitOf_18 (by decide) ?_
      refine lv_icmp_lt (tgt := 37) hx hb d_Tf_digitOf_20 (by decide) (fun c_20 => ?_) (fun c_20 => ?_)
      · skip
        refine lv_iload_n hx hb d_Tf_digitOf_37 rfl (lv_at hl 0 rfl) ?_
        refine lv_bipush (v := 65) hx hb d_Tf_digitOf_38 (by decide) ?_
        refine lv_icmp_lt (tgt := 59) hx hb d_Tf_digitOf_40 (by decide) (fun c_40 => ?_) (fun c_40 => ?_)
        · skip
          refine lv_iconst (v := (-1)) hx hb d_Tf_digitOf_59 (by decide) ?_
          exact zz_iretR hx hb hr hlocks d_Tf_digitOf_60 (dg_4 (Or.inr c_9) (Or.inl c_20) (Or.inl c_40))
        · skip
          refine lv_iload_n hx hb d_Tf_digitOf_43 rfl (lv_at hl 0 rfl) ?_
          refine lv_bipush (v := 90) hx hb d_Tf_digitOf_44 (by decide) ?_
          refine lv_icmp_gt (tgt := 59) hx hb d_Tf_digitOf_46 (by decide) (fun c_46 => ?_) (fun c_46 => ?_)
          · skip
            refine lv_iconst (v := (-1)) hx hb d_Tf_digitOf_59 (by decide) ?_
            exact zz_iretR hx hb hr hlocks d_Tf_digitOf_60 (dg_4 (Or.inr c_9) (Or.inl c_20) (Or.inr c_46))
          · skip
            refine lv_iload_n hx hb d_Tf_digitOf_49 rfl (lv_at hl 0 rfl) ?_
            refine lv_bipush (v := 65) hx hb d_Tf_digitOf_50 (by decide) ?_
            refine lv_isub hx hb d_Tf_digitOf_52 ?_
            refine lv_bipush (v := 10) hx hb d_Tf_digitOf_53 (by decide) ?_
            refine lv_iadd hx hb d_Tf_digitOf_55 ?_
            refine lv_goto (tgt := 60) hx hb d_Tf_digitOf_56 (by decide) ?_
            exact zz_iretR hx hb hr hlocks d_Tf_digitOf_60 (dg_3 (Or.inr c_9) (Or.inl c_20) c_40 c_46)
      · skip
        refine lv_iload_n hx hb d_Tf_digitOf_23 rfl (lv_at hl 0 rfl) ?_
        refine lv_bipush (v := 122) hx hb d_Tf_digitOf_24 (by decide) ?_
        refine lv_icmp_gt (tgt := 37) hx hb d_Tf_digitOf_26 (by decide) (fun c_26 => ?_) (fun c_26 => ?_)
        · skip
          refine lv_iload_n hx hb d_Tf_digitOf_37 rfl (lv_at hl 0 rfl) ?_
          refine lv_bipush (v := 65) hx hb d_Tf_digitOf_38 (by decide) ?_
          refine lv_icmp_lt (tgt := 59) hx hb d_Tf_digitOf_40 (by decide) (fun c_40 => ?_) (fun c_40 => ?_)
          · skip
            refine lv_iconst (v := (-1)) hx hb d_Tf_digitOf_59 (by decide) ?_
            exact zz_iretR hx hb hr hlocks d_Tf_digitOf_60 (dg_4 (Or.inr c_9) (Or.inr c_26) (Or.inl c_40))
          · skip
            refine lv_iload_n hx hb d_Tf_digitOf_43 rfl (lv_at hl 0 rfl) ?_
            refine lv_bipush (v := 90) hx hb d_Tf_digitOf_44 (by decide) ?_
            refine lv_icmp_gt (tgt := 59) hx hb d_Tf_digitOf_46 (by decide) (fun c_46 => ?_) (fun c_46 => ?_)
            · skip
              refine lv_iconst (v := (-1)) hx hb d_Tf_digitOf_59 (by decide) ?_
              exact zz_iretR hx hb hr hlocks d_Tf_digitOf_60 (dg_4 (Or.inr c_9) (Or.inr c_26) (Or.inr c_46))
            · skip
              refine lv_iload_n hx hb d_Tf_digitOf_49 rfl (lv_at hl 0 rfl) ?_
              refine lv_bipush (v := 65) hx hb d_Tf_digitOf_50 (by decide) ?_
              refine lv_isub hx hb d_Tf_digitOf_52 ?_
              refine lv_bipush (v := 10) hx hb d_Tf_digitOf_53 (by decide) ?_
              refine lv_iadd hx hb d_Tf_digitOf_55 ?_
              refine lv_goto (tgt := 60) hx hb d_Tf_digitOf_56 (by decide) ?_
              exact zz_iretR hx hb hr hlocks d_Tf_digitOf_60 (dg_3 (Or.inr c_9) (Or.inr c_26) c_40 c_46)
        · skip
          refine lv_iload_n hx hb d_Tf_digitOf_29 rfl (lv_at hl 0 rfl) ?_
          refine lv_bipush (v := 97) hx hb d_Tf_digitOf_30 (by decide) ?_
          refine lv_isub hx hb d_Tf_digitOf_32 ?_
          refine lv_bipush (v := 10) hx hb d_Tf_digitOf_33 (by decide) ?_
          refine lv_iadd hx hb d_Tf_digitOf_35 ?_
          exact zz_iretR hx hb hr hlocks d_Tf_digitOf_36 (dg_2 (by first | exact Or.inl c_3 | exact Or.inr c_9) c_20 c_26)
    · skip
      refine lv_iload_n hx hb d_Tf_digitOf_12 rfl (lv_at hl 0 rfl) ?_
      refine lv_bipush (v := 48) hx hb d_Tf_digitOf_13 (by decide) ?_
      refine lv_isub hx hb d_Tf_digitOf_15 ?_
      exact zz_iretR hx hb hr hlocks d_Tf_digitOf_16 (dg_1 c_3 c_9)
