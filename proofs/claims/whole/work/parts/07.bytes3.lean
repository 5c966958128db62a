/-! BYTES.pad -/
def by_z (b : Bool) : Int32 := if b then 1 else 0
def by_pd (a d : Nat) (M : List Nat) : List Nat := (List.range M.length).map (fun k => if k < a then M.getD k 0 else if a + d ≤ k then M.getD (k - d) 0 else 32)
def by_pad (cap : Nat) (L : List Nat) (a w : Nat) (b : Bool) : List Nat :=
  if w ≤ L.length - a then L else if b then by_ap cap L (List.replicate (w - (L.length - a)) 32) else by_pd a (w - (L.length - a)) (by_ap cap L (List.replicate (w - (L.length - a)) 32))
theorem by_pd_len (a d : Nat) (M : List Nat) : (by_pd a d M).length = M.length := by unfold by_pd; rw [List.length_map, List.length_range]
theorem by_bl {L : List Nat} {a w : Nat} (ha : a ≤ L.length) (hl : L.length < 100000) (hw : w < 1000) : (nI w - (nI L.length - nI a)).toInt = (w : Int) - ((L.length - a : Nat) : Int) := by
  rw [pk_sub ha]; exact pk_sub_toInt (by omega) (by omega)
theorem by_pad_s {cap : Nat} {L : List Nat} {a w : Nat} {b : Bool} (h : w ≤ L.length - a) : by_pad cap L a w b = L := if_pos h
theorem by_pad_b {cap : Nat} {L M : List Nat} {a w d : Nat} {b : Bool} (h : ¬ w ≤ L.length - a) (hd : d = w - (L.length - a)) (hb : b = true) (eM : by_ap cap L (List.replicate d 32) = M) : by_pad cap L a w b = M := by
  unfold by_pad; rw [if_neg h, if_pos hb, ← hd]; exact eM
theorem by_pad_f {cap : Nat} {L M : List Nat} {a w d : Nat} {b : Bool} (h : ¬ w ≤ L.length - a) (hd : d = w - (L.length - a)) (hb : b = false) (eM : by_ap cap L (List.replicate d 32) = M) : by_pad cap L a w b = by_pd a d M := by
  unfold by_pad; rw [if_neg h, if_neg (by rw [hb]; decide), ← hd, eM]
theorem by_t32 {d : Nat} (h : d < 2147483648) : List.replicate (nI d).toNatClampNeg (by_b 32) = List.replicate d 32 := by rw [nI_clamp h]; rfl
theorem by_ap_ge {cap a : Nat} {L M : List Nat} (ha : a ≤ L.length) (hc : L.length ≤ cap) : a ≤ (by_ap cap L M).length := by
  unfold by_ap; rw [List.length_take, List.length_append]; omega
theorem by_z_t {b : Bool} {z : Int32} (h : z = by_z b) (c : ¬ z = 0) : b = true := by
  cases b
  · exact absurd h c
  · rfl
theorem by_z_f {b : Bool} {z : Int32} (h : z = by_z b) (c : z = 0) : b = false := by
  cases b
  · rfl
  · rw [h] at c; exact absurd c (by decide)
/-- the array while the row is being shifted: from place a + j on it is done -/
def by_pq (a d : Nat) (M : List Nat) (j : Nat) (g : Nat → Int32) : Prop := ∀ k, k < M.length → M.getD k 0 < 256 ∧ g k = sb_b (if a + j ≤ k then (if a + d ≤ k then M.getD (k - d) 0 else 32) else M.getD k 0)
theorem by_pq_init {a d : Nat} {M : List Nat} {g : Nat → Int32} (h : by_L M g) : by_pq a d M (M.length - a) g := by
  intro k hk
  refine ⟨(h k hk).1, ?_⟩
  rw [if_neg (by omega)]
  exact (h k hk).2
theorem by_pq_end {a d : Nat} {M : List Nat} {g : Nat → Int32} (h : by_pq a d M 0 g) : by_L (by_pd a d M) g := by
  intro k hk
  rw [by_pd_len] at hk
  have e : (by_pd a d M).getD k 0 = if k < a then M.getD k 0 else if a + d ≤ k then M.getD (k - d) 0 else 32 := by
    unfold by_pd
    rw [List.getD_eq_getElem?_getD, List.getElem?_map, List.getElem?_range hk]
    rfl
  rw [e]
  have q := h k hk
  by_cases c1 : k < a
  · rw [if_neg (by omega)] at q
    rw [if_pos c1]; exact q
  · rw [if_pos (by omega)] at q
    rw [if_neg c1]
    refine ⟨?_, q.2⟩
    by_cases c2 : a + d ≤ k
    · rw [if_pos c2]; exact (h (k - d) (by omega)).1
    · rw [if_neg c2]; decide
theorem by_b_sb {c : Nat} (h : c < 256) : by_b (sb_b c) = c := by
  have e := by_i8 (nI c)
  rw [by_b_n h] at e
  have k : ∀ c, c < 256 → by_b (sb_b c) = c := by decide +kernel
  exact k c h
theorem by_n32 : vp_nar .byte 32 = sb_b 32 := by decide +kernel
theorem by_pq_step {a d j : Nat} {M : List Nat} {g0 g : Nat → Int32} {x : Int32} (hM : by_L M g0) (h : by_pq a d M (j + 1) g) (hj : a + (j + 1) ≤ M.length ∧ 0 < d ∧ M.length < 100000) (hx : (j < d ∧ x = sb_b 32) ∨ (d ≤ j ∧ x = sb_b (by_b (g (a + j - d))))) : by_pq a d M j (upd g (nI (a + j)).toNatClampNeg x) := by
  intro k hk
  refine ⟨(h k hk).1, ?_⟩
  rw [nI_clamp (by omega)]
  by_cases c : k = a + j
  · subst c
    rw [pk_us, if_pos (Nat.le_refl _)]
    rcases hx with ⟨q, e⟩ | ⟨q, e⟩
    · rw [if_neg (by omega)]; exact e
    · rw [if_pos (by omega), e]
      have q2 := h (a + j - d) (by omega)
      rw [if_neg (by omega)] at q2
      rw [q2.2, by_b_sb q2.1]
  · rw [pk_un c]
    have q := (h k hk).2
    by_cases c2 : a + j ≤ k
    · rw [if_pos (by omega)] at q
      rw [if_pos c2]; exact q
    · rw [if_neg (by omega)] at q
      rw [if_neg c2]; exact q
theorem by_dec {n : Nat} : nI n + (-1) = nI n - 1 := by
  rw [Int32.sub_eq_add_neg]
theorem by_sm {n : Nat} (h : n < 2147483648) : (nI n - 1).toInt = (n : Int) - 1 := by
  rcases n with _ | n
  · decide
  · rw [nI_pred, nI_toInt (by omega)]; omega
theorem by_ex {a j : Nat} (h : a + j < 2147483648) (c : nI (a + j) - 1 < nI a) : j = 0 := by
  rw [Int32.lt_iff_toInt_lt, by_sm h, nI_toInt (by omega)] at c; omega
theorem by_ex2 {a j : Nat} (c : ¬ nI (a + j) - 1 < nI a) (h : a + j < 2147483648) : ∃ k, j = k + 1 := by
  rw [Int32.lt_iff_toInt_lt, by_sm h, nI_toInt (by omega)] at c
  exact ⟨j - 1, by omega⟩
theorem by_lt1 {a j d : Nat} (c : nI (a + j) - nI d < nI a) (h : a + j < 100000) (hd : d < 1000) : j < d := by
  rw [Int32.lt_iff_toInt_lt, pk_sub_toInt (by omega) (by omega), nI_toInt (by omega)] at c; omega
theorem by_lt2 {a j d : Nat} (c : ¬ nI (a + j) - nI d < nI a) (h : a + j < 100000) (hd : d < 1000) : d ≤ j := by
  rw [Int32.lt_iff_toInt_lt, pk_sub_toInt (by omega) (by omega), nI_toInt (by omega)] at c; omega
abbrev y_By_pad : MethodName := ⟨"TextForge$Bytes", "pad", "(IIZ)V"⟩
abbrev w_By_pad : List Cond := Cond.code y_By_pad prog_4_method_11_code 6 none :: gw
theorem d_By_pad_0 : decode prog_4_method_11_code 0 = .ok (.iload_n 2, 1) := by decide +kernel
theorem d_By_pad_1 : decode prog_4_method_11_code 1 = .ok (.aload_n 0, 1) := by decide +kernel
theorem d_By_pad_2 : decode prog_4_method_11_code 2 = .ok (.getfield 7, 3) := by decide +kernel
theorem d_By_pad_5 : decode prog_4_method_11_code 5 = .ok (.iload_n 1, 1) := by decide +kernel
theorem d_By_pad_6 : decode prog_4_method_11_code 6 = .ok (.isub, 1) := by decide +kernel
theorem d_By_pad_7 : decode prog_4_method_11_code 7 = .ok (.isub, 1) := by decide +kernel
theorem d_By_pad_8 : decode prog_4_method_11_code 8 = .ok (.istore 4, 2) := by decide +kernel
theorem d_By_pad_10 : decode prog_4_method_11_code 10 = .ok (.iload_n 1, 1) := by decide +kernel
theorem d_By_pad_11 : decode prog_4_method_11_code 11 = .ok (.ifCond .lt 8, 3) := by decide +kernel
theorem d_By_pad_14 : decode prog_4_method_11_code 14 = .ok (.iload 4, 2) := by decide +kernel
theorem d_By_pad_16 : decode prog_4_method_11_code 16 = .ok (.ifCond .gt 4, 3) := by decide +kernel
theorem d_By_pad_19 : decode prog_4_method_11_code 19 = .ok (.return_, 1) := by decide +kernel
theorem d_By_pad_20 : decode prog_4_method_11_code 20 = .ok (.aload_n 0, 1) := by decide +kernel
theorem d_By_pad_21 : decode prog_4_method_11_code 21 = .ok (.bipush 32, 2) := by decide +kernel
theorem d_By_pad_23 : decode prog_4_method_11_code 23 = .ok (.iload 4, 2) := by decide +kernel
theorem d_By_pad_25 : decode prog_4_method_11_code 25 = .ok (.invokevirtual 46, 3) := by decide +kernel
theorem d_By_pad_28 : decode prog_4_method_11_code 28 = .ok (.iload_n 3, 1) := by decide +kernel
theorem d_By_pad_29 : decode prog_4_method_11_code 29 = .ok (.ifCond .eq 4, 3) := by decide +kernel
theorem d_By_pad_32 : decode prog_4_method_11_code 32 = .ok (.return_, 1) := by decide +kernel
theorem d_By_pad_33 : decode prog_4_method_11_code 33 = .ok (.aload_n 0, 1) := by decide +kernel
theorem d_By_pad_34 : decode prog_4_method_11_code 34 = .ok (.getfield 7, 3) := by decide +kernel
theorem d_By_pad_37 : decode prog_4_method_11_code 37 = .ok (.iconst 1, 1) := by decide +kernel
theorem d_By_pad_38 : decode prog_4_method_11_code 38 = .ok (.isub, 1) := by decide +kernel
theorem d_By_pad_39 : decode prog_4_method_11_code 39 = .ok (.istore 5, 2) := by decide +kernel
theorem d_By_pad_41 : decode prog_4_method_11_code 41 = .ok (.iload 5, 2) := by decide +kernel
theorem d_By_pad_43 : decode prog_4_method_11_code 43 = .ok (.iload_n 1, 1) := by decide +kernel
theorem d_By_pad_44 : decode prog_4_method_11_code 44 = .ok (.if_icmp .lt 40, 3) := by decide +kernel
theorem d_By_pad_47 : decode prog_4_method_11_code 47 = .ok (.aload_n 0, 1) := by decide +kernel
theorem d_By_pad_48 : decode prog_4_method_11_code 48 = .ok (.getfield 19, 3) := by decide +kernel
theorem d_By_pad_51 : decode prog_4_method_11_code 51 = .ok (.iload 5, 2) := by decide +kernel
theorem d_By_pad_53 : decode prog_4_method_11_code 53 = .ok (.iload 5, 2) := by decide +kernel
theorem d_By_pad_55 : decode prog_4_method_11_code 55 = .ok (.iload 4, 2) := by decide +kernel
theorem d_By_pad_57 : decode prog_4_method_11_code 57 = .ok (.isub, 1) := by decide +kernel
theorem d_By_pad_58 : decode prog_4_method_11_code 58 = .ok (.iload_n 1, 1) := by decide +kernel
theorem d_By_pad_59 : decode prog_4_method_11_code 59 = .ok (.if_icmp .lt 16, 3) := by decide +kernel
theorem d_By_pad_62 : decode prog_4_method_11_code 62 = .ok (.aload_n 0, 1) := by decide +kernel
theorem d_By_pad_63 : decode prog_4_method_11_code 63 = .ok (.getfield 19, 3) := by decide +kernel
theorem d_By_pad_66 : decode prog_4_method_11_code 66 = .ok (.iload 5, 2) := by decide +kernel
theorem d_By_pad_68 : decode prog_4_method_11_code 68 = .ok (.iload 4, 2) := by decide +kernel
theorem d_By_pad_70 : decode prog_4_method_11_code 70 = .ok (.isub, 1) := by decide +kernel
theorem d_By_pad_71 : decode prog_4_method_11_code 71 = .ok (.baload, 1) := by decide +kernel
theorem d_By_pad_72 : decode prog_4_method_11_code 72 = .ok (.goto 5, 3) := by decide +kernel
theorem d_By_pad_75 : decode prog_4_method_11_code 75 = .ok (.bipush 32, 2) := by decide +kernel
theorem d_By_pad_77 : decode prog_4_method_11_code 77 = .ok (.bastore, 1) := by decide +kernel
theorem d_By_pad_78 : decode prog_4_method_11_code 78 = .ok (.iinc 5 (-1), 3) := by decide +kernel
theorem d_By_pad_81 : decode prog_4_method_11_code 81 = .ok (.goto (-40), 3) := by decide +kernel
theorem d_By_pad_84 : decode prog_4_method_11_code 84 = .ok (.return_, 1) := by decide +kernel
set_option maxHeartbeats 4000000 in
set_option maxRecDepth 100000 in
theorem c_By_pad (l : Launch) (dC : Nat → ClassId) (dI : Nat → Nat → Nat) (h r : Nat) (cA : ClassId) (cap : Nat) (f : Nat → Int32) (L : List Nat) (a w : Nat) (b : Bool) (x y z : Int32) (hL : by_L L f) (hc : L.length ≤ cap) (hk : cap < 2147483648) (hx0 : x = nI a) (hy0 : y = nI w) (hz0 : z = by_z b) (ha : a ≤ L.length) (hw0 : w < 1000) (hcs : cap < 100000) : zM_v (S := Nat → Int32) l y_By_pad w_By_pad { frames := 2, cells := 0, slots := 0, locals := 44 } (dC, dI) vwCl [.ref h, .int x, .int y, .int z] [(h, .inr (2, [.ref r, .int (nI L.length)])), (r, .inl (cA, cap, .inl f))] [(cA, .byte)] (fun (u : Nat → Int32) => by_L (by_pad cap L a w b) u) (fun u => [(h, .inr (2, [.ref r, .int (nI (by_pad cap L a w b).length)])), (r, .inl (cA, cap, .inl u))]) (fun u => [(cA, .byte)]) 0 0 := by
  refine zz_enterv (cc := prog_4_method_11_code) (nL := 6) (ret := none) (by decide) rfl (Nat.le_of_ble_eq_true rfl) ?_
  intro p e s m below meth c A ls C0 hA hS hP hK hD hl
  obtain ⟨hx, hb, hml, hown, hg, hr, hlocks, hin⟩ := C0
  have hown : s.vm.findClass "TextForge$Bytes" = some m.cls := hown
  have hP : va_P (dC, dI) vwCl [(h, .inr (2, [.ref r, .int (nI L.length)])), (r, .inl (cA, cap, .inl f))] s.heap := hP
  have hK : va_K (dC, dI) vwCl [(cA, .byte)] s := hK
  have hD : va_D A [(h, .inr (2, [.ref r, .int (nI L.length)])), (r, .inl (cA, cap, .inl f))] := hD
  have hl : lv_has ls 6 [(0, .ref h), (1, .int x), (2, .int y), (3, .int z)] := hl
  subst hx0
  subst hy0
  have hl : lv_has ls 6 [(0, .ref h), (1, .int (nI a)), (2, .int (nI w)), (3, .int z)] := hl
  refine lv_iload_n hx hb d_By_pad_0 rfl (lv_at hl 2 rfl) ?_
  refine lv_aload_n hx hb d_By_pad_1 rfl (lv_at hl 0 rfl) ?_
  refine va_get (D := (dC, dI)) (ci := 2) (v := .int (nI L.length)) (C := "TextForge$Bytes") (T := TX2) (N := 2) hx hb hg iwX2 hown hK hP 0 rfl rfl 1 (by decide) (hg _ kw_41) (fun _ h9 => h9) rfl d_By_pad_2 ?_
  refine lv_iload_n hx hb d_By_pad_5 rfl (lv_at hl 1 rfl) ?_
  refine lv_isub hx hb d_By_pad_6 ?_
  refine lv_isub hx hb d_By_pad_7 ?_
  refine lv_topi (fun k4 ek4 => ?_)
  have hk4 := by_bl (w := w) ha (by omega) hw0
  rw [← ek4] at hk4
  refine lv_istore (lv' := [(4, .int k4), (0, .ref h), (1, .int (nI a)), (2, .int (nI w)), (3, .int z)]) hx hb d_By_pad_8 hl (by decide) rfl (fun ls hl => ?_)
  refine lv_iload_n hx hb d_By_pad_10 rfl (lv_at hl 2 rfl) ?_
  refine lv_if_lt (tgt := 19) hx hb d_By_pad_11 (by decide) (fun c9 => by first | exact absurd c9 (nI_pos (by omega)) | exact absurd (nI_pos (by omega)) c9) (fun _ => ?_)
  refine lv_iload hx hb d_By_pad_14 (lv_at hl 0 rfl) ?_
  refine lv_if_gt (tgt := 20) hx hb d_By_pad_16 (by decide) (fun c_16 => ?_) (fun c_16 => ?_)
  · skip
    have hsm : ¬ w ≤ L.length - a := by rw [Int32.lt_iff_toInt_lt, hk4] at c_16; simp only [Int32.toInt_zero] at c_16; omega
    obtain ⟨d, hd⟩ : ∃ d, d = w - (L.length - a) := ⟨_, rfl⟩
    have e4 : k4 = nI d := by apply Int32.toInt_inj.mp; rw [hk4, nI_toInt (by omega)]; omega
    clear hk4 ek4 c_16
    subst e4
    have hl : lv_has ls 6 [(4, .int (nI d)), (0, .ref h), (1, .int (nI a)), (2, .int (nI w)), (3, .int z)] := hl
    have hd0 : 0 < d := by omega
    have hd1 : d < 1000 := by omega
    refine lv_aload_n hx hb d_By_pad_20 rfl (lv_at hl 1 rfl) ?_
    refine lv_bipush (v := 32) hx hb d_By_pad_21 (by decide) ?_
    refine lv_iload hx hb d_By_pad_23 (lv_at hl 0 rfl) ?_
    have hPc := hP.sub (ws' := [(h, .inr (2, [.ref r, .int (nI L.length)])), (r, .inl (cA, cap, .inl f))]) [0, 1] rfl
    have hKc := hK.sub (tys' := [(cA, .byte)]) [0] rfl
    have hDc := hD.sub (ws' := [(h, .inr (2, [.ref r, .int (nI L.length)])), (r, .inl (cA, cap, .inl f))]) [0, 1] (by decide) rfl
    have hFc := va_free (wc := [(h, .inr (2, [.ref r, .int (nI L.length)])), (r, .inl (cA, cap, .inl f))]) hD hS hA [0, 1] rfl
    refine zz_callv (va_runV (As := [.int 32, .int (nI d)]) (rest := []) ⟨hx, hb, hml, hown, hg⟩ (c_By_addTimes l dC dI h r cA cap f L 32 (nI d) hL hc hk s.heap.size) (cwV 2 hg (gi_V kw_443 kw_273 kw_274 kw_2 kw_275) rfl rfl rfl (by decide +kernel) ⟨Nat.le_of_ble_eq_true rfl, Nat.le_of_ble_eq_true rfl⟩) (zz_preV hPc hKc hDc _ (q0 := 0) (ci := 2) rfl rfl) rfl rfl hl.1 rfl (lv_room (Nat.le_of_ble_eq_true rfl)) d_By_pad_25 ⟨Nat.le_of_ble_eq_true rfl, Nat.le_of_ble_eq_true rfl⟩) hS hFc (fun u H1 k9 p9 d9 => va_join (wr := []) hP hD [0, 1] [] rfl rfl (by decide) (by decide) k9 hFc p9 d9) (fun u H locs hw hP hD hK1 hS => ?_)
    obtain ⟨g0, rfl⟩ : ∃ z, z = u := ⟨_, rfl⟩
    try dsimp only at hw
    have hP : va_P (dC, dI) vwCl [(h, .inr (2, [.ref r, .int (nI (by_ap cap L (List.replicate (nI d).toNatClampNeg (by_b 32))).length)])), (r, .inl (cA, cap, .inl g0))] H := hP
    have hD : va_D A [(h, .inr (2, [.ref r, .int (nI (by_ap cap L (List.replicate (nI d).toNatClampNeg (by_b 32))).length)])), (r, .inl (cA, cap, .inl g0))] := hD
    have hLm := hw
    rw [by_t32 (by omega)] at hP hD hLm
    generalize eM : by_ap cap L (List.replicate d 32) = M at hP hD hLm
    have hMc : M.length ≤ cap := by rw [← eM]; exact by_ap_len _ _ _
    have hMa : a ≤ M.length := by rw [← eM]; exact by_ap_ge ha hc
    have hP : va_P (dC, dI) vwCl [(h, .inr (2, [.ref r, .int (nI M.length)])), (r, .inl (cA, cap, .inl g0))] H := hP
    have hD : va_D A [(h, .inr (2, [.ref r, .int (nI M.length)])), (r, .inl (cA, cap, .inl g0))] := hD
    refine lv_iload_n hx hb d_By_pad_28 rfl (lv_at hl 4 rfl) ?_
    refine lv_if_eq (tgt := 33) hx hb d_By_pad_29 (by decide) (fun c_29 => ?_) (fun c_29 => ?_)
    · skip
      have hb0 : b = false := by_z_f hz0 c_29
      refine lv_aload_n hx hb d_By_pad_33 rfl (lv_at hl 1 rfl) ?_
      refine va_get (D := (dC, dI)) (ci := 2) (v := .int (nI M.length)) (C := "TextForge$Bytes") (T := TX2) (N := 2) hx hb hg iwX2 hown hK hP 0 rfl rfl 1 (by decide) (hg _ kw_41) (fun _ h9 => h9) rfl d_By_pad_34 ?_
      refine lv_iconst (v := 1) hx hb d_By_pad_37 (by decide) ?_
      refine lv_isub hx hb d_By_pad_38 ?_
      refine lv_istore (lv' := [(5, .int ((nI M.length) - 1)), (4, .int (nI d)), (0, .ref h), (1, .int (nI a)), (2, .int (nI w)), (3, .int z)]) hx hb d_By_pad_39 hl (by decide) rfl (fun ls hl => ?_)
      rw [show nI M.length - 1 = nI (a + (M.length - a)) - 1 by rw [Nat.add_sub_cancel' hMa]] at hl
      refine zz_loop (fun (x : Nat × (Nat → Int32)) H locs ls => match x with | (j, g) => va_P (dC, dI) vwCl [(h, .inr (2, [.ref r, .int (nI M.length)])), (r, .inl (cA, cap, .inl g))] H ∧ va_D A [(h, .inr (2, [.ref r, .int (nI M.length)])), (r, .inl (cA, cap, .inl g))] ∧ va_S A s.heap H locs ∧ lv_has ls 6 [(0, .ref h), (1, .int (nI a)), (2, .int (nI w)), (3, .int z), (4, .int (nI d)), (5, .int (nI (a + j) - 1))] ∧ by_pq a d M j g ∧ a + j ≤ M.length) (fun x => match x with | (j, g) => j) ?_ (M.length - a, g0) ⟨hP.sub [0, 1] rfl, hD.sub [0, 1] (by decide) rfl, hS, lv_sub hl [2, 3, 4, 5, 1, 0] rfl, (by_pq_init hLm), (by omega)⟩
      intro x H locs ls hI ih_41
      obtain ⟨j, g⟩ := x
      try dsimp only at hI
      obtain ⟨hP, hD, hS, hl, hG, hj⟩ := hI
      refine lv_iload hx hb d_By_pad_41 (lv_at hl 5 rfl) ?_
      refine lv_iload_n hx hb d_By_pad_43 rfl (lv_at hl 1 rfl) ?_
      refine lv_icmp_lt (tgt := 84) hx hb d_By_pad_44 (by decide) (fun c_44 => ?_) (fun c_44 => ?_)
      · skip
        have ej : j = 0 := by_ex (by omega) c_44
        have hP9 := hP.sub (ws' := [(h, .inr (2, [.ref r, .int (nI M.length)])), (r, .inl (cA, cap, .inl g))]) [0, 1] rfl
        have hD9 := hD.sub (ws' := [(h, .inr (2, [.ref r, .int (nI M.length)])), (r, .inl (cA, cap, .inl g))]) [0, 1] (by decide) rfl
        have hK9 := hK.sub (tys' := [(cA, .byte)]) [0] rfl
        rw [show nI M.length = nI (by_pad cap L a w b).length by rw [by_pad_f hsm hd hb0 eM, by_pd_len]] at hP9 hD9
        exact zz_vret hx hb hr hlocks d_By_pad_84 hS (by first | exact Nat.le_refl _ | decide | omega | (dsimp only; omega)) (by first | exact Nat.le_refl _ | decide | omega | (dsimp only; omega)) g (by rw [by_pad_f hsm hd hb0 eM]; subst ej; exact by_pq_end hG) hP9 hK9 hD9
      · skip
        obtain ⟨j1, rfl⟩ : ∃ k, j = k + 1 := by_ex2 c_44 (by omega)
        rw [show nI (a + (j1 + 1)) - 1 = nI (a + j1) from nI_pred _] at hl
        have hl : lv_has ls 6 [(0, .ref h), (1, .int (nI a)), (2, .int (nI w)), (3, .int z), (4, .int (nI d)), (5, .int (nI (a + j1)))] := hl
        have hi9 : vp_in (nI (a + j1)) cap := vp_in_nI (by omega) (by omega)
        refine lv_aload_n hx hb d_By_pad_47 rfl (lv_at hl 0 rfl) ?_
        refine va_get (D := (dC, dI)) (ci := 2) (v := .ref r) (C := "TextForge$Bytes") (T := TX2) (N := 2) hx hb hg iwX2 hown hK hP 0 rfl rfl 0 (by decide) (hg _ kw_40) (fun _ h9 => h9) rfl d_By_pad_48 ?_
        refine lv_iload hx hb d_By_pad_51 (lv_at hl 5 rfl) ?_
        refine lv_iload hx hb d_By_pad_53 (lv_at hl 5 rfl) ?_
        refine lv_iload hx hb d_By_pad_55 (lv_at hl 4 rfl) ?_
        refine lv_isub hx hb d_By_pad_57 ?_
        refine lv_iload_n hx hb d_By_pad_58 rfl (lv_at hl 1 rfl) ?_
        refine lv_icmp_lt (tgt := 75) hx hb d_By_pad_59 (by decide) (fun c_59 => ?_) (fun c_59 => ?_)
        · skip
          have hjd : j1 < d := by_lt1 (a := a) c_59 (by omega) (by omega)
          refine lv_bipush (v := 32) hx hb d_By_pad_75 (by decide) ?_
          refine va_bast hx hb hK hP hD hS 1 0 rfl rfl hi9 d_By_pad_77 (fun H locs hP hD hS => ?_)
          have hP : va_P (dC, dI) vwCl [(h, .inr (2, [.ref r, .int (nI M.length)])), (r, .inl (cA, cap, .inl (upd g (nI (a + j1)).toNatClampNeg (vp_nar .byte 32))))] H := hP
          have hD : va_D A [(h, .inr (2, [.ref r, .int (nI M.length)])), (r, .inl (cA, cap, .inl (upd g (nI (a + j1)).toNatClampNeg (vp_nar .byte 32))))] := hD
          refine lv_iinc (v := (nI (a + j1)) + (-1)) (lv' := [(5, .int ((nI (a + j1)) + (-1))), (0, .ref h), (1, .int (nI a)), (2, .int (nI w)), (3, .int z), (4, .int (nI d))]) hx hb d_By_pad_78 hl (k := 5) rfl rfl (by decide) rfl (fun ls hl => ?_)
          refine lv_goto (tgt := 41) hx hb d_By_pad_81 (by decide) ?_
          rw [by_dec] at hl
          exact ih_41 (j1, (upd g (nI (a + j1)).toNatClampNeg (vp_nar .byte 32))) H locs ls ⟨hP.sub [0, 1] rfl, hD.sub [0, 1] (by decide) rfl, hS, lv_sub hl [1, 2, 3, 4, 5, 0] rfl, (by_pq_step hLm hG (by omega) (Or.inl ⟨hjd, by_n32⟩)), (by omega)⟩ (by dsimp only; omega)
        · skip
          have hjd : d ≤ j1 := by_lt2 (a := a) c_59 (by omega) (by omega)
          have hi8 : vp_in (nI (a + j1) - nI d) cap := by rw [pk_sub (by omega)]; exact vp_in_nI (by omega) (by omega)
          refine lv_aload_n hx hb d_By_pad_62 rfl (lv_at hl 0 rfl) ?_
          refine va_get (D := (dC, dI)) (ci := 2) (v := .ref r) (C := "TextForge$Bytes") (T := TX2) (N := 2) hx hb hg iwX2 hown hK hP 0 rfl rfl 0 (by decide) (hg _ kw_40) (fun _ h9 => h9) rfl d_By_pad_63 ?_
          refine lv_iload hx hb d_By_pad_66 (lv_at hl 5 rfl) ?_
          refine lv_iload hx hb d_By_pad_68 (lv_at hl 4 rfl) ?_
          refine lv_isub hx hb d_By_pad_70 ?_
          refine va_bald hx hb hK hP 1 0 rfl rfl hi8 d_By_pad_71 ?_
          refine lv_goto (tgt := 77) hx hb d_By_pad_72 (by decide) ?_
          refine va_bast hx hb hK hP hD hS 1 0 rfl rfl hi9 d_By_pad_77 (fun H locs hP hD hS => ?_)
          have hP : va_P (dC, dI) vwCl [(h, .inr (2, [.ref r, .int (nI M.length)])), (r, .inl (cA, cap, .inl (upd g (nI (a + j1)).toNatClampNeg (vp_nar .byte (g ((nI (a + j1)) - (nI d)).toNatClampNeg)))))] H := hP
          have hD : va_D A [(h, .inr (2, [.ref r, .int (nI M.length)])), (r, .inl (cA, cap, .inl (upd g (nI (a + j1)).toNatClampNeg (vp_nar .byte (g ((nI (a + j1)) - (nI d)).toNatClampNeg)))))] := hD
          refine lv_iinc (v := (nI (a + j1)) + (-1)) (lv' := [(5, .int ((nI (a + j1)) + (-1))), (0, .ref h), (1, .int (nI a)), (2, .int (nI w)), (3, .int z), (4, .int (nI d))]) hx hb d_By_pad_78 hl (k := 5) rfl rfl (by decide) rfl (fun ls hl => ?_)
          refine lv_goto (tgt := 41) hx hb d_By_pad_81 (by decide) ?_
          rw [by_dec] at hl
          exact ih_41 (j1, (upd g (nI (a + j1)).toNatClampNeg (vp_nar .byte (g ((nI (a + j1)) - (nI d)).toNatClampNeg)))) H locs ls ⟨hP.sub [0, 1] rfl, hD.sub [0, 1] (by decide) rfl, hS, lv_sub hl [1, 2, 3, 4, 5, 0] rfl, (by_pq_step hLm hG (by omega) (Or.inr ⟨hjd, by rw [pk_sub (by omega), nI_clamp (by omega), by_nar2]⟩)), (by omega)⟩ (by dsimp only; omega)
    · skip
      have hb0 : b = true := by_z_t hz0 c_29
      have hP9 := hP.sub (ws' := [(h, .inr (2, [.ref r, .int (nI M.length)])), (r, .inl (cA, cap, .inl g0))]) [0, 1] rfl
      have hD9 := hD.sub (ws' := [(h, .inr (2, [.ref r, .int (nI M.length)])), (r, .inl (cA, cap, .inl g0))]) [0, 1] (by decide) rfl
      have hK9 := hK.sub (tys' := [(cA, .byte)]) [0] rfl
      rw [show nI M.length = nI (by_pad cap L a w b).length by rw [by_pad_b hsm hd hb0 eM]] at hP9 hD9
      exact zz_vret hx hb hr hlocks d_By_pad_32 hS (by first | exact Nat.le_refl _ | decide | omega | (dsimp only; omega)) (by first | exact Nat.le_refl _ | decide | omega | (dsimp only; omega)) g0 (by rw [by_pad_b hsm hd hb0 eM]; exact hLm) hP9 hK9 hD9
  · skip
    have hsm : w ≤ L.length - a := by rw [Int32.lt_iff_toInt_lt, hk4] at c_16; simp only [Int32.toInt_zero] at c_16; omega
    have hP9 := hP.sub (ws' := [(h, .inr (2, [.ref r, .int (nI L.length)])), (r, .inl (cA, cap, .inl f))]) [0, 1] rfl
    have hD9 := hD.sub (ws' := [(h, .inr (2, [.ref r, .int (nI L.length)])), (r, .inl (cA, cap, .inl f))]) [0, 1] (by decide) rfl
    have hK9 := hK.sub (tys' := [(cA, .byte)]) [0] rfl
    rw [show nI L.length = nI (by_pad cap L a w b).length by rw [by_pad_s hsm]] at hP9 hD9
    exact zz_vret hx hb hr hlocks d_By_pad_19 hS (by first | exact Nat.le_refl _ | decide | omega | (dsimp only; omega)) (by first | exact Nat.le_refl _ | decide | omega | (dsimp only; omega)) f (by rw [by_pad_s hsm]; exact hL) hP9 hK9 hD9
