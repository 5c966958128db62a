/-! CODES -/
def cd_v (o : Option Nat) : Nat := match o with
  | none => 65533
  | some c => c
def cd_g (L : List Nat) : Nat → Nat → List (Nat × Nat)
  | 0, _ => []
  | k + 1, p => if p < L.length then (cd_v (ut_at L p), p) :: cd_g L k (p + ut_bo (ut_at L p)) else []
/-- the codes of a text, each with its place -/
def cd_l (L : List Nat) : List (Nat × Nat) := cd_g L L.length 0
def cd_A (K : List (Nat × Nat)) (fv fp : Nat → Int32) : Prop := ∀ j, j < K.length → fv j = nI (K.getD j (0, 0)).1 ∧ fp j = nI (K.getD j (0, 0)).2
/-- what the class keeps: what stands at each place (ut_v), and the place -/
def cd_T (L : List Nat) (K : List (Nat × Nat)) (fv fp : Nat → Int32) : Prop := ∀ j, j < K.length → fv j = ut_v (ut_at L (K.getD j (0, 0)).2) ∧ (K.getD j (0, 0)).1 = cd_v (ut_at L (K.getD j (0, 0)).2) ∧ fp j = nI (K.getD j (0, 0)).2
def cd_P (L : List Nat) (nv : Nat) (fv fp : Nat → Int32) : Prop := cd_T L (cd_l L) fv fp ∧ (cd_l L).length ≤ nv ∧ nv < 1000000
def cd_ok (o : Option Nat) : Prop := ∃ L p, o = ut_at L p
def cd_I (L : List Nat) (K : List (Nat × Nat)) (p : Nat) : Prop := ∃ k, L.length ≤ p + k ∧ cd_g L L.length 0 = K ++ cd_g L k p
theorem cd_A0 (a b : Nat → Int32) : cd_A [] a b := fun j h => absurd h (Nat.not_lt_zero j)
theorem cd_I0 (L : List Nat) : cd_I L [] 0 := ⟨L.length, by omega, rfl⟩
theorem cd_E {L : List Nat} {K : List (Nat × Nat)} {p : Nat} (h : cd_I L K p) (hp : p < L.length) : cd_I L (K ++ [(cd_v (ut_at L p), p)]) (p + ut_bo (ut_at L p)) := by
  obtain ⟨k, hk, e⟩ := h
  obtain ⟨j, rfl⟩ : ∃ j, k = j + 1 := ⟨k - 1, by omega⟩
  have := qt_pos (ut_at L p)
  refine ⟨j, by omega, ?_⟩
  rw [e, cd_g, if_pos hp, List.append_assoc]; rfl
theorem cd_all {L : List Nat} {K : List (Nat × Nat)} {p : Nat} (h : cd_I L K p) (hp : p = L.length) : cd_l L = K := by
  obtain ⟨k, hk, e⟩ := h
  have e2 : cd_g L k p = [] := by
    cases k with
    | zero => rfl
    | succ k => rw [cd_g, if_neg (by omega)]
  rw [e2, List.append_nil] at e; exact e
theorem cd_len {L : List Nat} {K : List (Nat × Nat)} {p : Nat} (h : cd_I L K p) (hp : p = L.length) : nI K.length = nI (cd_l L).length := by rw [cd_all h hp]
theorem cd_c1 (K : List (Nat × Nat)) (x : Nat × Nat) : nI K.length + 1 = nI (K ++ [x]).length := by rw [List.length_append, List.length_singleton, nI_1]
theorem cd_kl {K : List (Nat × Nat)} {x : Nat × Nat} {p b : Nat} (h : K.length ≤ p) (hb : 1 ≤ b) : (K ++ [x]).length ≤ p + b := by rw [List.length_append, List.length_singleton]; omega
theorem cd_step {K : List (Nat × Nat)} {a b : Nat → Int32} {v p : Nat} (h : cd_A K a b) (hl : K.length < 2147483648) : cd_A (K ++ [(v, p)]) (upd a (nI K.length).toNatClampNeg (nI v)) (upd b (nI K.length).toNatClampNeg (nI p)) := by
  intro j hj
  rw [nI_clamp hl]
  rw [List.length_append, List.length_singleton] at hj
  rcases Nat.lt_or_ge j K.length with q | q
  · have e : (K ++ [(v, p)]).getD j (0, 0) = K.getD j (0, 0) := by rw [List.getD_eq_getElem?_getD, List.getD_eq_getElem?_getD, List.getElem?_append_left q]
    rw [e, pk_un (by omega), pk_un (by omega)]; exact h j q
  · have e0 : j = K.length := by omega
    subst e0
    have e : (K ++ [(v, p)]).getD K.length (0, 0) = (v, p) := by rw [List.getD_eq_getElem?_getD, List.getElem?_append_right (Nat.le_refl _)]; simp
    rw [e, pk_us, pk_us]; exact ⟨rfl, rfl⟩
theorem cd_T0 (L : List Nat) (a b : Nat → Int32) : cd_T L [] a b := fun j h => absurd h (Nat.not_lt_zero j)
theorem cd_Ts {L : List Nat} {K : List (Nat × Nat)} {a b : Nat → Int32} {p : Nat} (h : cd_T L K a b) (hl : K.length < 2147483648) : cd_T L (K ++ [(cd_v (ut_at L p), p)]) (upd a (nI K.length).toNatClampNeg (ut_v (ut_at L p))) (upd b (nI K.length).toNatClampNeg (nI p)) := by
  intro j hj
  rw [nI_clamp hl]
  rw [List.length_append, List.length_singleton] at hj
  rcases Nat.lt_or_ge j K.length with q | q
  · have e : (K ++ [(cd_v (ut_at L p), p)]).getD j (0, 0) = K.getD j (0, 0) := by rw [List.getD_eq_getElem?_getD, List.getD_eq_getElem?_getD, List.getElem?_append_left q]
    rw [e, pk_un (by omega), pk_un (by omega)]; exact h j q
  · have e0 : j = K.length := by omega
    subst e0
    have e : (K ++ [(cd_v (ut_at L p), p)]).getD K.length (0, 0) = (cd_v (ut_at L p), p) := by rw [List.getD_eq_getElem?_getD, List.getElem?_append_right (Nat.le_refl _)]; simp
    rw [e, pk_us, pk_us]; exact ⟨rfl, rfl, rfl⟩
theorem cd_fin {L : List Nat} {K : List (Nat × Nat)} {p nv : Nat} {a b : Nat → Int32} (hA : cd_T L K a b) (hE : cd_I L K p) (hp : p = L.length) (hn : K.length ≤ p ∧ L.length ≤ nv ∧ nv < 1000000) : cd_P L nv a b := by
  unfold cd_P
  rw [cd_all hE hp]
  exact ⟨hA, by omega, hn.2.2⟩
theorem cd_ve {L : List Nat} {p : Nat} : ut_cn (ut_v (ut_at L p)).toInt64.toInt = cd_v (ut_at L p) := by
  cases e : ut_at L p with
  | none => decide
  | some c =>
    have h := qt_in e
    show ut_cn (nI c).toInt64.toInt = c
    rw [ut_tl (by omega)]; unfold ut_cn; rw [h.2.2]; rfl
theorem cd_ve2 {o : Option Nat} (h : cd_ok o) : ut_cn (ut_v o).toInt64.toInt = cd_v o := by
  obtain ⟨L, p, rfl⟩ := h; exact cd_ve
theorem cd_cl {o : Option Nat} (h : cd_ok o) : ∀ c, o = some c → c < 2147483648 := by
  obtain ⟨L, p, rfl⟩ := h; exact qt_cl _ _
abbrev y_Cd_init : MethodName := ⟨"TextForge$Codes", "<init>", "()V"⟩
abbrev w_Cd_init : List Cond := Cond.code y_Cd_init prog_5_method_1_code 1 none :: gw
theorem d_Cd_init_0 : decode prog_5_method_1_code 0 = .ok (.aload_n 0, 1) := by decide +kernel
theorem d_Cd_init_1 : decode prog_5_method_1_code 1 = .ok (.invokespecial 1, 3) := by decide +kernel
theorem d_Cd_init_4 : decode prog_5_method_1_code 4 = .ok (.aload_n 0, 1) := by decide +kernel
theorem d_Cd_init_5 : decode prog_5_method_1_code 5 = .ok (.iconst 0, 1) := by decide +kernel
theorem d_Cd_init_6 : decode prog_5_method_1_code 6 = .ok (.newarray .int, 2) := by decide +kernel
theorem d_Cd_init_8 : decode prog_5_method_1_code 8 = .ok (.putfield 7, 3) := by decide +kernel
theorem d_Cd_init_11 : decode prog_5_method_1_code 11 = .ok (.aload_n 0, 1) := by decide +kernel
theorem d_Cd_init_12 : decode prog_5_method_1_code 12 = .ok (.iconst 0, 1) := by decide +kernel
theorem d_Cd_init_13 : decode prog_5_method_1_code 13 = .ok (.newarray .int, 2) := by decide +kernel
theorem d_Cd_init_15 : decode prog_5_method_1_code 15 = .ok (.putfield 13, 3) := by decide +kernel
theorem d_Cd_init_18 : decode prog_5_method_1_code 18 = .ok (.aload_n 0, 1) := by decide +kernel
theorem d_Cd_init_19 : decode prog_5_method_1_code 19 = .ok (.iconst 0, 1) := by decide +kernel
theorem d_Cd_init_20 : decode prog_5_method_1_code 20 = .ok (.putfield 16, 3) := by decide +kernel
theorem d_Cd_init_23 : decode prog_5_method_1_code 23 = .ok (.return_, 1) := by decide +kernel
set_option maxHeartbeats 4000000 in
set_option maxRecDepth 100000 in
theorem c_Cd_init (l : Launch) (dC : Nat → ClassId) (dI : Nat → Nat → Nat) (h : Nat) (x y z : Value)  : zM_v (S := Nat × Nat × ClassId × ClassId) l y_Cd_init w_Cd_init { frames := 1, cells := 2, slots := 1, locals := 12 } (dC, dI) vwCl [.ref h] [(h, .inr (3, [x, y, z]))] [] (fun (u : Nat × Nat × ClassId × ClassId) => match u with | (rv, rp, cV, cP) => True) (fun u => match u with | (rv, rp, cV, cP) => [(h, .inr (3, [.ref rv, .ref rp, .int 0])), (rv, .inl (cV, 0, .inl (fun _ => 0))), (rp, .inl (cP, 0, .inl (fun _ => 0)))]) (fun u => match u with | (rv, rp, cV, cP) => [(cV, .int), (cP, .int)]) 2 1 := by
  refine zz_enterv (cc := prog_5_method_1_code) (nL := 1) (ret := none) (by decide) rfl (Nat.le_of_ble_eq_true rfl) ?_
  intro p e s m below meth c A ls C0 hA hS hP hK hD hl
  obtain ⟨hx, hb, hml, hown, hg, hr, hlocks, hin⟩ := C0
  have hown : s.vm.findClass "TextForge$Codes" = some m.cls := hown
  have hP : va_P (dC, dI) vwCl [(h, .inr (3, [x, y, z]))] s.heap := hP
  have hK : va_K (dC, dI) vwCl [] s := hK
  have hD : va_D A [(h, .inr (3, [x, y, z]))] := hD
  have hl : lv_has ls 1 [(0, .ref h)] := hl
  refine lv_aload_n hx hb d_Cd_init_0 rfl (lv_at hl 0 rfl) ?_
  refine W.objInit hx hb hown (hg _ kw_119) (hg _ kw_29) (hg _ kw_30) rfl (by rw [hml]; exact hl.1) rfl d_Cd_init_1 (Nat.le_of_ble_eq_true rfl) (Nat.le_of_ble_eq_true rfl) ?_
  refine W.eq (g2 := F0 m 4 ls []) rfl ?_
  refine lv_aload_n hx hb d_Cd_init_4 rfl (lv_at hl 0 rfl) ?_
  refine lv_iconst (v := 0) hx hb d_Cd_init_5 (by decide) ?_
  refine va_newa (atype := .int) (a0 := (0, .inl (fun _ => 0))) hx hb (hg _ kw_130) rfl hK hP hD hS hA (fun _ => rfl) (by decide) (by decide) (by decide) (by first | exact Nat.le_refl _ | decide | omega | (dsimp only; omega)) (by first | exact Nat.le_refl _ | decide | omega | (dsimp only; omega)) d_Cd_init_6 (fun q_1 cA_2 H hK hP hD hS => ?_)
  have hK : va_K (dC, dI) vwCl [(cA_2, .int)] s := hK
  have hP : va_P (dC, dI) vwCl [(h, .inr (3, [x, y, z])), (q_1, .inl (cA_2, 0, .inl (fun _ => 0)))] H := hP
  have hD : va_D A [(h, .inr (3, [x, y, z])), (q_1, .inl (cA_2, 0, .inl (fun _ => 0)))] := hD
  refine va_put (D := (dC, dI)) (ci := 3) (v := .ref q_1) (ty := .array .int) (C := "TextForge$Codes") (T := TX3) (N := 3) hx hb hg iwX3 tyX3 tyX3_ok nmX3 hown hK hP hD hS 0 rfl rfl 0 (by decide) (hg _ kw_120) (fun _ h9 => h9) rfl (by decide +kernel) rfl rfl (Nat.le_of_ble_eq_true rfl) d_Cd_init_8 (fun H locs hP hD hS => ?_)
  have hP : va_P (dC, dI) vwCl [(h, .inr (3, [.ref q_1, y, z])), (q_1, .inl (cA_2, 0, .inl (fun _ => 0)))] H := hP
  have hD : va_D A [(h, .inr (3, [.ref q_1, y, z])), (q_1, .inl (cA_2, 0, .inl (fun _ => 0)))] := hD
  refine lv_aload_n hx hb d_Cd_init_11 rfl (lv_at hl 0 rfl) ?_
  refine lv_iconst (v := 0) hx hb d_Cd_init_12 (by decide) ?_
  refine va_newa (atype := .int) (a0 := (0, .inl (fun _ => 0))) hx hb (hg _ kw_130) rfl hK hP hD hS hA (fun _ => rfl) (by decide) (by decide) (by decide) (by first | exact Nat.le_refl _ | decide | omega | (dsimp only; omega)) (by first | exact Nat.le_refl _ | decide | omega | (dsimp only; omega)) d_Cd_init_13 (fun q_3 cA_4 H hK hP hD hS => ?_)
  have hK : va_K (dC, dI) vwCl [(cA_2, .int), (cA_4, .int)] s := hK
  have hP : va_P (dC, dI) vwCl [(h, .inr (3, [.ref q_1, y, z])), (q_1, .inl (cA_2, 0, .inl (fun _ => 0))), (q_3, .inl (cA_4, 0, .inl (fun _ => 0)))] H := hP
  have hD : va_D A [(h, .inr (3, [.ref q_1, y, z])), (q_1, .inl (cA_2, 0, .inl (fun _ => 0))), (q_3, .inl (cA_4, 0, .inl (fun _ => 0)))] := hD
  refine va_put (D := (dC, dI)) (ci := 3) (v := .ref q_3) (ty := .array .int) (C := "TextForge$Codes") (T := TX3) (N := 3) hx hb hg iwX3 tyX3 tyX3_ok nmX3 hown hK hP hD hS 0 rfl rfl 1 (by decide) (hg _ kw_121) (fun _ h9 => h9) rfl (by decide +kernel) rfl rfl (Nat.le_of_ble_eq_true rfl) d_Cd_init_15 (fun H locs hP hD hS => ?_)
  have hP : va_P (dC, dI) vwCl [(h, .inr (3, [.ref q_1, .ref q_3, z])), (q_1, .inl (cA_2, 0, .inl (fun _ => 0))), (q_3, .inl (cA_4, 0, .inl (fun _ => 0)))] H := hP
  have hD : va_D A [(h, .inr (3, [.ref q_1, .ref q_3, z])), (q_1, .inl (cA_2, 0, .inl (fun _ => 0))), (q_3, .inl (cA_4, 0, .inl (fun _ => 0)))] := hD
  refine lv_aload_n hx hb d_Cd_init_18 rfl (lv_at hl 0 rfl) ?_
  refine lv_iconst (v := 0) hx hb d_Cd_init_19 (by decide) ?_
  refine va_put (D := (dC, dI)) (ci := 3) (v := .int 0) (ty := .int) (C := "TextForge$Codes") (T := TX3) (N := 3) hx hb hg iwX3 tyX3 tyX3_ok nmX3 hown hK hP hD hS 0 rfl rfl 2 (by decide) (hg _ kw_122) (fun _ h9 => h9) rfl (by decide +kernel) rfl rfl (Nat.le_of_ble_eq_true rfl) d_Cd_init_20 (fun H locs hP hD hS => ?_)
  have hP : va_P (dC, dI) vwCl [(h, .inr (3, [.ref q_1, .ref q_3, .int 0])), (q_1, .inl (cA_2, 0, .inl (fun _ => 0))), (q_3, .inl (cA_4, 0, .inl (fun _ => 0)))] H := hP
  have hD : va_D A [(h, .inr (3, [.ref q_1, .ref q_3, .int 0])), (q_1, .inl (cA_2, 0, .inl (fun _ => 0))), (q_3, .inl (cA_4, 0, .inl (fun _ => 0)))] := hD
  have hP9 := hP.sub (ws' := [(h, .inr (3, [.ref q_1, .ref q_3, .int 0])), (q_1, .inl (cA_2, 0, .inl (fun _ => 0))), (q_3, .inl (cA_4, 0, .inl (fun _ => 0)))]) [0, 1, 2] rfl
  have hD9 := hD.sub (ws' := [(h, .inr (3, [.ref q_1, .ref q_3, .int 0])), (q_1, .inl (cA_2, 0, .inl (fun _ => 0))), (q_3, .inl (cA_4, 0, .inl (fun _ => 0)))]) [0, 1, 2] (by decide) rfl
  have hK9 := hK.sub (tys' := [(cA_2, .int), (cA_4, .int)]) [0, 1] rfl
  exact zz_vret hx hb hr hlocks d_Cd_init_23 hS (by first | exact Nat.le_refl _ | decide | omega | (dsimp only; omega)) (by first | exact Nat.le_refl _ | decide | omega | (dsimp only; omega)) (q_1, q_3, cA_2, cA_4) trivial hP9 hK9 hD9
abbrev y_Cd_count : MethodName := ⟨"TextForge$Codes", "count", "()I"⟩
abbrev w_Cd_count : List Cond := Cond.code y_Cd_count prog_5_method_2_code 1 (some .int) :: gw
theorem d_Cd_count_0 : decode prog_5_method_2_code 0 = .ok (.aload_n 0, 1) := by decide +kernel
theorem d_Cd_count_1 : decode prog_5_method_2_code 1 = .ok (.getfield 16, 3) := by decide +kernel
theorem d_Cd_count_4 : decode prog_5_method_2_code 4 = .ok (.ireturn, 1) := by decide +kernel
set_option maxHeartbeats 4000000 in
set_option maxRecDepth 100000 in
theorem c_Cd_count (l : Launch) (dC : Nat → ClassId) (dI : Nat → Nat → Nat) (h : Nat) (x y : Value) (n : Int32)  : zR_i l y_Cd_count w_Cd_count { frames := 0, cells := 0, slots := 0, locals := 0 } (dC, dI) vwCl [.ref h] [(h, .inr (3, [x, y, .int n]))] [] (fun r : Int32 => r = n) := by
  refine zz_enterR (cc := prog_5_method_2_code) (nL := 1) (ret := (some .int)) (by decide) rfl (Nat.le_of_ble_eq_true rfl) ?_
  intro p e s m below meth c ls C0 hP hK hl
  obtain ⟨hx, hb, hml, hown, hg, hr, hlocks, hin⟩ := C0
  have hS : va_S (fun _ => False) s.heap s.heap [] := va_S.rf
  have hown : s.vm.findClass "TextForge$Codes" = some m.cls := hown
  have hP : va_P (dC, dI) vwCl [(h, .inr (3, [x, y, .int n]))] s.heap := hP
  have hK : va_K (dC, dI) vwCl [] s := hK
  have hl : lv_has ls 1 [(0, .ref h)] := hl
  refine lv_aload_n hx hb d_Cd_count_0 rfl (lv_at hl 0 rfl) ?_
  refine va_get (D := (dC, dI)) (ci := 3) (v := .int n) (C := "TextForge$Codes") (T := TX3) (N := 3) hx hb hg iwX3 hown hK hP 0 rfl rfl 2 (by decide) (hg _ kw_122) (fun _ h9 => h9) rfl d_Cd_count_1 ?_
  exact zz_iretR hx hb hr hlocks d_Cd_count_4 rfl
abbrev y_Cd_foundAt : MethodName := ⟨"TextForge$Codes", "foundAt", "(I)I"⟩
abbrev w_Cd_foundAt : List Cond := Cond.code y_Cd_foundAt prog_5_method_7_code 2 (some .int) :: gw
theorem d_Cd_foundAt_0 : decode prog_5_method_7_code 0 = .ok (.iload_n 1, 1) := by decide +kernel
theorem d_Cd_foundAt_1 : decode prog_5_method_7_code 1 = .ok (.ifCond .lt 21, 3) := by decide +kernel
theorem d_Cd_foundAt_4 : decode prog_5_method_7_code 4 = .ok (.iload_n 1, 1) := by decide +kernel
theorem d_Cd_foundAt_5 : decode prog_5_method_7_code 5 = .ok (.aload_n 0, 1) := by decide +kernel
theorem d_Cd_foundAt_6 : decode prog_5_method_7_code 6 = .ok (.getfield 7, 3) := by decide +kernel
theorem d_Cd_foundAt_9 : decode prog_5_method_7_code 9 = .ok (.arraylength, 1) := by decide +kernel
theorem d_Cd_foundAt_10 : decode prog_5_method_7_code 10 = .ok (.if_icmp .ge 12, 3) := by decide +kernel
theorem d_Cd_foundAt_13 : decode prog_5_method_7_code 13 = .ok (.aload_n 0, 1) := by decide +kernel
theorem d_Cd_foundAt_14 : decode prog_5_method_7_code 14 = .ok (.getfield 7, 3) := by decide +kernel
theorem d_Cd_foundAt_17 : decode prog_5_method_7_code 17 = .ok (.iload_n 1, 1) := by decide +kernel
theorem d_Cd_foundAt_18 : decode prog_5_method_7_code 18 = .ok (.iaload, 1) := by decide +kernel
theorem d_Cd_foundAt_19 : decode prog_5_method_7_code 19 = .ok (.goto 4, 3) := by decide +kernel
theorem d_Cd_foundAt_22 : decode prog_5_method_7_code 22 = .ok (.iconst (-1), 1) := by decide +kernel
theorem d_Cd_foundAt_23 : decode prog_5_method_7_code 23 = .ok (.ireturn, 1) := by decide +kernel
set_option maxHeartbeats 4000000 in
set_option maxRecDepth 100000 in
theorem c_Cd_foundAt (l : Launch) (dC : Nat → ClassId) (dI : Nat → Nat → Nat) (h rv rp : Nat) (cV cP : ClassId) (nv : Nat) (fv fp : Nat → Int32) (n0 : Int32) (j : Nat) (hj : j < nv) (hn : nv < 1000000) : zR_i l y_Cd_foundAt w_Cd_foundAt { frames := 0, cells := 0, slots := 0, locals := 0 } (dC, dI) vwCl [.ref h, .int (nI j)] [(h, .inr (3, [.ref rv, .ref rp, .int n0])), (rv, .inl (cV, nv, .inl fv)), (rp, .inl (cP, nv, .inl fp))] [(cV, .int), (cP, .int)] (fun r : Int32 => r = fv j) := by
  refine zz_enterR (cc := prog_5_method_7_code) (nL := 2) (ret := (some .int)) (by decide) rfl (Nat.le_of_ble_eq_true rfl) ?_
  intro p e s m below meth c ls C0 hP hK hl
  obtain ⟨hx, hb, hml, hown, hg, hr, hlocks, hin⟩ := C0
  have hS : va_S (fun _ => False) s.heap s.heap [] := va_S.rf
  have hown : s.vm.findClass "TextForge$Codes" = some m.cls := hown
  have hP : va_P (dC, dI) vwCl [(h, .inr (3, [.ref rv, .ref rp, .int n0])), (rv, .inl (cV, nv, .inl fv)), (rp, .inl (cP, nv, .inl fp))] s.heap := hP
  have hK : va_K (dC, dI) vwCl [(cV, .int), (cP, .int)] s := hK
  have hl : lv_has ls 2 [(0, .ref h), (1, .int (nI j))] := hl
  refine lv_iload_n hx hb d_Cd_foundAt_0 rfl (lv_at hl 1 rfl) ?_
  refine lv_if_lt (tgt := 22) hx hb d_Cd_foundAt_1 (by decide) (fun c9 => by first | exact absurd c9 (nI_pos (by omega)) | exact absurd (nI_pos (by omega)) c9) (fun _ => ?_)
  refine lv_iload_n hx hb d_Cd_foundAt_4 rfl (lv_at hl 1 rfl) ?_
  refine lv_aload_n hx hb d_Cd_foundAt_5 rfl (lv_at hl 0 rfl) ?_
  refine va_get (D := (dC, dI)) (ci := 3) (v := .ref rv) (C := "TextForge$Codes") (T := TX3) (N := 3) hx hb hg iwX3 hown hK hP 0 rfl rfl 0 (by decide) (hg _ kw_120) (fun _ h9 => h9) rfl d_Cd_foundAt_6 ?_
  refine va_alen (v := nI nv) hx hb hK hP 1 0 rfl rfl rfl d_Cd_foundAt_9 ?_
  refine lv_icmp_ge (tgt := 22) hx hb d_Cd_foundAt_10 (by decide) (fun c9 => by first | exact absurd c9 (nI_ge hj (by omega)) | exact absurd (nI_ge hj (by omega)) c9) (fun _ => ?_)
  refine lv_aload_n hx hb d_Cd_foundAt_13 rfl (lv_at hl 0 rfl) ?_
  refine va_get (D := (dC, dI)) (ci := 3) (v := .ref rv) (C := "TextForge$Codes") (T := TX3) (N := 3) hx hb hg iwX3 hown hK hP 0 rfl rfl 0 (by decide) (hg _ kw_120) (fun _ h9 => h9) rfl d_Cd_foundAt_14 ?_
  refine lv_iload_n hx hb d_Cd_foundAt_17 rfl (lv_at hl 1 rfl) ?_
  refine va_iald hx hb hK hP 1 0 rfl rfl (vp_in_nI hj (by omega)) d_Cd_foundAt_18 ?_
  refine lv_goto (tgt := 23) hx hb d_Cd_foundAt_19 (by decide) ?_
  exact zz_iretR hx hb hr hlocks d_Cd_foundAt_23 (by rw [nI_clamp (by omega)])
abbrev y_Cd_placeOf : MethodName := ⟨"TextForge$Codes", "placeOf", "(I)I"⟩
abbrev w_Cd_placeOf : List Cond := Cond.code y_Cd_placeOf prog_5_method_4_code 2 (some .int) :: gw
theorem d_Cd_placeOf_0 : decode prog_5_method_4_code 0 = .ok (.iload_n 1, 1) := by decide +kernel
theorem d_Cd_placeOf_1 : decode prog_5_method_4_code 1 = .ok (.ifCond .lt 21, 3) := by decide +kernel
theorem d_Cd_placeOf_4 : decode prog_5_method_4_code 4 = .ok (.iload_n 1, 1) := by decide +kernel
theorem d_Cd_placeOf_5 : decode prog_5_method_4_code 5 = .ok (.aload_n 0, 1) := by decide +kernel
theorem d_Cd_placeOf_6 : decode prog_5_method_4_code 6 = .ok (.getfield 13, 3) := by decide +kernel
theorem d_Cd_placeOf_9 : decode prog_5_method_4_code 9 = .ok (.arraylength, 1) := by decide +kernel
theorem d_Cd_placeOf_10 : decode prog_5_method_4_code 10 = .ok (.if_icmp .ge 12, 3) := by decide +kernel
theorem d_Cd_placeOf_13 : decode prog_5_method_4_code 13 = .ok (.aload_n 0, 1) := by decide +kernel
theorem d_Cd_placeOf_14 : decode prog_5_method_4_code 14 = .ok (.getfield 13, 3) := by decide +kernel
theorem d_Cd_placeOf_17 : decode prog_5_method_4_code 17 = .ok (.iload_n 1, 1) := by decide +kernel
theorem d_Cd_placeOf_18 : decode prog_5_method_4_code 18 = .ok (.iaload, 1) := by decide +kernel
theorem d_Cd_placeOf_19 : decode prog_5_method_4_code 19 = .ok (.goto 4, 3) := by decide +kernel
theorem d_Cd_placeOf_22 : decode prog_5_method_4_code 22 = .ok (.iconst 0, 1) := by decide +kernel
theorem d_Cd_placeOf_23 : decode prog_5_method_4_code 23 = .ok (.ireturn, 1) := by decide +kernel
set_option maxHeartbeats 4000000 in
set_option maxRecDepth 100000 in
theorem c_Cd_placeOf (l : Launch) (dC : Nat → ClassId) (dI : Nat → Nat → Nat) (h rv rp : Nat) (cV cP : ClassId) (nv : Nat) (fv fp : Nat → Int32) (n0 : Int32) (j : Nat) (hj : j < nv) (hn : nv < 1000000) : zR_i l y_Cd_placeOf w_Cd_placeOf { frames := 0, cells := 0, slots := 0, locals := 0 } (dC, dI) vwCl [.ref h, .int (nI j)] [(h, .inr (3, [.ref rv, .ref rp, .int n0])), (rv, .inl (cV, nv, .inl fv)), (rp, .inl (cP, nv, .inl fp))] [(cV, .int), (cP, .int)] (fun r : Int32 => r = fp j) := by
  refine zz_enterR (cc := prog_5_method_4_code) (nL := 2) (ret := (some .int)) (by decide) rfl (Nat.le_of_ble_eq_true rfl) ?_
  intro p e s m below meth c ls C0 hP hK hl
  obtain ⟨hx, hb, hml, hown, hg, hr, hlocks, hin⟩ := C0
  have hS : va_S (fun _ => False) s.heap s.heap [] := va_S.rf
  have hown : s.vm.findClass "TextForge$Codes" = some m.cls := hown
  have hP : va_P (dC, dI) vwCl [(h, .inr (3, [.ref rv, .ref rp, .int n0])), (rv, .inl (cV, nv, .inl fv)), (rp, .inl (cP, nv, .inl fp))] s.heap := hP
  have hK : va_K (dC, dI) vwCl [(cV, .int), (cP, .int)] s := hK
  have hl : lv_has ls 2 [(0, .ref h), (1, .int (nI j))] := hl
  refine lv_iload_n hx hb d_Cd_placeOf_0 rfl (lv_at hl 1 rfl) ?_
  refine lv_if_lt (tgt := 22) hx hb d_Cd_placeOf_1 (by decide) (fun c9 => by first | exact absurd c9 (nI_pos (by omega)) | exact absurd (nI_pos (by omega)) c9) (fun _ => ?_)
  refine lv_iload_n hx hb d_Cd_placeOf_4 rfl (lv_at hl 1 rfl) ?_
  refine lv_aload_n hx hb d_Cd_placeOf_5 rfl (lv_at hl 0 rfl) ?_
  refine va_get (D := (dC, dI)) (ci := 3) (v := .ref rp) (C := "TextForge$Codes") (T := TX3) (N := 3) hx hb hg iwX3 hown hK hP 0 rfl rfl 1 (by decide) (hg _ kw_121) (fun _ h9 => h9) rfl d_Cd_placeOf_6 ?_
  refine va_alen (v := nI nv) hx hb hK hP 2 1 rfl rfl rfl d_Cd_placeOf_9 ?_
  refine lv_icmp_ge (tgt := 22) hx hb d_Cd_placeOf_10 (by decide) (fun c9 => by first | exact absurd c9 (nI_ge hj (by omega)) | exact absurd (nI_ge hj (by omega)) c9) (fun _ => ?_)
  refine lv_aload_n hx hb d_Cd_placeOf_13 rfl (lv_at hl 0 rfl) ?_
  refine va_get (D := (dC, dI)) (ci := 3) (v := .ref rp) (C := "TextForge$Codes") (T := TX3) (N := 3) hx hb hg iwX3 hown hK hP 0 rfl rfl 1 (by decide) (hg _ kw_121) (fun _ h9 => h9) rfl d_Cd_placeOf_14 ?_
  refine lv_iload_n hx hb d_Cd_placeOf_17 rfl (lv_at hl 1 rfl) ?_
  refine va_iald hx hb hK hP 2 1 rfl rfl (vp_in_nI hj (by omega)) d_Cd_placeOf_18 ?_
  refine lv_goto (tgt := 23) hx hb d_Cd_placeOf_19 (by decide) ?_
  exact zz_iretR hx hb hr hlocks d_Cd_placeOf_23 (by rw [nI_clamp (by omega)])
abbrev y_Cd_valueOf : MethodName := ⟨"TextForge$Codes", "valueOf", "(I)I"⟩
abbrev w_Cd_valueOf : List Cond := Cond.code y_Cd_valueOf prog_5_method_3_code 2 (some .int) :: gw
theorem d_Cd_valueOf_0 : decode prog_5_method_3_code 0 = .ok (.aload_n 0, 1) := by decide +kernel
theorem d_Cd_valueOf_1 : decode prog_5_method_3_code 1 = .ok (.iload_n 1, 1) := by decide +kernel
theorem d_Cd_valueOf_2 : decode prog_5_method_3_code 2 = .ok (.invokevirtual 20, 3) := by decide +kernel
theorem d_Cd_valueOf_5 : decode prog_5_method_3_code 5 = .ok (.i2l, 1) := by decide +kernel
theorem d_Cd_valueOf_6 : decode prog_5_method_3_code 6 = .ok (.invokestatic 24, 3) := by decide +kernel
theorem d_Cd_valueOf_9 : decode prog_5_method_3_code 9 = .ok (.ireturn, 1) := by decide +kernel
set_option maxHeartbeats 4000000 in
set_option maxRecDepth 100000 in
theorem c_Cd_valueOf (l : Launch) (dC : Nat → ClassId) (dI : Nat → Nat → Nat) (h rv rp : Nat) (cV cP : ClassId) (nv : Nat) (fv fp : Nat → Int32) (n0 : Int32) (j : Nat) (o : Option Nat) (hj : j < nv) (hn : nv < 1000000) (hfo : fv j = ut_v o) (ho : cd_ok o) : zR_i l y_Cd_valueOf w_Cd_valueOf { frames := 2, cells := 0, slots := 0, locals := 42 } (dC, dI) vwCl [.ref h, .int (nI j)] [(h, .inr (3, [.ref rv, .ref rp, .int n0])), (rv, .inl (cV, nv, .inl fv)), (rp, .inl (cP, nv, .inl fp))] [(cV, .int), (cP, .int)] (fun r : Int32 => r = nI (cd_v o)) := by
  refine zz_enterR (cc := prog_5_method_3_code) (nL := 2) (ret := (some .int)) (by decide) rfl (Nat.le_of_ble_eq_true rfl) ?_
  intro p e s m below meth c ls C0 hP hK hl
  obtain ⟨hx, hb, hml, hown, hg, hr, hlocks, hin⟩ := C0
  have hS : va_S (fun _ => False) s.heap s.heap [] := va_S.rf
  have hown : s.vm.findClass "TextForge$Codes" = some m.cls := hown
  have hP : va_P (dC, dI) vwCl [(h, .inr (3, [.ref rv, .ref rp, .int n0])), (rv, .inl (cV, nv, .inl fv)), (rp, .inl (cP, nv, .inl fp))] s.heap := hP
  have hK : va_K (dC, dI) vwCl [(cV, .int), (cP, .int)] s := hK
  have hl : lv_has ls 2 [(0, .ref h), (1, .int (nI j))] := hl
  refine lv_aload_n hx hb d_Cd_valueOf_0 rfl (lv_at hl 0 rfl) ?_
  refine lv_iload_n hx hb d_Cd_valueOf_1 rfl (lv_at hl 1 rfl) ?_
  have hPc := hP.sub (ws' := [(h, .inr (3, [.ref rv, .ref rp, .int n0])), (rv, .inl (cV, nv, .inl fv)), (rp, .inl (cP, nv, .inl fp))]) [0, 1, 2] rfl
  have hKc := hK.sub (tys' := [(cV, .int), (cP, .int)]) [0, 1] rfl
  refine vp_callSi (W.runV (As := [.int (nI j)]) (rest := []) ⟨hx, hb, hml, hown, hg⟩ (c_Cd_foundAt l dC dI h rv rp cV cP nv fv fp n0 j hj hn) (cwV 1 hg (gi_V kw_499 kw_501 sw_6 kw_8 kw_502) rfl rfl rfl (by decide +kernel) ⟨Nat.le_of_ble_eq_true rfl, Nat.le_of_ble_eq_true rfl⟩) (zz_prJV hPc hKc _ (q0 := 0) (ci := 3) rfl rfl) rfl rfl hl.1 rfl (lv_room (Nat.le_of_ble_eq_true rfl)) d_Cd_valueOf_2 ⟨Nat.le_of_ble_eq_true rfl, Nat.le_of_ble_eq_true rfl⟩) (fun r_1 hr_1 => ?_)
  rw [hfo] at hr_1
  subst hr_1
  refine lv_i2l hx hb d_Cd_valueOf_5 rfl ?_
  have hPc := hP.sub (ws' := []) [] rfl
  have hKc := hK.sub (tys' := []) [] rfl
  refine vp_callSi (W.runS (As := [.long ((ut_v o).toInt64)]) (rest := []) ⟨hx, hb, hml, hown, hg⟩ (c_Ut_codeOf l dC dI ((ut_v o).toInt64) ) (va_cwS 1 hg (gi_S kw_705 kw_403 kw_21 kw_404) rfl rfl rfl (by decide +kernel) ⟨Nat.le_of_ble_eq_true rfl, Nat.le_of_ble_eq_true rfl⟩) (zz_prJS hPc hKc _) rfl rfl hl.1 rfl (lv_room (Nat.le_of_ble_eq_true rfl)) d_Cd_valueOf_6 ⟨Nat.le_of_ble_eq_true rfl, Nat.le_of_ble_eq_true rfl⟩) (fun r_2 hr_2 => ?_)
  rw [cd_ve2 ho] at hr_2
  subst hr_2
  exact zz_iretR hx hb hr hlocks d_Cd_valueOf_9 rfl
abbrev y_Cd_bytesOf : MethodName := ⟨"TextForge$Codes", "bytesOf", "(I)I"⟩
abbrev w_Cd_bytesOf : List Cond := Cond.code y_Cd_bytesOf prog_5_method_5_code 2 (some .int) :: gw
theorem d_Cd_bytesOf_0 : decode prog_5_method_5_code 0 = .ok (.aload_n 0, 1) := by decide +kernel
theorem d_Cd_bytesOf_1 : decode prog_5_method_5_code 1 = .ok (.iload_n 1, 1) := by decide +kernel
theorem d_Cd_bytesOf_2 : decode prog_5_method_5_code 2 = .ok (.invokevirtual 20, 3) := by decide +kernel
theorem d_Cd_bytesOf_5 : decode prog_5_method_5_code 5 = .ok (.invokestatic 30, 3) := by decide +kernel
theorem d_Cd_bytesOf_8 : decode prog_5_method_5_code 8 = .ok (.ireturn, 1) := by decide +kernel
set_option maxHeartbeats 4000000 in
set_option maxRecDepth 100000 in
theorem c_Cd_bytesOf (l : Launch) (dC : Nat → ClassId) (dI : Nat → Nat → Nat) (h rv rp : Nat) (cV cP : ClassId) (nv : Nat) (fv fp : Nat → Int32) (n0 : Int32) (j : Nat) (o : Option Nat) (hj : j < nv) (hn : nv < 1000000) (hfo : fv j = ut_v o) (ho : cd_ok o) : zR_i l y_Cd_bytesOf w_Cd_bytesOf { frames := 2, cells := 0, slots := 0, locals := 40 } (dC, dI) vwCl [.ref h, .int (nI j)] [(h, .inr (3, [.ref rv, .ref rp, .int n0])), (rv, .inl (cV, nv, .inl fv)), (rp, .inl (cP, nv, .inl fp))] [(cV, .int), (cP, .int)] (fun r : Int32 => r = nI (ut_bo o)) := by
  refine zz_enterR (cc := prog_5_method_5_code) (nL := 2) (ret := (some .int)) (by decide) rfl (Nat.le_of_ble_eq_true rfl) ?_
  intro p e s m below meth c ls C0 hP hK hl
  obtain ⟨hx, hb, hml, hown, hg, hr, hlocks, hin⟩ := C0
  have hS : va_S (fun _ => False) s.heap s.heap [] := va_S.rf
  have hown : s.vm.findClass "TextForge$Codes" = some m.cls := hown
  have hP : va_P (dC, dI) vwCl [(h, .inr (3, [.ref rv, .ref rp, .int n0])), (rv, .inl (cV, nv, .inl fv)), (rp, .inl (cP, nv, .inl fp))] s.heap := hP
  have hK : va_K (dC, dI) vwCl [(cV, .int), (cP, .int)] s := hK
  have hl : lv_has ls 2 [(0, .ref h), (1, .int (nI j))] := hl
  refine lv_aload_n hx hb d_Cd_bytesOf_0 rfl (lv_at hl 0 rfl) ?_
  refine lv_iload_n hx hb d_Cd_bytesOf_1 rfl (lv_at hl 1 rfl) ?_
  have hPc := hP.sub (ws' := [(h, .inr (3, [.ref rv, .ref rp, .int n0])), (rv, .inl (cV, nv, .inl fv)), (rp, .inl (cP, nv, .inl fp))]) [0, 1, 2] rfl
  have hKc := hK.sub (tys' := [(cV, .int), (cP, .int)]) [0, 1] rfl
  refine vp_callSi (W.runV (As := [.int (nI j)]) (rest := []) ⟨hx, hb, hml, hown, hg⟩ (c_Cd_foundAt l dC dI h rv rp cV cP nv fv fp n0 j hj hn) (cwV 1 hg (gi_V kw_499 kw_501 sw_6 kw_8 kw_502) rfl rfl rfl (by decide +kernel) ⟨Nat.le_of_ble_eq_true rfl, Nat.le_of_ble_eq_true rfl⟩) (zz_prJV hPc hKc _ (q0 := 0) (ci := 3) rfl rfl) rfl rfl hl.1 rfl (lv_room (Nat.le_of_ble_eq_true rfl)) d_Cd_bytesOf_2 ⟨Nat.le_of_ble_eq_true rfl, Nat.le_of_ble_eq_true rfl⟩) (fun r_1 hr_1 => ?_)
  rw [hfo] at hr_1
  subst hr_1
  have hPc := hP.sub (ws' := []) [] rfl
  have hKc := hK.sub (tys' := []) [] rfl
  refine vp_callSi (W.runS (As := [.int (ut_v o)]) (rest := []) ⟨hx, hb, hml, hown, hg⟩ (c_Ut_bytesAt l dC dI o (ut_v o) rfl (cd_cl ho)) (va_cwS 1 hg (gi_S kw_503 kw_375 kw_21 kw_376) rfl rfl rfl (by decide +kernel) ⟨Nat.le_of_ble_eq_true rfl, Nat.le_of_ble_eq_true rfl⟩) (zz_prJS hPc hKc _) rfl rfl hl.1 rfl (lv_room (Nat.le_of_ble_eq_true rfl)) d_Cd_bytesOf_5 ⟨Nat.le_of_ble_eq_true rfl, Nat.le_of_ble_eq_true rfl⟩) (fun r_2 hr_2 => ?_)
  subst hr_2
  exact zz_iretR hx hb hr hlocks d_Cd_bytesOf_8 rfl
abbrev y_Cd_widenTo : MethodName := ⟨"TextForge$Codes", "widenTo", "(I)V"⟩
abbrev w_Cd_widenTo : List Cond := Cond.code y_Cd_widenTo prog_5_method_8_code 2 none :: gw
theorem d_Cd_widenTo_0 : decode prog_5_method_8_code 0 = .ok (.iload_n 1, 1) := by decide +kernel
theorem d_Cd_widenTo_1 : decode prog_5_method_8_code 1 = .ok (.aload_n 0, 1) := by decide +kernel
theorem d_Cd_widenTo_2 : decode prog_5_method_8_code 2 = .ok (.getfield 7, 3) := by decide +kernel
theorem d_Cd_widenTo_5 : decode prog_5_method_8_code 5 = .ok (.arraylength, 1) := by decide +kernel
theorem d_Cd_widenTo_6 : decode prog_5_method_8_code 6 = .ok (.if_icmp .le 17, 3) := by decide +kernel
theorem d_Cd_widenTo_9 : decode prog_5_method_8_code 9 = .ok (.aload_n 0, 1) := by decide +kernel
theorem d_Cd_widenTo_10 : decode prog_5_method_8_code 10 = .ok (.iload_n 1, 1) := by decide +kernel
theorem d_Cd_widenTo_11 : decode prog_5_method_8_code 11 = .ok (.newarray .int, 2) := by decide +kernel
theorem d_Cd_widenTo_13 : decode prog_5_method_8_code 13 = .ok (.putfield 7, 3) := by decide +kernel
theorem d_Cd_widenTo_16 : decode prog_5_method_8_code 16 = .ok (.aload_n 0, 1) := by decide +kernel
theorem d_Cd_widenTo_17 : decode prog_5_method_8_code 17 = .ok (.iload_n 1, 1) := by decide +kernel
theorem d_Cd_widenTo_18 : decode prog_5_method_8_code 18 = .ok (.newarray .int, 2) := by decide +kernel
theorem d_Cd_widenTo_20 : decode prog_5_method_8_code 20 = .ok (.putfield 13, 3) := by decide +kernel
theorem d_Cd_widenTo_23 : decode prog_5_method_8_code 23 = .ok (.return_, 1) := by decide +kernel
set_option maxHeartbeats 4000000 in
set_option maxRecDepth 100000 in
theorem c_Cd_widenTo (l : Launch) (dC : Nat → ClassId) (dI : Nat → Nat → Nat) (h rv rp : Nat) (cV cP : ClassId) (nv : Nat) (fv fp : Nat → Int32) (n0 : Int32) (w : Nat) (hw0 : w < 100000) (hn : nv < 1000000) : zM_v (S := Nat × Nat × ClassId × ClassId × Nat × (Nat → Int32) × (Nat → Int32)) l y_Cd_widenTo w_Cd_widenTo { frames := 0, cells := 2, slots := (w + w), locals := 0 } (dC, dI) vwCl [.ref h, .int (nI w)] [(h, .inr (3, [.ref rv, .ref rp, .int n0])), (rv, .inl (cV, nv, .inl fv)), (rp, .inl (cP, nv, .inl fp))] [(cV, .int), (cP, .int)] (fun (u : Nat × Nat × ClassId × ClassId × Nat × (Nat → Int32) × (Nat → Int32)) => match u with | (rv1, rp1, cV1, cP1, nv1, fv1, fp1) => w ≤ nv1 ∧ nv1 < 1000000) (fun u => match u with | (rv1, rp1, cV1, cP1, nv1, fv1, fp1) => [(h, .inr (3, [.ref rv1, .ref rp1, .int n0])), (rv1, .inl (cV1, nv1, .inl fv1)), (rp1, .inl (cP1, nv1, .inl fp1))]) (fun u => match u with | (rv1, rp1, cV1, cP1, nv1, fv1, fp1) => [(cV1, .int), (cP1, .int)]) 2 (w + w) := by
  refine zz_enterv (cc := prog_5_method_8_code) (nL := 2) (ret := none) (by decide) rfl (Nat.le_of_ble_eq_true rfl) ?_
  intro p e s m below meth c A ls C0 hA hS hP hK hD hl
  obtain ⟨hx, hb, hml, hown, hg, hr, hlocks, hin⟩ := C0
  have hown : s.vm.findClass "TextForge$Codes" = some m.cls := hown
  have hP : va_P (dC, dI) vwCl [(h, .inr (3, [.ref rv, .ref rp, .int n0])), (rv, .inl (cV, nv, .inl fv)), (rp, .inl (cP, nv, .inl fp))] s.heap := hP
  have hK : va_K (dC, dI) vwCl [(cV, .int), (cP, .int)] s := hK
  have hD : va_D A [(h, .inr (3, [.ref rv, .ref rp, .int n0])), (rv, .inl (cV, nv, .inl fv)), (rp, .inl (cP, nv, .inl fp))] := hD
  have hl : lv_has ls 2 [(0, .ref h), (1, .int (nI w))] := hl
  refine lv_iload_n hx hb d_Cd_widenTo_0 rfl (lv_at hl 1 rfl) ?_
  refine lv_aload_n hx hb d_Cd_widenTo_1 rfl (lv_at hl 0 rfl) ?_
  refine va_get (D := (dC, dI)) (ci := 3) (v := .ref rv) (C := "TextForge$Codes") (T := TX3) (N := 3) hx hb hg iwX3 hown hK hP 0 rfl rfl 0 (by decide) (hg _ kw_120) (fun _ h9 => h9) rfl d_Cd_widenTo_2 ?_
  refine va_alen (v := nI nv) hx hb hK hP 1 0 rfl rfl rfl d_Cd_widenTo_5 ?_
  refine lv_icmp_le (tgt := 23) hx hb d_Cd_widenTo_6 (by decide) (fun c_6 => ?_) (fun c_6 => ?_)
  · skip
    have f_6 : w ≤ nv := (nI_leI (by omega) (by omega)).mp c_6
    have hP9 := hP.sub (ws' := [(h, .inr (3, [.ref rv, .ref rp, .int n0])), (rv, .inl (cV, nv, .inl fv)), (rp, .inl (cP, nv, .inl fp))]) [0, 1, 2] rfl
    have hD9 := hD.sub (ws' := [(h, .inr (3, [.ref rv, .ref rp, .int n0])), (rv, .inl (cV, nv, .inl fv)), (rp, .inl (cP, nv, .inl fp))]) [0, 1, 2] (by decide) rfl
    have hK9 := hK.sub (tys' := [(cV, .int), (cP, .int)]) [0, 1] rfl
    exact zz_vret hx hb hr hlocks d_Cd_widenTo_23 hS (by first | exact Nat.le_refl _ | decide | omega | (dsimp only; omega)) (by first | exact Nat.le_refl _ | decide | omega | (dsimp only; omega)) (rv, rp, cV, cP, nv, fv, fp) ⟨f_6, by omega⟩ hP9 hK9 hD9
  · skip
    have f_6 : nv < w := Nat.lt_of_not_le (fun z => c_6 (nI_le z (by omega)))
    refine lv_aload_n hx hb d_Cd_widenTo_9 rfl (lv_at hl 0 rfl) ?_
    refine lv_iload_n hx hb d_Cd_widenTo_10 rfl (lv_at hl 1 rfl) ?_
    refine va_newa (atype := .int) (a0 := (w, .inl (fun _ => 0))) hx hb (hg _ kw_130) rfl hK hP hD hS hA (fun _ => rfl) (nI_pos (by omega)) (nI_clamp (by omega)) (by show w * 4 ≤ _; omega) (by first | exact Nat.le_refl _ | decide | omega | (dsimp only; omega)) (by first | exact Nat.le_refl _ | decide | omega | (dsimp only; omega)) d_Cd_widenTo_11 (fun q_1 cA_2 H hK hP hD hS => ?_)
    have hK : va_K (dC, dI) vwCl [(cV, .int), (cP, .int), (cA_2, .int)] s := hK
    have hP : va_P (dC, dI) vwCl [(h, .inr (3, [.ref rv, .ref rp, .int n0])), (rv, .inl (cV, nv, .inl fv)), (rp, .inl (cP, nv, .inl fp)), (q_1, .inl (cA_2, w, .inl (fun _ => 0)))] H := hP
    have hD : va_D A [(h, .inr (3, [.ref rv, .ref rp, .int n0])), (rv, .inl (cV, nv, .inl fv)), (rp, .inl (cP, nv, .inl fp)), (q_1, .inl (cA_2, w, .inl (fun _ => 0)))] := hD
    refine va_put (D := (dC, dI)) (ci := 3) (v := .ref q_1) (ty := .array .int) (C := "TextForge$Codes") (T := TX3) (N := 3) hx hb hg iwX3 tyX3 tyX3_ok nmX3 hown hK hP hD hS 0 rfl rfl 0 (by decide) (hg _ kw_120) (fun _ h9 => h9) rfl (by decide +kernel) rfl rfl (Nat.le_of_ble_eq_true rfl) d_Cd_widenTo_13 (fun H locs hP hD hS => ?_)
    have hP : va_P (dC, dI) vwCl [(h, .inr (3, [.ref q_1, .ref rp, .int n0])), (rv, .inl (cV, nv, .inl fv)), (rp, .inl (cP, nv, .inl fp)), (q_1, .inl (cA_2, w, .inl (fun _ => 0)))] H := hP
    have hD : va_D A [(h, .inr (3, [.ref q_1, .ref rp, .int n0])), (rv, .inl (cV, nv, .inl fv)), (rp, .inl (cP, nv, .inl fp)), (q_1, .inl (cA_2, w, .inl (fun _ => 0)))] := hD
    refine lv_aload_n hx hb d_Cd_widenTo_16 rfl (lv_at hl 0 rfl) ?_
    refine lv_iload_n hx hb d_Cd_widenTo_17 rfl (lv_at hl 1 rfl) ?_
    refine va_newa (atype := .int) (a0 := (w, .inl (fun _ => 0))) hx hb (hg _ kw_130) rfl hK hP hD hS hA (fun _ => rfl) (nI_pos (by omega)) (nI_clamp (by omega)) (by show w * 4 ≤ _; omega) (by first | exact Nat.le_refl _ | decide | omega | (dsimp only; omega)) (by first | exact Nat.le_refl _ | decide | omega | (dsimp only; omega)) d_Cd_widenTo_18 (fun q_3 cA_4 H hK hP hD hS => ?_)
    have hK : va_K (dC, dI) vwCl [(cV, .int), (cP, .int), (cA_2, .int), (cA_4, .int)] s := hK
    have hP : va_P (dC, dI) vwCl [(h, .inr (3, [.ref q_1, .ref rp, .int n0])), (rv, .inl (cV, nv, .inl fv)), (rp, .inl (cP, nv, .inl fp)), (q_1, .inl (cA_2, w, .inl (fun _ => 0))), (q_3, .inl (cA_4, w, .inl (fun _ => 0)))] H := hP
    have hD : va_D A [(h, .inr (3, [.ref q_1, .ref rp, .int n0])), (rv, .inl (cV, nv, .inl fv)), (rp, .inl (cP, nv, .inl fp)), (q_1, .inl (cA_2, w, .inl (fun _ => 0))), (q_3, .inl (cA_4, w, .inl (fun _ => 0)))] := hD
    refine va_put (D := (dC, dI)) (ci := 3) (v := .ref q_3) (ty := .array .int) (C := "TextForge$Codes") (T := TX3) (N := 3) hx hb hg iwX3 tyX3 tyX3_ok nmX3 hown hK hP hD hS 0 rfl rfl 1 (by decide) (hg _ kw_121) (fun _ h9 => h9) rfl (by decide +kernel) rfl rfl (Nat.le_of_ble_eq_true rfl) d_Cd_widenTo_20 (fun H locs hP hD hS => ?_)
    have hP : va_P (dC, dI) vwCl [(h, .inr (3, [.ref q_1, .ref q_3, .int n0])), (rv, .inl (cV, nv, .inl fv)), (rp, .inl (cP, nv, .inl fp)), (q_1, .inl (cA_2, w, .inl (fun _ => 0))), (q_3, .inl (cA_4, w, .inl (fun _ => 0)))] H := hP
    have hD : va_D A [(h, .inr (3, [.ref q_1, .ref q_3, .int n0])), (rv, .inl (cV, nv, .inl fv)), (rp, .inl (cP, nv, .inl fp)), (q_1, .inl (cA_2, w, .inl (fun _ => 0))), (q_3, .inl (cA_4, w, .inl (fun _ => 0)))] := hD
    have hP9 := hP.sub (ws' := [(h, .inr (3, [.ref q_1, .ref q_3, .int n0])), (q_1, .inl (cA_2, w, .inl (fun _ => 0))), (q_3, .inl (cA_4, w, .inl (fun _ => 0)))]) [0, 3, 4] rfl
    have hD9 := hD.sub (ws' := [(h, .inr (3, [.ref q_1, .ref q_3, .int n0])), (q_1, .inl (cA_2, w, .inl (fun _ => 0))), (q_3, .inl (cA_4, w, .inl (fun _ => 0)))]) [0, 3, 4] (by decide) rfl
    have hK9 := hK.sub (tys' := [(cA_2, .int), (cA_4, .int)]) [2, 3] rfl
    exact zz_vret hx hb hr hlocks d_Cd_widenTo_23 hS (by first | exact Nat.le_refl _ | decide | omega | (dsimp only; omega)) (by first | exact Nat.le_refl _ | decide | omega | (dsimp only; omega)) (q_1, q_3, cA_2, cA_4, w, (fun _ => 0), (fun _ => 0)) ⟨Nat.le_refl _, by omega⟩ hP9 hK9 hD9
abbrev y_Cd_take : MethodName := ⟨"TextForge$Codes", "take", "(LTextForge$Bytes;)V"⟩
abbrev w_Cd_take : List Cond := Cond.code y_Cd_take prog_5_method_6_code 3 none :: gw
theorem d_Cd_take_0 : decode prog_5_method_6_code 0 = .ok (.aload_n 0, 1) := by decide +kernel
theorem d_Cd_take_1 : decode prog_5_method_6_code 1 = .ok (.aload_n 1, 1) := by decide +kernel
theorem d_Cd_take_2 : decode prog_5_method_6_code 2 = .ok (.invokevirtual 33, 3) := by decide +kernel
theorem d_Cd_take_5 : decode prog_5_method_6_code 5 = .ok (.invokevirtual 39, 3) := by decide +kernel
theorem d_Cd_take_8 : decode prog_5_method_6_code 8 = .ok (.iconst 0, 1) := by decide +kernel
theorem d_Cd_take_9 : decode prog_5_method_6_code 9 = .ok (.istore_n 2, 1) := by decide +kernel
theorem d_Cd_take_10 : decode prog_5_method_6_code 10 = .ok (.aload_n 0, 1) := by decide +kernel
theorem d_Cd_take_11 : decode prog_5_method_6_code 11 = .ok (.iconst 0, 1) := by decide +kernel
theorem d_Cd_take_12 : decode prog_5_method_6_code 12 = .ok (.putfield 16, 3) := by decide +kernel
theorem d_Cd_take_15 : decode prog_5_method_6_code 15 = .ok (.iload_n 2, 1) := by decide +kernel
theorem d_Cd_take_16 : decode prog_5_method_6_code 16 = .ok (.aload_n 1, 1) := by decide +kernel
theorem d_Cd_take_17 : decode prog_5_method_6_code 17 = .ok (.invokevirtual 33, 3) := by decide +kernel
theorem d_Cd_take_20 : decode prog_5_method_6_code 20 = .ok (.if_icmp .ge 75, 3) := by decide +kernel
theorem d_Cd_take_23 : decode prog_5_method_6_code 23 = .ok (.aload_n 0, 1) := by decide +kernel
theorem d_Cd_take_24 : decode prog_5_method_6_code 24 = .ok (.getfield 16, 3) := by decide +kernel
theorem d_Cd_take_27 : decode prog_5_method_6_code 27 = .ok (.aload_n 0, 1) := by decide +kernel
theorem d_Cd_take_28 : decode prog_5_method_6_code 28 = .ok (.getfield 7, 3) := by decide +kernel
theorem d_Cd_take_31 : decode prog_5_method_6_code 31 = .ok (.arraylength, 1) := by decide +kernel
theorem d_Cd_take_32 : decode prog_5_method_6_code 32 = .ok (.if_icmp .ge 63, 3) := by decide +kernel
theorem d_Cd_take_35 : decode prog_5_method_6_code 35 = .ok (.aload_n 0, 1) := by decide +kernel
theorem d_Cd_take_36 : decode prog_5_method_6_code 36 = .ok (.getfield 16, 3) := by decide +kernel
theorem d_Cd_take_39 : decode prog_5_method_6_code 39 = .ok (.aload_n 0, 1) := by decide +kernel
theorem d_Cd_take_40 : decode prog_5_method_6_code 40 = .ok (.getfield 13, 3) := by decide +kernel
theorem d_Cd_take_43 : decode prog_5_method_6_code 43 = .ok (.arraylength, 1) := by decide +kernel
theorem d_Cd_take_44 : decode prog_5_method_6_code 44 = .ok (.if_icmp .ge 51, 3) := by decide +kernel
theorem d_Cd_take_47 : decode prog_5_method_6_code 47 = .ok (.aload_n 0, 1) := by decide +kernel
theorem d_Cd_take_48 : decode prog_5_method_6_code 48 = .ok (.getfield 7, 3) := by decide +kernel
theorem d_Cd_take_51 : decode prog_5_method_6_code 51 = .ok (.aload_n 0, 1) := by decide +kernel
theorem d_Cd_take_52 : decode prog_5_method_6_code 52 = .ok (.getfield 16, 3) := by decide +kernel
theorem d_Cd_take_55 : decode prog_5_method_6_code 55 = .ok (.aload_n 1, 1) := by decide +kernel
theorem d_Cd_take_56 : decode prog_5_method_6_code 56 = .ok (.iload_n 2, 1) := by decide +kernel
theorem d_Cd_take_57 : decode prog_5_method_6_code 57 = .ok (.invokestatic 43, 3) := by decide +kernel
theorem d_Cd_take_60 : decode prog_5_method_6_code 60 = .ok (.iastore, 1) := by decide +kernel
theorem d_Cd_take_61 : decode prog_5_method_6_code 61 = .ok (.aload_n 0, 1) := by decide +kernel
theorem d_Cd_take_62 : decode prog_5_method_6_code 62 = .ok (.getfield 13, 3) := by decide +kernel
theorem d_Cd_take_65 : decode prog_5_method_6_code 65 = .ok (.aload_n 0, 1) := by decide +kernel
theorem d_Cd_take_66 : decode prog_5_method_6_code 66 = .ok (.getfield 16, 3) := by decide +kernel
theorem d_Cd_take_69 : decode prog_5_method_6_code 69 = .ok (.iload_n 2, 1) := by decide +kernel
theorem d_Cd_take_70 : decode prog_5_method_6_code 70 = .ok (.iastore, 1) := by decide +kernel
theorem d_Cd_take_71 : decode prog_5_method_6_code 71 = .ok (.iload_n 2, 1) := by decide +kernel
theorem d_Cd_take_72 : decode prog_5_method_6_code 72 = .ok (.aload_n 0, 1) := by decide +kernel
theorem d_Cd_take_73 : decode prog_5_method_6_code 73 = .ok (.aload_n 0, 1) := by decide +kernel
theorem d_Cd_take_74 : decode prog_5_method_6_code 74 = .ok (.getfield 16, 3) := by decide +kernel
theorem d_Cd_take_77 : decode prog_5_method_6_code 77 = .ok (.invokevirtual 47, 3) := by decide +kernel
theorem d_Cd_take_80 : decode prog_5_method_6_code 80 = .ok (.iadd, 1) := by decide +kernel
theorem d_Cd_take_81 : decode prog_5_method_6_code 81 = .ok (.istore_n 2, 1) := by decide +kernel
theorem d_Cd_take_82 : decode prog_5_method_6_code 82 = .ok (.aload_n 0, 1) := by decide +kernel
theorem d_Cd_take_83 : decode prog_5_method_6_code 83 = .ok (.dup, 1) := by decide +kernel
theorem d_Cd_take_84 : decode prog_5_method_6_code 84 = .ok (.getfield 16, 3) := by decide +kernel
theorem d_Cd_take_87 : decode prog_5_method_6_code 87 = .ok (.iconst 1, 1) := by decide +kernel
theorem d_Cd_take_88 : decode prog_5_method_6_code 88 = .ok (.iadd, 1) := by decide +kernel
theorem d_Cd_take_89 : decode prog_5_method_6_code 89 = .ok (.putfield 16, 3) := by decide +kernel
theorem d_Cd_take_92 : decode prog_5_method_6_code 92 = .ok (.goto (-77), 3) := by decide +kernel
theorem d_Cd_take_95 : decode prog_5_method_6_code 95 = .ok (.return_, 1) := by decide +kernel
set_option maxHeartbeats 4000000 in
set_option maxRecDepth 100000 in
theorem c_Cd_take (l : Launch) (dC : Nat → ClassId) (dI : Nat → Nat → Nat) (h rv rp : Nat) (cV cP : ClassId) (nv : Nat) (fv fp : Nat → Int32) (n0 : Int32) (h2 r2 : Nat) (cA2 : ClassId) (cap2 : Nat) (f2 : Nat → Int32) (L2 : List Nat) (hn : nv < 1000000) (hL2 : by_L L2 f2) (hc2 : L2.length ≤ cap2) (hk2 : cap2 < 100000) : zM_v (S := Nat × Nat × ClassId × ClassId × Nat × (Nat → Int32) × (Nat → Int32)) l y_Cd_take w_Cd_take { frames := 3, cells := 2, slots := (L2.length + L2.length), locals := 61 } (dC, dI) vwCl [.ref h, .ref h2] [(h, .inr (3, [.ref rv, .ref rp, .int n0])), (rv, .inl (cV, nv, .inl fv)), (rp, .inl (cP, nv, .inl fp)), (h2, .inr (2, [.ref r2, .int (nI L2.length)])), (r2, .inl (cA2, cap2, .inl f2))] [(cV, .int), (cP, .int), (cA2, .byte)] (fun (u : Nat × Nat × ClassId × ClassId × Nat × (Nat → Int32) × (Nat → Int32)) => match u with | (rv1, rp1, cV1, cP1, nv1, fv1, fp1) => cd_P L2 nv1 fv1 fp1) (fun u => match u with | (rv1, rp1, cV1, cP1, nv1, fv1, fp1) => [(h, .inr (3, [.ref rv1, .ref rp1, .int (nI (cd_l L2).length)])), (rv1, .inl (cV1, nv1, .inl fv1)), (rp1, .inl (cP1, nv1, .inl fp1)), (h2, .inr (2, [.ref r2, .int (nI L2.length)])), (r2, .inl (cA2, cap2, .inl f2))]) (fun u => match u with | (rv1, rp1, cV1, cP1, nv1, fv1, fp1) => [(cV1, .int), (cP1, .int), (cA2, .byte)]) 2 (L2.length + L2.length) := by
  refine zz_enterv (cc := prog_5_method_6_code) (nL := 3) (ret := none) (by decide) rfl (Nat.le_of_ble_eq_true rfl) ?_
  intro p e s m below meth c A ls C0 hA hS hP hK hD hl
  obtain ⟨hx, hb, hml, hown, hg, hr, hlocks, hin⟩ := C0
  have hown : s.vm.findClass "TextForge$Codes" = some m.cls := hown
  have hP : va_P (dC, dI) vwCl [(h, .inr (3, [.ref rv, .ref rp, .int n0])), (rv, .inl (cV, nv, .inl fv)), (rp, .inl (cP, nv, .inl fp)), (h2, .inr (2, [.ref r2, .int (nI L2.length)])), (r2, .inl (cA2, cap2, .inl f2))] s.heap := hP
  have hK : va_K (dC, dI) vwCl [(cV, .int), (cP, .int), (cA2, .byte)] s := hK
  have hD : va_D A [(h, .inr (3, [.ref rv, .ref rp, .int n0])), (rv, .inl (cV, nv, .inl fv)), (rp, .inl (cP, nv, .inl fp)), (h2, .inr (2, [.ref r2, .int (nI L2.length)])), (r2, .inl (cA2, cap2, .inl f2))] := hD
  have hl : lv_has ls 3 [(0, .ref h), (1, .ref h2)] := hl
  refine lv_aload_n hx hb d_Cd_take_0 rfl (lv_at hl 0 rfl) ?_
  refine lv_aload_n hx hb d_Cd_take_1 rfl (lv_at hl 1 rfl) ?_
  have hPc := hP.sub (ws' := [(h2, .inr (2, [.ref r2, .int (nI L2.length)]))]) [3] rfl
  have hKc := hK.sub (tys' := []) [] rfl
  refine vp_callSi (W.runV (As := []) (rest := [.ref h]) ⟨hx, hb, hml, hown, hg⟩ (c_By_length l dC dI h2 (.ref r2) (nI L2.length) ) (cwV 0 hg (gi_V kw_489 kw_158 kw_159 kw_2 kw_160) rfl rfl rfl (by decide +kernel) ⟨Nat.le_of_ble_eq_true rfl, Nat.le_of_ble_eq_true rfl⟩) (zz_prJV hPc hKc _ (q0 := 0) (ci := 2) rfl rfl) rfl rfl hl.1 rfl (lv_room (Nat.le_of_ble_eq_true rfl)) d_Cd_take_2 ⟨Nat.zero_le _, Nat.zero_le _⟩) (fun r_1 hr_1 => ?_)
  subst hr_1
  have hPc := hP.sub (ws' := [(h, .inr (3, [.ref rv, .ref rp, .int n0])), (rv, .inl (cV, nv, .inl fv)), (rp, .inl (cP, nv, .inl fp))]) [0, 1, 2] rfl
  have hKc := hK.sub (tys' := [(cV, .int), (cP, .int)]) [0, 1] rfl
  have hDc := hD.sub (ws' := [(h, .inr (3, [.ref rv, .ref rp, .int n0])), (rv, .inl (cV, nv, .inl fv)), (rp, .inl (cP, nv, .inl fp))]) [0, 1, 2] (by decide) rfl
  have hFc := va_free (wc := [(h, .inr (3, [.ref rv, .ref rp, .int n0])), (rv, .inl (cV, nv, .inl fv)), (rp, .inl (cP, nv, .inl fp))]) hD hS hA [0, 1, 2] rfl
  refine zz_callv (va_runV (As := [.int (nI L2.length)]) (rest := []) ⟨hx, hb, hml, hown, hg⟩ (c_Cd_widenTo l dC dI h rv rp cV cP nv fv fp n0 L2.length (by omega) hn s.heap.size) (cwV 1 hg (gi_V kw_490 kw_492 sw_5 kw_8 kw_493) rfl rfl rfl (by decide +kernel) ⟨Nat.le_of_ble_eq_true rfl, Nat.le_of_ble_eq_true rfl⟩) (zz_preV hPc hKc hDc _ (q0 := 0) (ci := 3) rfl rfl) rfl rfl hl.1 rfl (lv_room (Nat.le_of_ble_eq_true rfl)) d_Cd_take_5 ⟨Nat.le_of_ble_eq_true rfl, (by show 0 + (L2.length + L2.length) ≤ _; dsimp only; omega)⟩) hS hFc (fun u H1 k9 p9 d9 => va_join (wr := [(h2, .inr (2, [.ref r2, .int (nI L2.length)])), (r2, .inl (cA2, cap2, .inl f2))]) hP hD [0, 1, 2] [3, 4] rfl rfl (by decide) (by decide) k9 hFc p9 d9) (fun u H locs hw hP hD hK1 hS => ?_)
  obtain ⟨rv1, rp1, cV1, cP1, nv1, fv1, fp1⟩ := u
  try dsimp only at hw
  have hK : va_K (dC, dI) vwCl [(cV, .int), (cP, .int), (cA2, .byte), (cV1, .int), (cP1, .int)] s := hK.app hK1
  have hP : va_P (dC, dI) vwCl [(h2, .inr (2, [.ref r2, .int (nI L2.length)])), (r2, .inl (cA2, cap2, .inl f2)), (h, .inr (3, [.ref rv1, .ref rp1, .int n0])), (rv1, .inl (cV1, nv1, .inl fv1)), (rp1, .inl (cP1, nv1, .inl fp1))] H := hP
  have hD : va_D A [(h2, .inr (2, [.ref r2, .int (nI L2.length)])), (r2, .inl (cA2, cap2, .inl f2)), (h, .inr (3, [.ref rv1, .ref rp1, .int n0])), (rv1, .inl (cV1, nv1, .inl fv1)), (rp1, .inl (cP1, nv1, .inl fp1))] := hD
  obtain ⟨hnw, hn1⟩ := hw
  refine lv_iconst (v := 0) hx hb d_Cd_take_8 (by decide) ?_
  refine lv_istore_n (lv' := [(2, .int 0), (0, .ref h), (1, .ref h2)]) hx hb d_Cd_take_9 rfl hl (by decide) rfl (fun ls hl => ?_)
  refine lv_aload_n hx hb d_Cd_take_10 rfl (lv_at hl 1 rfl) ?_
  refine lv_iconst (v := 0) hx hb d_Cd_take_11 (by decide) ?_
  refine va_put (D := (dC, dI)) (ci := 3) (v := .int 0) (ty := .int) (C := "TextForge$Codes") (T := TX3) (N := 3) hx hb hg iwX3 tyX3 tyX3_ok nmX3 hown hK hP hD hS 2 rfl rfl 2 (by decide) (hg _ kw_122) (fun _ h9 => h9) rfl (by decide +kernel) rfl rfl (Nat.le_of_ble_eq_true rfl) d_Cd_take_12 (fun H locs hP hD hS => ?_)
  have hP : va_P (dC, dI) vwCl [(h2, .inr (2, [.ref r2, .int (nI L2.length)])), (r2, .inl (cA2, cap2, .inl f2)), (h, .inr (3, [.ref rv1, .ref rp1, .int 0])), (rv1, .inl (cV1, nv1, .inl fv1)), (rp1, .inl (cP1, nv1, .inl fp1))] H := hP
  have hD : va_D A [(h2, .inr (2, [.ref r2, .int (nI L2.length)])), (r2, .inl (cA2, cap2, .inl f2)), (h, .inr (3, [.ref rv1, .ref rp1, .int 0])), (rv1, .inl (cV1, nv1, .inl fv1)), (rp1, .inl (cP1, nv1, .inl fp1))] := hD
  refine zz_loop (fun (x : List (Nat × Nat) × Nat × (Nat → Int32) × (Nat → Int32)) H locs ls => match x with | (K, p1, a, b) => va_P (dC, dI) vwCl [(h, .inr (3, [.ref rv1, .ref rp1, .int (nI K.length)])), (rv1, .inl (cV1, nv1, .inl a)), (rp1, .inl (cP1, nv1, .inl b)), (h2, .inr (2, [.ref r2, .int (nI L2.length)])), (r2, .inl (cA2, cap2, .inl f2))] H ∧ va_D A [(h, .inr (3, [.ref rv1, .ref rp1, .int (nI K.length)])), (rv1, .inl (cV1, nv1, .inl a)), (rp1, .inl (cP1, nv1, .inl b)), (h2, .inr (2, [.ref r2, .int (nI L2.length)])), (r2, .inl (cA2, cap2, .inl f2))] ∧ va_S A s.heap H locs ∧ lv_has ls 3 [(0, .ref h), (1, .ref h2), (2, .int (nI p1))] ∧ cd_T L2 K a b ∧ cd_I L2 K p1 ∧ K.length ≤ p1 ∧ p1 ≤ L2.length) (fun x => match x with | (K, p1, a, b) => L2.length - p1) ?_ ([], 0, fv1, fp1) ⟨hP.sub [2, 3, 4, 0, 1] rfl, hD.sub [2, 3, 4, 0, 1] (by decide) rfl, hS, lv_sub hl [1, 2, 0] rfl, (cd_T0 _ _ _), (cd_I0 _), (Nat.le_refl _), (Nat.zero_le _)⟩
  intro x H locs ls hI ih_15
  obtain ⟨K, p1, a, b⟩ := x
  try dsimp only at hI
  obtain ⟨hP, hD, hS, hl, hA, hE, hKp, hp1⟩ := hI
  refine lv_iload_n hx hb d_Cd_take_15 rfl (lv_at hl 2 rfl) ?_
  refine lv_aload_n hx hb d_Cd_take_16 rfl (lv_at hl 1 rfl) ?_
  have hPc := hP.sub (ws' := [(h2, .inr (2, [.ref r2, .int (nI L2.length)]))]) [3] rfl
  have hKc := hK.sub (tys' := []) [] rfl
  refine vp_callSi (W.runV (As := []) (rest := [.int (nI p1)]) ⟨hx, hb, hml, hown, hg⟩ (c_By_length l dC dI h2 (.ref r2) (nI L2.length) ) (cwV 0 hg (gi_V kw_489 kw_158 kw_159 kw_2 kw_160) rfl rfl rfl (by decide +kernel) ⟨Nat.le_of_ble_eq_true rfl, Nat.le_of_ble_eq_true rfl⟩) (zz_prJV hPc hKc _ (q0 := 0) (ci := 2) rfl rfl) rfl rfl hl.1 rfl (lv_room (Nat.le_of_ble_eq_true rfl)) d_Cd_take_17 ⟨(by dsimp only; omega), (by dsimp only; omega)⟩) (fun r_3 hr_3 => ?_)
  subst hr_3
  refine lv_icmp_ge (tgt := 95) hx hb d_Cd_take_20 (by decide) (fun c_20 => ?_) (fun c_20 => ?_)
  · skip
    have ep : p1 = L2.length := by have := Nat.le_of_not_lt (fun z => nI_ge (a := p1) (b := L2.length) z (by omega) c_20); omega
    have hP9 := hP.sub (ws' := [(h, .inr (3, [.ref rv1, .ref rp1, .int (nI K.length)])), (rv1, .inl (cV1, nv1, .inl a)), (rp1, .inl (cP1, nv1, .inl b)), (h2, .inr (2, [.ref r2, .int (nI L2.length)])), (r2, .inl (cA2, cap2, .inl f2))]) [0, 1, 2, 3, 4] rfl
    have hD9 := hD.sub (ws' := [(h, .inr (3, [.ref rv1, .ref rp1, .int (nI K.length)])), (rv1, .inl (cV1, nv1, .inl a)), (rp1, .inl (cP1, nv1, .inl b)), (h2, .inr (2, [.ref r2, .int (nI L2.length)])), (r2, .inl (cA2, cap2, .inl f2))]) [0, 1, 2, 3, 4] (by decide) rfl
    have hK9 := hK.sub (tys' := [(cV1, .int), (cP1, .int), (cA2, .byte)]) [3, 4, 2] rfl
    rw [cd_len hE ep] at hP9 hD9
    exact zz_vret hx hb hr hlocks d_Cd_take_95 hS (by first | exact Nat.le_refl _ | decide | omega | (dsimp only; omega)) (by first | exact Nat.le_refl _ | decide | omega | (dsimp only; omega)) (rv1, rp1, cV1, cP1, nv1, a, b) (cd_fin hA hE ep (by omega)) hP9 hK9 hD9
  · skip
    have f_20 : p1 < L2.length := Nat.lt_of_not_le (fun z => c_20 (nI_le z (by omega)))
    have hi9 : vp_in (nI K.length) nv1 := vp_in_nI (by omega) (by omega)
    refine lv_aload_n hx hb d_Cd_take_23 rfl (lv_at hl 0 rfl) ?_
    refine va_get (D := (dC, dI)) (ci := 3) (v := .int (nI K.length)) (C := "TextForge$Codes") (T := TX3) (N := 3) hx hb hg iwX3 hown hK hP 0 rfl rfl 2 (by decide) (hg _ kw_122) (fun _ h9 => h9) rfl d_Cd_take_24 ?_
    refine lv_aload_n hx hb d_Cd_take_27 rfl (lv_at hl 0 rfl) ?_
    refine va_get (D := (dC, dI)) (ci := 3) (v := .ref rv1) (C := "TextForge$Codes") (T := TX3) (N := 3) hx hb hg iwX3 hown hK hP 0 rfl rfl 0 (by decide) (hg _ kw_120) (fun _ h9 => h9) rfl d_Cd_take_28 ?_
    refine va_alen (v := nI nv1) hx hb hK hP 1 3 rfl rfl rfl d_Cd_take_31 ?_
    refine lv_icmp_ge (tgt := 95) hx hb d_Cd_take_32 (by decide) (fun c9 => by first | exact absurd c9 (nI_ge (by omega) (by omega)) | exact absurd (nI_ge (by omega) (by omega)) c9) (fun _ => ?_)
    refine lv_aload_n hx hb d_Cd_take_35 rfl (lv_at hl 0 rfl) ?_
    refine va_get (D := (dC, dI)) (ci := 3) (v := .int (nI K.length)) (C := "TextForge$Codes") (T := TX3) (N := 3) hx hb hg iwX3 hown hK hP 0 rfl rfl 2 (by decide) (hg _ kw_122) (fun _ h9 => h9) rfl d_Cd_take_36 ?_
    refine lv_aload_n hx hb d_Cd_take_39 rfl (lv_at hl 0 rfl) ?_
    refine va_get (D := (dC, dI)) (ci := 3) (v := .ref rp1) (C := "TextForge$Codes") (T := TX3) (N := 3) hx hb hg iwX3 hown hK hP 0 rfl rfl 1 (by decide) (hg _ kw_121) (fun _ h9 => h9) rfl d_Cd_take_40 ?_
    refine va_alen (v := nI nv1) hx hb hK hP 2 4 rfl rfl rfl d_Cd_take_43 ?_
    refine lv_icmp_ge (tgt := 95) hx hb d_Cd_take_44 (by decide) (fun c9 => by first | exact absurd c9 (nI_ge (by omega) (by omega)) | exact absurd (nI_ge (by omega) (by omega)) c9) (fun _ => ?_)
    refine lv_aload_n hx hb d_Cd_take_47 rfl (lv_at hl 0 rfl) ?_
    refine va_get (D := (dC, dI)) (ci := 3) (v := .ref rv1) (C := "TextForge$Codes") (T := TX3) (N := 3) hx hb hg iwX3 hown hK hP 0 rfl rfl 0 (by decide) (hg _ kw_120) (fun _ h9 => h9) rfl d_Cd_take_48 ?_
    refine lv_aload_n hx hb d_Cd_take_51 rfl (lv_at hl 0 rfl) ?_
    refine va_get (D := (dC, dI)) (ci := 3) (v := .int (nI K.length)) (C := "TextForge$Codes") (T := TX3) (N := 3) hx hb hg iwX3 hown hK hP 0 rfl rfl 2 (by decide) (hg _ kw_122) (fun _ h9 => h9) rfl d_Cd_take_52 ?_
    refine lv_aload_n hx hb d_Cd_take_55 rfl (lv_at hl 1 rfl) ?_
    refine lv_iload_n hx hb d_Cd_take_56 rfl (lv_at hl 2 rfl) ?_
    have hPc := hP.sub (ws' := [(h2, .inr (2, [.ref r2, .int (nI L2.length)])), (r2, .inl (cA2, cap2, .inl f2))]) [3, 4] rfl
    have hKc := hK.sub (tys' := [(cA2, .byte)]) [2] rfl
    refine vp_callSi (W.runS (As := [.ref h2, .int (nI p1)]) (rest := [.int (nI K.length), .ref rv1]) ⟨hx, hb, hml, hown, hg⟩ (c_Ut_codeAt l dC dI h2 r2 cA2 cap2 f2 L2 p1 hL2 hc2 (by omega) (by omega)) (va_cwS 2 hg (gi_S kw_494 kw_361 kw_21 kw_362) rfl rfl rfl (by decide +kernel) ⟨Nat.le_of_ble_eq_true rfl, Nat.le_of_ble_eq_true rfl⟩) (zz_prJS hPc hKc _) rfl rfl hl.1 rfl (lv_room (Nat.le_of_ble_eq_true rfl)) d_Cd_take_57 ⟨(by dsimp only; omega), (by dsimp only; omega)⟩) (fun r_4 hr_4 => ?_)
    subst hr_4
    refine va_iast hx hb hK hP hD hS 1 3 rfl rfl hi9 d_Cd_take_60 (fun H locs hP hD hS => ?_)
    have hP : va_P (dC, dI) vwCl [(h, .inr (3, [.ref rv1, .ref rp1, .int (nI K.length)])), (rv1, .inl (cV1, nv1, .inl (upd a (nI K.length).toNatClampNeg (ut_v (ut_at L2 p1))))), (rp1, .inl (cP1, nv1, .inl b)), (h2, .inr (2, [.ref r2, .int (nI L2.length)])), (r2, .inl (cA2, cap2, .inl f2))] H := hP
    have hD : va_D A [(h, .inr (3, [.ref rv1, .ref rp1, .int (nI K.length)])), (rv1, .inl (cV1, nv1, .inl (upd a (nI K.length).toNatClampNeg (ut_v (ut_at L2 p1))))), (rp1, .inl (cP1, nv1, .inl b)), (h2, .inr (2, [.ref r2, .int (nI L2.length)])), (r2, .inl (cA2, cap2, .inl f2))] := hD
    refine lv_aload_n hx hb d_Cd_take_61 rfl (lv_at hl 0 rfl) ?_
    refine va_get (D := (dC, dI)) (ci := 3) (v := .ref rp1) (C := "TextForge$Codes") (T := TX3) (N := 3) hx hb hg iwX3 hown hK hP 0 rfl rfl 1 (by decide) (hg _ kw_121) (fun _ h9 => h9) rfl d_Cd_take_62 ?_
    refine lv_aload_n hx hb d_Cd_take_65 rfl (lv_at hl 0 rfl) ?_
    refine va_get (D := (dC, dI)) (ci := 3) (v := .int (nI K.length)) (C := "TextForge$Codes") (T := TX3) (N := 3) hx hb hg iwX3 hown hK hP 0 rfl rfl 2 (by decide) (hg _ kw_122) (fun _ h9 => h9) rfl d_Cd_take_66 ?_
    refine lv_iload_n hx hb d_Cd_take_69 rfl (lv_at hl 2 rfl) ?_
    refine va_iast hx hb hK hP hD hS 2 4 rfl rfl hi9 d_Cd_take_70 (fun H locs hP hD hS => ?_)
    have hP : va_P (dC, dI) vwCl [(h, .inr (3, [.ref rv1, .ref rp1, .int (nI K.length)])), (rv1, .inl (cV1, nv1, .inl (upd a (nI K.length).toNatClampNeg (ut_v (ut_at L2 p1))))), (rp1, .inl (cP1, nv1, .inl (upd b (nI K.length).toNatClampNeg (nI p1)))), (h2, .inr (2, [.ref r2, .int (nI L2.length)])), (r2, .inl (cA2, cap2, .inl f2))] H := hP
    have hD : va_D A [(h, .inr (3, [.ref rv1, .ref rp1, .int (nI K.length)])), (rv1, .inl (cV1, nv1, .inl (upd a (nI K.length).toNatClampNeg (ut_v (ut_at L2 p1))))), (rp1, .inl (cP1, nv1, .inl (upd b (nI K.length).toNatClampNeg (nI p1)))), (h2, .inr (2, [.ref r2, .int (nI L2.length)])), (r2, .inl (cA2, cap2, .inl f2))] := hD
    refine lv_iload_n hx hb d_Cd_take_71 rfl (lv_at hl 2 rfl) ?_
    refine lv_aload_n hx hb d_Cd_take_72 rfl (lv_at hl 0 rfl) ?_
    refine lv_aload_n hx hb d_Cd_take_73 rfl (lv_at hl 0 rfl) ?_
    refine va_get (D := (dC, dI)) (ci := 3) (v := .int (nI K.length)) (C := "TextForge$Codes") (T := TX3) (N := 3) hx hb hg iwX3 hown hK hP 0 rfl rfl 2 (by decide) (hg _ kw_122) (fun _ h9 => h9) rfl d_Cd_take_74 ?_
    have hPc := hP.sub (ws' := [(h, .inr (3, [.ref rv1, .ref rp1, .int (nI K.length)])), (rv1, .inl (cV1, nv1, .inl (upd a (nI K.length).toNatClampNeg (ut_v (ut_at L2 p1))))), (rp1, .inl (cP1, nv1, .inl (upd b (nI K.length).toNatClampNeg (nI p1))))]) [0, 1, 2] rfl
    have hKc := hK.sub (tys' := [(cV1, .int), (cP1, .int)]) [3, 4] rfl
    refine vp_callSi (W.runV (As := [.int (nI K.length)]) (rest := [.int (nI p1)]) ⟨hx, hb, hml, hown, hg⟩ (c_Cd_bytesOf l dC dI h rv1 rp1 cV1 cP1 nv1 (upd a (nI K.length).toNatClampNeg (ut_v (ut_at L2 p1))) (upd b (nI K.length).toNatClampNeg (nI p1)) (nI K.length) K.length (ut_at L2 p1) (by omega) hn1 (by rw [nI_clamp (by omega)]; exact pk_us) ⟨_, _, rfl⟩) (cwV 1 hg (gi_V kw_495 kw_496 kw_497 kw_8 kw_498) rfl rfl rfl (by decide +kernel) ⟨Nat.le_of_ble_eq_true rfl, Nat.le_of_ble_eq_true rfl⟩) (zz_prJV hPc hKc _ (q0 := 0) (ci := 3) rfl rfl) rfl rfl hl.1 rfl (lv_room (Nat.le_of_ble_eq_true rfl)) d_Cd_take_77 ⟨(by dsimp only; omega), (by dsimp only; omega)⟩) (fun r_5 hr_5 => ?_)
    subst hr_5
    refine lv_iadd hx hb d_Cd_take_80 ?_
    refine lv_istore_n (lv' := [(2, .int ((nI p1) + (nI (ut_bo (ut_at L2 p1))))), (0, .ref h), (1, .ref h2)]) hx hb d_Cd_take_81 rfl hl (by decide) rfl (fun ls hl => ?_)
    refine lv_aload_n hx hb d_Cd_take_82 rfl (lv_at hl 1 rfl) ?_
    refine lv_dup hx hb d_Cd_take_83 rfl ?_
    refine va_get (D := (dC, dI)) (ci := 3) (v := .int (nI K.length)) (C := "TextForge$Codes") (T := TX3) (N := 3) hx hb hg iwX3 hown hK hP 0 rfl rfl 2 (by decide) (hg _ kw_122) (fun _ h9 => h9) rfl d_Cd_take_84 ?_
    refine lv_iconst (v := 1) hx hb d_Cd_take_87 (by decide) ?_
    refine lv_iadd hx hb d_Cd_take_88 ?_
    refine va_put (D := (dC, dI)) (ci := 3) (v := .int ((nI K.length) + 1)) (ty := .int) (C := "TextForge$Codes") (T := TX3) (N := 3) hx hb hg iwX3 tyX3 tyX3_ok nmX3 hown hK hP hD hS 0 rfl rfl 2 (by decide) (hg _ kw_122) (fun _ h9 => h9) rfl (by decide +kernel) rfl rfl (Nat.le_of_ble_eq_true rfl) d_Cd_take_89 (fun H locs hP hD hS => ?_)
    have hP : va_P (dC, dI) vwCl [(h, .inr (3, [.ref rv1, .ref rp1, .int ((nI K.length) + 1)])), (rv1, .inl (cV1, nv1, .inl (upd a (nI K.length).toNatClampNeg (ut_v (ut_at L2 p1))))), (rp1, .inl (cP1, nv1, .inl (upd b (nI K.length).toNatClampNeg (nI p1)))), (h2, .inr (2, [.ref r2, .int (nI L2.length)])), (r2, .inl (cA2, cap2, .inl f2))] H := hP
    have hD : va_D A [(h, .inr (3, [.ref rv1, .ref rp1, .int ((nI K.length) + 1)])), (rv1, .inl (cV1, nv1, .inl (upd a (nI K.length).toNatClampNeg (ut_v (ut_at L2 p1))))), (rp1, .inl (cP1, nv1, .inl (upd b (nI K.length).toNatClampNeg (nI p1)))), (h2, .inr (2, [.ref r2, .int (nI L2.length)])), (r2, .inl (cA2, cap2, .inl f2))] := hD
    refine lv_goto (tgt := 15) hx hb d_Cd_take_92 (by decide) ?_
    rw [cd_c1 K (cd_v (ut_at L2 p1), p1)] at hP hD
    rw [nI_add] at hl
    exact ih_15 ((K ++ [(cd_v (ut_at L2 p1), p1)]), p1 + ut_bo (ut_at L2 p1), (upd a (nI K.length).toNatClampNeg (ut_v (ut_at L2 p1))), (upd b (nI K.length).toNatClampNeg (nI p1))) H locs ls ⟨hP.sub [0, 1, 2, 3, 4] rfl, hD.sub [0, 1, 2, 3, 4] (by decide) rfl, hS, lv_sub hl [1, 2, 0] rfl, (cd_Ts hA (by omega)), (cd_E hE f_20), (cd_kl hKp (qt_pos _)), (qt_le hL2 f_20)⟩ (by dsimp only; have := qt_pos (ut_at L2 p1); omega)
