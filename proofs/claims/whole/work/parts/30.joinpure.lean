/-! TEXTFORGE: join, format -/
/-- the plain text of an argument -/
def ag_p (g : Ag) : List Nat := match g with
  | (_, k, x, _, _, _, B) => if k = 3 then B else if k = 0 ∨ k = 1 then pp_n k x else kxB (ar_w k x)
def jn_1 (bl : Bool) (j : Nat) : List Nat := if bl = true ∧ 0 < j then [32] else []
def jn_2 (o : Option Ag) : List Nat := match o with
  | some g => ag_p g
  | none => []
/-- the first j arguments in a row -/
def jn (bl : Bool) (AL : List Ag) : Nat → List Nat
  | 0 => []
  | j + 1 => jn bl AL j ++ (jn_1 bl j ++ jn_2 AL[j]?)
theorem ag_drop (cB : ClassId) {X pl : va_W} {D : va_G} {cl : List vw_C} {H : Heap} {A : Nat → Prop} (hP : va_P D cl (X ++ pl) H) (hD : va_D A (X ++ pl)) : va_P D cl (X ++ ag_W cB []) H ∧ va_D A (X ++ ag_W cB []) :=
  pz_subl hP hD (by rw [show ag_W cB [] = [] from rfl, List.append_nil]; exact List.sublist_append_left _ _)
/-! FORMAT: a step with a byte, as the class does it and without a bound -/
def pd_o (O : List Nat) (w : Nat) (b : Bool) : List Nat := if b then O ++ List.replicate (w - O.length) 32 else List.replicate (w - O.length) 32 ++ O
def pb_p (v : Nat) (bm bp bz : Bool) (wd us : Nat) (AL : List Ag) : List Nat := if v = 37 then [37] else match pb_x v bm bp bz wd us AL with
  | some O => pd_o O wd bm
  | none => [37, 33, v]
abbrev Fs : Type := List Nat × Dv × Nat
def fo_c (AL : List Ag) (z : Fs) (v : Nat) : Fs := match z with
  | (G, (q, mi, pl, ze, wd, le), us) =>
    if q = 0 then (if v = 37 then (G, (1, false, false, false, 0, le), us) else (by_ap 4195 G [v], (q, mi, pl, ze, wd, le), us))
    else match di_t (q, mi, pl, ze, wd, le) v with
      | (q1, mi1, pl1, ze1, wd1, le1) => if q1 = 0 then (pb_l 4195 G le1 mi1 pl1 ze1 wd1 us AL, (q1, mi1, pl1, ze1, wd1, le1), pb_u le1 us) else (G, (q1, mi1, pl1, ze1, wd1, le1), us)
def fo_i (AL : List Ag) (z : Fs) (v : Nat) : Fs := match z with
  | (G, (q, mi, pl, ze, wd, le), us) =>
    if q = 0 then (if v = 37 then (G, (1, false, false, false, 0, le), us) else (G ++ [v], (q, mi, pl, ze, wd, le), us))
    else match di_t (q, mi, pl, ze, wd, le) v with
      | (q1, mi1, pl1, ze1, wd1, le1) => if q1 = 0 then (G ++ pb_p le1 mi1 pl1 ze1 wd1 us AL, (q1, mi1, pl1, ze1, wd1, le1), pb_u le1 us) else (G, (q1, mi1, pl1, ze1, wd1, le1), us)
def fo_e (z : Fs) : List Nat := if z.2.1.1 = 0 then z.1 else z.1 ++ [37, 33]
/-- the whole text of a format -/
def fo_R (AL : List Ag) (F : List Nat) : List Nat := fo_e (F.foldl (fo_i AL) ([], (0, false, false, false, 0, 0), 0))
def fo_g (C I : List Nat) : Prop := C.take 4096 = I.take 4096 ∧ C.length = min I.length 4195
theorem fo_gap {C I : List Nat} (M : List Nat) (h : fo_g C I) : fo_g (by_ap 4195 C M) (I ++ M) := by
  obtain ⟨h1, h2⟩ := h
  refine ⟨?_, by unfold by_ap; rw [List.length_take, List.length_append, List.length_append]; omega⟩
  unfold by_ap
  rw [List.take_take, Nat.min_eq_left (by decide)]
  rcases Nat.le_total I.length 4096 with z | z
  · have : C = I := by rw [List.take_of_length_le (by omega), List.take_of_length_le z] at h1; exact h1
    rw [this]
  · rw [List.take_append_of_le_length (by omega), List.take_append_of_le_length z, h1]
theorem by_pd_eq (G O : List Nat) (d : Nat) : by_pd G.length d (G ++ (O ++ List.replicate d 32)) = G ++ (List.replicate d 32 ++ O) := by
  apply List.ext_getElem?
  intro k
  unfold by_pd
  rw [List.getElem?_map]
  by_cases hk : k < (G ++ (O ++ List.replicate d 32)).length
  · rw [List.getElem?_range hk, Option.map_some]
    rw [List.length_append, List.length_append, List.length_replicate] at hk
    by_cases h1 : k < G.length
    · rw [if_pos h1, List.getD_eq_getElem?_getD, List.getElem?_append_left h1, List.getElem?_append_left h1, List.getElem?_eq_getElem h1]; rfl
    · rw [if_neg h1, List.getElem?_append_right (by omega)]
      by_cases h2 : G.length + d ≤ k
      · rw [if_pos h2, List.getD_eq_getElem?_getD, List.getElem?_append_right (by omega), List.getElem?_append_left (by omega), List.getElem?_append_right (by rw [List.length_replicate]; omega), List.length_replicate, List.getElem?_eq_getElem (by omega)]
        rw [List.getElem?_eq_getElem (by omega)]
        simp only [Option.getD_some, Option.some.injEq]
        congr 1
        omega
      · rw [if_neg h2, List.getElem?_append_left (by rw [List.length_replicate]; omega), List.getElem?_replicate, if_pos (by omega)]
  · rw [List.getElem?_eq_none (by rw [List.length_range]; omega), List.getElem?_eq_none (by rw [List.length_append, List.length_append, List.length_replicate] at hk ⊢; omega)]; rfl
theorem by_pd_take {a d : Nat} {M : List Nat} (h : 4096 ≤ a) : (by_pd a d M).take 4096 = M.take 4096 := by
  apply List.ext_getElem?
  intro k
  rw [List.getElem?_take, List.getElem?_take]
  by_cases h1 : k < 4096
  · rw [if_pos h1, if_pos h1]
    unfold by_pd
    rw [List.getElem?_map]
    by_cases h2 : k < M.length
    · rw [List.getElem?_range h2, Option.map_some, if_pos (by omega), List.getD_eq_getElem?_getD, List.getElem?_eq_getElem h2]; rfl
    · rw [List.getElem?_eq_none (by rw [List.length_range]; omega), List.getElem?_eq_none (by omega)]; rfl
  · rw [if_neg h1, if_neg h1]
theorem pd_o_len (O : List Nat) (w : Nat) (b : Bool) : (pd_o O w b).length = max O.length w := by
  unfold pd_o
  cases b <;> simp <;> omega
theorem by_ap_l (cap : Nat) (L M : List Nat) : (by_ap cap L M).length = min cap (L.length + M.length) := by unfold by_ap; rw [List.length_take, List.length_append]
theorem fo_gpad {C I : List Nat} (O : List Nat) {w : Nat} (b : Bool) (hw : w ≤ 99) (h : fo_g C I) : fo_g (by_pad 4195 (by_ap 4195 C O) C.length w b) (I ++ pd_o O w b) := by
  by_cases hs : w ≤ (by_ap 4195 C O).length - C.length
  · rw [by_pad_s hs]
    have hl := by_ap_l 4195 C O
    by_cases hO : w ≤ O.length
    · have e : pd_o O w b = O := by unfold pd_o; rw [Nat.sub_eq_zero_of_le hO]; cases b <;> simp
      rw [e]; exact fo_gap O h
    · omega
  · have hl := by_ap_l 4195 C O
    obtain ⟨h1, h2⟩ := id h
    rcases Nat.le_total I.length 4096 with z | z
    · have e : C = I := by rw [List.take_of_length_le (by omega), List.take_of_length_le z] at h1; exact h1
      subst e
      have hO : O.length < w := by omega
      have e1 : by_ap 4195 C O = C ++ O := by_ap_fit (by omega)
      have e2 : (C ++ O).length - C.length = O.length := by rw [List.length_append]; omega
      have e3 : by_ap 4195 (C ++ O) (List.replicate (w - O.length) 32) = C ++ (O ++ List.replicate (w - O.length) 32) := by rw [by_ap_fit (by rw [List.length_append, List.length_replicate]; omega), List.append_assoc]
      rw [e1] at hs ⊢
      rw [e2] at hs
      cases b
      · rw [by_pad_f (d := w - O.length) (by rw [e2]; exact hs) (by rw [e2]) rfl e3, by_pd_eq]
        exact ⟨rfl, by simp only [List.length_append, pd_o_len, List.length_replicate]; omega⟩
      · rw [by_pad_b (d := w - O.length) (by rw [e2]; exact hs) (by rw [e2]) rfl e3]
        exact ⟨rfl, by simp only [List.length_append, pd_o_len, List.length_replicate]; omega⟩
    · have q1 : (by_ap 4195 C O).take 4096 = I.take 4096 := by
        unfold by_ap; rw [List.take_take, Nat.min_eq_left (by decide), List.take_append_of_le_length (by omega), h1]
      have q2 : (I ++ pd_o O w b).take 4096 = I.take 4096 := List.take_append_of_le_length z
      have q3 : (by_ap 4195 (by_ap 4195 C O) (List.replicate (w - ((by_ap 4195 C O).length - C.length)) 32)).take 4096 = I.take 4096 := by
        rw [by_ap_ap]; unfold by_ap; rw [List.take_take, Nat.min_eq_left (by decide), List.take_append_of_le_length (by omega), h1]
      have q4 : (by_ap 4195 (by_ap 4195 C O) (List.replicate (w - ((by_ap 4195 C O).length - C.length)) 32)).length = min (I ++ pd_o O w b).length 4195 := by
        rw [by_ap_l, List.length_replicate, List.length_append, pd_o_len]; omega
      cases b
      · rw [by_pad_f hs rfl rfl rfl]
        exact ⟨by rw [by_pd_take (by omega), q3, q2], by rw [by_pd_len, q4]⟩
      · rw [by_pad_b hs rfl rfl rfl]
        exact ⟨by rw [q3, q2], q4⟩
def fo_w (q wd : Nat) : Prop := q = 0 ∨ (q = 1 ∧ wd = 0) ∨ (q = 2 ∧ wd ≤ 9) ∨ (q = 3 ∧ wd ≤ 99)
def fo_r (z y : Fs) : Prop := fo_g z.1 y.1 ∧ z.2.2 = y.2.2 ∧ z.2.1.1 = y.2.1.1 ∧ fo_w z.2.1.1 z.2.1.2.2.2.2.1 ∧ (z.2.1.1 ≠ 0 → z.2.1.2.1 = y.2.1.2.1 ∧ z.2.1.2.2.1 = y.2.1.2.2.1 ∧ z.2.1.2.2.2.1 = y.2.1.2.2.2.1 ∧ z.2.1.2.2.2.2.1 = y.2.1.2.2.2.2.1)
theorem di_c {q wd le v : Nat} {mi pl ze : Bool} (h : ¬ (q = 1 ∧ (v = 45 ∨ v = 43 ∨ v = 48))) (h2 : ¬ (q ≠ 3 ∧ 48 ≤ v ∧ v ≤ 57)) : di_t (q, mi, pl, ze, wd, le) v = (0, mi, pl, ze, wd, v) := by
  show (if q = 1 ∧ (v = 45 ∨ v = 43 ∨ v = 48) then _ else _) = _; rw [if_neg h, if_neg h2]
theorem di_f {q wd le v : Nat} {mi pl ze : Bool} (h : q = 1 ∧ (v = 45 ∨ v = 43 ∨ v = 48)) : di_t (q, mi, pl, ze, wd, le) v = (q, mi || v == 45, pl || v == 43, ze || v == 48, wd, le) := by
  show (if q = 1 ∧ (v = 45 ∨ v = 43 ∨ v = 48) then _ else _) = _; rw [if_pos h]
theorem di_d {q wd le v : Nat} {mi pl ze : Bool} (h : ¬ (q = 1 ∧ (v = 45 ∨ v = 43 ∨ v = 48))) (h2 : q ≠ 3 ∧ 48 ≤ v ∧ v ≤ 57) : di_t (q, mi, pl, ze, wd, le) v = (if q = 1 then 2 else 3, mi, pl, ze, wd * 10 + v - 48, le) := by
  show (if q = 1 ∧ (v = 45 ∨ v = 43 ∨ v = 48) then _ else _) = _; rw [if_neg h, if_pos h2]
theorem pb_rel {C I : List Nat} {v wd us : Nat} {bm bp bz : Bool} {AL : List Ag} (hw : wd ≤ 99) (h : fo_g C I) : fo_g (pb_l 4195 C v bm bp bz wd us AL) (I ++ pb_p v bm bp bz wd us AL) := by
  unfold pb_l pb_p
  by_cases h37 : v = 37
  · rw [if_pos h37, if_pos h37]; exact fo_gap _ h
  · rw [if_neg h37, if_neg h37]
    cases pb_x v bm bp bz wd us AL with
    | none => exact fo_gap _ h
    | some O => exact fo_gpad O bm hw h
theorem fo_step {AL : List Ag} {z y : Fs} (v : Nat) (h : fo_r z y) : fo_r (fo_c AL z v) (fo_i AL y v) := by
  obtain ⟨G, ⟨q, mi, pl, ze, wd, le⟩, us⟩ := z
  obtain ⟨G2, ⟨q2, mi2, pl2, ze2, wd2, le2⟩, us2⟩ := y
  obtain ⟨h1, h2, h3, h4, h5⟩ := h
  dsimp only at h1 h2 h3 h4 h5
  subst h2; subst h3
  unfold fo_c fo_i
  dsimp only
  by_cases hq : q = 0
  · rw [if_pos hq, if_pos hq]
    by_cases hv : v = 37
    · rw [if_pos hv, if_pos hv]
      exact ⟨h1, rfl, rfl, Or.inr (Or.inl ⟨rfl, rfl⟩), fun _ => ⟨rfl, rfl, rfl, rfl⟩⟩
    · rw [if_neg hv, if_neg hv]
      exact ⟨fo_gap _ h1, rfl, rfl, Or.inl hq, fun z => absurd hq z⟩
  · rw [if_neg hq, if_neg hq]
    obtain ⟨e1, e2, e3, e4⟩ := h5 hq
    subst e1; subst e2; subst e3; subst e4
    have hw : wd ≤ 99 := by rcases h4 with z | z | z | z <;> omega
    by_cases ha : q = 1 ∧ (v = 45 ∨ v = 43 ∨ v = 48)
    · rw [di_f ha, di_f ha]
      dsimp only
      rw [if_neg hq, if_neg hq]
      exact ⟨h1, rfl, rfl, h4, fun _ => ⟨rfl, rfl, rfl, rfl⟩⟩
    · by_cases hb : q ≠ 3 ∧ 48 ≤ v ∧ v ≤ 57
      · rw [di_d ha hb, di_d ha hb]
        dsimp only
        have hne : ¬ (if q = 1 then 2 else 3) = 0 := by split <;> decide
        rw [if_neg hne, if_neg hne]
        refine ⟨h1, rfl, rfl, ?_, fun _ => ⟨rfl, rfl, rfl, rfl⟩⟩
        show fo_w (if q = 1 then 2 else 3) (wd * 10 + v - 48)
        unfold fo_w at h4 ⊢
        by_cases hq1 : q = 1
        · rw [if_pos hq1]; omega
        · rw [if_neg hq1]; omega
      · rw [di_c ha hb, di_c ha hb]
        dsimp only
        rw [if_pos rfl, if_pos rfl]
        exact ⟨pb_rel hw h1, rfl, rfl, Or.inl rfl, fun z => absurd rfl z⟩
theorem fo_fold {AL : List Ag} (F : List Nat) : ∀ {z y : Fs}, fo_r z y → fo_r (F.foldl (fo_c AL) z) (F.foldl (fo_i AL) y) := by
  induction F with
  | nil => intro z y h; exact h
  | cons v F ih => intro z y h; rw [List.foldl_cons, List.foldl_cons]; exact ih (fo_step v h)
theorem fo_fin {AL : List Ag} {F : List Nat} {mi pl ze : Bool} {wd le : Nat} {z : Fs} (h : F.foldl (fo_c AL) ([], (0, mi, pl, ze, wd, le), 0) = z) :
    List.take 4096 (if z.2.1.1 = 0 then z.1 else by_ap 4195 z.1 [37, 33]) = List.take 4096 (fo_R AL F) := by
  have r := fo_fold (AL := AL) F (z := ([], (0, mi, pl, ze, wd, le), 0)) (y := ([], (0, false, false, false, 0, 0), 0)) ⟨⟨rfl, rfl⟩, rfl, rfl, Or.inl rfl, fun z => absurd rfl z⟩
  rw [h] at r
  unfold fo_R fo_e
  obtain ⟨h1, h2, h3, h4, h5⟩ := r
  by_cases hq : z.2.1.1 = 0
  · rw [if_pos hq, if_pos (h3.symm.trans hq)]; exact h1.1
  · rw [if_neg hq, if_neg (fun e => hq (h3.trans e))]; exact (fo_gap _ h1).1
theorem by_L_nil {f : Nat → Int32} : by_L [] f := fun j hj => absurd hj (Nat.not_lt_zero j)
theorem kp_f {M : List Nat} : List.take 4096 (by_ap 4195 [] M) = List.take 4096 M := by
  unfold by_ap; rw [List.nil_append, List.take_take]; rfl
theorem jn_N {AL : List Ag} {j k a h r : Nat} {x : Int64} {f : Nat → Int32} {B : List Nat} (hg : AL[j]? = some (a, k, x, h, r, f, B)) (hk : k = 0 ∨ k = 1) : jn_2 AL[j]? = pp_n k x := by
  rw [hg]; show (if k = 3 then B else if k = 0 ∨ k = 1 then pp_n k x else kxB (ar_w k x)) = _; rw [if_neg (by omega), if_pos hk]
theorem jn_T {AL : List Ag} {j a h r : Nat} {x : Int64} {f : Nat → Int32} {B : List Nat} (hg : AL[j]? = some (a, 3, x, h, r, f, B)) : jn_2 AL[j]? = B := by
  rw [hg]; rfl
theorem jn_W {AL : List Ag} {j k a h r : Nat} {x : Int64} {f : Nat → Int32} {B : List Nat} (hg : AL[j]? = some (a, k, x, h, r, f, B)) (hk : (k = 2 ∧ (x = 0 ∨ x = 1)) ∨ (k = 4 ∧ ∃ j, j < 10 ∧ x = (nI j - 1).toInt64)) : jn_2 AL[j]? = kxB (ar_w k x) := by
  rw [hg]; show (if k = 3 then B else if k = 0 ∨ k = 1 then pp_n k x else kxB (ar_w k x)) = _; rw [if_neg (pa_n3 hk), if_neg (by rcases hk with ⟨rfl, _⟩ | ⟨rfl, _⟩ <;> decide)]
theorem fo_nx {F : List Nat} {i : Nat} {f : Fs → Nat → Fs} {z : Fs} (h : i < F.length) : (F.take (i + 1)).foldl f z = f ((F.take i).foldl f z) (F.getD i 0) := by
  rw [List.take_succ, List.foldl_append, List.getElem?_eq_getElem h, List.getD_eq_getElem?_getD, List.getElem?_eq_getElem h]; rfl
section FOC
variable {AL : List Ag} {G : List Nat} {q wd le us v q1 wd1 le1 : Nat} {mi pl ze mi1 pl1 ze1 : Bool}
theorem fo_co (h : q = 0) (hv : v = 37) : fo_c AL (G, (q, mi, pl, ze, wd, le), us) v = (G, (1, false, false, false, 0, le), us) := by
  unfold fo_c; dsimp only; rw [if_pos h, if_pos hv]
theorem fo_ca (h : q = 0) (hv : v ≠ 37) : fo_c AL (G, (q, mi, pl, ze, wd, le), us) v = (by_ap 4195 G [v], (q, mi, pl, ze, wd, le), us) := by
  unfold fo_c; dsimp only; rw [if_pos h, if_neg hv]
theorem fo_ct (h : ¬ q = 0) (hd : di_t (q, mi, pl, ze, wd, le) v = (q1, mi1, pl1, ze1, wd1, le1)) (h1 : ¬ q1 = 0) : fo_c AL (G, (q, mi, pl, ze, wd, le), us) v = (G, (q1, mi1, pl1, ze1, wd1, le1), us) := by
  unfold fo_c; dsimp only; rw [if_neg h, hd]; dsimp only; rw [if_neg h1]
theorem fo_cb (h : ¬ q = 0) (hd : di_t (q, mi, pl, ze, wd, le) v = (q1, mi1, pl1, ze1, wd1, le1)) (h1 : q1 = 0) : fo_c AL (G, (q, mi, pl, ze, wd, le), us) v = (pb_l 4195 G le1 mi1 pl1 ze1 wd1 us AL, (q1, mi1, pl1, ze1, wd1, le1), pb_u le1 us) := by
  unfold fo_c; dsimp only; rw [if_neg h, hd]; dsimp only; rw [if_pos h1]
theorem fo_di (h : ¬ q = 0) (hw : fo_w q wd) (hd : di_t (q, mi, pl, ze, wd, le) v = (q1, mi1, pl1, ze1, wd1, le1)) : fo_w q1 wd1 ∧ (q1 = 0 → le1 = v ∧ wd1 ≤ 99) := by
  by_cases ha : q = 1 ∧ (v = 45 ∨ v = 43 ∨ v = 48)
  · rw [di_f ha] at hd
    injection hd with e1 e2; injection e2 with _ e2; injection e2 with _ e2; injection e2 with _ e2; injection e2 with e3 e4
    subst e1; subst e3
    exact ⟨hw, fun z => absurd z h⟩
  · by_cases hb : q ≠ 3 ∧ 48 ≤ v ∧ v ≤ 57
    · rw [di_d ha hb] at hd
      injection hd with e1 e2; injection e2 with _ e2; injection e2 with _ e2; injection e2 with _ e2; injection e2 with e3 e4
      subst e1; subst e3
      unfold fo_w at hw ⊢
      by_cases hq1 : q = 1
      · rw [if_pos hq1]; omega
      · rw [if_neg hq1]; omega
    · rw [di_c ha hb] at hd
      injection hd with e1 e2; injection e2 with _ e2; injection e2 with _ e2; injection e2 with _ e2; injection e2 with e3 e4
      subst e1; subst e3; subst e4
      refine ⟨Or.inl rfl, fun _ => ⟨rfl, ?_⟩⟩
      unfold fo_w at hw; omega
theorem fo_wn (h : ¬ q = 0) (hw : fo_w q wd) (hd : di_t (q, mi, pl, ze, wd, le) v = (q1, mi1, pl1, ze1, wd1, le1)) : q1 ≤ 3 ∧ fo_w q1 wd1 := by
  have := (fo_di h hw hd).1
  refine ⟨?_, this⟩
  unfold fo_w at this; omega
theorem fo_z (h : ¬ q = 0) (hw : fo_w q wd) (hd : di_t (q, mi, pl, ze, wd, le) v = (q1, mi1, pl1, ze1, wd1, le1)) (h1 : q1 = 0) : le1 = v ∧ wd1 ≤ 99 := (fo_di h hw hd).2 h1
theorem fo_ez {F : List Nat} (hF : F.foldl (fo_c AL) ([], (0, mi1, pl1, ze1, wd1, le1), 0) = (G, (q, mi, pl, ze, wd, le), us)) (h : q = 0) : List.take 4096 G = List.take 4096 (fo_R AL F) := by
  have := fo_fin hF
  dsimp only at this
  rw [if_pos h] at this; exact this
theorem fo_en {F : List Nat} (hF : F.foldl (fo_c AL) ([], (0, mi1, pl1, ze1, wd1, le1), 0) = (G, (q, mi, pl, ze, wd, le), us)) (h : ¬ q = 0) : List.take 4096 (by_ap 4195 G (kxB 14)) = List.take 4096 (fo_R AL F) := by
  have := fo_fin hF
  dsimp only at this
  rw [if_neg h] at this; exact this
end FOC
theorem by_pad_l {cap : Nat} {L : List Nat} {a w : Nat} {b : Bool} (h : L.length ≤ cap) : (by_pad cap L a w b).length ≤ cap := by
  unfold by_pad
  split
  · exact h
  · split
    · exact by_ap_len _ _ _
    · rw [by_pd_len]; exact by_ap_len _ _ _
theorem pb_len {G : List Nat} {v wd us : Nat} {bm bp bz : Bool} {AL : List Ag} (h : G.length ≤ 4195) : (pb_l 4195 G v bm bp bz wd us AL).length ≤ 4195 := by
  unfold pb_l
  split
  · exact by_ap_len _ _ _
  · split
    · exact by_pad_l (by_ap_len _ _ _)
    · exact by_ap_len _ _ _
theorem pb_ul {v us i : Nat} (h : us ≤ i) : pb_u v us ≤ i + 1 := by unfold pb_u; split <;> omega
