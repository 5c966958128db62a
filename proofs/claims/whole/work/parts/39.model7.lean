/-! MODEL 7: format -/
def fo_F (AL : List Ag) (F : List Nat) (i : Nat) : Fs := (F.take i).foldl (fo_i AL) ([], (0, false, false, false, 0, 0), 0)
/-- within a directive -/
def fo_K (AL : List Ag) (F : List Nat) (i : Nat) (G : List Nat) (us q : Nat) (mi pl ze : Bool) (wd : Nat) : Prop := i ≤ F.length ∧ ∃ le, fo_F AL F i = (G, (q, mi, pl, ze, wd, le), us)
/-- between directives, or behind the end -/
def fo_J (AL : List Ag) (F : List Nat) (i : Nat) (G : List Nat) (us : Nat) : Prop := (i ≤ F.length ∧ ∃ mi pl ze wd le, fo_F AL F i = (G, (0, mi, pl, ze, wd, le), us)) ∨ (i = F.length + 1 ∧ fo_R AL F = G)
section FK
variable {AL : List Ag} {F G : List Nat} {i us q wd v : Nat} {mi pl ze : Bool}
theorem fk_nx (h : i < F.length) (hv : F.getD i 0 = v) : fo_F AL F (i + 1) = fo_i AL (fo_F AL F i) v := by unfold fo_F; rw [fo_nx h, hv]
theorem fj_0 : fo_J AL F 0 [] 0 := Or.inl ⟨Nat.zero_le _, false, false, false, 0, 0, rfl⟩
theorem fk_all (h : F.length ≤ i) : fo_R AL F = fo_e (fo_F AL F i) := by unfold fo_R fo_F; rw [List.take_of_length_le h]
theorem fj_end (h : fo_J AL F i G us) (hi : F.length ≤ i) : fo_R AL F = G := by
  rcases h with ⟨_, a, b, c, d, e, h⟩ | ⟨_, h⟩
  · rw [fk_all hi, h]; exact if_pos rfl
  · exact h
theorem fj_in (h : fo_J AL F i G us) (hi : i < F.length) : ∃ mi pl ze wd le, fo_F AL F i = (G, (0, mi, pl, ze, wd, le), us) := by
  rcases h with h | h
  · exact h.2
  · have := h.1; omega
theorem fj_give (h : fo_J AL F i G us) (hi : i < F.length) (hv : F.getD i 0 = v) (h37 : v ≠ 37) : fo_J AL F (i + 1) (G ++ [v]) us := by
  obtain ⟨a, b, c, d, e, h⟩ := fj_in h hi
  refine Or.inl ⟨hi, a, b, c, d, e, ?_⟩
  rw [fk_nx hi hv, h]; unfold fo_i
  show (if 0 = 0 then _ else _) = _
  rw [if_pos rfl, if_neg h37]
theorem fj_pc (h : fo_J AL F i G us) (hi : i < F.length) (hv : F.getD i 0 = 37) : fo_K AL F (i + 1) G us 1 false false false 0 := by
  obtain ⟨a, b, c, d, e, h⟩ := fj_in h hi
  refine ⟨hi, e, ?_⟩
  rw [fk_nx hi hv, h]; rfl
theorem fk_t {q1 wd1 : Nat} {mi1 pl1 ze1 : Bool} (h : fo_K AL F i G us q mi pl ze wd) (hi : i < F.length) (hv : F.getD i 0 = v) (hq : q ≠ 0) (hd : ∀ le, ∃ le1, di_t (q, mi, pl, ze, wd, le) v = (q1, mi1, pl1, ze1, wd1, le1)) (h1 : q1 ≠ 0) : fo_K AL F (i + 1) G us q1 mi1 pl1 ze1 wd1 := by
  obtain ⟨_, le, h⟩ := h
  obtain ⟨le1, hd⟩ := hd le
  refine ⟨hi, le1, ?_⟩
  rw [fk_nx hi hv, h]; unfold fo_i
  show (if q = 0 then _ else _) = _
  rw [if_neg hq, hd]
  show (if q1 = 0 then _ else _) = _
  rw [if_neg h1]
theorem fk_flag (h : fo_K AL F i G us 1 mi pl ze wd) (hi : i < F.length) (hv : F.getD i 0 = v) (hf : v = 45 ∨ v = 43 ∨ v = 48) : fo_K AL F (i + 1) G us 1 (mi || v == 45) (pl || v == 43) (ze || v == 48) wd :=
  fk_t h hi hv (by decide) (fun le => ⟨le, di_f ⟨rfl, hf⟩⟩) (by decide)
theorem fk_digit {n : Nat} (h : fo_K AL F i G us (n + 1) mi pl ze wd) (hi : i < F.length) (hv : F.getD i 0 = v) (hn : n < 2) (hf : n = 0 → ¬ (v = 45 ∨ v = 43 ∨ v = 48)) (hd : 48 ≤ v ∧ v ≤ 57) : fo_K AL F (i + 1) G us (n + 1 + 1) mi pl ze (wd * 10 + v - 48) := by
  refine fk_t h hi hv (by omega) (fun le => ⟨le, ?_⟩) (by omega)
  rw [di_d (fun z => hf (by omega) z.2) ⟨by omega, hd.1, hd.2⟩]
  rcases (show n = 0 ∨ n = 1 by omega) with rfl | rfl <;> rfl
theorem fk_letter (h : fo_K AL F i G us q mi pl ze wd) (hi : i < F.length) (hv : F.getD i 0 = v) (hq : q ≠ 0) (hf : ¬ (q = 1 ∧ (v = 45 ∨ v = 43 ∨ v = 48)) ∧ ¬ (q ≠ 3 ∧ 48 ≤ v ∧ v ≤ 57)) : fo_J AL F (i + 1) (G ++ pb_p v mi pl ze wd us AL) (pb_u v us) := by
  obtain ⟨_, le, h⟩ := h
  refine Or.inl ⟨hi, mi, pl, ze, wd, v, ?_⟩
  rw [fk_nx hi hv, h]; unfold fo_i
  show (if q = 0 then _ else _) = _
  rw [if_neg hq, di_c hf.1 hf.2]; rfl
theorem fk_end (h : fo_K AL F i G us q mi pl ze wd) (hi : F.length ≤ i) (hq : q ≠ 0) : fo_J AL F (i + 1) (G ++ [37, 33]) (us + 1) := by
  obtain ⟨h0, le, h⟩ := h
  refine Or.inr ⟨by omega, ?_⟩
  rw [fk_all hi, h]; exact if_neg hq
theorem pb_37e (h : v = 37) : pb_p v mi pl ze wd us AL = [37] ∧ pb_u v us = us := ⟨if_pos h, if_pos h⟩
theorem pb_none (h : v ≠ 37) (hx : AL.length ≤ us) : pb_p v mi pl ze wd us AL = [37, 33, v] := by unfold pb_p; rw [if_neg h, ag_x0 hx]
theorem pb_mk0 {a k hh r : Nat} {x : Int64} {f : Nat → Int32} {B : List Nat} (h : v ≠ 37) (hg : AL[us]? = some (a, k, x, hh, r, f, B)) (ho : mk_o v k x B pl = none) : pb_p v mi pl ze wd us AL = [37, 33, v] := by
  have e : pb_x v mi pl ze wd us AL = none := by unfold pb_x; rw [hg]; exact fm_n (g := (a, k, x, hh, r, f, B)) rfl ho
  unfold pb_p; rw [if_neg h, e]
theorem pb_mk1 {a k hh r : Nat} {x : Int64} {f : Nat → Int32} {B O : List Nat} (h : v ≠ 37) (hg : AL[us]? = some (a, k, x, hh, r, f, B)) (ho : mk_o v k x B pl = some O) : pb_p v mi pl ze wd us AL = ly_o O wd mi (fm_z ze mi k v) := by
  obtain ⟨O2, h1, h2⟩ := fm_s (wd := wd) (bz := ze) (bm := mi) (g := (a, k, x, hh, r, f, B)) rfl ho
  have e : pb_x v mi pl ze wd us AL = some O2 := by unfold pb_x; rw [hg]; exact h1
  unfold pb_p; rw [if_neg h, e]; exact h2
end FK
theorem sb_48 : ∀ v, v < 256 → (sb_b v < 48 ↔ (v < 48 ∨ 128 ≤ v)) := by decide +kernel
theorem sb_57 : ∀ v, v < 256 → (57 < sb_b v ↔ (57 < v ∧ v < 128)) := by decide +kernel
theorem sb_nI : ∀ v, v < 128 → sb_b v = nI v := by decide +kernel
theorem wd_v {wd v : Nat} (h : 48 ≤ v ∧ v ≤ 57) : 10 * nI wd + sb_b v - 48 = nI (wd * 10 + v - 48) := by
  rw [sb_nI v (by omega), show (10 : Int32) = nI 10 from rfl, pk_mul, nI_add, Nat.mul_comm]
  exact pk_sub (b := 48) (by omega)
theorem mo_k1 {k : Nat} {x : Int64} (ho : mo_o k x) : (1 < mo_k k x ↔ ¬ (k = 0 ∨ k = 1)) := by
  rcases ho with h | h | ⟨h, _⟩ | ⟨h, i, hi, hx⟩
  · rcases h with rfl | rfl
    · exact ⟨fun z => absurd z (show ¬ (1 : Int32) < nI 0 by decide), fun z => absurd (Or.inl rfl) z⟩
    · exact ⟨fun z => absurd z (show ¬ (1 : Int32) < nI 1 by decide), fun z => absurd (Or.inr rfl) z⟩
  · subst h; exact ⟨fun _ => by decide, fun _ => show (1 : Int32) < nI 3 by decide⟩
  · subst h; exact ⟨fun _ => by decide, fun _ => show (1 : Int32) < nI 2 by decide⟩
  · subst h
    refine ⟨fun _ => by decide, fun _ => ?_⟩
    unfold mo_k; rw [if_pos rfl]; split <;> decide
theorem qu_bl (mk v : Nat) : (qu_b mk v).length ≤ 4 := by
  unfold qu_b
  split
  · exact Nat.le_of_ble_eq_true rfl
  · split
    · exact Nat.le_of_ble_eq_true rfl
    · split <;> exact Nat.le_of_ble_eq_true rfl
theorem mk_l {v k j : Nat} {x : Int64} {B : List Nat} {q : Bool} {fk : Nat → Int32} {fv : Nat → Int64} {fw fo : Nat → Int32} (ho : mo_o k x) (h : mo_h k x B j fk fv fw fo) : ((mk_o v k x B q).getD []).length ≤ 16400 := by
  rcases ho with hk | hk | hk
  · by_cases hm : mb_v v = 0
    · rw [mk_n hk]; unfold pa_n pp_x
      by_cases h1 : v = 118
      · rw [if_pos h1]
        have := mo_pl (Or.inl hk) h
        rw [show mo_p k x B = pp_n k x by unfold mo_p; rw [if_neg (by omega), if_pos hk]] at this
        show (pp_n k x).length ≤ 16400; omega
      · rw [if_neg h1]
        by_cases h2 : v = 99
        · rw [if_pos h2]; have := ut_8l (ut_cn x.toInt); show (ut_8 _).length ≤ _; omega
        · rw [if_neg h2]
          by_cases h3 : v = 113
          · rw [if_pos h3]
            show (39 :: ((if ut_cn x.toInt < 128 then qu_b 39 (ut_cn x.toInt) else ut_8 (ut_cn x.toInt)) ++ [39])).length ≤ _
            have h4 : (if ut_cn x.toInt < 128 then qu_b 39 (ut_cn x.toInt) else ut_8 (ut_cn x.toInt)).length ≤ 4 := mq_len 39 _
            rw [List.length_cons, List.length_append]; show _ + 1 + 1 ≤ _; omega
          · rw [if_neg h3, mb_n hm]; exact Nat.zero_le _
    · rw [mk_nb hk hm]
      show (_ ++ _ : List Nat).length ≤ _
      have := nu_fl64 (b := mb_v v) (t := dg_t (decide (v = 88))) 64 (ar_m (nI k) x)
      rw [List.length_append, List.length_reverse]
      have h5 : (if ar_b (nI k) x then [45] else if q then [43] else [] : List Nat).length ≤ 1 := by
        split
        · exact Nat.le_refl _
        · split
          · exact Nat.le_refl _
          · exact Nat.zero_le _
      omega
  · obtain ⟨_, h4, hb⟩ := h.2.2 hk
    rw [mk_t3 hk]; unfold pa_t px_t
    by_cases h1 : v = 118
    · rw [if_pos h1]; show B.length ≤ _; omega
    · rw [if_neg h1]
      by_cases h2 : v = 115
      · rw [if_pos h2]; show B.length ≤ _; omega
      · rw [if_neg h2]
        by_cases h3 : v = 113
        · rw [if_pos h3]; have := qu_tl (L := B) (fun t ht => (hb t ht).1); show (qu_t B).length ≤ _; omega
        · rw [if_neg h3]
          by_cases h5 : v = 120
          · rw [if_pos h5]; have := px_hl (t := 97) B; show (px_h 97 B).length ≤ _; omega
          · rw [if_neg h5]
            by_cases h6 : v = 88
            · rw [if_pos h6]; have := px_hl (t := 65) B; show (px_h 65 B).length ≤ _; omega
            · rw [if_neg h6]; exact Nat.zero_le _
  · rw [mk_w (by omega)]; unfold pa_w
    by_cases h1 : v = 118 ∨ (v = 116 ∧ k = 2)
    · rw [if_pos h1]; have := kx_l100 (ar_w k x) (ar_wl hk); show (kxB _).length ≤ _; omega
    · rw [if_neg h1]; exact Nat.zero_le _
theorem fz_b {bz bm : Bool} {k v : Nat} (h : fm_z bz bm k v = true) : bm = false := by
  unfold fm_z at h; cases bm
  · rfl
  · rw [show (bz && !true) = false by cases bz <;> rfl, Bool.false_and, Bool.false_and] at h; exact absurd h (by decide)
theorem fz_0 {bz bm : Bool} {k v : Nat} {x : Int64} {B : List Nat} {q : Bool} (h : fm_z bz bm k v = true) : 0 < ((mk_o v k x B q).getD []).length := by
  unfold fm_z at h
  obtain ⟨h1, h2⟩ := Bool.and_eq_true_iff.mp h
  obtain ⟨_, h3⟩ := Bool.and_eq_true_iff.mp h1
  rw [mk_nb (of_decide_eq_true h3) (of_decide_eq_true h2)]
  show 0 < (_ ++ _ : List Nat).length
  have := nu_ne (mb_v v) (dg_t (decide (v = 88))) 64 (ar_m (nI k) x) (by decide)
  rw [List.length_append, List.length_reverse]; omega
section FZ
variable {bz bm : Bool} {k v : Nat}
theorem fz_1 (h : bz = false) : 0 = by_z (fm_z bz bm k v) := by rw [h]; rfl
theorem fz_2 (h : bm = true) : 0 = by_z (fm_z bz bm k v) := by rw [h]; cases bz <;> rfl
theorem fz_3 (h : ¬ (k = 0 ∨ k = 1)) : 0 = by_z (fm_z bz bm k v) := by unfold fm_z; rw [decide_eq_false h, Bool.and_false, Bool.false_and]; rfl
theorem fz_4 (h : mb_v v = 0) : 0 = by_z (fm_z bz bm k v) := by unfold fm_z; rw [decide_eq_false (p := mb_v v ≠ 0) (fun z => z h), Bool.and_false]; rfl
theorem fz_5 (h : bz = true) (h2 : bm = false) (h3 : k = 0 ∨ k = 1) (h4 : mb_v v ≠ 0) : 1 = by_z (fm_z bz bm k v) := by unfold fm_z; rw [h, h2, decide_eq_true h3, decide_eq_true h4]; rfl
end FZ
theorem fw_s {n wd v : Nat} (h : fo_w (n + 1) wd) (hn : n < 2) (hv : 48 ≤ v ∧ v ≤ 57) : fo_w (n + 1 + 1) (wd * 10 + v - 48) := by
  rcases h with z | ⟨z, w⟩ | ⟨z, w⟩ | ⟨z, w⟩
  · omega
  · exact Or.inr (Or.inr (Or.inl ⟨by omega, by omega⟩))
  · exact Or.inr (Or.inr (Or.inr ⟨by omega, by omega⟩))
  · omega
abbrev y_Mo_format : MethodName := ⟨"TextForgeModel", "format", "()I"⟩
abbrev w_Mo_format : List Cond := Cond.code y_Mo_format prog_12_method_35_code 9 (some .int) :: gw
theorem d_Mo_format_0 : decode prog_12_method_35_code 0 = .ok (.aload_n 0, 1) := by decide +kernel
theorem d_Mo_format_1 : decode prog_12_method_35_code 1 = .ok (.iconst 0, 1) := by decide +kernel
theorem d_Mo_format_2 : decode prog_12_method_35_code 2 = .ok (.putfield 43, 3) := by decide +kernel
theorem d_Mo_format_5 : decode prog_12_method_35_code 5 = .ok (.aload_n 0, 1) := by decide +kernel
theorem d_Mo_format_6 : decode prog_12_method_35_code 6 = .ok (.iconst 0, 1) := by decide +kernel
theorem d_Mo_format_7 : decode prog_12_method_35_code 7 = .ok (.putfield 78, 3) := by decide +kernel
theorem d_Mo_format_10 : decode prog_12_method_35_code 10 = .ok (.iconst 0, 1) := by decide +kernel
theorem d_Mo_format_11 : decode prog_12_method_35_code 11 = .ok (.istore_n 1, 1) := by decide +kernel
theorem d_Mo_format_12 : decode prog_12_method_35_code 12 = .ok (.iconst 0, 1) := by decide +kernel
theorem d_Mo_format_13 : decode prog_12_method_35_code 13 = .ok (.istore_n 2, 1) := by decide +kernel
theorem d_Mo_format_14 : decode prog_12_method_35_code 14 = .ok (.iload_n 2, 1) := by decide +kernel
theorem d_Mo_format_15 : decode prog_12_method_35_code 15 = .ok (.aload_n 0, 1) := by decide +kernel
theorem d_Mo_format_16 : decode prog_12_method_35_code 16 = .ok (.getfield 47, 3) := by decide +kernel
theorem d_Mo_format_19 : decode prog_12_method_35_code 19 = .ok (.if_icmp .ge 387, 3) := by decide +kernel
theorem d_Mo_format_22 : decode prog_12_method_35_code 22 = .ok (.aload_n 0, 1) := by decide +kernel
theorem d_Mo_format_23 : decode prog_12_method_35_code 23 = .ok (.getfield 7, 3) := by decide +kernel
theorem d_Mo_format_26 : decode prog_12_method_35_code 26 = .ok (.iload_n 2, 1) := by decide +kernel
theorem d_Mo_format_27 : decode prog_12_method_35_code 27 = .ok (.baload, 1) := by decide +kernel
theorem d_Mo_format_28 : decode prog_12_method_35_code 28 = .ok (.istore_n 3, 1) := by decide +kernel
theorem d_Mo_format_29 : decode prog_12_method_35_code 29 = .ok (.iinc 2 1, 3) := by decide +kernel
theorem d_Mo_format_32 : decode prog_12_method_35_code 32 = .ok (.iload_n 3, 1) := by decide +kernel
theorem d_Mo_format_33 : decode prog_12_method_35_code 33 = .ok (.bipush 37, 2) := by decide +kernel
theorem d_Mo_format_35 : decode prog_12_method_35_code 35 = .ok (.if_icmp .eq 11, 3) := by decide +kernel
theorem d_Mo_format_38 : decode prog_12_method_35_code 38 = .ok (.aload_n 0, 1) := by decide +kernel
theorem d_Mo_format_39 : decode prog_12_method_35_code 39 = .ok (.iload_n 3, 1) := by decide +kernel
theorem d_Mo_format_40 : decode prog_12_method_35_code 40 = .ok (.invokevirtual 188, 3) := by decide +kernel
theorem d_Mo_format_43 : decode prog_12_method_35_code 43 = .ok (.goto (-29), 3) := by decide +kernel
theorem d_Mo_format_46 : decode prog_12_method_35_code 46 = .ok (.iconst 0, 1) := by decide +kernel
theorem d_Mo_format_47 : decode prog_12_method_35_code 47 = .ok (.istore 4, 2) := by decide +kernel
theorem d_Mo_format_49 : decode prog_12_method_35_code 49 = .ok (.iconst 0, 1) := by decide +kernel
theorem d_Mo_format_50 : decode prog_12_method_35_code 50 = .ok (.istore 5, 2) := by decide +kernel
theorem d_Mo_format_52 : decode prog_12_method_35_code 52 = .ok (.iconst 0, 1) := by decide +kernel
theorem d_Mo_format_53 : decode prog_12_method_35_code 53 = .ok (.istore 6, 2) := by decide +kernel
theorem d_Mo_format_55 : decode prog_12_method_35_code 55 = .ok (.iload_n 2, 1) := by decide +kernel
theorem d_Mo_format_56 : decode prog_12_method_35_code 56 = .ok (.aload_n 0, 1) := by decide +kernel
theorem d_Mo_format_57 : decode prog_12_method_35_code 57 = .ok (.getfield 47, 3) := by decide +kernel
theorem d_Mo_format_60 : decode prog_12_method_35_code 60 = .ok (.if_icmp .ge 111, 3) := by decide +kernel
theorem d_Mo_format_63 : decode prog_12_method_35_code 63 = .ok (.aload_n 0, 1) := by decide +kernel
theorem d_Mo_format_64 : decode prog_12_method_35_code 64 = .ok (.getfield 7, 3) := by decide +kernel
theorem d_Mo_format_67 : decode prog_12_method_35_code 67 = .ok (.iload_n 2, 1) := by decide +kernel
theorem d_Mo_format_68 : decode prog_12_method_35_code 68 = .ok (.baload, 1) := by decide +kernel
theorem d_Mo_format_69 : decode prog_12_method_35_code 69 = .ok (.bipush 45, 2) := by decide +kernel
theorem d_Mo_format_71 : decode prog_12_method_35_code 71 = .ok (.if_icmp .eq 25, 3) := by decide +kernel
theorem d_Mo_format_74 : decode prog_12_method_35_code 74 = .ok (.aload_n 0, 1) := by decide +kernel
theorem d_Mo_format_75 : decode prog_12_method_35_code 75 = .ok (.getfield 7, 3) := by decide +kernel
theorem d_Mo_format_78 : decode prog_12_method_35_code 78 = .ok (.iload_n 2, 1) := by decide +kernel
theorem d_Mo_format_79 : decode prog_12_method_35_code 79 = .ok (.baload, 1) := by decide +kernel
theorem d_Mo_format_80 : decode prog_12_method_35_code 80 = .ok (.bipush 43, 2) := by decide +kernel
theorem d_Mo_format_82 : decode prog_12_method_35_code 82 = .ok (.if_icmp .eq 14, 3) := by decide +kernel
theorem d_Mo_format_85 : decode prog_12_method_35_code 85 = .ok (.aload_n 0, 1) := by decide +kernel
theorem d_Mo_format_86 : decode prog_12_method_35_code 86 = .ok (.getfield 7, 3) := by decide +kernel
theorem d_Mo_format_89 : decode prog_12_method_35_code 89 = .ok (.iload_n 2, 1) := by decide +kernel
theorem d_Mo_format_90 : decode prog_12_method_35_code 90 = .ok (.baload, 1) := by decide +kernel
theorem d_Mo_format_91 : decode prog_12_method_35_code 91 = .ok (.bipush 48, 2) := by decide +kernel
theorem d_Mo_format_93 : decode prog_12_method_35_code 93 = .ok (.if_icmp .ne 78, 3) := by decide +kernel
theorem d_Mo_format_96 : decode prog_12_method_35_code 96 = .ok (.iload 4, 2) := by decide +kernel
theorem d_Mo_format_98 : decode prog_12_method_35_code 98 = .ok (.ifCond .ne 14, 3) := by decide +kernel
theorem d_Mo_format_101 : decode prog_12_method_35_code 101 = .ok (.aload_n 0, 1) := by decide +kernel
theorem d_Mo_format_102 : decode prog_12_method_35_code 102 = .ok (.getfield 7, 3) := by decide +kernel
theorem d_Mo_format_105 : decode prog_12_method_35_code 105 = .ok (.iload_n 2, 1) := by decide +kernel
theorem d_Mo_format_106 : decode prog_12_method_35_code 106 = .ok (.baload, 1) := by decide +kernel
theorem d_Mo_format_107 : decode prog_12_method_35_code 107 = .ok (.bipush 45, 2) := by decide +kernel
theorem d_Mo_format_109 : decode prog_12_method_35_code 109 = .ok (.if_icmp .ne 7, 3) := by decide +kernel
theorem d_Mo_format_112 : decode prog_12_method_35_code 112 = .ok (.iconst 1, 1) := by decide +kernel
theorem d_Mo_format_113 : decode prog_12_method_35_code 113 = .ok (.goto 4, 3) := by decide +kernel
theorem d_Mo_format_116 : decode prog_12_method_35_code 116 = .ok (.iconst 0, 1) := by decide +kernel
theorem d_Mo_format_117 : decode prog_12_method_35_code 117 = .ok (.istore 4, 2) := by decide +kernel
theorem d_Mo_format_119 : decode prog_12_method_35_code 119 = .ok (.iload 5, 2) := by decide +kernel
theorem d_Mo_format_121 : decode prog_12_method_35_code 121 = .ok (.ifCond .ne 14, 3) := by decide +kernel
theorem d_Mo_format_124 : decode prog_12_method_35_code 124 = .ok (.aload_n 0, 1) := by decide +kernel
theorem d_Mo_format_125 : decode prog_12_method_35_code 125 = .ok (.getfield 7, 3) := by decide +kernel
theorem d_Mo_format_128 : decode prog_12_method_35_code 128 = .ok (.iload_n 2, 1) := by decide +kernel
theorem d_Mo_format_129 : decode prog_12_method_35_code 129 = .ok (.baload, 1) := by decide +kernel
theorem d_Mo_format_130 : decode prog_12_method_35_code 130 = .ok (.bipush 43, 2) := by decide +kernel
theorem d_Mo_format_132 : decode prog_12_method_35_code 132 = .ok (.if_icmp .ne 7, 3) := by decide +kernel
theorem d_Mo_format_135 : decode prog_12_method_35_code 135 = .ok (.iconst 1, 1) := by decide +kernel
theorem d_Mo_format_136 : decode prog_12_method_35_code 136 = .ok (.goto 4, 3) := by decide +kernel
theorem d_Mo_format_139 : decode prog_12_method_35_code 139 = .ok (.iconst 0, 1) := by decide +kernel
theorem d_Mo_format_140 : decode prog_12_method_35_code 140 = .ok (.istore 5, 2) := by decide +kernel
theorem d_Mo_format_142 : decode prog_12_method_35_code 142 = .ok (.iload 6, 2) := by decide +kernel
theorem d_Mo_format_144 : decode prog_12_method_35_code 144 = .ok (.ifCond .ne 14, 3) := by decide +kernel
theorem d_Mo_format_147 : decode prog_12_method_35_code 147 = .ok (.aload_n 0, 1) := by decide +kernel
theorem d_Mo_format_148 : decode prog_12_method_35_code 148 = .ok (.getfield 7, 3) := by decide +kernel
theorem d_Mo_format_151 : decode prog_12_method_35_code 151 = .ok (.iload_n 2, 1) := by decide +kernel
theorem d_Mo_format_152 : decode prog_12_method_35_code 152 = .ok (.baload, 1) := by decide +kernel
theorem d_Mo_format_153 : decode prog_12_method_35_code 153 = .ok (.bipush 48, 2) := by decide +kernel
theorem d_Mo_format_155 : decode prog_12_method_35_code 155 = .ok (.if_icmp .ne 7, 3) := by decide +kernel
theorem d_Mo_format_158 : decode prog_12_method_35_code 158 = .ok (.iconst 1, 1) := by decide +kernel
theorem d_Mo_format_159 : decode prog_12_method_35_code 159 = .ok (.goto 4, 3) := by decide +kernel
theorem d_Mo_format_162 : decode prog_12_method_35_code 162 = .ok (.iconst 0, 1) := by decide +kernel
theorem d_Mo_format_163 : decode prog_12_method_35_code 163 = .ok (.istore 6, 2) := by decide +kernel
theorem d_Mo_format_165 : decode prog_12_method_35_code 165 = .ok (.iinc 2 1, 3) := by decide +kernel
theorem d_Mo_format_168 : decode prog_12_method_35_code 168 = .ok (.goto (-113), 3) := by decide +kernel
theorem d_Mo_format_171 : decode prog_12_method_35_code 171 = .ok (.iconst 0, 1) := by decide +kernel
theorem d_Mo_format_172 : decode prog_12_method_35_code 172 = .ok (.istore 7, 2) := by decide +kernel
theorem d_Mo_format_174 : decode prog_12_method_35_code 174 = .ok (.iconst 0, 1) := by decide +kernel
theorem d_Mo_format_175 : decode prog_12_method_35_code 175 = .ok (.istore 8, 2) := by decide +kernel
theorem d_Mo_format_177 : decode prog_12_method_35_code 177 = .ok (.iload 8, 2) := by decide +kernel
theorem d_Mo_format_179 : decode prog_12_method_35_code 179 = .ok (.iconst 2, 1) := by decide +kernel
theorem d_Mo_format_180 : decode prog_12_method_35_code 180 = .ok (.if_icmp .ge 59, 3) := by decide +kernel
theorem d_Mo_format_183 : decode prog_12_method_35_code 183 = .ok (.iload_n 2, 1) := by decide +kernel
theorem d_Mo_format_184 : decode prog_12_method_35_code 184 = .ok (.aload_n 0, 1) := by decide +kernel
theorem d_Mo_format_185 : decode prog_12_method_35_code 185 = .ok (.getfield 47, 3) := by decide +kernel
theorem d_Mo_format_188 : decode prog_12_method_35_code 188 = .ok (.if_icmp .ge 51, 3) := by decide +kernel
theorem d_Mo_format_191 : decode prog_12_method_35_code 191 = .ok (.aload_n 0, 1) := by decide +kernel
theorem d_Mo_format_192 : decode prog_12_method_35_code 192 = .ok (.getfield 7, 3) := by decide +kernel
theorem d_Mo_format_195 : decode prog_12_method_35_code 195 = .ok (.iload_n 2, 1) := by decide +kernel
theorem d_Mo_format_196 : decode prog_12_method_35_code 196 = .ok (.baload, 1) := by decide +kernel
theorem d_Mo_format_197 : decode prog_12_method_35_code 197 = .ok (.bipush 48, 2) := by decide +kernel
theorem d_Mo_format_199 : decode prog_12_method_35_code 199 = .ok (.if_icmp .lt 40, 3) := by decide +kernel
theorem d_Mo_format_202 : decode prog_12_method_35_code 202 = .ok (.aload_n 0, 1) := by decide +kernel
theorem d_Mo_format_203 : decode prog_12_method_35_code 203 = .ok (.getfield 7, 3) := by decide +kernel
theorem d_Mo_format_206 : decode prog_12_method_35_code 206 = .ok (.iload_n 2, 1) := by decide +kernel
theorem d_Mo_format_207 : decode prog_12_method_35_code 207 = .ok (.baload, 1) := by decide +kernel
theorem d_Mo_format_208 : decode prog_12_method_35_code 208 = .ok (.bipush 57, 2) := by decide +kernel
theorem d_Mo_format_210 : decode prog_12_method_35_code 210 = .ok (.if_icmp .gt 29, 3) := by decide +kernel
theorem d_Mo_format_213 : decode prog_12_method_35_code 213 = .ok (.bipush 10, 2) := by decide +kernel
theorem d_Mo_format_215 : decode prog_12_method_35_code 215 = .ok (.iload 7, 2) := by decide +kernel
theorem d_Mo_format_217 : decode prog_12_method_35_code 217 = .ok (.imul, 1) := by decide +kernel
theorem d_Mo_format_218 : decode prog_12_method_35_code 218 = .ok (.aload_n 0, 1) := by decide +kernel
theorem d_Mo_format_219 : decode prog_12_method_35_code 219 = .ok (.getfield 7, 3) := by decide +kernel
theorem d_Mo_format_222 : decode prog_12_method_35_code 222 = .ok (.iload_n 2, 1) := by decide +kernel
theorem d_Mo_format_223 : decode prog_12_method_35_code 223 = .ok (.baload, 1) := by decide +kernel
theorem d_Mo_format_224 : decode prog_12_method_35_code 224 = .ok (.iadd, 1) := by decide +kernel
theorem d_Mo_format_225 : decode prog_12_method_35_code 225 = .ok (.bipush 48, 2) := by decide +kernel
theorem d_Mo_format_227 : decode prog_12_method_35_code 227 = .ok (.isub, 1) := by decide +kernel
theorem d_Mo_format_228 : decode prog_12_method_35_code 228 = .ok (.istore 7, 2) := by decide +kernel
theorem d_Mo_format_230 : decode prog_12_method_35_code 230 = .ok (.iinc 2 1, 3) := by decide +kernel
theorem d_Mo_format_233 : decode prog_12_method_35_code 233 = .ok (.iinc 8 1, 3) := by decide +kernel
theorem d_Mo_format_236 : decode prog_12_method_35_code 236 = .ok (.goto (-59), 3) := by decide +kernel
theorem d_Mo_format_239 : decode prog_12_method_35_code 239 = .ok (.iload_n 2, 1) := by decide +kernel
theorem d_Mo_format_240 : decode prog_12_method_35_code 240 = .ok (.aload_n 0, 1) := by decide +kernel
theorem d_Mo_format_241 : decode prog_12_method_35_code 241 = .ok (.getfield 47, 3) := by decide +kernel
theorem d_Mo_format_244 : decode prog_12_method_35_code 244 = .ok (.if_icmp .ge 26, 3) := by decide +kernel
theorem d_Mo_format_247 : decode prog_12_method_35_code 247 = .ok (.aload_n 0, 1) := by decide +kernel
theorem d_Mo_format_248 : decode prog_12_method_35_code 248 = .ok (.getfield 7, 3) := by decide +kernel
theorem d_Mo_format_251 : decode prog_12_method_35_code 251 = .ok (.iload_n 2, 1) := by decide +kernel
theorem d_Mo_format_252 : decode prog_12_method_35_code 252 = .ok (.baload, 1) := by decide +kernel
theorem d_Mo_format_253 : decode prog_12_method_35_code 253 = .ok (.bipush 37, 2) := by decide +kernel
theorem d_Mo_format_255 : decode prog_12_method_35_code 255 = .ok (.if_icmp .ne 15, 3) := by decide +kernel
theorem d_Mo_format_258 : decode prog_12_method_35_code 258 = .ok (.aload_n 0, 1) := by decide +kernel
theorem d_Mo_format_259 : decode prog_12_method_35_code 259 = .ok (.bipush 37, 2) := by decide +kernel
theorem d_Mo_format_261 : decode prog_12_method_35_code 261 = .ok (.invokevirtual 188, 3) := by decide +kernel
theorem d_Mo_format_264 : decode prog_12_method_35_code 264 = .ok (.iinc 2 1, 3) := by decide +kernel
theorem d_Mo_format_267 : decode prog_12_method_35_code 267 = .ok (.goto (-253), 3) := by decide +kernel
theorem d_Mo_format_270 : decode prog_12_method_35_code 270 = .ok (.aload_n 0, 1) := by decide +kernel
theorem d_Mo_format_271 : decode prog_12_method_35_code 271 = .ok (.iconst 0, 1) := by decide +kernel
theorem d_Mo_format_272 : decode prog_12_method_35_code 272 = .ok (.putfield 61, 3) := by decide +kernel
theorem d_Mo_format_275 : decode prog_12_method_35_code 275 = .ok (.iload_n 2, 1) := by decide +kernel
theorem d_Mo_format_276 : decode prog_12_method_35_code 276 = .ok (.aload_n 0, 1) := by decide +kernel
theorem d_Mo_format_277 : decode prog_12_method_35_code 277 = .ok (.getfield 47, 3) := by decide +kernel
theorem d_Mo_format_280 : decode prog_12_method_35_code 280 = .ok (.if_icmp .ge 31, 3) := by decide +kernel
theorem d_Mo_format_283 : decode prog_12_method_35_code 283 = .ok (.iload_n 1, 1) := by decide +kernel
theorem d_Mo_format_284 : decode prog_12_method_35_code 284 = .ok (.aload_n 0, 1) := by decide +kernel
theorem d_Mo_format_285 : decode prog_12_method_35_code 285 = .ok (.getfield 50, 3) := by decide +kernel
theorem d_Mo_format_288 : decode prog_12_method_35_code 288 = .ok (.if_icmp .ge 23, 3) := by decide +kernel
theorem d_Mo_format_291 : decode prog_12_method_35_code 291 = .ok (.aload_n 0, 1) := by decide +kernel
theorem d_Mo_format_292 : decode prog_12_method_35_code 292 = .ok (.aload_n 0, 1) := by decide +kernel
theorem d_Mo_format_293 : decode prog_12_method_35_code 293 = .ok (.getfield 7, 3) := by decide +kernel
theorem d_Mo_format_296 : decode prog_12_method_35_code 296 = .ok (.iload_n 2, 1) := by decide +kernel
theorem d_Mo_format_297 : decode prog_12_method_35_code 297 = .ok (.baload, 1) := by decide +kernel
theorem d_Mo_format_298 : decode prog_12_method_35_code 298 = .ok (.iload_n 1, 1) := by decide +kernel
theorem d_Mo_format_299 : decode prog_12_method_35_code 299 = .ok (.iload 5, 2) := by decide +kernel
theorem d_Mo_format_301 : decode prog_12_method_35_code 301 = .ok (.invokevirtual 191, 3) := by decide +kernel
theorem d_Mo_format_304 : decode prog_12_method_35_code 304 = .ok (.ifCond .eq 7, 3) := by decide +kernel
theorem d_Mo_format_307 : decode prog_12_method_35_code 307 = .ok (.iconst 1, 1) := by decide +kernel
theorem d_Mo_format_308 : decode prog_12_method_35_code 308 = .ok (.goto 4, 3) := by decide +kernel
theorem d_Mo_format_311 : decode prog_12_method_35_code 311 = .ok (.iconst 0, 1) := by decide +kernel
theorem d_Mo_format_312 : decode prog_12_method_35_code 312 = .ok (.istore 8, 2) := by decide +kernel
theorem d_Mo_format_314 : decode prog_12_method_35_code 314 = .ok (.iload 8, 2) := by decide +kernel
theorem d_Mo_format_316 : decode prog_12_method_35_code 316 = .ok (.ifCond .eq 51, 3) := by decide +kernel
theorem d_Mo_format_319 : decode prog_12_method_35_code 319 = .ok (.aload_n 0, 1) := by decide +kernel
theorem d_Mo_format_320 : decode prog_12_method_35_code 320 = .ok (.iload 7, 2) := by decide +kernel
theorem d_Mo_format_322 : decode prog_12_method_35_code 322 = .ok (.iload 4, 2) := by decide +kernel
theorem d_Mo_format_324 : decode prog_12_method_35_code 324 = .ok (.iload 6, 2) := by decide +kernel
theorem d_Mo_format_326 : decode prog_12_method_35_code 326 = .ok (.ifCond .eq 34, 3) := by decide +kernel
theorem d_Mo_format_329 : decode prog_12_method_35_code 329 = .ok (.iload 4, 2) := by decide +kernel
theorem d_Mo_format_331 : decode prog_12_method_35_code 331 = .ok (.ifCond .ne 29, 3) := by decide +kernel
theorem d_Mo_format_334 : decode prog_12_method_35_code 334 = .ok (.aload_n 0, 1) := by decide +kernel
theorem d_Mo_format_335 : decode prog_12_method_35_code 335 = .ok (.getfield 13, 3) := by decide +kernel
theorem d_Mo_format_338 : decode prog_12_method_35_code 338 = .ok (.iload_n 1, 1) := by decide +kernel
theorem d_Mo_format_339 : decode prog_12_method_35_code 339 = .ok (.iaload, 1) := by decide +kernel
theorem d_Mo_format_340 : decode prog_12_method_35_code 340 = .ok (.iconst 1, 1) := by decide +kernel
theorem d_Mo_format_341 : decode prog_12_method_35_code 341 = .ok (.if_icmp .gt 19, 3) := by decide +kernel
theorem d_Mo_format_344 : decode prog_12_method_35_code 344 = .ok (.aload_n 0, 1) := by decide +kernel
theorem d_Mo_format_345 : decode prog_12_method_35_code 345 = .ok (.getfield 7, 3) := by decide +kernel
theorem d_Mo_format_348 : decode prog_12_method_35_code 348 = .ok (.iload_n 2, 1) := by decide +kernel
theorem d_Mo_format_349 : decode prog_12_method_35_code 349 = .ok (.baload, 1) := by decide +kernel
theorem d_Mo_format_350 : decode prog_12_method_35_code 350 = .ok (.invokestatic 175, 3) := by decide +kernel
theorem d_Mo_format_353 : decode prog_12_method_35_code 353 = .ok (.ifCond .le 7, 3) := by decide +kernel
theorem d_Mo_format_356 : decode prog_12_method_35_code 356 = .ok (.iconst 1, 1) := by decide +kernel
theorem d_Mo_format_357 : decode prog_12_method_35_code 357 = .ok (.goto 4, 3) := by decide +kernel
theorem d_Mo_format_360 : decode prog_12_method_35_code 360 = .ok (.iconst 0, 1) := by decide +kernel
theorem d_Mo_format_361 : decode prog_12_method_35_code 361 = .ok (.invokevirtual 195, 3) := by decide +kernel
theorem d_Mo_format_364 : decode prog_12_method_35_code 364 = .ok (.goto 33, 3) := by decide +kernel
theorem d_Mo_format_367 : decode prog_12_method_35_code 367 = .ok (.aload_n 0, 1) := by decide +kernel
theorem d_Mo_format_368 : decode prog_12_method_35_code 368 = .ok (.bipush 37, 2) := by decide +kernel
theorem d_Mo_format_370 : decode prog_12_method_35_code 370 = .ok (.invokevirtual 188, 3) := by decide +kernel
theorem d_Mo_format_373 : decode prog_12_method_35_code 373 = .ok (.aload_n 0, 1) := by decide +kernel
theorem d_Mo_format_374 : decode prog_12_method_35_code 374 = .ok (.bipush 33, 2) := by decide +kernel
theorem d_Mo_format_376 : decode prog_12_method_35_code 376 = .ok (.invokevirtual 188, 3) := by decide +kernel
theorem d_Mo_format_379 : decode prog_12_method_35_code 379 = .ok (.iload_n 2, 1) := by decide +kernel
theorem d_Mo_format_380 : decode prog_12_method_35_code 380 = .ok (.aload_n 0, 1) := by decide +kernel
theorem d_Mo_format_381 : decode prog_12_method_35_code 381 = .ok (.getfield 47, 3) := by decide +kernel
theorem d_Mo_format_384 : decode prog_12_method_35_code 384 = .ok (.if_icmp .ge 13, 3) := by decide +kernel
theorem d_Mo_format_387 : decode prog_12_method_35_code 387 = .ok (.aload_n 0, 1) := by decide +kernel
theorem d_Mo_format_388 : decode prog_12_method_35_code 388 = .ok (.aload_n 0, 1) := by decide +kernel
theorem d_Mo_format_389 : decode prog_12_method_35_code 389 = .ok (.getfield 7, 3) := by decide +kernel
theorem d_Mo_format_392 : decode prog_12_method_35_code 392 = .ok (.iload_n 2, 1) := by decide +kernel
theorem d_Mo_format_393 : decode prog_12_method_35_code 393 = .ok (.baload, 1) := by decide +kernel
theorem d_Mo_format_394 : decode prog_12_method_35_code 394 = .ok (.invokevirtual 188, 3) := by decide +kernel
theorem d_Mo_format_397 : decode prog_12_method_35_code 397 = .ok (.iinc 1 1, 3) := by decide +kernel
theorem d_Mo_format_400 : decode prog_12_method_35_code 400 = .ok (.iinc 2 1, 3) := by decide +kernel
theorem d_Mo_format_403 : decode prog_12_method_35_code 403 = .ok (.goto (-389), 3) := by decide +kernel
theorem d_Mo_format_406 : decode prog_12_method_35_code 406 = .ok (.aload_n 0, 1) := by decide +kernel
theorem d_Mo_format_407 : decode prog_12_method_35_code 407 = .ok (.iconst 0, 1) := by decide +kernel
theorem d_Mo_format_408 : decode prog_12_method_35_code 408 = .ok (.putfield 47, 3) := by decide +kernel
theorem d_Mo_format_411 : decode prog_12_method_35_code 411 = .ok (.aload_n 0, 1) := by decide +kernel
theorem d_Mo_format_412 : decode prog_12_method_35_code 412 = .ok (.iconst 0, 1) := by decide +kernel
theorem d_Mo_format_413 : decode prog_12_method_35_code 413 = .ok (.putfield 50, 3) := by decide +kernel
theorem d_Mo_format_416 : decode prog_12_method_35_code 416 = .ok (.aload_n 0, 1) := by decide +kernel
theorem d_Mo_format_417 : decode prog_12_method_35_code 417 = .ok (.getfield 78, 3) := by decide +kernel
theorem d_Mo_format_420 : decode prog_12_method_35_code 420 = .ok (.ireturn, 1) := by decide +kernel
set_option maxHeartbeats 4000000 in
set_option maxRecDepth 100000 in
theorem c_Mo_format (l : Launch) (dC : Nat → ClassId) (dI : Nat → Nat → Nat) (ad : Nat → Nat) (mo rt rk rv rw ro rr ra rc rl rb : Nat) (th fd mn md pt : Int32) (pz : Int64) (kc la ca : Int32) (ft : Nat → Int32) (F : List Nat) (cB cI cL : ClassId) (fk : Nat → Int32) (fv : Nat → Int64) (fw fo fa fr : Nat → Int32) (AL : List Ag) (hLt : by_L F ft) (hct : F.length ≤ 4096) (hnn : AL.length ≤ 16) (hmA : mo_A AL fk fv fw fo) : yM_i (S := (Nat → Int32) × (Nat → Int32) × Int32 × Int32 × Int32) ad l y_Mo_format w_Mo_format { frames := 7, cells := 0, slots := 0, locals := 158 } (dC, dI) vwCl [.ref mo] [(mo, .inr (8, [.int th, .int (nI F.length), .ref rt, .int (nI AL.length), .ref rk, .ref rv, .ref rw, .ref ro, .int md, .ref rr, .int pt, .ref ra, .long pz, .int kc, .ref rc, .ref rl, .ref rb, .int la, .int ca])), (rt, .inl (cB, 4096, .inl ft)), (ra, .inl (cB, 16400, .inl fa)), (rk, .inl (cI, 16, .inl fk)), (rv, .inl (cL, 16, .inr (.inl fv))), (rw, .inl (cI, 16, .inl fw)), (ro, .inl (cB, 65536, .inl fo)), (rr, .inl (cB, 4096, .inl fr))] [(cB, .byte), (cI, .int), (cL, .long)] (fun (r : Int32) (u : (Nat → Int32) × (Nat → Int32) × Int32 × Int32 × Int32) => match u with | (g1, g2, pt1, la1, ca1) => r = nI (List.take 4096 (fo_R AL F)).length ∧ by_L (List.take 4096 (fo_R AL F)) g2) (fun u => match u with | (g1, g2, pt1, la1, ca1) => [(mo, .inr (8, [.int 0, .int 0, .ref rt, .int 0, .ref rk, .ref rv, .ref rw, .ref ro, .int (nI (List.take 4096 (fo_R AL F)).length), .ref rr, .int pt1, .ref ra, .long pz, .int kc, .ref rc, .ref rl, .ref rb, .int la1, .int ca1])), (rt, .inl (cB, 4096, .inl ft)), (ra, .inl (cB, 16400, .inl g1)), (rk, .inl (cI, 16, .inl fk)), (rv, .inl (cL, 16, .inr (.inl fv))), (rw, .inl (cI, 16, .inl fw)), (ro, .inl (cB, 65536, .inl fo)), (rr, .inl (cB, 4096, .inl g2))]) (fun u => match u with | (g1, g2, pt1, la1, ca1) => [(cB, .byte), (cI, .int), (cL, .long)]) 0 0 := by
  refine zy_enteri (cc := prog_12_method_35_code) (nL := 9) (ret := (some .int)) (by decide) rfl (Nat.le_of_ble_eq_true rfl) ?_
  intro p e s m below meth c A ls C0 hA hS hP hK hD hl hX
  obtain ⟨hx, hb, hml, hown, hg, hr, hlocks, hin⟩ := C0
  have hown : s.vm.findClass "TextForgeModel" = some m.cls := hown
  have hP : va_P (dC, dI) vwCl [(mo, .inr (8, [.int th, .int (nI F.length), .ref rt, .int (nI AL.length), .ref rk, .ref rv, .ref rw, .ref ro, .int md, .ref rr, .int pt, .ref ra, .long pz, .int kc, .ref rc, .ref rl, .ref rb, .int la, .int ca])), (rt, .inl (cB, 4096, .inl ft)), (ra, .inl (cB, 16400, .inl fa)), (rk, .inl (cI, 16, .inl fk)), (rv, .inl (cL, 16, .inr (.inl fv))), (rw, .inl (cI, 16, .inl fw)), (ro, .inl (cB, 65536, .inl fo)), (rr, .inl (cB, 4096, .inl fr))] s.heap := hP
  have hK : va_K (dC, dI) vwCl [(cB, .byte), (cI, .int), (cL, .long)] s := hK
  have hD : va_D A [(mo, .inr (8, [.int th, .int (nI F.length), .ref rt, .int (nI AL.length), .ref rk, .ref rv, .ref rw, .ref ro, .int md, .ref rr, .int pt, .ref ra, .long pz, .int kc, .ref rc, .ref rl, .ref rb, .int la, .int ca])), (rt, .inl (cB, 4096, .inl ft)), (ra, .inl (cB, 16400, .inl fa)), (rk, .inl (cI, 16, .inl fk)), (rv, .inl (cL, 16, .inr (.inl fv))), (rw, .inl (cI, 16, .inl fw)), (ro, .inl (cB, 65536, .inl fo)), (rr, .inl (cB, 4096, .inl fr))] := hD
  have hl : lv_has ls 9 [(0, .ref mo)] := hl
  refine lv_aload_n hx hb d_Mo_format_0 rfl (lv_at hl 0 rfl) ?_
  refine lv_iconst (v := 0) hx hb d_Mo_format_1 (by decide) ?_
  refine va_put (D := (dC, dI)) (ci := 8) (v := .int 0) (ty := .int) (C := "TextForgeModel") (T := TX8) (N := 19) hx hb hg iwX8 tyX8 tyX8_ok nmX8 hown hK hP hD hS 0 rfl rfl 0 (by decide) (hg _ kw_726) (fun _ h9 => h9) rfl (by decide +kernel) rfl rfl (Nat.le_of_ble_eq_true rfl) d_Mo_format_2 (fun H locs hP hD hS => ?_)
  have hP : va_P (dC, dI) vwCl [(mo, .inr (8, [.int 0, .int (nI F.length), .ref rt, .int (nI AL.length), .ref rk, .ref rv, .ref rw, .ref ro, .int md, .ref rr, .int pt, .ref ra, .long pz, .int kc, .ref rc, .ref rl, .ref rb, .int la, .int ca])), (rt, .inl (cB, 4096, .inl ft)), (ra, .inl (cB, 16400, .inl fa)), (rk, .inl (cI, 16, .inl fk)), (rv, .inl (cL, 16, .inr (.inl fv))), (rw, .inl (cI, 16, .inl fw)), (ro, .inl (cB, 65536, .inl fo)), (rr, .inl (cB, 4096, .inl fr))] H := hP
  have hD : va_D A [(mo, .inr (8, [.int 0, .int (nI F.length), .ref rt, .int (nI AL.length), .ref rk, .ref rv, .ref rw, .ref ro, .int md, .ref rr, .int pt, .ref ra, .long pz, .int kc, .ref rc, .ref rl, .ref rb, .int la, .int ca])), (rt, .inl (cB, 4096, .inl ft)), (ra, .inl (cB, 16400, .inl fa)), (rk, .inl (cI, 16, .inl fk)), (rv, .inl (cL, 16, .inr (.inl fv))), (rw, .inl (cI, 16, .inl fw)), (ro, .inl (cB, 65536, .inl fo)), (rr, .inl (cB, 4096, .inl fr))] := hD
  refine lv_aload_n hx hb d_Mo_format_5 rfl (lv_at hl 0 rfl) ?_
  refine lv_iconst (v := 0) hx hb d_Mo_format_6 (by decide) ?_
  refine va_put (D := (dC, dI)) (ci := 8) (v := .int 0) (ty := .int) (C := "TextForgeModel") (T := TX8) (N := 19) hx hb hg iwX8 tyX8 tyX8_ok nmX8 hown hK hP hD hS 0 rfl rfl 8 (by decide) (hg _ kw_734) (fun _ h9 => h9) rfl (by decide +kernel) rfl rfl (Nat.le_of_ble_eq_true rfl) d_Mo_format_7 (fun H locs hP hD hS => ?_)
  have hP : va_P (dC, dI) vwCl [(mo, .inr (8, [.int 0, .int (nI F.length), .ref rt, .int (nI AL.length), .ref rk, .ref rv, .ref rw, .ref ro, .int 0, .ref rr, .int pt, .ref ra, .long pz, .int kc, .ref rc, .ref rl, .ref rb, .int la, .int ca])), (rt, .inl (cB, 4096, .inl ft)), (ra, .inl (cB, 16400, .inl fa)), (rk, .inl (cI, 16, .inl fk)), (rv, .inl (cL, 16, .inr (.inl fv))), (rw, .inl (cI, 16, .inl fw)), (ro, .inl (cB, 65536, .inl fo)), (rr, .inl (cB, 4096, .inl fr))] H := hP
  have hD : va_D A [(mo, .inr (8, [.int 0, .int (nI F.length), .ref rt, .int (nI AL.length), .ref rk, .ref rv, .ref rw, .ref ro, .int 0, .ref rr, .int pt, .ref ra, .long pz, .int kc, .ref rc, .ref rl, .ref rb, .int la, .int ca])), (rt, .inl (cB, 4096, .inl ft)), (ra, .inl (cB, 16400, .inl fa)), (rk, .inl (cI, 16, .inl fk)), (rv, .inl (cL, 16, .inr (.inl fv))), (rw, .inl (cI, 16, .inl fw)), (ro, .inl (cB, 65536, .inl fo)), (rr, .inl (cB, 4096, .inl fr))] := hD
  refine lv_iconst (v := 0) hx hb d_Mo_format_10 (by decide) ?_
  refine lv_istore_n (lv' := [(1, .int 0), (0, .ref mo)]) hx hb d_Mo_format_11 rfl hl (by decide) rfl (fun ls hl => ?_)
  refine lv_iconst (v := 0) hx hb d_Mo_format_12 (by decide) ?_
  refine lv_istore_n (lv' := [(2, .int 0), (1, .int 0), (0, .ref mo)]) hx hb d_Mo_format_13 rfl hl (by decide) rfl (fun ls hl => ?_)
  refine zz_loop (fun (x : Nat × Nat × List Nat × (Nat → Int32) × (Nat → Int32) × Int32 × Int32 × Int32) H locs ls => match x with | (us, i, G, g, g2, pt2, la2, ca2) => va_P (dC, dI) vwCl [(mo, .inr (8, [.int 0, .int (nI F.length), .ref rt, .int (nI AL.length), .ref rk, .ref rv, .ref rw, .ref ro, .int (nI (List.take 4096 G).length), .ref rr, .int pt2, .ref ra, .long pz, .int kc, .ref rc, .ref rl, .ref rb, .int la2, .int ca2])), (rt, .inl (cB, 4096, .inl ft)), (ra, .inl (cB, 16400, .inl g)), (rk, .inl (cI, 16, .inl fk)), (rv, .inl (cL, 16, .inr (.inl fv))), (rw, .inl (cI, 16, .inl fw)), (ro, .inl (cB, 65536, .inl fo)), (rr, .inl (cB, 4096, .inl g2))] H ∧ va_D A [(mo, .inr (8, [.int 0, .int (nI F.length), .ref rt, .int (nI AL.length), .ref rk, .ref rv, .ref rw, .ref ro, .int (nI (List.take 4096 G).length), .ref rr, .int pt2, .ref ra, .long pz, .int kc, .ref rc, .ref rl, .ref rb, .int la2, .int ca2])), (rt, .inl (cB, 4096, .inl ft)), (ra, .inl (cB, 16400, .inl g)), (rk, .inl (cI, 16, .inl fk)), (rv, .inl (cL, 16, .inr (.inl fv))), (rw, .inl (cI, 16, .inl fw)), (ro, .inl (cB, 65536, .inl fo)), (rr, .inl (cB, 4096, .inl g2))] ∧ va_S A s.heap H locs ∧ lv_has ls 9 [(0, .ref mo), (1, .int (nI us)), (2, .int (nI i))] ∧ fo_J AL F i G us ∧ by_L (List.take 4096 G) g2 ∧ us ≤ i ∧ i ≤ F.length + 1) (fun x => match x with | (us, i, G, g, g2, pt2, la2, ca2) => F.length + 2 - i) ?_ (0, 0, [], fa, fr, pt, la, ca) ⟨hP.sub [0, 1, 2, 3, 4, 5, 6, 7] rfl, hD.sub [0, 1, 2, 3, 4, 5, 6, 7] (by decide) rfl, hS, lv_sub hl [2, 1, 0] rfl, fj_0, (by_nil _), (Nat.le_refl _), (Nat.zero_le _)⟩
  intro x H locs ls hI ih_14
  obtain ⟨us, i, G, g, g2, pt2, la2, ca2⟩ := x
  try dsimp only at hI
  obtain ⟨hP, hD, hS, hl, hJ, hRi, hus, hi1⟩ := hI
  refine lv_iload_n hx hb d_Mo_format_14 rfl (lv_at hl 2 rfl) ?_
  refine lv_aload_n hx hb d_Mo_format_15 rfl (lv_at hl 0 rfl) ?_
  refine va_get (D := (dC, dI)) (ci := 8) (v := .int (nI F.length)) (C := "TextForgeModel") (T := TX8) (N := 19) hx hb hg iwX8 hown hK hP 0 rfl rfl 1 (by decide) (hg _ kw_727) (fun _ h9 => h9) rfl d_Mo_format_16 ?_
  refine lv_icmp_ge (tgt := 406) hx hb d_Mo_format_19 (by decide) (fun c_19 => ?_) (fun c_19 => ?_)
  · skip
    have f_19 : F.length ≤ i := Nat.le_of_not_lt (fun z => nI_ge (b := F.length) z (by omega) c_19)
    have hG := fj_end hJ f_19
    refine lv_aload_n hx hb d_Mo_format_406 rfl (lv_at hl 0 rfl) ?_
    refine lv_iconst (v := 0) hx hb d_Mo_format_407 (by decide) ?_
    refine va_put (D := (dC, dI)) (ci := 8) (v := .int 0) (ty := .int) (C := "TextForgeModel") (T := TX8) (N := 19) hx hb hg iwX8 tyX8 tyX8_ok nmX8 hown hK hP hD hS 0 rfl rfl 1 (by decide) (hg _ kw_727) (fun _ h9 => h9) rfl (by decide +kernel) rfl rfl (Nat.le_of_ble_eq_true rfl) d_Mo_format_408 (fun H locs hP hD hS => ?_)
    have hP : va_P (dC, dI) vwCl [(mo, .inr (8, [.int 0, .int 0, .ref rt, .int (nI AL.length), .ref rk, .ref rv, .ref rw, .ref ro, .int (nI (List.take 4096 G).length), .ref rr, .int pt2, .ref ra, .long pz, .int kc, .ref rc, .ref rl, .ref rb, .int la2, .int ca2])), (rt, .inl (cB, 4096, .inl ft)), (ra, .inl (cB, 16400, .inl g)), (rk, .inl (cI, 16, .inl fk)), (rv, .inl (cL, 16, .inr (.inl fv))), (rw, .inl (cI, 16, .inl fw)), (ro, .inl (cB, 65536, .inl fo)), (rr, .inl (cB, 4096, .inl g2))] H := hP
    have hD : va_D A [(mo, .inr (8, [.int 0, .int 0, .ref rt, .int (nI AL.length), .ref rk, .ref rv, .ref rw, .ref ro, .int (nI (List.take 4096 G).length), .ref rr, .int pt2, .ref ra, .long pz, .int kc, .ref rc, .ref rl, .ref rb, .int la2, .int ca2])), (rt, .inl (cB, 4096, .inl ft)), (ra, .inl (cB, 16400, .inl g)), (rk, .inl (cI, 16, .inl fk)), (rv, .inl (cL, 16, .inr (.inl fv))), (rw, .inl (cI, 16, .inl fw)), (ro, .inl (cB, 65536, .inl fo)), (rr, .inl (cB, 4096, .inl g2))] := hD
    refine lv_aload_n hx hb d_Mo_format_411 rfl (lv_at hl 0 rfl) ?_
    refine lv_iconst (v := 0) hx hb d_Mo_format_412 (by decide) ?_
    refine va_put (D := (dC, dI)) (ci := 8) (v := .int 0) (ty := .int) (C := "TextForgeModel") (T := TX8) (N := 19) hx hb hg iwX8 tyX8 tyX8_ok nmX8 hown hK hP hD hS 0 rfl rfl 3 (by decide) (hg _ kw_729) (fun _ h9 => h9) rfl (by decide +kernel) rfl rfl (Nat.le_of_ble_eq_true rfl) d_Mo_format_413 (fun H locs hP hD hS => ?_)
    have hP : va_P (dC, dI) vwCl [(mo, .inr (8, [.int 0, .int 0, .ref rt, .int 0, .ref rk, .ref rv, .ref rw, .ref ro, .int (nI (List.take 4096 G).length), .ref rr, .int pt2, .ref ra, .long pz, .int kc, .ref rc, .ref rl, .ref rb, .int la2, .int ca2])), (rt, .inl (cB, 4096, .inl ft)), (ra, .inl (cB, 16400, .inl g)), (rk, .inl (cI, 16, .inl fk)), (rv, .inl (cL, 16, .inr (.inl fv))), (rw, .inl (cI, 16, .inl fw)), (ro, .inl (cB, 65536, .inl fo)), (rr, .inl (cB, 4096, .inl g2))] H := hP
    have hD : va_D A [(mo, .inr (8, [.int 0, .int 0, .ref rt, .int 0, .ref rk, .ref rv, .ref rw, .ref ro, .int (nI (List.take 4096 G).length), .ref rr, .int pt2, .ref ra, .long pz, .int kc, .ref rc, .ref rl, .ref rb, .int la2, .int ca2])), (rt, .inl (cB, 4096, .inl ft)), (ra, .inl (cB, 16400, .inl g)), (rk, .inl (cI, 16, .inl fk)), (rv, .inl (cL, 16, .inr (.inl fv))), (rw, .inl (cI, 16, .inl fw)), (ro, .inl (cB, 65536, .inl fo)), (rr, .inl (cB, 4096, .inl g2))] := hD
    refine lv_aload_n hx hb d_Mo_format_416 rfl (lv_at hl 0 rfl) ?_
    refine va_get (D := (dC, dI)) (ci := 8) (v := .int (nI (List.take 4096 G).length)) (C := "TextForgeModel") (T := TX8) (N := 19) hx hb hg iwX8 hown hK hP 0 rfl rfl 8 (by decide) (hg _ kw_734) (fun _ h9 => h9) rfl d_Mo_format_417 ?_
    have hP9 := hP.sub (ws' := [(mo, .inr (8, [.int 0, .int 0, .ref rt, .int 0, .ref rk, .ref rv, .ref rw, .ref ro, .int (nI (List.take 4096 G).length), .ref rr, .int pt2, .ref ra, .long pz, .int kc, .ref rc, .ref rl, .ref rb, .int la2, .int ca2])), (rt, .inl (cB, 4096, .inl ft)), (ra, .inl (cB, 16400, .inl g)), (rk, .inl (cI, 16, .inl fk)), (rv, .inl (cL, 16, .inr (.inl fv))), (rw, .inl (cI, 16, .inl fw)), (ro, .inl (cB, 65536, .inl fo)), (rr, .inl (cB, 4096, .inl g2))]) [0, 1, 2, 3, 4, 5, 6, 7] rfl
    have hD9 := hD.sub (ws' := [(mo, .inr (8, [.int 0, .int 0, .ref rt, .int 0, .ref rk, .ref rv, .ref rw, .ref ro, .int (nI (List.take 4096 G).length), .ref rr, .int pt2, .ref ra, .long pz, .int kc, .ref rc, .ref rl, .ref rb, .int la2, .int ca2])), (rt, .inl (cB, 4096, .inl ft)), (ra, .inl (cB, 16400, .inl g)), (rk, .inl (cI, 16, .inl fk)), (rv, .inl (cL, 16, .inr (.inl fv))), (rw, .inl (cI, 16, .inl fw)), (ro, .inl (cB, 65536, .inl fo)), (rr, .inl (cB, 4096, .inl g2))]) [0, 1, 2, 3, 4, 5, 6, 7] (by decide) rfl
    have hK9 := hK.sub (tys' := [(cB, .byte), (cI, .int), (cL, .long)]) [0, 1, 2] rfl
    rw [show nI (List.take 4096 G).length = nI (List.take 4096 (fo_R AL F)).length by rw [hG]] at hP9 hD9
    exact zz_iret hx hb hr hlocks d_Mo_format_420 hS (by first | exact Nat.le_refl _ | decide | omega | (dsimp only; omega)) (by first | exact Nat.le_refl _ | decide | omega | (dsimp only; omega)) (g, g2, pt2, la2, ca2) ⟨by rw [hG], by rw [hG]; exact hRi⟩ hP9 hK9 hD9
  · skip
    have f_19 : i < F.length := Nat.lt_of_not_le (fun z => c_19 (nI_le (a := F.length) z (by omega)))
    have htb := hLt i f_19
    refine lv_aload_n hx hb d_Mo_format_22 rfl (lv_at hl 0 rfl) ?_
    refine va_get (D := (dC, dI)) (ci := 8) (v := .ref rt) (C := "TextForgeModel") (T := TX8) (N := 19) hx hb hg iwX8 hown hK hP 0 rfl rfl 2 (by decide) (hg _ kw_728) (fun _ h9 => h9) rfl d_Mo_format_23 ?_
    refine lv_iload_n hx hb d_Mo_format_26 rfl (lv_at hl 2 rfl) ?_
    refine va_bald hx hb hK hP 1 0 rfl rfl (vp_in_nI (by omega) (by decide)) d_Mo_format_27 ?_
    refine lv_topi (fun y_1 ey_1 => ?_)
    have ey_1 : y_1 = (sb_b (F.getD i 0) : Int32) := ey_1.trans (show (ft (nI i).toNatClampNeg) = sb_b (F.getD i 0) from (by rw [nI_clamp (show i < 2 ^ 31 by omega)]; exact htb.2))
    subst ey_1
    refine lv_istore_n (lv' := [(3, .int (sb_b (F.getD i 0))), (0, .ref mo), (1, .int (nI us)), (2, .int (nI i))]) hx hb d_Mo_format_28 rfl hl (by decide) rfl (fun ls hl => ?_)
    refine lv_iinc (v := (nI i) + 1) (lv' := [(2, .int ((nI i) + 1)), (3, .int (sb_b (F.getD i 0))), (0, .ref mo), (1, .int (nI us))]) hx hb d_Mo_format_29 hl (k := 3) rfl rfl (by decide) rfl (fun ls hl => ?_)
    rw [nI_1] at hl
    have hl : lv_has ls 9 [(2, .int (nI (i + 1))), (3, .int (sb_b (F.getD i 0))), (0, .ref mo), (1, .int (nI us))] := hl
    refine lv_iload_n hx hb d_Mo_format_32 rfl (lv_at hl 1 rfl) ?_
    refine lv_bipush (v := 37) hx hb d_Mo_format_33 (by decide) ?_
    refine lv_icmp_eq (tgt := 46) hx hb d_Mo_format_35 (by decide) (fun c_35 => ?_) (fun c_35 => ?_)
    · skip
      have f_35 : F.getD i 0 = 37 := sb_e1 (k := 37) htb.1 (by decide) c_35
      have hK1 := fj_pc hJ f_19 f_35
      refine zz_meet2 239 (fun (x : Nat × Nat × Bool × Bool × Bool × Nat) H locs ls => match x with | (q, i3, mi, pl, ze, wd) => va_P (dC, dI) vwCl [(mo, .inr (8, [.int 0, .int (nI F.length), .ref rt, .int (nI AL.length), .ref rk, .ref rv, .ref rw, .ref ro, .int (nI (List.take 4096 G).length), .ref rr, .int pt2, .ref ra, .long pz, .int kc, .ref rc, .ref rl, .ref rb, .int la2, .int ca2])), (rt, .inl (cB, 4096, .inl ft)), (ra, .inl (cB, 16400, .inl g)), (rk, .inl (cI, 16, .inl fk)), (rv, .inl (cL, 16, .inr (.inl fv))), (rw, .inl (cI, 16, .inl fw)), (ro, .inl (cB, 65536, .inl fo)), (rr, .inl (cB, 4096, .inl g2))] H ∧ va_D A [(mo, .inr (8, [.int 0, .int (nI F.length), .ref rt, .int (nI AL.length), .ref rk, .ref rv, .ref rw, .ref ro, .int (nI (List.take 4096 G).length), .ref rr, .int pt2, .ref ra, .long pz, .int kc, .ref rc, .ref rl, .ref rb, .int la2, .int ca2])), (rt, .inl (cB, 4096, .inl ft)), (ra, .inl (cB, 16400, .inl g)), (rk, .inl (cI, 16, .inl fk)), (rv, .inl (cL, 16, .inr (.inl fv))), (rw, .inl (cI, 16, .inl fw)), (ro, .inl (cB, 65536, .inl fo)), (rr, .inl (cB, 4096, .inl g2))] ∧ va_S A s.heap H locs ∧ lv_has ls 9 [(0, .ref mo), (1, .int (nI us)), (2, .int (nI i3)), (4, .int (by_z mi)), (5, .int (by_z pl)), (6, .int (by_z ze)), (7, .int (nI wd))] ∧ fo_K AL F i3 G us q mi pl ze wd ∧ q ≠ 0 ∧ wd ≤ 99 ∧ (i3 < F.length → ¬ (q = 1 ∧ (F.getD i3 0 = 45 ∨ F.getD i3 0 = 43 ∨ F.getD i3 0 = 48)) ∧ ¬ (q ≠ 3 ∧ 48 ≤ F.getD i3 0 ∧ F.getD i3 0 ≤ 57)) ∧ i < i3) ?_ ?_
      · intro x H locs ls hI
        obtain ⟨q, i3, mi, pl, ze, wd⟩ := x
        try dsimp only at hI
        obtain ⟨hP, hD, hS, hl, hKf, hq, hw9, hlt, hi9⟩ := hI
        have hk0 := hKf.1
        refine lv_iload_n hx hb d_Mo_format_239 rfl (lv_at hl 2 rfl) ?_
        refine lv_aload_n hx hb d_Mo_format_240 rfl (lv_at hl 0 rfl) ?_
        refine va_get (D := (dC, dI)) (ci := 8) (v := .int (nI F.length)) (C := "TextForgeModel") (T := TX8) (N := 19) hx hb hg iwX8 hown hK hP 0 rfl rfl 1 (by decide) (hg _ kw_727) (fun _ h9 => h9) rfl d_Mo_format_241 ?_
        refine lv_icmp_ge (tgt := 270) hx hb d_Mo_format_244 (by decide) (fun c_244 => ?_) (fun c_244 => ?_)
        · skip
          have f_244 : F.length ≤ i3 := Nat.le_of_not_lt (fun z => nI_ge (b := F.length) z (by omega) c_244)
          refine lv_aload_n hx hb d_Mo_format_270 rfl (lv_at hl 0 rfl) ?_
          refine lv_iconst (v := 0) hx hb d_Mo_format_271 (by decide) ?_
          refine va_put (D := (dC, dI)) (ci := 8) (v := .int 0) (ty := .int) (C := "TextForgeModel") (T := TX8) (N := 19) hx hb hg iwX8 tyX8 tyX8_ok nmX8 hown hK hP hD hS 0 rfl rfl 10 (by decide) (hg _ kw_736) (fun _ h9 => h9) rfl (by decide +kernel) rfl rfl (Nat.le_of_ble_eq_true rfl) d_Mo_format_272 (fun H locs hP hD hS => ?_)
          have hP : va_P (dC, dI) vwCl [(mo, .inr (8, [.int 0, .int (nI F.length), .ref rt, .int (nI AL.length), .ref rk, .ref rv, .ref rw, .ref ro, .int (nI (List.take 4096 G).length), .ref rr, .int 0, .ref ra, .long pz, .int kc, .ref rc, .ref rl, .ref rb, .int la2, .int ca2])), (rt, .inl (cB, 4096, .inl ft)), (ra, .inl (cB, 16400, .inl g)), (rk, .inl (cI, 16, .inl fk)), (rv, .inl (cL, 16, .inr (.inl fv))), (rw, .inl (cI, 16, .inl fw)), (ro, .inl (cB, 65536, .inl fo)), (rr, .inl (cB, 4096, .inl g2))] H := hP
          have hD : va_D A [(mo, .inr (8, [.int 0, .int (nI F.length), .ref rt, .int (nI AL.length), .ref rk, .ref rv, .ref rw, .ref ro, .int (nI (List.take 4096 G).length), .ref rr, .int 0, .ref ra, .long pz, .int kc, .ref rc, .ref rl, .ref rb, .int la2, .int ca2])), (rt, .inl (cB, 4096, .inl ft)), (ra, .inl (cB, 16400, .inl g)), (rk, .inl (cI, 16, .inl fk)), (rv, .inl (cL, 16, .inr (.inl fv))), (rw, .inl (cI, 16, .inl fw)), (ro, .inl (cB, 65536, .inl fo)), (rr, .inl (cB, 4096, .inl g2))] := hD
          have hP : va_P (dC, dI) vwCl [(mo, .inr (8, [.int 0, .int (nI F.length), .ref rt, .int (nI AL.length), .ref rk, .ref rv, .ref rw, .ref ro, .int (nI (List.take 4096 G).length), .ref rr, .int (nI ([] : List Nat).length), .ref ra, .long pz, .int kc, .ref rc, .ref rl, .ref rb, .int la2, .int ca2])), (rt, .inl (cB, 4096, .inl ft)), (ra, .inl (cB, 16400, .inl g)), (rk, .inl (cI, 16, .inl fk)), (rv, .inl (cL, 16, .inr (.inl fv))), (rw, .inl (cI, 16, .inl fw)), (ro, .inl (cB, 65536, .inl fo)), (rr, .inl (cB, 4096, .inl g2))] H := hP
          have hD : va_D A [(mo, .inr (8, [.int 0, .int (nI F.length), .ref rt, .int (nI AL.length), .ref rk, .ref rv, .ref rw, .ref ro, .int (nI (List.take 4096 G).length), .ref rr, .int (nI ([] : List Nat).length), .ref ra, .long pz, .int kc, .ref rc, .ref rl, .ref rb, .int la2, .int ca2])), (rt, .inl (cB, 4096, .inl ft)), (ra, .inl (cB, 16400, .inl g)), (rk, .inl (cI, 16, .inl fk)), (rv, .inl (cL, 16, .inr (.inl fv))), (rw, .inl (cI, 16, .inl fw)), (ro, .inl (cB, 65536, .inl fo)), (rr, .inl (cB, 4096, .inl g2))] := hD
          refine lv_iload_n hx hb d_Mo_format_275 rfl (lv_at hl 2 rfl) ?_
          refine lv_aload_n hx hb d_Mo_format_276 rfl (lv_at hl 0 rfl) ?_
          refine va_get (D := (dC, dI)) (ci := 8) (v := .int (nI F.length)) (C := "TextForgeModel") (T := TX8) (N := 19) hx hb hg iwX8 hown hK hP 0 rfl rfl 1 (by decide) (hg _ kw_727) (fun _ h9 => h9) rfl d_Mo_format_277 ?_
          refine lv_icmp_ge (tgt := 311) hx hb d_Mo_format_280 (by decide) (fun _ => ?_) (fun c9 => by first | exact absurd c9 c_244 | exact absurd c_244 c9)
          refine lv_iconst (v := 0) hx hb d_Mo_format_311 (by decide) ?_
          refine lv_istore (lv' := [(8, .int 0), (0, .ref mo), (1, .int (nI us)), (2, .int (nI i3)), (4, .int (by_z mi)), (5, .int (by_z pl)), (6, .int (by_z ze)), (7, .int (nI wd))]) hx hb d_Mo_format_312 hl (by decide) rfl (fun ls hl => ?_)
          refine lv_iload hx hb d_Mo_format_314 (lv_at hl 0 rfl) ?_
          refine lv_if_eq (tgt := 367) hx hb d_Mo_format_316 (by decide) (fun _ => ?_) (fun c9 => by first | exact absurd c9 rfl | exact absurd rfl c9)
          refine lv_aload_n hx hb d_Mo_format_367 rfl (lv_at hl 1 rfl) ?_
          refine lv_bipush (v := 37) hx hb d_Mo_format_368 (by decide) ?_
          have hPc := hP.sub (ws' := [(mo, .inr (8, [.int 0, .int (nI F.length), .ref rt, .int (nI AL.length), .ref rk, .ref rv, .ref rw, .ref ro, .int (nI (List.take 4096 G).length), .ref rr, .int (nI ([] : List Nat).length), .ref ra, .long pz, .int kc, .ref rc, .ref rl, .ref rb, .int la2, .int ca2])), (rr, .inl (cB, 4096, .inl g2))]) [0, 7] rfl
          have hKc := hK.sub (tys' := [(cB, .byte)]) [0] rfl
          have hDc := hD.sub (ws' := [(mo, .inr (8, [.int 0, .int (nI F.length), .ref rt, .int (nI AL.length), .ref rk, .ref rv, .ref rw, .ref ro, .int (nI (List.take 4096 G).length), .ref rr, .int (nI ([] : List Nat).length), .ref ra, .long pz, .int kc, .ref rc, .ref rl, .ref rb, .int la2, .int ca2])), (rr, .inl (cB, 4096, .inl g2))]) [0, 7] (by decide) rfl
          have hFc := va_free (wc := [(mo, .inr (8, [.int 0, .int (nI F.length), .ref rt, .int (nI AL.length), .ref rk, .ref rv, .ref rw, .ref ro, .int (nI (List.take 4096 G).length), .ref rr, .int (nI ([] : List Nat).length), .ref ra, .long pz, .int kc, .ref rc, .ref rl, .ref rb, .int la2, .int ca2])), (rr, .inl (cB, 4096, .inl g2))]) hD hS hA [0, 7] rfl
          refine zz_callv (va_runV (As := [.int 37]) (rest := []) ⟨hx, hb, hml, hown, hg⟩ (c_Mo_give l dC dI mo rt rk rv rw ro rr ra rc rl rb 0 (nI F.length) (nI AL.length) (nI (List.take 4096 G).length) (nI ([] : List Nat).length) pz kc la2 ca2 cB g2 (List.take 4096 G) 37 hRi (List.length_take_le _ _) H.size) (cwV 1 hg (gi_V kw_848 kw_850 sw_13 kw_9 kw_851) rfl rfl rfl (by decide +kernel) ⟨Nat.le_of_ble_eq_true rfl, Nat.le_of_ble_eq_true rfl⟩) (zz_preV hPc hKc hDc _ (q0 := 0) (ci := 8) rfl rfl) rfl rfl hl.1 rfl (lv_room (Nat.le_of_ble_eq_true rfl)) d_Mo_format_370 ⟨Nat.le_of_ble_eq_true rfl, Nat.le_of_ble_eq_true rfl⟩) hS hFc (fun u H1 k9 p9 d9 => va_join (wr := [(rt, .inl (cB, 4096, .inl ft)), (ra, .inl (cB, 16400, .inl g)), (rk, .inl (cI, 16, .inl fk)), (rv, .inl (cL, 16, .inr (.inl fv))), (rw, .inl (cI, 16, .inl fw)), (ro, .inl (cB, 65536, .inl fo))]) hP hD [0, 7] [1, 2, 3, 4, 5, 6] rfl rfl (by decide) (by decide) k9 hFc p9 d9) (fun u H locs hw hP hD hK1 hS => ?_)
          obtain ⟨u_2, rfl⟩ : ∃ z, z = u := ⟨_, rfl⟩
          try dsimp only at hw
          have hP : va_P (dC, dI) vwCl [(rt, .inl (cB, 4096, .inl ft)), (ra, .inl (cB, 16400, .inl g)), (rk, .inl (cI, 16, .inl fk)), (rv, .inl (cL, 16, .inr (.inl fv))), (rw, .inl (cI, 16, .inl fw)), (ro, .inl (cB, 65536, .inl fo)), (mo, .inr (8, [.int 0, .int (nI F.length), .ref rt, .int (nI AL.length), .ref rk, .ref rv, .ref rw, .ref ro, .int (nI (by_ap 4096 (List.take 4096 G) [by_b 37]).length), .ref rr, .int (nI ([] : List Nat).length), .ref ra, .long pz, .int kc, .ref rc, .ref rl, .ref rb, .int la2, .int ca2])), (rr, .inl (cB, 4096, .inl u_2))] H := hP
          have hD : va_D A [(rt, .inl (cB, 4096, .inl ft)), (ra, .inl (cB, 16400, .inl g)), (rk, .inl (cI, 16, .inl fk)), (rv, .inl (cL, 16, .inr (.inl fv))), (rw, .inl (cI, 16, .inl fw)), (ro, .inl (cB, 65536, .inl fo)), (mo, .inr (8, [.int 0, .int (nI F.length), .ref rt, .int (nI AL.length), .ref rk, .ref rv, .ref rw, .ref ro, .int (nI (by_ap 4096 (List.take 4096 G) [by_b 37]).length), .ref rr, .int (nI ([] : List Nat).length), .ref ra, .long pz, .int kc, .ref rc, .ref rl, .ref rb, .int la2, .int ca2])), (rr, .inl (cB, 4096, .inl u_2))] := hD
          have hR_4 := hw
          refine lv_aload_n hx hb d_Mo_format_373 rfl (lv_at hl 1 rfl) ?_
          refine lv_bipush (v := 33) hx hb d_Mo_format_374 (by decide) ?_
          have hPc := hP.sub (ws' := [(mo, .inr (8, [.int 0, .int (nI F.length), .ref rt, .int (nI AL.length), .ref rk, .ref rv, .ref rw, .ref ro, .int (nI (by_ap 4096 (List.take 4096 G) [by_b 37]).length), .ref rr, .int (nI ([] : List Nat).length), .ref ra, .long pz, .int kc, .ref rc, .ref rl, .ref rb, .int la2, .int ca2])), (rr, .inl (cB, 4096, .inl u_2))]) [6, 7] rfl
          have hKc := hK.sub (tys' := [(cB, .byte)]) [0] rfl
          have hDc := hD.sub (ws' := [(mo, .inr (8, [.int 0, .int (nI F.length), .ref rt, .int (nI AL.length), .ref rk, .ref rv, .ref rw, .ref ro, .int (nI (by_ap 4096 (List.take 4096 G) [by_b 37]).length), .ref rr, .int (nI ([] : List Nat).length), .ref ra, .long pz, .int kc, .ref rc, .ref rl, .ref rb, .int la2, .int ca2])), (rr, .inl (cB, 4096, .inl u_2))]) [6, 7] (by decide) rfl
          have hFc := va_free (wc := [(mo, .inr (8, [.int 0, .int (nI F.length), .ref rt, .int (nI AL.length), .ref rk, .ref rv, .ref rw, .ref ro, .int (nI (by_ap 4096 (List.take 4096 G) [by_b 37]).length), .ref rr, .int (nI ([] : List Nat).length), .ref ra, .long pz, .int kc, .ref rc, .ref rl, .ref rb, .int la2, .int ca2])), (rr, .inl (cB, 4096, .inl u_2))]) hD hS hA [6, 7] rfl
          refine zz_callv (va_runV (As := [.int 33]) (rest := []) ⟨hx, hb, hml, hown, hg⟩ (c_Mo_give l dC dI mo rt rk rv rw ro rr ra rc rl rb 0 (nI F.length) (nI AL.length) (nI (by_ap 4096 (List.take 4096 G) [by_b 37]).length) (nI ([] : List Nat).length) pz kc la2 ca2 cB u_2 (by_ap 4096 (List.take 4096 G) [by_b 37]) 33 hR_4 (by_ap_len _ _ _) H.size) (cwV 1 hg (gi_V kw_848 kw_850 sw_13 kw_9 kw_851) rfl rfl rfl (by decide +kernel) ⟨Nat.le_of_ble_eq_true rfl, Nat.le_of_ble_eq_true rfl⟩) (zz_preV hPc hKc hDc _ (q0 := 0) (ci := 8) rfl rfl) rfl rfl hl.1 rfl (lv_room (Nat.le_of_ble_eq_true rfl)) d_Mo_format_376 ⟨Nat.le_of_ble_eq_true rfl, Nat.le_of_ble_eq_true rfl⟩) hS hFc (fun u H1 k9 p9 d9 => va_join (wr := [(rt, .inl (cB, 4096, .inl ft)), (ra, .inl (cB, 16400, .inl g)), (rk, .inl (cI, 16, .inl fk)), (rv, .inl (cL, 16, .inr (.inl fv))), (rw, .inl (cI, 16, .inl fw)), (ro, .inl (cB, 65536, .inl fo))]) hP hD [6, 7] [0, 1, 2, 3, 4, 5] rfl rfl (by decide) (by decide) k9 hFc p9 d9) (fun u H locs hw hP hD hK1 hS => ?_)
          obtain ⟨u_5, rfl⟩ : ∃ z, z = u := ⟨_, rfl⟩
          try dsimp only at hw
          have hP : va_P (dC, dI) vwCl [(rt, .inl (cB, 4096, .inl ft)), (ra, .inl (cB, 16400, .inl g)), (rk, .inl (cI, 16, .inl fk)), (rv, .inl (cL, 16, .inr (.inl fv))), (rw, .inl (cI, 16, .inl fw)), (ro, .inl (cB, 65536, .inl fo)), (mo, .inr (8, [.int 0, .int (nI F.length), .ref rt, .int (nI AL.length), .ref rk, .ref rv, .ref rw, .ref ro, .int (nI (by_ap 4096 (by_ap 4096 (List.take 4096 G) [by_b 37]) [by_b 33]).length), .ref rr, .int (nI ([] : List Nat).length), .ref ra, .long pz, .int kc, .ref rc, .ref rl, .ref rb, .int la2, .int ca2])), (rr, .inl (cB, 4096, .inl u_5))] H := hP
          have hD : va_D A [(rt, .inl (cB, 4096, .inl ft)), (ra, .inl (cB, 16400, .inl g)), (rk, .inl (cI, 16, .inl fk)), (rv, .inl (cL, 16, .inr (.inl fv))), (rw, .inl (cI, 16, .inl fw)), (ro, .inl (cB, 65536, .inl fo)), (mo, .inr (8, [.int 0, .int (nI F.length), .ref rt, .int (nI AL.length), .ref rk, .ref rv, .ref rw, .ref ro, .int (nI (by_ap 4096 (by_ap 4096 (List.take 4096 G) [by_b 37]) [by_b 33]).length), .ref rr, .int (nI ([] : List Nat).length), .ref ra, .long pz, .int kc, .ref rc, .ref rl, .ref rb, .int la2, .int ca2])), (rr, .inl (cB, 4096, .inl u_5))] := hD
          have hR_7 := hw
          refine lv_iload_n hx hb d_Mo_format_379 rfl (lv_at hl 3 rfl) ?_
          refine lv_aload_n hx hb d_Mo_format_380 rfl (lv_at hl 1 rfl) ?_
          refine va_get (D := (dC, dI)) (ci := 8) (v := .int (nI F.length)) (C := "TextForgeModel") (T := TX8) (N := 19) hx hb hg iwX8 hown hK hP 6 rfl rfl 1 (by decide) (hg _ kw_727) (fun _ h9 => h9) rfl d_Mo_format_381 ?_
          refine lv_icmp_ge (tgt := 397) hx hb d_Mo_format_384 (by decide) (fun _ => ?_) (fun c9 => by first | exact absurd c9 c_244 | exact absurd c_244 c9)
          have hle := fk_end hKf f_244 hq
          refine lv_iinc (v := (nI us) + 1) (lv' := [(1, .int ((nI us) + 1)), (8, .int 0), (0, .ref mo), (2, .int (nI i3)), (4, .int (by_z mi)), (5, .int (by_z pl)), (6, .int (by_z ze)), (7, .int (nI wd))]) hx hb d_Mo_format_397 hl (k := 2) rfl rfl (by decide) rfl (fun ls hl => ?_)
          refine lv_iinc (v := (nI i3) + 1) (lv' := [(2, .int ((nI i3) + 1)), (1, .int ((nI us) + 1)), (8, .int 0), (0, .ref mo), (4, .int (by_z mi)), (5, .int (by_z pl)), (6, .int (by_z ze)), (7, .int (nI wd))]) hx hb d_Mo_format_400 hl (k := 3) rfl rfl (by decide) rfl (fun ls hl => ?_)
          refine lv_goto (tgt := 14) hx hb d_Mo_format_403 (by decide) ?_
          rw [show (by_ap 4096 (by_ap 4096 (List.take 4096 G) [by_b 37]) [by_b 33]) = (List.take 4096 (G ++ [37, 33])) from (by rw [tk_ap, tk_ap, List.append_assoc]; rfl)] at hP hD hR_7
          rw [nI_1, nI_1] at hl
          exact ih_14 (us + 1, i3 + 1, G ++ [37, 33], g, u_5, (nI ([] : List Nat).length), la2, ca2) H locs ls ⟨hP.sub [6, 0, 1, 2, 3, 4, 5, 7] rfl, hD.sub [6, 0, 1, 2, 3, 4, 5, 7] (by decide) rfl, hS, lv_sub hl [3, 1, 0] rfl, hle, hR_7, (by omega), (by omega)⟩ (by dsimp only; omega)
        · skip
          have f_244 : i3 < F.length := Nat.lt_of_not_le (fun z => c_244 (nI_le (a := F.length) z (by omega)))
          have hte := hLt i3 f_244
          refine lv_aload_n hx hb d_Mo_format_247 rfl (lv_at hl 0 rfl) ?_
          refine va_get (D := (dC, dI)) (ci := 8) (v := .ref rt) (C := "TextForgeModel") (T := TX8) (N := 19) hx hb hg iwX8 hown hK hP 0 rfl rfl 2 (by decide) (hg _ kw_728) (fun _ h9 => h9) rfl d_Mo_format_248 ?_
          refine lv_iload_n hx hb d_Mo_format_251 rfl (lv_at hl 2 rfl) ?_
          refine va_bald hx hb hK hP 1 0 rfl rfl (vp_in_nI (by omega) (by decide)) d_Mo_format_252 ?_
          refine lv_topi (fun y_8 ey_8 => ?_)
          have ey_8 : y_8 = (sb_b (F.getD i3 0) : Int32) := ey_8.trans (show (ft (nI i3).toNatClampNeg) = sb_b (F.getD i3 0) from (by rw [nI_clamp (show i3 < 2 ^ 31 by omega)]; exact hte.2))
          subst ey_8
          refine lv_bipush (v := 37) hx hb d_Mo_format_253 (by decide) ?_
          refine lv_icmp_ne (tgt := 270) hx hb d_Mo_format_255 (by decide) (fun c_255 => ?_) (fun c_255 => ?_)
          · skip
            have f_255 : F.getD i3 0 ≠ 37 := sb_e2 (k := 37) hte.1 (by decide) c_255
            refine lv_aload_n hx hb d_Mo_format_270 rfl (lv_at hl 0 rfl) ?_
            refine lv_iconst (v := 0) hx hb d_Mo_format_271 (by decide) ?_
            refine va_put (D := (dC, dI)) (ci := 8) (v := .int 0) (ty := .int) (C := "TextForgeModel") (T := TX8) (N := 19) hx hb hg iwX8 tyX8 tyX8_ok nmX8 hown hK hP hD hS 0 rfl rfl 10 (by decide) (hg _ kw_736) (fun _ h9 => h9) rfl (by decide +kernel) rfl rfl (Nat.le_of_ble_eq_true rfl) d_Mo_format_272 (fun H locs hP hD hS => ?_)
            have hP : va_P (dC, dI) vwCl [(mo, .inr (8, [.int 0, .int (nI F.length), .ref rt, .int (nI AL.length), .ref rk, .ref rv, .ref rw, .ref ro, .int (nI (List.take 4096 G).length), .ref rr, .int 0, .ref ra, .long pz, .int kc, .ref rc, .ref rl, .ref rb, .int la2, .int ca2])), (rt, .inl (cB, 4096, .inl ft)), (ra, .inl (cB, 16400, .inl g)), (rk, .inl (cI, 16, .inl fk)), (rv, .inl (cL, 16, .inr (.inl fv))), (rw, .inl (cI, 16, .inl fw)), (ro, .inl (cB, 65536, .inl fo)), (rr, .inl (cB, 4096, .inl g2))] H := hP
            have hD : va_D A [(mo, .inr (8, [.int 0, .int (nI F.length), .ref rt, .int (nI AL.length), .ref rk, .ref rv, .ref rw, .ref ro, .int (nI (List.take 4096 G).length), .ref rr, .int 0, .ref ra, .long pz, .int kc, .ref rc, .ref rl, .ref rb, .int la2, .int ca2])), (rt, .inl (cB, 4096, .inl ft)), (ra, .inl (cB, 16400, .inl g)), (rk, .inl (cI, 16, .inl fk)), (rv, .inl (cL, 16, .inr (.inl fv))), (rw, .inl (cI, 16, .inl fw)), (ro, .inl (cB, 65536, .inl fo)), (rr, .inl (cB, 4096, .inl g2))] := hD
            have hP : va_P (dC, dI) vwCl [(mo, .inr (8, [.int 0, .int (nI F.length), .ref rt, .int (nI AL.length), .ref rk, .ref rv, .ref rw, .ref ro, .int (nI (List.take 4096 G).length), .ref rr, .int (nI ([] : List Nat).length), .ref ra, .long pz, .int kc, .ref rc, .ref rl, .ref rb, .int la2, .int ca2])), (rt, .inl (cB, 4096, .inl ft)), (ra, .inl (cB, 16400, .inl g)), (rk, .inl (cI, 16, .inl fk)), (rv, .inl (cL, 16, .inr (.inl fv))), (rw, .inl (cI, 16, .inl fw)), (ro, .inl (cB, 65536, .inl fo)), (rr, .inl (cB, 4096, .inl g2))] H := hP
            have hD : va_D A [(mo, .inr (8, [.int 0, .int (nI F.length), .ref rt, .int (nI AL.length), .ref rk, .ref rv, .ref rw, .ref ro, .int (nI (List.take 4096 G).length), .ref rr, .int (nI ([] : List Nat).length), .ref ra, .long pz, .int kc, .ref rc, .ref rl, .ref rb, .int la2, .int ca2])), (rt, .inl (cB, 4096, .inl ft)), (ra, .inl (cB, 16400, .inl g)), (rk, .inl (cI, 16, .inl fk)), (rv, .inl (cL, 16, .inr (.inl fv))), (rw, .inl (cI, 16, .inl fw)), (ro, .inl (cB, 65536, .inl fo)), (rr, .inl (cB, 4096, .inl g2))] := hD
            refine lv_iload_n hx hb d_Mo_format_275 rfl (lv_at hl 2 rfl) ?_
            refine lv_aload_n hx hb d_Mo_format_276 rfl (lv_at hl 0 rfl) ?_
            refine va_get (D := (dC, dI)) (ci := 8) (v := .int (nI F.length)) (C := "TextForgeModel") (T := TX8) (N := 19) hx hb hg iwX8 hown hK hP 0 rfl rfl 1 (by decide) (hg _ kw_727) (fun _ h9 => h9) rfl d_Mo_format_277 ?_
            refine lv_icmp_ge (tgt := 311) hx hb d_Mo_format_280 (by decide) (fun c9 => by first | exact absurd c9 c_244 | exact absurd c_244 c9) (fun _ => ?_)
            refine lv_iload_n hx hb d_Mo_format_283 rfl (lv_at hl 1 rfl) ?_
            refine lv_aload_n hx hb d_Mo_format_284 rfl (lv_at hl 0 rfl) ?_
            refine va_get (D := (dC, dI)) (ci := 8) (v := .int (nI AL.length)) (C := "TextForgeModel") (T := TX8) (N := 19) hx hb hg iwX8 hown hK hP 0 rfl rfl 3 (by decide) (hg _ kw_729) (fun _ h9 => h9) rfl d_Mo_format_285 ?_
            refine lv_icmp_ge (tgt := 311) hx hb d_Mo_format_288 (by decide) (fun c_288 => ?_) (fun c_288 => ?_)
            · skip
              have f_288 : AL.length ≤ us := Nat.le_of_not_lt (fun z => nI_ge (b := AL.length) z (by omega) c_288)
              refine lv_iconst (v := 0) hx hb d_Mo_format_311 (by decide) ?_
              refine lv_istore (lv' := [(8, .int 0), (0, .ref mo), (1, .int (nI us)), (2, .int (nI i3)), (4, .int (by_z mi)), (5, .int (by_z pl)), (6, .int (by_z ze)), (7, .int (nI wd))]) hx hb d_Mo_format_312 hl (by decide) rfl (fun ls hl => ?_)
              refine lv_iload hx hb d_Mo_format_314 (lv_at hl 0 rfl) ?_
              refine lv_if_eq (tgt := 367) hx hb d_Mo_format_316 (by decide) (fun _ => ?_) (fun c9 => by first | exact absurd c9 rfl | exact absurd rfl c9)
              refine lv_aload_n hx hb d_Mo_format_367 rfl (lv_at hl 1 rfl) ?_
              refine lv_bipush (v := 37) hx hb d_Mo_format_368 (by decide) ?_
              have hPc := hP.sub (ws' := [(mo, .inr (8, [.int 0, .int (nI F.length), .ref rt, .int (nI AL.length), .ref rk, .ref rv, .ref rw, .ref ro, .int (nI (List.take 4096 G).length), .ref rr, .int (nI ([] : List Nat).length), .ref ra, .long pz, .int kc, .ref rc, .ref rl, .ref rb, .int la2, .int ca2])), (rr, .inl (cB, 4096, .inl g2))]) [0, 7] rfl
              have hKc := hK.sub (tys' := [(cB, .byte)]) [0] rfl
              have hDc := hD.sub (ws' := [(mo, .inr (8, [.int 0, .int (nI F.length), .ref rt, .int (nI AL.length), .ref rk, .ref rv, .ref rw, .ref ro, .int (nI (List.take 4096 G).length), .ref rr, .int (nI ([] : List Nat).length), .ref ra, .long pz, .int kc, .ref rc, .ref rl, .ref rb, .int la2, .int ca2])), (rr, .inl (cB, 4096, .inl g2))]) [0, 7] (by decide) rfl
              have hFc := va_free (wc := [(mo, .inr (8, [.int 0, .int (nI F.length), .ref rt, .int (nI AL.length), .ref rk, .ref rv, .ref rw, .ref ro, .int (nI (List.take 4096 G).length), .ref rr, .int (nI ([] : List Nat).length), .ref ra, .long pz, .int kc, .ref rc, .ref rl, .ref rb, .int la2, .int ca2])), (rr, .inl (cB, 4096, .inl g2))]) hD hS hA [0, 7] rfl
              refine zz_callv (va_runV (As := [.int 37]) (rest := []) ⟨hx, hb, hml, hown, hg⟩ (c_Mo_give l dC dI mo rt rk rv rw ro rr ra rc rl rb 0 (nI F.length) (nI AL.length) (nI (List.take 4096 G).length) (nI ([] : List Nat).length) pz kc la2 ca2 cB g2 (List.take 4096 G) 37 hRi (List.length_take_le _ _) H.size) (cwV 1 hg (gi_V kw_848 kw_850 sw_13 kw_9 kw_851) rfl rfl rfl (by decide +kernel) ⟨Nat.le_of_ble_eq_true rfl, Nat.le_of_ble_eq_true rfl⟩) (zz_preV hPc hKc hDc _ (q0 := 0) (ci := 8) rfl rfl) rfl rfl hl.1 rfl (lv_room (Nat.le_of_ble_eq_true rfl)) d_Mo_format_370 ⟨Nat.le_of_ble_eq_true rfl, Nat.le_of_ble_eq_true rfl⟩) hS hFc (fun u H1 k9 p9 d9 => va_join (wr := [(rt, .inl (cB, 4096, .inl ft)), (ra, .inl (cB, 16400, .inl g)), (rk, .inl (cI, 16, .inl fk)), (rv, .inl (cL, 16, .inr (.inl fv))), (rw, .inl (cI, 16, .inl fw)), (ro, .inl (cB, 65536, .inl fo))]) hP hD [0, 7] [1, 2, 3, 4, 5, 6] rfl rfl (by decide) (by decide) k9 hFc p9 d9) (fun u H locs hw hP hD hK1 hS => ?_)
              obtain ⟨u_9, rfl⟩ : ∃ z, z = u := ⟨_, rfl⟩
              try dsimp only at hw
              have hP : va_P (dC, dI) vwCl [(rt, .inl (cB, 4096, .inl ft)), (ra, .inl (cB, 16400, .inl g)), (rk, .inl (cI, 16, .inl fk)), (rv, .inl (cL, 16, .inr (.inl fv))), (rw, .inl (cI, 16, .inl fw)), (ro, .inl (cB, 65536, .inl fo)), (mo, .inr (8, [.int 0, .int (nI F.length), .ref rt, .int (nI AL.length), .ref rk, .ref rv, .ref rw, .ref ro, .int (nI (by_ap 4096 (List.take 4096 G) [by_b 37]).length), .ref rr, .int (nI ([] : List Nat).length), .ref ra, .long pz, .int kc, .ref rc, .ref rl, .ref rb, .int la2, .int ca2])), (rr, .inl (cB, 4096, .inl u_9))] H := hP
              have hD : va_D A [(rt, .inl (cB, 4096, .inl ft)), (ra, .inl (cB, 16400, .inl g)), (rk, .inl (cI, 16, .inl fk)), (rv, .inl (cL, 16, .inr (.inl fv))), (rw, .inl (cI, 16, .inl fw)), (ro, .inl (cB, 65536, .inl fo)), (mo, .inr (8, [.int 0, .int (nI F.length), .ref rt, .int (nI AL.length), .ref rk, .ref rv, .ref rw, .ref ro, .int (nI (by_ap 4096 (List.take 4096 G) [by_b 37]).length), .ref rr, .int (nI ([] : List Nat).length), .ref ra, .long pz, .int kc, .ref rc, .ref rl, .ref rb, .int la2, .int ca2])), (rr, .inl (cB, 4096, .inl u_9))] := hD
              have hR_11 := hw
              refine lv_aload_n hx hb d_Mo_format_373 rfl (lv_at hl 1 rfl) ?_
              refine lv_bipush (v := 33) hx hb d_Mo_format_374 (by decide) ?_
              have hPc := hP.sub (ws' := [(mo, .inr (8, [.int 0, .int (nI F.length), .ref rt, .int (nI AL.length), .ref rk, .ref rv, .ref rw, .ref ro, .int (nI (by_ap 4096 (List.take 4096 G) [by_b 37]).length), .ref rr, .int (nI ([] : List Nat).length), .ref ra, .long pz, .int kc, .ref rc, .ref rl, .ref rb, .int la2, .int ca2])), (rr, .inl (cB, 4096, .inl u_9))]) [6, 7] rfl
              have hKc := hK.sub (tys' := [(cB, .byte)]) [0] rfl
              have hDc := hD.sub (ws' := [(mo, .inr (8, [.int 0, .int (nI F.length), .ref rt, .int (nI AL.length), .ref rk, .ref rv, .ref rw, .ref ro, .int (nI (by_ap 4096 (List.take 4096 G) [by_b 37]).length), .ref rr, .int (nI ([] : List Nat).length), .ref ra, .long pz, .int kc, .ref rc, .ref rl, .ref rb, .int la2, .int ca2])), (rr, .inl (cB, 4096, .inl u_9))]) [6, 7] (by decide) rfl
              have hFc := va_free (wc := [(mo, .inr (8, [.int 0, .int (nI F.length), .ref rt, .int (nI AL.length), .ref rk, .ref rv, .ref rw, .ref ro, .int (nI (by_ap 4096 (List.take 4096 G) [by_b 37]).length), .ref rr, .int (nI ([] : List Nat).length), .ref ra, .long pz, .int kc, .ref rc, .ref rl, .ref rb, .int la2, .int ca2])), (rr, .inl (cB, 4096, .inl u_9))]) hD hS hA [6, 7] rfl
              refine zz_callv (va_runV (As := [.int 33]) (rest := []) ⟨hx, hb, hml, hown, hg⟩ (c_Mo_give l dC dI mo rt rk rv rw ro rr ra rc rl rb 0 (nI F.length) (nI AL.length) (nI (by_ap 4096 (List.take 4096 G) [by_b 37]).length) (nI ([] : List Nat).length) pz kc la2 ca2 cB u_9 (by_ap 4096 (List.take 4096 G) [by_b 37]) 33 hR_11 (by_ap_len _ _ _) H.size) (cwV 1 hg (gi_V kw_848 kw_850 sw_13 kw_9 kw_851) rfl rfl rfl (by decide +kernel) ⟨Nat.le_of_ble_eq_true rfl, Nat.le_of_ble_eq_true rfl⟩) (zz_preV hPc hKc hDc _ (q0 := 0) (ci := 8) rfl rfl) rfl rfl hl.1 rfl (lv_room (Nat.le_of_ble_eq_true rfl)) d_Mo_format_376 ⟨Nat.le_of_ble_eq_true rfl, Nat.le_of_ble_eq_true rfl⟩) hS hFc (fun u H1 k9 p9 d9 => va_join (wr := [(rt, .inl (cB, 4096, .inl ft)), (ra, .inl (cB, 16400, .inl g)), (rk, .inl (cI, 16, .inl fk)), (rv, .inl (cL, 16, .inr (.inl fv))), (rw, .inl (cI, 16, .inl fw)), (ro, .inl (cB, 65536, .inl fo))]) hP hD [6, 7] [0, 1, 2, 3, 4, 5] rfl rfl (by decide) (by decide) k9 hFc p9 d9) (fun u H locs hw hP hD hK1 hS => ?_)
              obtain ⟨u_12, rfl⟩ : ∃ z, z = u := ⟨_, rfl⟩
              try dsimp only at hw
              have hP : va_P (dC, dI) vwCl [(rt, .inl (cB, 4096, .inl ft)), (ra, .inl (cB, 16400, .inl g)), (rk, .inl (cI, 16, .inl fk)), (rv, .inl (cL, 16, .inr (.inl fv))), (rw, .inl (cI, 16, .inl fw)), (ro, .inl (cB, 65536, .inl fo)), (mo, .inr (8, [.int 0, .int (nI F.length), .ref rt, .int (nI AL.length), .ref rk, .ref rv, .ref rw, .ref ro, .int (nI (by_ap 4096 (by_ap 4096 (List.take 4096 G) [by_b 37]) [by_b 33]).length), .ref rr, .int (nI ([] : List Nat).length), .ref ra, .long pz, .int kc, .ref rc, .ref rl, .ref rb, .int la2, .int ca2])), (rr, .inl (cB, 4096, .inl u_12))] H := hP
              have hD : va_D A [(rt, .inl (cB, 4096, .inl ft)), (ra, .inl (cB, 16400, .inl g)), (rk, .inl (cI, 16, .inl fk)), (rv, .inl (cL, 16, .inr (.inl fv))), (rw, .inl (cI, 16, .inl fw)), (ro, .inl (cB, 65536, .inl fo)), (mo, .inr (8, [.int 0, .int (nI F.length), .ref rt, .int (nI AL.length), .ref rk, .ref rv, .ref rw, .ref ro, .int (nI (by_ap 4096 (by_ap 4096 (List.take 4096 G) [by_b 37]) [by_b 33]).length), .ref rr, .int (nI ([] : List Nat).length), .ref ra, .long pz, .int kc, .ref rc, .ref rl, .ref rb, .int la2, .int ca2])), (rr, .inl (cB, 4096, .inl u_12))] := hD
              have hR_14 := hw
              refine lv_iload_n hx hb d_Mo_format_379 rfl (lv_at hl 3 rfl) ?_
              refine lv_aload_n hx hb d_Mo_format_380 rfl (lv_at hl 1 rfl) ?_
              refine va_get (D := (dC, dI)) (ci := 8) (v := .int (nI F.length)) (C := "TextForgeModel") (T := TX8) (N := 19) hx hb hg iwX8 hown hK hP 6 rfl rfl 1 (by decide) (hg _ kw_727) (fun _ h9 => h9) rfl d_Mo_format_381 ?_
              refine lv_icmp_ge (tgt := 397) hx hb d_Mo_format_384 (by decide) (fun c9 => by first | exact absurd c9 c_244 | exact absurd c_244 c9) (fun _ => ?_)
              refine lv_aload_n hx hb d_Mo_format_387 rfl (lv_at hl 1 rfl) ?_
              refine lv_aload_n hx hb d_Mo_format_388 rfl (lv_at hl 1 rfl) ?_
              refine va_get (D := (dC, dI)) (ci := 8) (v := .ref rt) (C := "TextForgeModel") (T := TX8) (N := 19) hx hb hg iwX8 hown hK hP 6 rfl rfl 2 (by decide) (hg _ kw_728) (fun _ h9 => h9) rfl d_Mo_format_389 ?_
              refine lv_iload_n hx hb d_Mo_format_392 rfl (lv_at hl 3 rfl) ?_
              refine va_bald hx hb hK hP 0 0 rfl rfl (vp_in_nI (by omega) (by decide)) d_Mo_format_393 ?_
              refine lv_topi (fun y_15 ey_15 => ?_)
              have ey_15 : y_15 = (sb_b (F.getD i3 0) : Int32) := ey_15.trans (show (ft (nI i3).toNatClampNeg) = sb_b (F.getD i3 0) from (by rw [nI_clamp (show i3 < 2 ^ 31 by omega)]; exact hte.2))
              subst ey_15
              have hPc := hP.sub (ws' := [(mo, .inr (8, [.int 0, .int (nI F.length), .ref rt, .int (nI AL.length), .ref rk, .ref rv, .ref rw, .ref ro, .int (nI (by_ap 4096 (by_ap 4096 (List.take 4096 G) [by_b 37]) [by_b 33]).length), .ref rr, .int (nI ([] : List Nat).length), .ref ra, .long pz, .int kc, .ref rc, .ref rl, .ref rb, .int la2, .int ca2])), (rr, .inl (cB, 4096, .inl u_12))]) [6, 7] rfl
              have hKc := hK.sub (tys' := [(cB, .byte)]) [0] rfl
              have hDc := hD.sub (ws' := [(mo, .inr (8, [.int 0, .int (nI F.length), .ref rt, .int (nI AL.length), .ref rk, .ref rv, .ref rw, .ref ro, .int (nI (by_ap 4096 (by_ap 4096 (List.take 4096 G) [by_b 37]) [by_b 33]).length), .ref rr, .int (nI ([] : List Nat).length), .ref ra, .long pz, .int kc, .ref rc, .ref rl, .ref rb, .int la2, .int ca2])), (rr, .inl (cB, 4096, .inl u_12))]) [6, 7] (by decide) rfl
              have hFc := va_free (wc := [(mo, .inr (8, [.int 0, .int (nI F.length), .ref rt, .int (nI AL.length), .ref rk, .ref rv, .ref rw, .ref ro, .int (nI (by_ap 4096 (by_ap 4096 (List.take 4096 G) [by_b 37]) [by_b 33]).length), .ref rr, .int (nI ([] : List Nat).length), .ref ra, .long pz, .int kc, .ref rc, .ref rl, .ref rb, .int la2, .int ca2])), (rr, .inl (cB, 4096, .inl u_12))]) hD hS hA [6, 7] rfl
              refine zz_callv (va_runV (As := [.int (sb_b (F.getD i3 0))]) (rest := []) ⟨hx, hb, hml, hown, hg⟩ (c_Mo_give l dC dI mo rt rk rv rw ro rr ra rc rl rb 0 (nI F.length) (nI AL.length) (nI (by_ap 4096 (by_ap 4096 (List.take 4096 G) [by_b 37]) [by_b 33]).length) (nI ([] : List Nat).length) pz kc la2 ca2 cB u_12 (by_ap 4096 (by_ap 4096 (List.take 4096 G) [by_b 37]) [by_b 33]) (sb_b (F.getD i3 0)) hR_14 (by_ap_len _ _ _) H.size) (cwV 1 hg (gi_V kw_848 kw_850 sw_13 kw_9 kw_851) rfl rfl rfl (by decide +kernel) ⟨Nat.le_of_ble_eq_true rfl, Nat.le_of_ble_eq_true rfl⟩) (zz_preV hPc hKc hDc _ (q0 := 0) (ci := 8) rfl rfl) rfl rfl hl.1 rfl (lv_room (Nat.le_of_ble_eq_true rfl)) d_Mo_format_394 ⟨Nat.le_of_ble_eq_true rfl, Nat.le_of_ble_eq_true rfl⟩) hS hFc (fun u H1 k9 p9 d9 => va_join (wr := [(rt, .inl (cB, 4096, .inl ft)), (ra, .inl (cB, 16400, .inl g)), (rk, .inl (cI, 16, .inl fk)), (rv, .inl (cL, 16, .inr (.inl fv))), (rw, .inl (cI, 16, .inl fw)), (ro, .inl (cB, 65536, .inl fo))]) hP hD [6, 7] [0, 1, 2, 3, 4, 5] rfl rfl (by decide) (by decide) k9 hFc p9 d9) (fun u H locs hw hP hD hK1 hS => ?_)
              obtain ⟨u_16, rfl⟩ : ∃ z, z = u := ⟨_, rfl⟩
              try dsimp only at hw
              have hP : va_P (dC, dI) vwCl [(rt, .inl (cB, 4096, .inl ft)), (ra, .inl (cB, 16400, .inl g)), (rk, .inl (cI, 16, .inl fk)), (rv, .inl (cL, 16, .inr (.inl fv))), (rw, .inl (cI, 16, .inl fw)), (ro, .inl (cB, 65536, .inl fo)), (mo, .inr (8, [.int 0, .int (nI F.length), .ref rt, .int (nI AL.length), .ref rk, .ref rv, .ref rw, .ref ro, .int (nI (by_ap 4096 (by_ap 4096 (by_ap 4096 (List.take 4096 G) [by_b 37]) [by_b 33]) [by_b (sb_b (F.getD i3 0))]).length), .ref rr, .int (nI ([] : List Nat).length), .ref ra, .long pz, .int kc, .ref rc, .ref rl, .ref rb, .int la2, .int ca2])), (rr, .inl (cB, 4096, .inl u_16))] H := hP
              have hD : va_D A [(rt, .inl (cB, 4096, .inl ft)), (ra, .inl (cB, 16400, .inl g)), (rk, .inl (cI, 16, .inl fk)), (rv, .inl (cL, 16, .inr (.inl fv))), (rw, .inl (cI, 16, .inl fw)), (ro, .inl (cB, 65536, .inl fo)), (mo, .inr (8, [.int 0, .int (nI F.length), .ref rt, .int (nI AL.length), .ref rk, .ref rv, .ref rw, .ref ro, .int (nI (by_ap 4096 (by_ap 4096 (by_ap 4096 (List.take 4096 G) [by_b 37]) [by_b 33]) [by_b (sb_b (F.getD i3 0))]).length), .ref rr, .int (nI ([] : List Nat).length), .ref ra, .long pz, .int kc, .ref rc, .ref rl, .ref rb, .int la2, .int ca2])), (rr, .inl (cB, 4096, .inl u_16))] := hD
              have hR_18 := hw
              have hle := fk_letter hKf f_244 rfl hq (hlt f_244)
              have hpb : pb_p (F.getD i3 0) mi pl ze wd us AL = [37, 33, F.getD i3 0] := pb_none f_255 f_288
              rw [hpb, pb_u2 f_255] at hle
              refine lv_iinc (v := (nI us) + 1) (lv' := [(1, .int ((nI us) + 1)), (8, .int 0), (0, .ref mo), (2, .int (nI i3)), (4, .int (by_z mi)), (5, .int (by_z pl)), (6, .int (by_z ze)), (7, .int (nI wd))]) hx hb d_Mo_format_397 hl (k := 2) rfl rfl (by decide) rfl (fun ls hl => ?_)
              refine lv_iinc (v := (nI i3) + 1) (lv' := [(2, .int ((nI i3) + 1)), (1, .int ((nI us) + 1)), (8, .int 0), (0, .ref mo), (4, .int (by_z mi)), (5, .int (by_z pl)), (6, .int (by_z ze)), (7, .int (nI wd))]) hx hb d_Mo_format_400 hl (k := 3) rfl rfl (by decide) rfl (fun ls hl => ?_)
              refine lv_goto (tgt := 14) hx hb d_Mo_format_403 (by decide) ?_
              rw [show (by_ap 4096 (by_ap 4096 (by_ap 4096 (List.take 4096 G) [by_b 37]) [by_b 33]) [by_b (sb_b (F.getD i3 0))]) = (List.take 4096 (G ++ [37, 33, F.getD i3 0])) from (by rw [tk_ap, tk_ap, tk_ap, by_b_sb hte.1, List.append_assoc, List.append_assoc]; rfl)] at hP hD hR_18
              rw [nI_1, nI_1] at hl
              exact ih_14 (us + 1, i3 + 1, G ++ [37, 33, F.getD i3 0], g, u_16, (nI ([] : List Nat).length), la2, ca2) H locs ls ⟨hP.sub [6, 0, 1, 2, 3, 4, 5, 7] rfl, hD.sub [6, 0, 1, 2, 3, 4, 5, 7] (by decide) rfl, hS, lv_sub hl [3, 1, 0] rfl, hle, hR_18, (by omega), (by omega)⟩ (by dsimp only; omega)
            · skip
              have f_288 : us < AL.length := Nat.lt_of_not_le (fun z => c_288 (nI_le (a := AL.length) z (by omega)))
              obtain ⟨⟨ga, gk, gx, gh, gr, gf, gB⟩, hga⟩ : ∃ g0, AL[us]? = some g0 := ⟨_, List.getElem?_eq_getElem f_288⟩
              have hm9 : mo_h gk gx gB us fk fv fw fo ∧ mo_o gk gx := hmA us _ hga
              refine lv_aload_n hx hb d_Mo_format_291 rfl (lv_at hl 0 rfl) ?_
              refine lv_aload_n hx hb d_Mo_format_292 rfl (lv_at hl 0 rfl) ?_
              refine va_get (D := (dC, dI)) (ci := 8) (v := .ref rt) (C := "TextForgeModel") (T := TX8) (N := 19) hx hb hg iwX8 hown hK hP 0 rfl rfl 2 (by decide) (hg _ kw_728) (fun _ h9 => h9) rfl d_Mo_format_293 ?_
              refine lv_iload_n hx hb d_Mo_format_296 rfl (lv_at hl 2 rfl) ?_
              refine va_bald hx hb hK hP 1 0 rfl rfl (vp_in_nI (by omega) (by decide)) d_Mo_format_297 ?_
              refine lv_topi (fun y_19 ey_19 => ?_)
              have ey_19 : y_19 = (sb_b (F.getD i3 0) : Int32) := ey_19.trans (show (ft (nI i3).toNatClampNeg) = sb_b (F.getD i3 0) from (by rw [nI_clamp (show i3 < 2 ^ 31 by omega)]; exact hte.2))
              subst ey_19
              refine lv_iload_n hx hb d_Mo_format_298 rfl (lv_at hl 1 rfl) ?_
              refine lv_iload hx hb d_Mo_format_299 (lv_at hl 4 rfl) ?_
              have hPc := hP.sub (ws' := [(mo, .inr (8, [.int 0, .int (nI F.length), .ref rt, .int (nI AL.length), .ref rk, .ref rv, .ref rw, .ref ro, .int (nI (List.take 4096 G).length), .ref rr, .int (nI ([] : List Nat).length), .ref ra, .long pz, .int kc, .ref rc, .ref rl, .ref rb, .int la2, .int ca2])), (ra, .inl (cB, 16400, .inl g)), (rk, .inl (cI, 16, .inl fk)), (rv, .inl (cL, 16, .inr (.inl fv))), (rw, .inl (cI, 16, .inl fw)), (ro, .inl (cB, 65536, .inl fo))]) [0, 2, 3, 4, 5, 6] rfl
              have hKc := hK.sub (tys' := [(cB, .byte), (cI, .int), (cL, .long)]) [0, 1, 2] rfl
              have hDc := hD.sub (ws' := [(mo, .inr (8, [.int 0, .int (nI F.length), .ref rt, .int (nI AL.length), .ref rk, .ref rv, .ref rw, .ref ro, .int (nI (List.take 4096 G).length), .ref rr, .int (nI ([] : List Nat).length), .ref ra, .long pz, .int kc, .ref rc, .ref rl, .ref rb, .int la2, .int ca2])), (ra, .inl (cB, 16400, .inl g)), (rk, .inl (cI, 16, .inl fk)), (rv, .inl (cL, 16, .inr (.inl fv))), (rw, .inl (cI, 16, .inl fw)), (ro, .inl (cB, 65536, .inl fo))]) [0, 2, 3, 4, 5, 6] (by decide) rfl
              have hFc := va_free (wc := [(mo, .inr (8, [.int 0, .int (nI F.length), .ref rt, .int (nI AL.length), .ref rk, .ref rv, .ref rw, .ref ro, .int (nI (List.take 4096 G).length), .ref rr, .int (nI ([] : List Nat).length), .ref ra, .long pz, .int kc, .ref rc, .ref rl, .ref rb, .int la2, .int ca2])), (ra, .inl (cB, 16400, .inl g)), (rk, .inl (cI, 16, .inl fk)), (rv, .inl (cL, 16, .inr (.inl fv))), (rw, .inl (cI, 16, .inl fw)), (ro, .inl (cB, 65536, .inl fo))]) hD hS hA [0, 2, 3, 4, 5, 6] rfl
              refine zz_calli (va_runV (As := [.int (sb_b (F.getD i3 0)), .int (nI us), .int (by_z pl)]) (rest := []) ⟨hx, hb, hml, hown, hg⟩ (c_Mo_makes l dC dI ad mo rt rk rv rw ro rr ra rc rl rb 0 (nI F.length) (nI AL.length) (nI (List.take 4096 G).length) (nI ([] : List Nat).length) pz kc la2 ca2 cB g cI cL fk fv fw fo us gk gx gB (F.getD i3 0) pl hte.1 (by omega) hm9.2 hm9.1 H.size) (cwV 3 hg (gi_V kw_852 kw_854 sw_14 kw_9 kw_855) rfl rfl rfl (by decide +kernel) ⟨Nat.le_of_ble_eq_true rfl, Nat.le_of_ble_eq_true rfl⟩) (zy_preV hX hS hFc hPc hKc hDc _ (q0 := 0) (ci := 8) rfl rfl) rfl rfl hl.1 rfl (lv_room (Nat.le_of_ble_eq_true rfl)) d_Mo_format_301 ⟨Nat.le_of_ble_eq_true rfl, Nat.le_of_ble_eq_true rfl⟩) hS hFc (fun u H1 k9 p9 d9 => va_join (wr := [(rt, .inl (cB, 4096, .inl ft)), (rr, .inl (cB, 4096, .inl g2))]) hP hD [0, 2, 3, 4, 5, 6] [1, 7] rfl rfl (by decide) (by decide) k9 hFc p9 d9) (fun r5 u H locs hw hP hD hK1 hS => ?_)
              obtain ⟨g5, la5, ca5⟩ := u
              try dsimp only at hw
              have hP : va_P (dC, dI) vwCl [(rt, .inl (cB, 4096, .inl ft)), (rr, .inl (cB, 4096, .inl g2)), (mo, .inr (8, [.int 0, .int (nI F.length), .ref rt, .int (nI AL.length), .ref rk, .ref rv, .ref rw, .ref ro, .int (nI (List.take 4096 G).length), .ref rr, .int (nI ((mk_o (F.getD i3 0) gk gx gB pl).getD []).length), .ref ra, .long pz, .int kc, .ref rc, .ref rl, .ref rb, .int la5, .int ca5])), (ra, .inl (cB, 16400, .inl g5)), (rk, .inl (cI, 16, .inl fk)), (rv, .inl (cL, 16, .inr (.inl fv))), (rw, .inl (cI, 16, .inl fw)), (ro, .inl (cB, 65536, .inl fo))] H := hP
              have hD : va_D A [(rt, .inl (cB, 4096, .inl ft)), (rr, .inl (cB, 4096, .inl g2)), (mo, .inr (8, [.int 0, .int (nI F.length), .ref rt, .int (nI AL.length), .ref rk, .ref rv, .ref rw, .ref ro, .int (nI (List.take 4096 G).length), .ref rr, .int (nI ((mk_o (F.getD i3 0) gk gx gB pl).getD []).length), .ref ra, .long pz, .int kc, .ref rc, .ref rl, .ref rb, .int la5, .int ca5])), (ra, .inl (cB, 16400, .inl g5)), (rk, .inl (cI, 16, .inl fk)), (rv, .inl (cL, 16, .inr (.inl fv))), (rw, .inl (cI, 16, .inl fw)), (ro, .inl (cB, 65536, .inl fo))] := hD
              have hLO := hw.2
              have hr5 := hw.1
              refine lv_if_eq (tgt := 311) hx hb d_Mo_format_304 (by decide) (fun c_304 => ?_) (fun c_304 => ?_)
              · skip
                have hmo : (mk_o (F.getD i3 0) gk gx gB pl) = none := pb_n hr5 c_304
                refine lv_iconst (v := 0) hx hb d_Mo_format_311 (by decide) ?_
                refine lv_istore (lv' := [(8, .int 0), (0, .ref mo), (1, .int (nI us)), (2, .int (nI i3)), (4, .int (by_z mi)), (5, .int (by_z pl)), (6, .int (by_z ze)), (7, .int (nI wd))]) hx hb d_Mo_format_312 hl (by decide) rfl (fun ls hl => ?_)
                refine lv_iload hx hb d_Mo_format_314 (lv_at hl 0 rfl) ?_
                refine lv_if_eq (tgt := 367) hx hb d_Mo_format_316 (by decide) (fun _ => ?_) (fun c9 => by first | exact absurd c9 rfl | exact absurd rfl c9)
                refine lv_aload_n hx hb d_Mo_format_367 rfl (lv_at hl 1 rfl) ?_
                refine lv_bipush (v := 37) hx hb d_Mo_format_368 (by decide) ?_
                have hPc := hP.sub (ws' := [(mo, .inr (8, [.int 0, .int (nI F.length), .ref rt, .int (nI AL.length), .ref rk, .ref rv, .ref rw, .ref ro, .int (nI (List.take 4096 G).length), .ref rr, .int (nI ((mk_o (F.getD i3 0) gk gx gB pl).getD []).length), .ref ra, .long pz, .int kc, .ref rc, .ref rl, .ref rb, .int la5, .int ca5])), (rr, .inl (cB, 4096, .inl g2))]) [2, 1] rfl
                have hKc := hK.sub (tys' := [(cB, .byte)]) [0] rfl
                have hDc := hD.sub (ws' := [(mo, .inr (8, [.int 0, .int (nI F.length), .ref rt, .int (nI AL.length), .ref rk, .ref rv, .ref rw, .ref ro, .int (nI (List.take 4096 G).length), .ref rr, .int (nI ((mk_o (F.getD i3 0) gk gx gB pl).getD []).length), .ref ra, .long pz, .int kc, .ref rc, .ref rl, .ref rb, .int la5, .int ca5])), (rr, .inl (cB, 4096, .inl g2))]) [2, 1] (by decide) rfl
                have hFc := va_free (wc := [(mo, .inr (8, [.int 0, .int (nI F.length), .ref rt, .int (nI AL.length), .ref rk, .ref rv, .ref rw, .ref ro, .int (nI (List.take 4096 G).length), .ref rr, .int (nI ((mk_o (F.getD i3 0) gk gx gB pl).getD []).length), .ref ra, .long pz, .int kc, .ref rc, .ref rl, .ref rb, .int la5, .int ca5])), (rr, .inl (cB, 4096, .inl g2))]) hD hS hA [2, 1] rfl
                refine zz_callv (va_runV (As := [.int 37]) (rest := []) ⟨hx, hb, hml, hown, hg⟩ (c_Mo_give l dC dI mo rt rk rv rw ro rr ra rc rl rb 0 (nI F.length) (nI AL.length) (nI (List.take 4096 G).length) (nI ((mk_o (F.getD i3 0) gk gx gB pl).getD []).length) pz kc la5 ca5 cB g2 (List.take 4096 G) 37 hRi (List.length_take_le _ _) H.size) (cwV 1 hg (gi_V kw_848 kw_850 sw_13 kw_9 kw_851) rfl rfl rfl (by decide +kernel) ⟨Nat.le_of_ble_eq_true rfl, Nat.le_of_ble_eq_true rfl⟩) (zz_preV hPc hKc hDc _ (q0 := 0) (ci := 8) rfl rfl) rfl rfl hl.1 rfl (lv_room (Nat.le_of_ble_eq_true rfl)) d_Mo_format_370 ⟨Nat.le_of_ble_eq_true rfl, Nat.le_of_ble_eq_true rfl⟩) hS hFc (fun u H1 k9 p9 d9 => va_join (wr := [(rt, .inl (cB, 4096, .inl ft)), (ra, .inl (cB, 16400, .inl g5)), (rk, .inl (cI, 16, .inl fk)), (rv, .inl (cL, 16, .inr (.inl fv))), (rw, .inl (cI, 16, .inl fw)), (ro, .inl (cB, 65536, .inl fo))]) hP hD [2, 1] [0, 3, 4, 5, 6, 7] rfl rfl (by decide) (by decide) k9 hFc p9 d9) (fun u H locs hw hP hD hK1 hS => ?_)
                obtain ⟨u_20, rfl⟩ : ∃ z, z = u := ⟨_, rfl⟩
                try dsimp only at hw
                have hP : va_P (dC, dI) vwCl [(rt, .inl (cB, 4096, .inl ft)), (ra, .inl (cB, 16400, .inl g5)), (rk, .inl (cI, 16, .inl fk)), (rv, .inl (cL, 16, .inr (.inl fv))), (rw, .inl (cI, 16, .inl fw)), (ro, .inl (cB, 65536, .inl fo)), (mo, .inr (8, [.int 0, .int (nI F.length), .ref rt, .int (nI AL.length), .ref rk, .ref rv, .ref rw, .ref ro, .int (nI (by_ap 4096 (List.take 4096 G) [by_b 37]).length), .ref rr, .int (nI ((mk_o (F.getD i3 0) gk gx gB pl).getD []).length), .ref ra, .long pz, .int kc, .ref rc, .ref rl, .ref rb, .int la5, .int ca5])), (rr, .inl (cB, 4096, .inl u_20))] H := hP
                have hD : va_D A [(rt, .inl (cB, 4096, .inl ft)), (ra, .inl (cB, 16400, .inl g5)), (rk, .inl (cI, 16, .inl fk)), (rv, .inl (cL, 16, .inr (.inl fv))), (rw, .inl (cI, 16, .inl fw)), (ro, .inl (cB, 65536, .inl fo)), (mo, .inr (8, [.int 0, .int (nI F.length), .ref rt, .int (nI AL.length), .ref rk, .ref rv, .ref rw, .ref ro, .int (nI (by_ap 4096 (List.take 4096 G) [by_b 37]).length), .ref rr, .int (nI ((mk_o (F.getD i3 0) gk gx gB pl).getD []).length), .ref ra, .long pz, .int kc, .ref rc, .ref rl, .ref rb, .int la5, .int ca5])), (rr, .inl (cB, 4096, .inl u_20))] := hD
                have hR_22 := hw
                refine lv_aload_n hx hb d_Mo_format_373 rfl (lv_at hl 1 rfl) ?_
                refine lv_bipush (v := 33) hx hb d_Mo_format_374 (by decide) ?_
                have hPc := hP.sub (ws' := [(mo, .inr (8, [.int 0, .int (nI F.length), .ref rt, .int (nI AL.length), .ref rk, .ref rv, .ref rw, .ref ro, .int (nI (by_ap 4096 (List.take 4096 G) [by_b 37]).length), .ref rr, .int (nI ((mk_o (F.getD i3 0) gk gx gB pl).getD []).length), .ref ra, .long pz, .int kc, .ref rc, .ref rl, .ref rb, .int la5, .int ca5])), (rr, .inl (cB, 4096, .inl u_20))]) [6, 7] rfl
                have hKc := hK.sub (tys' := [(cB, .byte)]) [0] rfl
                have hDc := hD.sub (ws' := [(mo, .inr (8, [.int 0, .int (nI F.length), .ref rt, .int (nI AL.length), .ref rk, .ref rv, .ref rw, .ref ro, .int (nI (by_ap 4096 (List.take 4096 G) [by_b 37]).length), .ref rr, .int (nI ((mk_o (F.getD i3 0) gk gx gB pl).getD []).length), .ref ra, .long pz, .int kc, .ref rc, .ref rl, .ref rb, .int la5, .int ca5])), (rr, .inl (cB, 4096, .inl u_20))]) [6, 7] (by decide) rfl
                have hFc := va_free (wc := [(mo, .inr (8, [.int 0, .int (nI F.length), .ref rt, .int (nI AL.length), .ref rk, .ref rv, .ref rw, .ref ro, .int (nI (by_ap 4096 (List.take 4096 G) [by_b 37]).length), .ref rr, .int (nI ((mk_o (F.getD i3 0) gk gx gB pl).getD []).length), .ref ra, .long pz, .int kc, .ref rc, .ref rl, .ref rb, .int la5, .int ca5])), (rr, .inl (cB, 4096, .inl u_20))]) hD hS hA [6, 7] rfl
                refine zz_callv (va_runV (As := [.int 33]) (rest := []) ⟨hx, hb, hml, hown, hg⟩ (c_Mo_give l dC dI mo rt rk rv rw ro rr ra rc rl rb 0 (nI F.length) (nI AL.length) (nI (by_ap 4096 (List.take 4096 G) [by_b 37]).length) (nI ((mk_o (F.getD i3 0) gk gx gB pl).getD []).length) pz kc la5 ca5 cB u_20 (by_ap 4096 (List.take 4096 G) [by_b 37]) 33 hR_22 (by_ap_len _ _ _) H.size) (cwV 1 hg (gi_V kw_848 kw_850 sw_13 kw_9 kw_851) rfl rfl rfl (by decide +kernel) ⟨Nat.le_of_ble_eq_true rfl, Nat.le_of_ble_eq_true rfl⟩) (zz_preV hPc hKc hDc _ (q0 := 0) (ci := 8) rfl rfl) rfl rfl hl.1 rfl (lv_room (Nat.le_of_ble_eq_true rfl)) d_Mo_format_376 ⟨Nat.le_of_ble_eq_true rfl, Nat.le_of_ble_eq_true rfl⟩) hS hFc (fun u H1 k9 p9 d9 => va_join (wr := [(rt, .inl (cB, 4096, .inl ft)), (ra, .inl (cB, 16400, .inl g5)), (rk, .inl (cI, 16, .inl fk)), (rv, .inl (cL, 16, .inr (.inl fv))), (rw, .inl (cI, 16, .inl fw)), (ro, .inl (cB, 65536, .inl fo))]) hP hD [6, 7] [0, 1, 2, 3, 4, 5] rfl rfl (by decide) (by decide) k9 hFc p9 d9) (fun u H locs hw hP hD hK1 hS => ?_)
                obtain ⟨u_23, rfl⟩ : ∃ z, z = u := ⟨_, rfl⟩
                try dsimp only at hw
                have hP : va_P (dC, dI) vwCl [(rt, .inl (cB, 4096, .inl ft)), (ra, .inl (cB, 16400, .inl g5)), (rk, .inl (cI, 16, .inl fk)), (rv, .inl (cL, 16, .inr (.inl fv))), (rw, .inl (cI, 16, .inl fw)), (ro, .inl (cB, 65536, .inl fo)), (mo, .inr (8, [.int 0, .int (nI F.length), .ref rt, .int (nI AL.length), .ref rk, .ref rv, .ref rw, .ref ro, .int (nI (by_ap 4096 (by_ap 4096 (List.take 4096 G) [by_b 37]) [by_b 33]).length), .ref rr, .int (nI ((mk_o (F.getD i3 0) gk gx gB pl).getD []).length), .ref ra, .long pz, .int kc, .ref rc, .ref rl, .ref rb, .int la5, .int ca5])), (rr, .inl (cB, 4096, .inl u_23))] H := hP
                have hD : va_D A [(rt, .inl (cB, 4096, .inl ft)), (ra, .inl (cB, 16400, .inl g5)), (rk, .inl (cI, 16, .inl fk)), (rv, .inl (cL, 16, .inr (.inl fv))), (rw, .inl (cI, 16, .inl fw)), (ro, .inl (cB, 65536, .inl fo)), (mo, .inr (8, [.int 0, .int (nI F.length), .ref rt, .int (nI AL.length), .ref rk, .ref rv, .ref rw, .ref ro, .int (nI (by_ap 4096 (by_ap 4096 (List.take 4096 G) [by_b 37]) [by_b 33]).length), .ref rr, .int (nI ((mk_o (F.getD i3 0) gk gx gB pl).getD []).length), .ref ra, .long pz, .int kc, .ref rc, .ref rl, .ref rb, .int la5, .int ca5])), (rr, .inl (cB, 4096, .inl u_23))] := hD
                have hR_25 := hw
                refine lv_iload_n hx hb d_Mo_format_379 rfl (lv_at hl 3 rfl) ?_
                refine lv_aload_n hx hb d_Mo_format_380 rfl (lv_at hl 1 rfl) ?_
                refine va_get (D := (dC, dI)) (ci := 8) (v := .int (nI F.length)) (C := "TextForgeModel") (T := TX8) (N := 19) hx hb hg iwX8 hown hK hP 6 rfl rfl 1 (by decide) (hg _ kw_727) (fun _ h9 => h9) rfl d_Mo_format_381 ?_
                refine lv_icmp_ge (tgt := 397) hx hb d_Mo_format_384 (by decide) (fun c9 => by first | exact absurd c9 c_244 | exact absurd c_244 c9) (fun _ => ?_)
                refine lv_aload_n hx hb d_Mo_format_387 rfl (lv_at hl 1 rfl) ?_
                refine lv_aload_n hx hb d_Mo_format_388 rfl (lv_at hl 1 rfl) ?_
                refine va_get (D := (dC, dI)) (ci := 8) (v := .ref rt) (C := "TextForgeModel") (T := TX8) (N := 19) hx hb hg iwX8 hown hK hP 6 rfl rfl 2 (by decide) (hg _ kw_728) (fun _ h9 => h9) rfl d_Mo_format_389 ?_
                refine lv_iload_n hx hb d_Mo_format_392 rfl (lv_at hl 3 rfl) ?_
                refine va_bald hx hb hK hP 0 0 rfl rfl (vp_in_nI (by omega) (by decide)) d_Mo_format_393 ?_
                refine lv_topi (fun y_26 ey_26 => ?_)
                have ey_26 : y_26 = (sb_b (F.getD i3 0) : Int32) := ey_26.trans (show (ft (nI i3).toNatClampNeg) = sb_b (F.getD i3 0) from (by rw [nI_clamp (show i3 < 2 ^ 31 by omega)]; exact hte.2))
                subst ey_26
                have hPc := hP.sub (ws' := [(mo, .inr (8, [.int 0, .int (nI F.length), .ref rt, .int (nI AL.length), .ref rk, .ref rv, .ref rw, .ref ro, .int (nI (by_ap 4096 (by_ap 4096 (List.take 4096 G) [by_b 37]) [by_b 33]).length), .ref rr, .int (nI ((mk_o (F.getD i3 0) gk gx gB pl).getD []).length), .ref ra, .long pz, .int kc, .ref rc, .ref rl, .ref rb, .int la5, .int ca5])), (rr, .inl (cB, 4096, .inl u_23))]) [6, 7] rfl
                have hKc := hK.sub (tys' := [(cB, .byte)]) [0] rfl
                have hDc := hD.sub (ws' := [(mo, .inr (8, [.int 0, .int (nI F.length), .ref rt, .int (nI AL.length), .ref rk, .ref rv, .ref rw, .ref ro, .int (nI (by_ap 4096 (by_ap 4096 (List.take 4096 G) [by_b 37]) [by_b 33]).length), .ref rr, .int (nI ((mk_o (F.getD i3 0) gk gx gB pl).getD []).length), .ref ra, .long pz, .int kc, .ref rc, .ref rl, .ref rb, .int la5, .int ca5])), (rr, .inl (cB, 4096, .inl u_23))]) [6, 7] (by decide) rfl
                have hFc := va_free (wc := [(mo, .inr (8, [.int 0, .int (nI F.length), .ref rt, .int (nI AL.length), .ref rk, .ref rv, .ref rw, .ref ro, .int (nI (by_ap 4096 (by_ap 4096 (List.take 4096 G) [by_b 37]) [by_b 33]).length), .ref rr, .int (nI ((mk_o (F.getD i3 0) gk gx gB pl).getD []).length), .ref ra, .long pz, .int kc, .ref rc, .ref rl, .ref rb, .int la5, .int ca5])), (rr, .inl (cB, 4096, .inl u_23))]) hD hS hA [6, 7] rfl
                refine zz_callv (va_runV (As := [.int (sb_b (F.getD i3 0))]) (rest := []) ⟨hx, hb, hml, hown, hg⟩ (c_Mo_give l dC dI mo rt rk rv rw ro rr ra rc rl rb 0 (nI F.length) (nI AL.length) (nI (by_ap 4096 (by_ap 4096 (List.take 4096 G) [by_b 37]) [by_b 33]).length) (nI ((mk_o (F.getD i3 0) gk gx gB pl).getD []).length) pz kc la5 ca5 cB u_23 (by_ap 4096 (by_ap 4096 (List.take 4096 G) [by_b 37]) [by_b 33]) (sb_b (F.getD i3 0)) hR_25 (by_ap_len _ _ _) H.size) (cwV 1 hg (gi_V kw_848 kw_850 sw_13 kw_9 kw_851) rfl rfl rfl (by decide +kernel) ⟨Nat.le_of_ble_eq_true rfl, Nat.le_of_ble_eq_true rfl⟩) (zz_preV hPc hKc hDc _ (q0 := 0) (ci := 8) rfl rfl) rfl rfl hl.1 rfl (lv_room (Nat.le_of_ble_eq_true rfl)) d_Mo_format_394 ⟨Nat.le_of_ble_eq_true rfl, Nat.le_of_ble_eq_true rfl⟩) hS hFc (fun u H1 k9 p9 d9 => va_join (wr := [(rt, .inl (cB, 4096, .inl ft)), (ra, .inl (cB, 16400, .inl g5)), (rk, .inl (cI, 16, .inl fk)), (rv, .inl (cL, 16, .inr (.inl fv))), (rw, .inl (cI, 16, .inl fw)), (ro, .inl (cB, 65536, .inl fo))]) hP hD [6, 7] [0, 1, 2, 3, 4, 5] rfl rfl (by decide) (by decide) k9 hFc p9 d9) (fun u H locs hw hP hD hK1 hS => ?_)
                obtain ⟨u_27, rfl⟩ : ∃ z, z = u := ⟨_, rfl⟩
                try dsimp only at hw
                have hP : va_P (dC, dI) vwCl [(rt, .inl (cB, 4096, .inl ft)), (ra, .inl (cB, 16400, .inl g5)), (rk, .inl (cI, 16, .inl fk)), (rv, .inl (cL, 16, .inr (.inl fv))), (rw, .inl (cI, 16, .inl fw)), (ro, .inl (cB, 65536, .inl fo)), (mo, .inr (8, [.int 0, .int (nI F.length), .ref rt, .int (nI AL.length), .ref rk, .ref rv, .ref rw, .ref ro, .int (nI (by_ap 4096 (by_ap 4096 (by_ap 4096 (List.take 4096 G) [by_b 37]) [by_b 33]) [by_b (sb_b (F.getD i3 0))]).length), .ref rr, .int (nI ((mk_o (F.getD i3 0) gk gx gB pl).getD []).length), .ref ra, .long pz, .int kc, .ref rc, .ref rl, .ref rb, .int la5, .int ca5])), (rr, .inl (cB, 4096, .inl u_27))] H := hP
                have hD : va_D A [(rt, .inl (cB, 4096, .inl ft)), (ra, .inl (cB, 16400, .inl g5)), (rk, .inl (cI, 16, .inl fk)), (rv, .inl (cL, 16, .inr (.inl fv))), (rw, .inl (cI, 16, .inl fw)), (ro, .inl (cB, 65536, .inl fo)), (mo, .inr (8, [.int 0, .int (nI F.length), .ref rt, .int (nI AL.length), .ref rk, .ref rv, .ref rw, .ref ro, .int (nI (by_ap 4096 (by_ap 4096 (by_ap 4096 (List.take 4096 G) [by_b 37]) [by_b 33]) [by_b (sb_b (F.getD i3 0))]).length), .ref rr, .int (nI ((mk_o (F.getD i3 0) gk gx gB pl).getD []).length), .ref ra, .long pz, .int kc, .ref rc, .ref rl, .ref rb, .int la5, .int ca5])), (rr, .inl (cB, 4096, .inl u_27))] := hD
                have hR_29 := hw
                have hle := fk_letter hKf f_244 rfl hq (hlt f_244)
                have hpb : pb_p (F.getD i3 0) mi pl ze wd us AL = [37, 33, F.getD i3 0] := pb_mk0 f_255 hga hmo
                rw [hpb, pb_u2 f_255] at hle
                refine lv_iinc (v := (nI us) + 1) (lv' := [(1, .int ((nI us) + 1)), (8, .int 0), (0, .ref mo), (2, .int (nI i3)), (4, .int (by_z mi)), (5, .int (by_z pl)), (6, .int (by_z ze)), (7, .int (nI wd))]) hx hb d_Mo_format_397 hl (k := 2) rfl rfl (by decide) rfl (fun ls hl => ?_)
                refine lv_iinc (v := (nI i3) + 1) (lv' := [(2, .int ((nI i3) + 1)), (1, .int ((nI us) + 1)), (8, .int 0), (0, .ref mo), (4, .int (by_z mi)), (5, .int (by_z pl)), (6, .int (by_z ze)), (7, .int (nI wd))]) hx hb d_Mo_format_400 hl (k := 3) rfl rfl (by decide) rfl (fun ls hl => ?_)
                refine lv_goto (tgt := 14) hx hb d_Mo_format_403 (by decide) ?_
                rw [show (by_ap 4096 (by_ap 4096 (by_ap 4096 (List.take 4096 G) [by_b 37]) [by_b 33]) [by_b (sb_b (F.getD i3 0))]) = (List.take 4096 (G ++ [37, 33, F.getD i3 0])) from (by rw [tk_ap, tk_ap, tk_ap, by_b_sb hte.1, List.append_assoc, List.append_assoc]; rfl)] at hP hD hR_29
                rw [nI_1, nI_1] at hl
                exact ih_14 (us + 1, i3 + 1, G ++ [37, 33, F.getD i3 0], g5, u_27, (nI ((mk_o (F.getD i3 0) gk gx gB pl).getD []).length), la5, ca5) H locs ls ⟨hP.sub [6, 0, 1, 2, 3, 4, 5, 7] rfl, hD.sub [6, 0, 1, 2, 3, 4, 5, 7] (by decide) rfl, hS, lv_sub hl [3, 1, 0] rfl, hle, hR_29, (by omega), (by omega)⟩ (by dsimp only; omega)
              · skip
                obtain ⟨O, hmo⟩ := pb_s hr5 c_304
                refine lv_iconst (v := 1) hx hb d_Mo_format_307 (by decide) ?_
                refine lv_goto (tgt := 312) hx hb d_Mo_format_308 (by decide) ?_
                refine lv_istore (lv' := [(8, .int 1), (0, .ref mo), (1, .int (nI us)), (2, .int (nI i3)), (4, .int (by_z mi)), (5, .int (by_z pl)), (6, .int (by_z ze)), (7, .int (nI wd))]) hx hb d_Mo_format_312 hl (by decide) rfl (fun ls hl => ?_)
                refine lv_iload hx hb d_Mo_format_314 (lv_at hl 0 rfl) ?_
                refine lv_if_eq (tgt := 367) hx hb d_Mo_format_316 (by decide) (fun c9 => by first | exact absurd c9 (by decide) | exact absurd (by decide) c9) (fun _ => ?_)
                refine lv_aload_n hx hb d_Mo_format_319 rfl (lv_at hl 1 rfl) ?_
                refine lv_iload hx hb d_Mo_format_320 (lv_at hl 7 rfl) ?_
                refine lv_iload hx hb d_Mo_format_322 (lv_at hl 4 rfl) ?_
                refine lv_iload hx hb d_Mo_format_324 (lv_at hl 6 rfl) ?_
                refine lv_if_eq (tgt := 360) hx hb d_Mo_format_326 (by decide) (fun c_326 => ?_) (fun c_326 => ?_)
                · skip
                  refine lv_iconst (v := 0) hx hb d_Mo_format_360 (by decide) ?_
                  refine lv_topi (fun y_30 ey_30 => ?_)
                  have ey_30 : y_30 = (by_z (fm_z ze mi gk (F.getD i3 0)) : Int32) := ey_30.trans (show 0 = by_z (fm_z ze mi gk (F.getD i3 0)) from (fz_1 (by_z_f rfl c_326)))
                  subst ey_30
                  have hPc := hP.sub (ws' := [(mo, .inr (8, [.int 0, .int (nI F.length), .ref rt, .int (nI AL.length), .ref rk, .ref rv, .ref rw, .ref ro, .int (nI (List.take 4096 G).length), .ref rr, .int (nI ((mk_o (F.getD i3 0) gk gx gB pl).getD []).length), .ref ra, .long pz, .int kc, .ref rc, .ref rl, .ref rb, .int la5, .int ca5])), (ra, .inl (cB, 16400, .inl g5)), (rr, .inl (cB, 4096, .inl g2))]) [2, 3, 1] rfl
                  have hKc := hK.sub (tys' := [(cB, .byte)]) [0] rfl
                  have hDc := hD.sub (ws' := [(mo, .inr (8, [.int 0, .int (nI F.length), .ref rt, .int (nI AL.length), .ref rk, .ref rv, .ref rw, .ref ro, .int (nI (List.take 4096 G).length), .ref rr, .int (nI ((mk_o (F.getD i3 0) gk gx gB pl).getD []).length), .ref ra, .long pz, .int kc, .ref rc, .ref rl, .ref rb, .int la5, .int ca5])), (ra, .inl (cB, 16400, .inl g5)), (rr, .inl (cB, 4096, .inl g2))]) [2, 3, 1] (by decide) rfl
                  have hFc := va_free (wc := [(mo, .inr (8, [.int 0, .int (nI F.length), .ref rt, .int (nI AL.length), .ref rk, .ref rv, .ref rw, .ref ro, .int (nI (List.take 4096 G).length), .ref rr, .int (nI ((mk_o (F.getD i3 0) gk gx gB pl).getD []).length), .ref ra, .long pz, .int kc, .ref rc, .ref rl, .ref rb, .int la5, .int ca5])), (ra, .inl (cB, 16400, .inl g5)), (rr, .inl (cB, 4096, .inl g2))]) hD hS hA [2, 3, 1] rfl
                  refine zz_callv (va_runV (As := [.int (nI wd), .int (by_z mi), .int (by_z (fm_z ze mi gk (F.getD i3 0)))]) (rest := []) ⟨hx, hb, hml, hown, hg⟩ (c_Mo_lay l dC dI mo rt rk rv rw ro rr ra rc rl rb 0 (nI F.length) (nI AL.length) (nI (List.take 4096 G).length) (nI ((mk_o (F.getD i3 0) gk gx gB pl).getD []).length) pz kc la5 ca5 cB g5 ((mk_o (F.getD i3 0) gk gx gB pl).getD []) g2 (List.take 4096 G) wd mi (fm_z ze mi gk (F.getD i3 0)) hLO (mk_l hm9.2 hm9.1) hRi (List.length_take_le _ _) hw9 fz_0 fz_b H.size) (cwV 3 hg (gi_V kw_932 kw_934 sw_27 kw_9 kw_935) rfl rfl rfl (by decide +kernel) ⟨Nat.le_of_ble_eq_true rfl, Nat.le_of_ble_eq_true rfl⟩) (zz_preV hPc hKc hDc _ (q0 := 0) (ci := 8) rfl rfl) rfl rfl hl.1 rfl (lv_room (Nat.le_of_ble_eq_true rfl)) d_Mo_format_361 ⟨Nat.le_of_ble_eq_true rfl, Nat.le_of_ble_eq_true rfl⟩) hS hFc (fun u H1 k9 p9 d9 => va_join (wr := [(rt, .inl (cB, 4096, .inl ft)), (rk, .inl (cI, 16, .inl fk)), (rv, .inl (cL, 16, .inr (.inl fv))), (rw, .inl (cI, 16, .inl fw)), (ro, .inl (cB, 65536, .inl fo))]) hP hD [2, 3, 1] [0, 4, 5, 6, 7] rfl rfl (by decide) (by decide) k9 hFc p9 d9) (fun u H locs hw hP hD hK1 hS => ?_)
                  obtain ⟨u_31, rfl⟩ : ∃ z, z = u := ⟨_, rfl⟩
                  try dsimp only at hw
                  have hP : va_P (dC, dI) vwCl [(rt, .inl (cB, 4096, .inl ft)), (rk, .inl (cI, 16, .inl fk)), (rv, .inl (cL, 16, .inr (.inl fv))), (rw, .inl (cI, 16, .inl fw)), (ro, .inl (cB, 65536, .inl fo)), (mo, .inr (8, [.int 0, .int (nI F.length), .ref rt, .int (nI AL.length), .ref rk, .ref rv, .ref rw, .ref ro, .int (nI (by_ap 4096 (List.take 4096 G) (ly_o ((mk_o (F.getD i3 0) gk gx gB pl).getD []) wd mi (fm_z ze mi gk (F.getD i3 0)))).length), .ref rr, .int (nI ((mk_o (F.getD i3 0) gk gx gB pl).getD []).length), .ref ra, .long pz, .int kc, .ref rc, .ref rl, .ref rb, .int la5, .int ca5])), (ra, .inl (cB, 16400, .inl g5)), (rr, .inl (cB, 4096, .inl u_31))] H := hP
                  have hD : va_D A [(rt, .inl (cB, 4096, .inl ft)), (rk, .inl (cI, 16, .inl fk)), (rv, .inl (cL, 16, .inr (.inl fv))), (rw, .inl (cI, 16, .inl fw)), (ro, .inl (cB, 65536, .inl fo)), (mo, .inr (8, [.int 0, .int (nI F.length), .ref rt, .int (nI AL.length), .ref rk, .ref rv, .ref rw, .ref ro, .int (nI (by_ap 4096 (List.take 4096 G) (ly_o ((mk_o (F.getD i3 0) gk gx gB pl).getD []) wd mi (fm_z ze mi gk (F.getD i3 0)))).length), .ref rr, .int (nI ((mk_o (F.getD i3 0) gk gx gB pl).getD []).length), .ref ra, .long pz, .int kc, .ref rc, .ref rl, .ref rb, .int la5, .int ca5])), (ra, .inl (cB, 16400, .inl g5)), (rr, .inl (cB, 4096, .inl u_31))] := hD
                  have hR_33 := hw
                  refine lv_goto (tgt := 397) hx hb d_Mo_format_364 (by decide) ?_
                  have hle := fk_letter hKf f_244 rfl hq (hlt f_244)
                  have hpb : pb_p (F.getD i3 0) mi pl ze wd us AL = ly_o ((mk_o (F.getD i3 0) gk gx gB pl).getD []) wd mi (fm_z ze mi gk (F.getD i3 0)) := by rw [pb_mk1 f_255 hga hmo, hmo]; rfl
                  rw [hpb, pb_u2 f_255] at hle
                  refine lv_iinc (v := (nI us) + 1) (lv' := [(1, .int ((nI us) + 1)), (8, .int 1), (0, .ref mo), (2, .int (nI i3)), (4, .int (by_z mi)), (5, .int (by_z pl)), (6, .int (by_z ze)), (7, .int (nI wd))]) hx hb d_Mo_format_397 hl (k := 2) rfl rfl (by decide) rfl (fun ls hl => ?_)
                  refine lv_iinc (v := (nI i3) + 1) (lv' := [(2, .int ((nI i3) + 1)), (1, .int ((nI us) + 1)), (8, .int 1), (0, .ref mo), (4, .int (by_z mi)), (5, .int (by_z pl)), (6, .int (by_z ze)), (7, .int (nI wd))]) hx hb d_Mo_format_400 hl (k := 3) rfl rfl (by decide) rfl (fun ls hl => ?_)
                  refine lv_goto (tgt := 14) hx hb d_Mo_format_403 (by decide) ?_
                  rw [show (by_ap 4096 (List.take 4096 G) (ly_o ((mk_o (F.getD i3 0) gk gx gB pl).getD []) wd mi (fm_z ze mi gk (F.getD i3 0)))) = (List.take 4096 (G ++ ly_o ((mk_o (F.getD i3 0) gk gx gB pl).getD []) wd mi (fm_z ze mi gk (F.getD i3 0)))) from (tk_ap _ _)] at hP hD hR_33
                  rw [nI_1, nI_1] at hl
                  exact ih_14 (us + 1, i3 + 1, G ++ ly_o ((mk_o (F.getD i3 0) gk gx gB pl).getD []) wd mi (fm_z ze mi gk (F.getD i3 0)), g5, u_31, (nI ((mk_o (F.getD i3 0) gk gx gB pl).getD []).length), la5, ca5) H locs ls ⟨hP.sub [5, 0, 6, 1, 2, 3, 4, 7] rfl, hD.sub [5, 0, 6, 1, 2, 3, 4, 7] (by decide) rfl, hS, lv_sub hl [3, 1, 0] rfl, hle, hR_33, (by omega), (by omega)⟩ (by dsimp only; omega)
                · skip
                  refine lv_iload hx hb d_Mo_format_329 (lv_at hl 4 rfl) ?_
                  refine lv_if_ne (tgt := 360) hx hb d_Mo_format_331 (by decide) (fun c_331 => ?_) (fun c_331 => ?_)
                  · skip
                    refine lv_iconst (v := 0) hx hb d_Mo_format_360 (by decide) ?_
                    refine lv_topi (fun y_34 ey_34 => ?_)
                    have ey_34 : y_34 = (by_z (fm_z ze mi gk (F.getD i3 0)) : Int32) := ey_34.trans (show 0 = by_z (fm_z ze mi gk (F.getD i3 0)) from (fz_2 (by_z_t rfl c_331)))
                    subst ey_34
                    have hPc := hP.sub (ws' := [(mo, .inr (8, [.int 0, .int (nI F.length), .ref rt, .int (nI AL.length), .ref rk, .ref rv, .ref rw, .ref ro, .int (nI (List.take 4096 G).length), .ref rr, .int (nI ((mk_o (F.getD i3 0) gk gx gB pl).getD []).length), .ref ra, .long pz, .int kc, .ref rc, .ref rl, .ref rb, .int la5, .int ca5])), (ra, .inl (cB, 16400, .inl g5)), (rr, .inl (cB, 4096, .inl g2))]) [2, 3, 1] rfl
                    have hKc := hK.sub (tys' := [(cB, .byte)]) [0] rfl
                    have hDc := hD.sub (ws' := [(mo, .inr (8, [.int 0, .int (nI F.length), .ref rt, .int (nI AL.length), .ref rk, .ref rv, .ref rw, .ref ro, .int (nI (List.take 4096 G).length), .ref rr, .int (nI ((mk_o (F.getD i3 0) gk gx gB pl).getD []).length), .ref ra, .long pz, .int kc, .ref rc, .ref rl, .ref rb, .int la5, .int ca5])), (ra, .inl (cB, 16400, .inl g5)), (rr, .inl (cB, 4096, .inl g2))]) [2, 3, 1] (by decide) rfl
                    have hFc := va_free (wc := [(mo, .inr (8, [.int 0, .int (nI F.length), .ref rt, .int (nI AL.length), .ref rk, .ref rv, .ref rw, .ref ro, .int (nI (List.take 4096 G).length), .ref rr, .int (nI ((mk_o (F.getD i3 0) gk gx gB pl).getD []).length), .ref ra, .long pz, .int kc, .ref rc, .ref rl, .ref rb, .int la5, .int ca5])), (ra, .inl (cB, 16400, .inl g5)), (rr, .inl (cB, 4096, .inl g2))]) hD hS hA [2, 3, 1] rfl
                    refine zz_callv (va_runV (As := [.int (nI wd), .int (by_z mi), .int (by_z (fm_z ze mi gk (F.getD i3 0)))]) (rest := []) ⟨hx, hb, hml, hown, hg⟩ (c_Mo_lay l dC dI mo rt rk rv rw ro rr ra rc rl rb 0 (nI F.length) (nI AL.length) (nI (List.take 4096 G).length) (nI ((mk_o (F.getD i3 0) gk gx gB pl).getD []).length) pz kc la5 ca5 cB g5 ((mk_o (F.getD i3 0) gk gx gB pl).getD []) g2 (List.take 4096 G) wd mi (fm_z ze mi gk (F.getD i3 0)) hLO (mk_l hm9.2 hm9.1) hRi (List.length_take_le _ _) hw9 fz_0 fz_b H.size) (cwV 3 hg (gi_V kw_932 kw_934 sw_27 kw_9 kw_935) rfl rfl rfl (by decide +kernel) ⟨Nat.le_of_ble_eq_true rfl, Nat.le_of_ble_eq_true rfl⟩) (zz_preV hPc hKc hDc _ (q0 := 0) (ci := 8) rfl rfl) rfl rfl hl.1 rfl (lv_room (Nat.le_of_ble_eq_true rfl)) d_Mo_format_361 ⟨Nat.le_of_ble_eq_true rfl, Nat.le_of_ble_eq_true rfl⟩) hS hFc (fun u H1 k9 p9 d9 => va_join (wr := [(rt, .inl (cB, 4096, .inl ft)), (rk, .inl (cI, 16, .inl fk)), (rv, .inl (cL, 16, .inr (.inl fv))), (rw, .inl (cI, 16, .inl fw)), (ro, .inl (cB, 65536, .inl fo))]) hP hD [2, 3, 1] [0, 4, 5, 6, 7] rfl rfl (by decide) (by decide) k9 hFc p9 d9) (fun u H locs hw hP hD hK1 hS => ?_)
                    obtain ⟨u_35, rfl⟩ : ∃ z, z = u := ⟨_, rfl⟩
                    try dsimp only at hw
                    have hP : va_P (dC, dI) vwCl [(rt, .inl (cB, 4096, .inl ft)), (rk, .inl (cI, 16, .inl fk)), (rv, .inl (cL, 16, .inr (.inl fv))), (rw, .inl (cI, 16, .inl fw)), (ro, .inl (cB, 65536, .inl fo)), (mo, .inr (8, [.int 0, .int (nI F.length), .ref rt, .int (nI AL.length), .ref rk, .ref rv, .ref rw, .ref ro, .int (nI (by_ap 4096 (List.take 4096 G) (ly_o ((mk_o (F.getD i3 0) gk gx gB pl).getD []) wd mi (fm_z ze mi gk (F.getD i3 0)))).length), .ref rr, .int (nI ((mk_o (F.getD i3 0) gk gx gB pl).getD []).length), .ref ra, .long pz, .int kc, .ref rc, .ref rl, .ref rb, .int la5, .int ca5])), (ra, .inl (cB, 16400, .inl g5)), (rr, .inl (cB, 4096, .inl u_35))] H := hP
                    have hD : va_D A [(rt, .inl (cB, 4096, .inl ft)), (rk, .inl (cI, 16, .inl fk)), (rv, .inl (cL, 16, .inr (.inl fv))), (rw, .inl (cI, 16, .inl fw)), (ro, .inl (cB, 65536, .inl fo)), (mo, .inr (8, [.int 0, .int (nI F.length), .ref rt, .int (nI AL.length), .ref rk, .ref rv, .ref rw, .ref ro, .int (nI (by_ap 4096 (List.take 4096 G) (ly_o ((mk_o (F.getD i3 0) gk gx gB pl).getD []) wd mi (fm_z ze mi gk (F.getD i3 0)))).length), .ref rr, .int (nI ((mk_o (F.getD i3 0) gk gx gB pl).getD []).length), .ref ra, .long pz, .int kc, .ref rc, .ref rl, .ref rb, .int la5, .int ca5])), (ra, .inl (cB, 16400, .inl g5)), (rr, .inl (cB, 4096, .inl u_35))] := hD
                    have hR_37 := hw
                    refine lv_goto (tgt := 397) hx hb d_Mo_format_364 (by decide) ?_
                    have hle := fk_letter hKf f_244 rfl hq (hlt f_244)
                    have hpb : pb_p (F.getD i3 0) mi pl ze wd us AL = ly_o ((mk_o (F.getD i3 0) gk gx gB pl).getD []) wd mi (fm_z ze mi gk (F.getD i3 0)) := by rw [pb_mk1 f_255 hga hmo, hmo]; rfl
                    rw [hpb, pb_u2 f_255] at hle
                    refine lv_iinc (v := (nI us) + 1) (lv' := [(1, .int ((nI us) + 1)), (8, .int 1), (0, .ref mo), (2, .int (nI i3)), (4, .int (by_z mi)), (5, .int (by_z pl)), (6, .int (by_z ze)), (7, .int (nI wd))]) hx hb d_Mo_format_397 hl (k := 2) rfl rfl (by decide) rfl (fun ls hl => ?_)
                    refine lv_iinc (v := (nI i3) + 1) (lv' := [(2, .int ((nI i3) + 1)), (1, .int ((nI us) + 1)), (8, .int 1), (0, .ref mo), (4, .int (by_z mi)), (5, .int (by_z pl)), (6, .int (by_z ze)), (7, .int (nI wd))]) hx hb d_Mo_format_400 hl (k := 3) rfl rfl (by decide) rfl (fun ls hl => ?_)
                    refine lv_goto (tgt := 14) hx hb d_Mo_format_403 (by decide) ?_
                    rw [show (by_ap 4096 (List.take 4096 G) (ly_o ((mk_o (F.getD i3 0) gk gx gB pl).getD []) wd mi (fm_z ze mi gk (F.getD i3 0)))) = (List.take 4096 (G ++ ly_o ((mk_o (F.getD i3 0) gk gx gB pl).getD []) wd mi (fm_z ze mi gk (F.getD i3 0)))) from (tk_ap _ _)] at hP hD hR_37
                    rw [nI_1, nI_1] at hl
                    exact ih_14 (us + 1, i3 + 1, G ++ ly_o ((mk_o (F.getD i3 0) gk gx gB pl).getD []) wd mi (fm_z ze mi gk (F.getD i3 0)), g5, u_35, (nI ((mk_o (F.getD i3 0) gk gx gB pl).getD []).length), la5, ca5) H locs ls ⟨hP.sub [5, 0, 6, 1, 2, 3, 4, 7] rfl, hD.sub [5, 0, 6, 1, 2, 3, 4, 7] (by decide) rfl, hS, lv_sub hl [3, 1, 0] rfl, hle, hR_37, (by omega), (by omega)⟩ (by dsimp only; omega)
                  · skip
                    refine lv_aload_n hx hb d_Mo_format_334 rfl (lv_at hl 1 rfl) ?_
                    refine va_get (D := (dC, dI)) (ci := 8) (v := .ref rk) (C := "TextForgeModel") (T := TX8) (N := 19) hx hb hg iwX8 hown hK hP 2 rfl rfl 4 (by decide) (hg _ kw_730) (fun _ h9 => h9) rfl d_Mo_format_335 ?_
                    refine lv_iload_n hx hb d_Mo_format_338 rfl (lv_at hl 2 rfl) ?_
                    refine va_iald hx hb hK hP 4 1 rfl rfl (vp_in_nI (by omega) (by decide)) d_Mo_format_339 ?_
                    refine lv_topi (fun y_38 ey_38 => ?_)
                    have ey_38 : y_38 = (mo_k gk gx : Int32) := ey_38.trans (show (fk (nI us).toNatClampNeg) = mo_k gk gx from (by rw [nI_clamp (show us < 2 ^ 31 by omega)]; exact hm9.1.1))
                    subst ey_38
                    refine lv_iconst (v := 1) hx hb d_Mo_format_340 (by decide) ?_
                    refine lv_icmp_gt (tgt := 360) hx hb d_Mo_format_341 (by decide) (fun c_341 => ?_) (fun c_341 => ?_)
                    · skip
                      refine lv_iconst (v := 0) hx hb d_Mo_format_360 (by decide) ?_
                      refine lv_topi (fun y_39 ey_39 => ?_)
                      have ey_39 : y_39 = (by_z (fm_z ze mi gk (F.getD i3 0)) : Int32) := ey_39.trans (show 0 = by_z (fm_z ze mi gk (F.getD i3 0)) from (fz_3 ((mo_k1 hm9.2).mp c_341)))
                      subst ey_39
                      have hPc := hP.sub (ws' := [(mo, .inr (8, [.int 0, .int (nI F.length), .ref rt, .int (nI AL.length), .ref rk, .ref rv, .ref rw, .ref ro, .int (nI (List.take 4096 G).length), .ref rr, .int (nI ((mk_o (F.getD i3 0) gk gx gB pl).getD []).length), .ref ra, .long pz, .int kc, .ref rc, .ref rl, .ref rb, .int la5, .int ca5])), (ra, .inl (cB, 16400, .inl g5)), (rr, .inl (cB, 4096, .inl g2))]) [2, 3, 1] rfl
                      have hKc := hK.sub (tys' := [(cB, .byte)]) [0] rfl
                      have hDc := hD.sub (ws' := [(mo, .inr (8, [.int 0, .int (nI F.length), .ref rt, .int (nI AL.length), .ref rk, .ref rv, .ref rw, .ref ro, .int (nI (List.take 4096 G).length), .ref rr, .int (nI ((mk_o (F.getD i3 0) gk gx gB pl).getD []).length), .ref ra, .long pz, .int kc, .ref rc, .ref rl, .ref rb, .int la5, .int ca5])), (ra, .inl (cB, 16400, .inl g5)), (rr, .inl (cB, 4096, .inl g2))]) [2, 3, 1] (by decide) rfl
                      have hFc := va_free (wc := [(mo, .inr (8, [.int 0, .int (nI F.length), .ref rt, .int (nI AL.length), .ref rk, .ref rv, .ref rw, .ref ro, .int (nI (List.take 4096 G).length), .ref rr, .int (nI ((mk_o (F.getD i3 0) gk gx gB pl).getD []).length), .ref ra, .long pz, .int kc, .ref rc, .ref rl, .ref rb, .int la5, .int ca5])), (ra, .inl (cB, 16400, .inl g5)), (rr, .inl (cB, 4096, .inl g2))]) hD hS hA [2, 3, 1] rfl
                      refine zz_callv (va_runV (As := [.int (nI wd), .int (by_z mi), .int (by_z (fm_z ze mi gk (F.getD i3 0)))]) (rest := []) ⟨hx, hb, hml, hown, hg⟩ (c_Mo_lay l dC dI mo rt rk rv rw ro rr ra rc rl rb 0 (nI F.length) (nI AL.length) (nI (List.take 4096 G).length) (nI ((mk_o (F.getD i3 0) gk gx gB pl).getD []).length) pz kc la5 ca5 cB g5 ((mk_o (F.getD i3 0) gk gx gB pl).getD []) g2 (List.take 4096 G) wd mi (fm_z ze mi gk (F.getD i3 0)) hLO (mk_l hm9.2 hm9.1) hRi (List.length_take_le _ _) hw9 fz_0 fz_b H.size) (cwV 3 hg (gi_V kw_932 kw_934 sw_27 kw_9 kw_935) rfl rfl rfl (by decide +kernel) ⟨Nat.le_of_ble_eq_true rfl, Nat.le_of_ble_eq_true rfl⟩) (zz_preV hPc hKc hDc _ (q0 := 0) (ci := 8) rfl rfl) rfl rfl hl.1 rfl (lv_room (Nat.le_of_ble_eq_true rfl)) d_Mo_format_361 ⟨Nat.le_of_ble_eq_true rfl, Nat.le_of_ble_eq_true rfl⟩) hS hFc (fun u H1 k9 p9 d9 => va_join (wr := [(rt, .inl (cB, 4096, .inl ft)), (rk, .inl (cI, 16, .inl fk)), (rv, .inl (cL, 16, .inr (.inl fv))), (rw, .inl (cI, 16, .inl fw)), (ro, .inl (cB, 65536, .inl fo))]) hP hD [2, 3, 1] [0, 4, 5, 6, 7] rfl rfl (by decide) (by decide) k9 hFc p9 d9) (fun u H locs hw hP hD hK1 hS => ?_)
                      obtain ⟨u_40, rfl⟩ : ∃ z, z = u := ⟨_, rfl⟩
                      try dsimp only at hw
                      have hP : va_P (dC, dI) vwCl [(rt, .inl (cB, 4096, .inl ft)), (rk, .inl (cI, 16, .inl fk)), (rv, .inl (cL, 16, .inr (.inl fv))), (rw, .inl (cI, 16, .inl fw)), (ro, .inl (cB, 65536, .inl fo)), (mo, .inr (8, [.int 0, .int (nI F.length), .ref rt, .int (nI AL.length), .ref rk, .ref rv, .ref rw, .ref ro, .int (nI (by_ap 4096 (List.take 4096 G) (ly_o ((mk_o (F.getD i3 0) gk gx gB pl).getD []) wd mi (fm_z ze mi gk (F.getD i3 0)))).length), .ref rr, .int (nI ((mk_o (F.getD i3 0) gk gx gB pl).getD []).length), .ref ra, .long pz, .int kc, .ref rc, .ref rl, .ref rb, .int la5, .int ca5])), (ra, .inl (cB, 16400, .inl g5)), (rr, .inl (cB, 4096, .inl u_40))] H := hP
                      have hD : va_D A [(rt, .inl (cB, 4096, .inl ft)), (rk, .inl (cI, 16, .inl fk)), (rv, .inl (cL, 16, .inr (.inl fv))), (rw, .inl (cI, 16, .inl fw)), (ro, .inl (cB, 65536, .inl fo)), (mo, .inr (8, [.int 0, .int (nI F.length), .ref rt, .int (nI AL.length), .ref rk, .ref rv, .ref rw, .ref ro, .int (nI (by_ap 4096 (List.take 4096 G) (ly_o ((mk_o (F.getD i3 0) gk gx gB pl).getD []) wd mi (fm_z ze mi gk (F.getD i3 0)))).length), .ref rr, .int (nI ((mk_o (F.getD i3 0) gk gx gB pl).getD []).length), .ref ra, .long pz, .int kc, .ref rc, .ref rl, .ref rb, .int la5, .int ca5])), (ra, .inl (cB, 16400, .inl g5)), (rr, .inl (cB, 4096, .inl u_40))] := hD
                      have hR_42 := hw
                      refine lv_goto (tgt := 397) hx hb d_Mo_format_364 (by decide) ?_
                      have hle := fk_letter hKf f_244 rfl hq (hlt f_244)
                      have hpb : pb_p (F.getD i3 0) mi pl ze wd us AL = ly_o ((mk_o (F.getD i3 0) gk gx gB pl).getD []) wd mi (fm_z ze mi gk (F.getD i3 0)) := by rw [pb_mk1 f_255 hga hmo, hmo]; rfl
                      rw [hpb, pb_u2 f_255] at hle
                      refine lv_iinc (v := (nI us) + 1) (lv' := [(1, .int ((nI us) + 1)), (8, .int 1), (0, .ref mo), (2, .int (nI i3)), (4, .int (by_z mi)), (5, .int (by_z pl)), (6, .int (by_z ze)), (7, .int (nI wd))]) hx hb d_Mo_format_397 hl (k := 2) rfl rfl (by decide) rfl (fun ls hl => ?_)
                      refine lv_iinc (v := (nI i3) + 1) (lv' := [(2, .int ((nI i3) + 1)), (1, .int ((nI us) + 1)), (8, .int 1), (0, .ref mo), (4, .int (by_z mi)), (5, .int (by_z pl)), (6, .int (by_z ze)), (7, .int (nI wd))]) hx hb d_Mo_format_400 hl (k := 3) rfl rfl (by decide) rfl (fun ls hl => ?_)
                      refine lv_goto (tgt := 14) hx hb d_Mo_format_403 (by decide) ?_
                      rw [show (by_ap 4096 (List.take 4096 G) (ly_o ((mk_o (F.getD i3 0) gk gx gB pl).getD []) wd mi (fm_z ze mi gk (F.getD i3 0)))) = (List.take 4096 (G ++ ly_o ((mk_o (F.getD i3 0) gk gx gB pl).getD []) wd mi (fm_z ze mi gk (F.getD i3 0)))) from (tk_ap _ _)] at hP hD hR_42
                      rw [nI_1, nI_1] at hl
                      exact ih_14 (us + 1, i3 + 1, G ++ ly_o ((mk_o (F.getD i3 0) gk gx gB pl).getD []) wd mi (fm_z ze mi gk (F.getD i3 0)), g5, u_40, (nI ((mk_o (F.getD i3 0) gk gx gB pl).getD []).length), la5, ca5) H locs ls ⟨hP.sub [5, 0, 6, 1, 2, 3, 4, 7] rfl, hD.sub [5, 0, 6, 1, 2, 3, 4, 7] (by decide) rfl, hS, lv_sub hl [3, 1, 0] rfl, hle, hR_42, (by omega), (by omega)⟩ (by dsimp only; omega)
                    · skip
                      have f_341 : gk = 0 ∨ gk = 1 := Decidable.byContradiction (fun z => c_341 ((mo_k1 hm9.2).mpr z))
                      refine lv_aload_n hx hb d_Mo_format_344 rfl (lv_at hl 1 rfl) ?_
                      refine va_get (D := (dC, dI)) (ci := 8) (v := .ref rt) (C := "TextForgeModel") (T := TX8) (N := 19) hx hb hg iwX8 hown hK hP 2 rfl rfl 2 (by decide) (hg _ kw_728) (fun _ h9 => h9) rfl d_Mo_format_345 ?_
                      refine lv_iload_n hx hb d_Mo_format_348 rfl (lv_at hl 3 rfl) ?_
                      refine va_bald hx hb hK hP 0 0 rfl rfl (vp_in_nI (by omega) (by decide)) d_Mo_format_349 ?_
                      refine lv_topi (fun y_43 ey_43 => ?_)
                      have ey_43 : y_43 = (sb_b (F.getD i3 0) : Int32) := ey_43.trans (show (ft (nI i3).toNatClampNeg) = sb_b (F.getD i3 0) from (by rw [nI_clamp (show i3 < 2 ^ 31 by omega)]; exact hte.2))
                      subst ey_43
                      have hPc := hP.sub (ws' := []) [] rfl
                      have hKc := hK.sub (tys' := []) [] rfl
                      refine vp_callSi (W.runS (As := [.int (sb_b (F.getD i3 0))]) (rest := [.int (by_z mi), .int (nI wd), .ref mo]) ⟨hx, hb, hml, hown, hg⟩ (c_Mo_baseOf l dC dI (F.getD i3 0) hte.1) (va_cwS 1 hg (gi_S kw_856 kw_857 kw_9 kw_858) rfl rfl rfl (by decide +kernel) ⟨Nat.le_of_ble_eq_true rfl, Nat.le_of_ble_eq_true rfl⟩) (zz_prJS hPc hKc _) rfl rfl hl.1 rfl (lv_room (Nat.le_of_ble_eq_true rfl)) d_Mo_format_350 ⟨Nat.le_of_ble_eq_true rfl, Nat.le_of_ble_eq_true rfl⟩) (fun r_44 hr_44 => ?_)
                      subst hr_44
                      refine lv_if_le (tgt := 360) hx hb d_Mo_format_353 (by decide) (fun c_353 => ?_) (fun c_353 => ?_)
                      · skip
                        have f_353 : (mb_v (F.getD i3 0)) ≤ 0 := (nI_leI (b := 0) (by have := mb_l (F.getD i3 0); omega) (by omega)).mp c_353
                        refine lv_iconst (v := 0) hx hb d_Mo_format_360 (by decide) ?_
                        refine lv_topi (fun y_45 ey_45 => ?_)
                        have ey_45 : y_45 = (by_z (fm_z ze mi gk (F.getD i3 0)) : Int32) := ey_45.trans (show 0 = by_z (fm_z ze mi gk (F.getD i3 0)) from (fz_4 (by omega)))
                        subst ey_45
                        have hPc := hP.sub (ws' := [(mo, .inr (8, [.int 0, .int (nI F.length), .ref rt, .int (nI AL.length), .ref rk, .ref rv, .ref rw, .ref ro, .int (nI (List.take 4096 G).length), .ref rr, .int (nI ((mk_o (F.getD i3 0) gk gx gB pl).getD []).length), .ref ra, .long pz, .int kc, .ref rc, .ref rl, .ref rb, .int la5, .int ca5])), (ra, .inl (cB, 16400, .inl g5)), (rr, .inl (cB, 4096, .inl g2))]) [2, 3, 1] rfl
                        have hKc := hK.sub (tys' := [(cB, .byte)]) [0] rfl
                        have hDc := hD.sub (ws' := [(mo, .inr (8, [.int 0, .int (nI F.length), .ref rt, .int (nI AL.length), .ref rk, .ref rv, .ref rw, .ref ro, .int (nI (List.take 4096 G).length), .ref rr, .int (nI ((mk_o (F.getD i3 0) gk gx gB pl).getD []).length), .ref ra, .long pz, .int kc, .ref rc, .ref rl, .ref rb, .int la5, .int ca5])), (ra, .inl (cB, 16400, .inl g5)), (rr, .inl (cB, 4096, .inl g2))]) [2, 3, 1] (by decide) rfl
                        have hFc := va_free (wc := [(mo, .inr (8, [.int 0, .int (nI F.length), .ref rt, .int (nI AL.length), .ref rk, .ref rv, .ref rw, .ref ro, .int (nI (List.take 4096 G).length), .ref rr, .int (nI ((mk_o (F.getD i3 0) gk gx gB pl).getD []).length), .ref ra, .long pz, .int kc, .ref rc, .ref rl, .ref rb, .int la5, .int ca5])), (ra, .inl (cB, 16400, .inl g5)), (rr, .inl (cB, 4096, .inl g2))]) hD hS hA [2, 3, 1] rfl
                        refine zz_callv (va_runV (As := [.int (nI wd), .int (by_z mi), .int (by_z (fm_z ze mi gk (F.getD i3 0)))]) (rest := []) ⟨hx, hb, hml, hown, hg⟩ (c_Mo_lay l dC dI mo rt rk rv rw ro rr ra rc rl rb 0 (nI F.length) (nI AL.length) (nI (List.take 4096 G).length) (nI ((mk_o (F.getD i3 0) gk gx gB pl).getD []).length) pz kc la5 ca5 cB g5 ((mk_o (F.getD i3 0) gk gx gB pl).getD []) g2 (List.take 4096 G) wd mi (fm_z ze mi gk (F.getD i3 0)) hLO (mk_l hm9.2 hm9.1) hRi (List.length_take_le _ _) hw9 fz_0 fz_b H.size) (cwV 3 hg (gi_V kw_932 kw_934 sw_27 kw_9 kw_935) rfl rfl rfl (by decide +kernel) ⟨Nat.le_of_ble_eq_true rfl, Nat.le_of_ble_eq_true rfl⟩) (zz_preV hPc hKc hDc _ (q0 := 0) (ci := 8) rfl rfl) rfl rfl hl.1 rfl (lv_room (Nat.le_of_ble_eq_true rfl)) d_Mo_format_361 ⟨Nat.le_of_ble_eq_true rfl, Nat.le_of_ble_eq_true rfl⟩) hS hFc (fun u H1 k9 p9 d9 => va_join (wr := [(rt, .inl (cB, 4096, .inl ft)), (rk, .inl (cI, 16, .inl fk)), (rv, .inl (cL, 16, .inr (.inl fv))), (rw, .inl (cI, 16, .inl fw)), (ro, .inl (cB, 65536, .inl fo))]) hP hD [2, 3, 1] [0, 4, 5, 6, 7] rfl rfl (by decide) (by decide) k9 hFc p9 d9) (fun u H locs hw hP hD hK1 hS => ?_)
                        obtain ⟨u_46, rfl⟩ : ∃ z, z = u := ⟨_, rfl⟩
                        try dsimp only at hw
                        have hP : va_P (dC, dI) vwCl [(rt, .inl (cB, 4096, .inl ft)), (rk, .inl (cI, 16, .inl fk)), (rv, .inl (cL, 16, .inr (.inl fv))), (rw, .inl (cI, 16, .inl fw)), (ro, .inl (cB, 65536, .inl fo)), (mo, .inr (8, [.int 0, .int (nI F.length), .ref rt, .int (nI AL.length), .ref rk, .ref rv, .ref rw, .ref ro, .int (nI (by_ap 4096 (List.take 4096 G) (ly_o ((mk_o (F.getD i3 0) gk gx gB pl).getD []) wd mi (fm_z ze mi gk (F.getD i3 0)))).length), .ref rr, .int (nI ((mk_o (F.getD i3 0) gk gx gB pl).getD []).length), .ref ra, .long pz, .int kc, .ref rc, .ref rl, .ref rb, .int la5, .int ca5])), (ra, .inl (cB, 16400, .inl g5)), (rr, .inl (cB, 4096, .inl u_46))] H := hP
                        have hD : va_D A [(rt, .inl (cB, 4096, .inl ft)), (rk, .inl (cI, 16, .inl fk)), (rv, .inl (cL, 16, .inr (.inl fv))), (rw, .inl (cI, 16, .inl fw)), (ro, .inl (cB, 65536, .inl fo)), (mo, .inr (8, [.int 0, .int (nI F.length), .ref rt, .int (nI AL.length), .ref rk, .ref rv, .ref rw, .ref ro, .int (nI (by_ap 4096 (List.take 4096 G) (ly_o ((mk_o (F.getD i3 0) gk gx gB pl).getD []) wd mi (fm_z ze mi gk (F.getD i3 0)))).length), .ref rr, .int (nI ((mk_o (F.getD i3 0) gk gx gB pl).getD []).length), .ref ra, .long pz, .int kc, .ref rc, .ref rl, .ref rb, .int la5, .int ca5])), (ra, .inl (cB, 16400, .inl g5)), (rr, .inl (cB, 4096, .inl u_46))] := hD
                        have hR_48 := hw
                        refine lv_goto (tgt := 397) hx hb d_Mo_format_364 (by decide) ?_
                        have hle := fk_letter hKf f_244 rfl hq (hlt f_244)
                        have hpb : pb_p (F.getD i3 0) mi pl ze wd us AL = ly_o ((mk_o (F.getD i3 0) gk gx gB pl).getD []) wd mi (fm_z ze mi gk (F.getD i3 0)) := by rw [pb_mk1 f_255 hga hmo, hmo]; rfl
                        rw [hpb, pb_u2 f_255] at hle
                        refine lv_iinc (v := (nI us) + 1) (lv' := [(1, .int ((nI us) + 1)), (8, .int 1), (0, .ref mo), (2, .int (nI i3)), (4, .int (by_z mi)), (5, .int (by_z pl)), (6, .int (by_z ze)), (7, .int (nI wd))]) hx hb d_Mo_format_397 hl (k := 2) rfl rfl (by decide) rfl (fun ls hl => ?_)
                        refine lv_iinc (v := (nI i3) + 1) (lv' := [(2, .int ((nI i3) + 1)), (1, .int ((nI us) + 1)), (8, .int 1), (0, .ref mo), (4, .int (by_z mi)), (5, .int (by_z pl)), (6, .int (by_z ze)), (7, .int (nI wd))]) hx hb d_Mo_format_400 hl (k := 3) rfl rfl (by decide) rfl (fun ls hl => ?_)
                        refine lv_goto (tgt := 14) hx hb d_Mo_format_403 (by decide) ?_
                        rw [show (by_ap 4096 (List.take 4096 G) (ly_o ((mk_o (F.getD i3 0) gk gx gB pl).getD []) wd mi (fm_z ze mi gk (F.getD i3 0)))) = (List.take 4096 (G ++ ly_o ((mk_o (F.getD i3 0) gk gx gB pl).getD []) wd mi (fm_z ze mi gk (F.getD i3 0)))) from (tk_ap _ _)] at hP hD hR_48
                        rw [nI_1, nI_1] at hl
                        exact ih_14 (us + 1, i3 + 1, G ++ ly_o ((mk_o (F.getD i3 0) gk gx gB pl).getD []) wd mi (fm_z ze mi gk (F.getD i3 0)), g5, u_46, (nI ((mk_o (F.getD i3 0) gk gx gB pl).getD []).length), la5, ca5) H locs ls ⟨hP.sub [5, 0, 6, 1, 2, 3, 4, 7] rfl, hD.sub [5, 0, 6, 1, 2, 3, 4, 7] (by decide) rfl, hS, lv_sub hl [3, 1, 0] rfl, hle, hR_48, (by omega), (by omega)⟩ (by dsimp only; omega)
                      · skip
                        have f_353 : 0 < (mb_v (F.getD i3 0)) := Nat.lt_of_not_le (fun z => c_353 (nI_le (b := 0) z (by omega)))
                        refine lv_iconst (v := 1) hx hb d_Mo_format_356 (by decide) ?_
                        refine lv_goto (tgt := 361) hx hb d_Mo_format_357 (by decide) ?_
                        refine lv_topi (fun y_49 ey_49 => ?_)
                        have ey_49 : y_49 = (by_z (fm_z ze mi gk (F.getD i3 0)) : Int32) := ey_49.trans (show 1 = by_z (fm_z ze mi gk (F.getD i3 0)) from (fz_5 (by_z_t rfl c_326) (by_z_f rfl c_331) f_341 (by omega)))
                        subst ey_49
                        have hPc := hP.sub (ws' := [(mo, .inr (8, [.int 0, .int (nI F.length), .ref rt, .int (nI AL.length), .ref rk, .ref rv, .ref rw, .ref ro, .int (nI (List.take 4096 G).length), .ref rr, .int (nI ((mk_o (F.getD i3 0) gk gx gB pl).getD []).length), .ref ra, .long pz, .int kc, .ref rc, .ref rl, .ref rb, .int la5, .int ca5])), (ra, .inl (cB, 16400, .inl g5)), (rr, .inl (cB, 4096, .inl g2))]) [2, 3, 1] rfl
                        have hKc := hK.sub (tys' := [(cB, .byte)]) [0] rfl
                        have hDc := hD.sub (ws' := [(mo, .inr (8, [.int 0, .int (nI F.length), .ref rt, .int (nI AL.length), .ref rk, .ref rv, .ref rw, .ref ro, .int (nI (List.take 4096 G).length), .ref rr, .int (nI ((mk_o (F.getD i3 0) gk gx gB pl).getD []).length), .ref ra, .long pz, .int kc, .ref rc, .ref rl, .ref rb, .int la5, .int ca5])), (ra, .inl (cB, 16400, .inl g5)), (rr, .inl (cB, 4096, .inl g2))]) [2, 3, 1] (by decide) rfl
                        have hFc := va_free (wc := [(mo, .inr (8, [.int 0, .int (nI F.length), .ref rt, .int (nI AL.length), .ref rk, .ref rv, .ref rw, .ref ro, .int (nI (List.take 4096 G).length), .ref rr, .int (nI ((mk_o (F.getD i3 0) gk gx gB pl).getD []).length), .ref ra, .long pz, .int kc, .ref rc, .ref rl, .ref rb, .int la5, .int ca5])), (ra, .inl (cB, 16400, .inl g5)), (rr, .inl (cB, 4096, .inl g2))]) hD hS hA [2, 3, 1] rfl
                        refine zz_callv (va_runV (As := [.int (nI wd), .int (by_z mi), .int (by_z (fm_z ze mi gk (F.getD i3 0)))]) (rest := []) ⟨hx, hb, hml, hown, hg⟩ (c_Mo_lay l dC dI mo rt rk rv rw ro rr ra rc rl rb 0 (nI F.length) (nI AL.length) (nI (List.take 4096 G).length) (nI ((mk_o (F.getD i3 0) gk gx gB pl).getD []).length) pz kc la5 ca5 cB g5 ((mk_o (F.getD i3 0) gk gx gB pl).getD []) g2 (List.take 4096 G) wd mi (fm_z ze mi gk (F.getD i3 0)) hLO (mk_l hm9.2 hm9.1) hRi (List.length_take_le _ _) hw9 fz_0 fz_b H.size) (cwV 3 hg (gi_V kw_932 kw_934 sw_27 kw_9 kw_935) rfl rfl rfl (by decide +kernel) ⟨Nat.le_of_ble_eq_true rfl, Nat.le_of_ble_eq_true rfl⟩) (zz_preV hPc hKc hDc _ (q0 := 0) (ci := 8) rfl rfl) rfl rfl hl.1 rfl (lv_room (Nat.le_of_ble_eq_true rfl)) d_Mo_format_361 ⟨Nat.le_of_ble_eq_true rfl, Nat.le_of_ble_eq_true rfl⟩) hS hFc (fun u H1 k9 p9 d9 => va_join (wr := [(rt, .inl (cB, 4096, .inl ft)), (rk, .inl (cI, 16, .inl fk)), (rv, .inl (cL, 16, .inr (.inl fv))), (rw, .inl (cI, 16, .inl fw)), (ro, .inl (cB, 65536, .inl fo))]) hP hD [2, 3, 1] [0, 4, 5, 6, 7] rfl rfl (by decide) (by decide) k9 hFc p9 d9) (fun u H locs hw hP hD hK1 hS => ?_)
                        obtain ⟨u_50, rfl⟩ : ∃ z, z = u := ⟨_, rfl⟩
                        try dsimp only at hw
                        have hP : va_P (dC, dI) vwCl [(rt, .inl (cB, 4096, .inl ft)), (rk, .inl (cI, 16, .inl fk)), (rv, .inl (cL, 16, .inr (.inl fv))), (rw, .inl (cI, 16, .inl fw)), (ro, .inl (cB, 65536, .inl fo)), (mo, .inr (8, [.int 0, .int (nI F.length), .ref rt, .int (nI AL.length), .ref rk, .ref rv, .ref rw, .ref ro, .int (nI (by_ap 4096 (List.take 4096 G) (ly_o ((mk_o (F.getD i3 0) gk gx gB pl).getD []) wd mi (fm_z ze mi gk (F.getD i3 0)))).length), .ref rr, .int (nI ((mk_o (F.getD i3 0) gk gx gB pl).getD []).length), .ref ra, .long pz, .int kc, .ref rc, .ref rl, .ref rb, .int la5, .int ca5])), (ra, .inl (cB, 16400, .inl g5)), (rr, .inl (cB, 4096, .inl u_50))] H := hP
                        have hD : va_D A [(rt, .inl (cB, 4096, .inl ft)), (rk, .inl (cI, 16, .inl fk)), (rv, .inl (cL, 16, .inr (.inl fv))), (rw, .inl (cI, 16, .inl fw)), (ro, .inl (cB, 65536, .inl fo)), (mo, .inr (8, [.int 0, .int (nI F.length), .ref rt, .int (nI AL.length), .ref rk, .ref rv, .ref rw, .ref ro, .int (nI (by_ap 4096 (List.take 4096 G) (ly_o ((mk_o (F.getD i3 0) gk gx gB pl).getD []) wd mi (fm_z ze mi gk (F.getD i3 0)))).length), .ref rr, .int (nI ((mk_o (F.getD i3 0) gk gx gB pl).getD []).length), .ref ra, .long pz, .int kc, .ref rc, .ref rl, .ref rb, .int la5, .int ca5])), (ra, .inl (cB, 16400, .inl g5)), (rr, .inl (cB, 4096, .inl u_50))] := hD
                        have hR_52 := hw
                        refine lv_goto (tgt := 397) hx hb d_Mo_format_364 (by decide) ?_
                        have hle := fk_letter hKf f_244 rfl hq (hlt f_244)
                        have hpb : pb_p (F.getD i3 0) mi pl ze wd us AL = ly_o ((mk_o (F.getD i3 0) gk gx gB pl).getD []) wd mi (fm_z ze mi gk (F.getD i3 0)) := by rw [pb_mk1 f_255 hga hmo, hmo]; rfl
                        rw [hpb, pb_u2 f_255] at hle
                        refine lv_iinc (v := (nI us) + 1) (lv' := [(1, .int ((nI us) + 1)), (8, .int 1), (0, .ref mo), (2, .int (nI i3)), (4, .int (by_z mi)), (5, .int (by_z pl)), (6, .int (by_z ze)), (7, .int (nI wd))]) hx hb d_Mo_format_397 hl (k := 2) rfl rfl (by decide) rfl (fun ls hl => ?_)
                        refine lv_iinc (v := (nI i3) + 1) (lv' := [(2, .int ((nI i3) + 1)), (1, .int ((nI us) + 1)), (8, .int 1), (0, .ref mo), (4, .int (by_z mi)), (5, .int (by_z pl)), (6, .int (by_z ze)), (7, .int (nI wd))]) hx hb d_Mo_format_400 hl (k := 3) rfl rfl (by decide) rfl (fun ls hl => ?_)
                        refine lv_goto (tgt := 14) hx hb d_Mo_format_403 (by decide) ?_
                        rw [show (by_ap 4096 (List.take 4096 G) (ly_o ((mk_o (F.getD i3 0) gk gx gB pl).getD []) wd mi (fm_z ze mi gk (F.getD i3 0)))) = (List.take 4096 (G ++ ly_o ((mk_o (F.getD i3 0) gk gx gB pl).getD []) wd mi (fm_z ze mi gk (F.getD i3 0)))) from (tk_ap _ _)] at hP hD hR_52
                        rw [nI_1, nI_1] at hl
                        exact ih_14 (us + 1, i3 + 1, G ++ ly_o ((mk_o (F.getD i3 0) gk gx gB pl).getD []) wd mi (fm_z ze mi gk (F.getD i3 0)), g5, u_50, (nI ((mk_o (F.getD i3 0) gk gx gB pl).getD []).length), la5, ca5) H locs ls ⟨hP.sub [5, 0, 6, 1, 2, 3, 4, 7] rfl, hD.sub [5, 0, 6, 1, 2, 3, 4, 7] (by decide) rfl, hS, lv_sub hl [3, 1, 0] rfl, hle, hR_52, (by omega), (by omega)⟩ (by dsimp only; omega)
          · skip
            have f_255 : F.getD i3 0 = 37 := sb_e1 (k := 37) hte.1 (by decide) c_255
            have hle := fk_letter hKf f_244 rfl hq (hlt f_244)
            rw [(pb_37e f_255).1, pb_u1 f_255] at hle
            refine lv_aload_n hx hb d_Mo_format_258 rfl (lv_at hl 0 rfl) ?_
            refine lv_bipush (v := 37) hx hb d_Mo_format_259 (by decide) ?_
            have hPc := hP.sub (ws' := [(mo, .inr (8, [.int 0, .int (nI F.length), .ref rt, .int (nI AL.length), .ref rk, .ref rv, .ref rw, .ref ro, .int (nI (List.take 4096 G).length), .ref rr, .int pt2, .ref ra, .long pz, .int kc, .ref rc, .ref rl, .ref rb, .int la2, .int ca2])), (rr, .inl (cB, 4096, .inl g2))]) [0, 7] rfl
            have hKc := hK.sub (tys' := [(cB, .byte)]) [0] rfl
            have hDc := hD.sub (ws' := [(mo, .inr (8, [.int 0, .int (nI F.length), .ref rt, .int (nI AL.length), .ref rk, .ref rv, .ref rw, .ref ro, .int (nI (List.take 4096 G).length), .ref rr, .int pt2, .ref ra, .long pz, .int kc, .ref rc, .ref rl, .ref rb, .int la2, .int ca2])), (rr, .inl (cB, 4096, .inl g2))]) [0, 7] (by decide) rfl
            have hFc := va_free (wc := [(mo, .inr (8, [.int 0, .int (nI F.length), .ref rt, .int (nI AL.length), .ref rk, .ref rv, .ref rw, .ref ro, .int (nI (List.take 4096 G).length), .ref rr, .int pt2, .ref ra, .long pz, .int kc, .ref rc, .ref rl, .ref rb, .int la2, .int ca2])), (rr, .inl (cB, 4096, .inl g2))]) hD hS hA [0, 7] rfl
            refine zz_callv (va_runV (As := [.int 37]) (rest := []) ⟨hx, hb, hml, hown, hg⟩ (c_Mo_give l dC dI mo rt rk rv rw ro rr ra rc rl rb 0 (nI F.length) (nI AL.length) (nI (List.take 4096 G).length) pt2 pz kc la2 ca2 cB g2 (List.take 4096 G) 37 hRi (List.length_take_le _ _) H.size) (cwV 1 hg (gi_V kw_848 kw_850 sw_13 kw_9 kw_851) rfl rfl rfl (by decide +kernel) ⟨Nat.le_of_ble_eq_true rfl, Nat.le_of_ble_eq_true rfl⟩) (zz_preV hPc hKc hDc _ (q0 := 0) (ci := 8) rfl rfl) rfl rfl hl.1 rfl (lv_room (Nat.le_of_ble_eq_true rfl)) d_Mo_format_261 ⟨Nat.le_of_ble_eq_true rfl, Nat.le_of_ble_eq_true rfl⟩) hS hFc (fun u H1 k9 p9 d9 => va_join (wr := [(rt, .inl (cB, 4096, .inl ft)), (ra, .inl (cB, 16400, .inl g)), (rk, .inl (cI, 16, .inl fk)), (rv, .inl (cL, 16, .inr (.inl fv))), (rw, .inl (cI, 16, .inl fw)), (ro, .inl (cB, 65536, .inl fo))]) hP hD [0, 7] [1, 2, 3, 4, 5, 6] rfl rfl (by decide) (by decide) k9 hFc p9 d9) (fun u H locs hw hP hD hK1 hS => ?_)
            obtain ⟨u_53, rfl⟩ : ∃ z, z = u := ⟨_, rfl⟩
            try dsimp only at hw
            have hP : va_P (dC, dI) vwCl [(rt, .inl (cB, 4096, .inl ft)), (ra, .inl (cB, 16400, .inl g)), (rk, .inl (cI, 16, .inl fk)), (rv, .inl (cL, 16, .inr (.inl fv))), (rw, .inl (cI, 16, .inl fw)), (ro, .inl (cB, 65536, .inl fo)), (mo, .inr (8, [.int 0, .int (nI F.length), .ref rt, .int (nI AL.length), .ref rk, .ref rv, .ref rw, .ref ro, .int (nI (by_ap 4096 (List.take 4096 G) [by_b 37]).length), .ref rr, .int pt2, .ref ra, .long pz, .int kc, .ref rc, .ref rl, .ref rb, .int la2, .int ca2])), (rr, .inl (cB, 4096, .inl u_53))] H := hP
            have hD : va_D A [(rt, .inl (cB, 4096, .inl ft)), (ra, .inl (cB, 16400, .inl g)), (rk, .inl (cI, 16, .inl fk)), (rv, .inl (cL, 16, .inr (.inl fv))), (rw, .inl (cI, 16, .inl fw)), (ro, .inl (cB, 65536, .inl fo)), (mo, .inr (8, [.int 0, .int (nI F.length), .ref rt, .int (nI AL.length), .ref rk, .ref rv, .ref rw, .ref ro, .int (nI (by_ap 4096 (List.take 4096 G) [by_b 37]).length), .ref rr, .int pt2, .ref ra, .long pz, .int kc, .ref rc, .ref rl, .ref rb, .int la2, .int ca2])), (rr, .inl (cB, 4096, .inl u_53))] := hD
            have hR_55 := hw
            refine lv_iinc (v := (nI i3) + 1) (lv' := [(2, .int ((nI i3) + 1)), (0, .ref mo), (1, .int (nI us)), (4, .int (by_z mi)), (5, .int (by_z pl)), (6, .int (by_z ze)), (7, .int (nI wd))]) hx hb d_Mo_format_264 hl (k := 2) rfl rfl (by decide) rfl (fun ls hl => ?_)
            refine lv_goto (tgt := 14) hx hb d_Mo_format_267 (by decide) ?_
            rw [show (by_ap 4096 (List.take 4096 G) [by_b 37]) = (List.take 4096 (G ++ [37])) from (by rw [tk_ap]; rfl)] at hP hD hR_55
            rw [nI_1] at hl
            exact ih_14 (us, i3 + 1, G ++ [37], g, u_53, pt2, la2, ca2) H locs ls ⟨hP.sub [6, 0, 1, 2, 3, 4, 5, 7] rfl, hD.sub [6, 0, 1, 2, 3, 4, 5, 7] (by decide) rfl, hS, lv_sub hl [1, 2, 0] rfl, hle, hR_55, (by omega), (by omega)⟩ (by dsimp only; omega)
      · intro hJ_239
        refine lv_iconst (v := 0) hx hb d_Mo_format_46 (by decide) ?_
        refine lv_istore (lv' := [(4, .int 0), (2, .int (nI (i + 1))), (3, .int (sb_b (F.getD i 0))), (0, .ref mo), (1, .int (nI us))]) hx hb d_Mo_format_47 hl (by decide) rfl (fun ls hl => ?_)
        refine lv_iconst (v := 0) hx hb d_Mo_format_49 (by decide) ?_
        refine lv_istore (lv' := [(5, .int 0), (4, .int 0), (2, .int (nI (i + 1))), (3, .int (sb_b (F.getD i 0))), (0, .ref mo), (1, .int (nI us))]) hx hb d_Mo_format_50 hl (by decide) rfl (fun ls hl => ?_)
        refine lv_iconst (v := 0) hx hb d_Mo_format_52 (by decide) ?_
        refine lv_istore (lv' := [(6, .int 0), (5, .int 0), (4, .int 0), (2, .int (nI (i + 1))), (3, .int (sb_b (F.getD i 0))), (0, .ref mo), (1, .int (nI us))]) hx hb d_Mo_format_53 hl (by decide) rfl (fun ls hl => ?_)
        refine zz_loop (fun (x : Nat × Bool × Bool × Bool) H locs ls => match x with | (i2, mi, pl, ze) => va_P (dC, dI) vwCl [(mo, .inr (8, [.int 0, .int (nI F.length), .ref rt, .int (nI AL.length), .ref rk, .ref rv, .ref rw, .ref ro, .int (nI (List.take 4096 G).length), .ref rr, .int pt2, .ref ra, .long pz, .int kc, .ref rc, .ref rl, .ref rb, .int la2, .int ca2])), (rt, .inl (cB, 4096, .inl ft)), (ra, .inl (cB, 16400, .inl g)), (rk, .inl (cI, 16, .inl fk)), (rv, .inl (cL, 16, .inr (.inl fv))), (rw, .inl (cI, 16, .inl fw)), (ro, .inl (cB, 65536, .inl fo)), (rr, .inl (cB, 4096, .inl g2))] H ∧ va_D A [(mo, .inr (8, [.int 0, .int (nI F.length), .ref rt, .int (nI AL.length), .ref rk, .ref rv, .ref rw, .ref ro, .int (nI (List.take 4096 G).length), .ref rr, .int pt2, .ref ra, .long pz, .int kc, .ref rc, .ref rl, .ref rb, .int la2, .int ca2])), (rt, .inl (cB, 4096, .inl ft)), (ra, .inl (cB, 16400, .inl g)), (rk, .inl (cI, 16, .inl fk)), (rv, .inl (cL, 16, .inr (.inl fv))), (rw, .inl (cI, 16, .inl fw)), (ro, .inl (cB, 65536, .inl fo)), (rr, .inl (cB, 4096, .inl g2))] ∧ va_S A s.heap H locs ∧ lv_has ls 9 [(0, .ref mo), (1, .int (nI us)), (2, .int (nI i2)), (4, .int (by_z mi)), (5, .int (by_z pl)), (6, .int (by_z ze))] ∧ fo_K AL F i2 G us 1 mi pl ze 0 ∧ i < i2) (fun x => match x with | (i2, mi, pl, ze) => F.length - i2) ?_ (i + 1, false, false, false) ⟨hP.sub [0, 1, 2, 3, 4, 5, 6, 7] rfl, hD.sub [0, 1, 2, 3, 4, 5, 6, 7] (by decide) rfl, hS, lv_sub hl [5, 6, 3, 2, 1, 0] rfl, hK1, (by omega)⟩
        intro x H locs ls hI ih_55
        obtain ⟨i2, mi, pl, ze⟩ := x
        try dsimp only at hI
        obtain ⟨hP, hD, hS, hl, hK2, hi2⟩ := hI
        have hk2 := hK2.1
        refine lv_iload_n hx hb d_Mo_format_55 rfl (lv_at hl 2 rfl) ?_
        refine lv_aload_n hx hb d_Mo_format_56 rfl (lv_at hl 0 rfl) ?_
        refine va_get (D := (dC, dI)) (ci := 8) (v := .int (nI F.length)) (C := "TextForgeModel") (T := TX8) (N := 19) hx hb hg iwX8 hown hK hP 0 rfl rfl 1 (by decide) (hg _ kw_727) (fun _ h9 => h9) rfl d_Mo_format_57 ?_
        refine lv_icmp_ge (tgt := 171) hx hb d_Mo_format_60 (by decide) (fun c_60 => ?_) (fun c_60 => ?_)
        · skip
          have f_60 : F.length ≤ i2 := Nat.le_of_not_lt (fun z => nI_ge (b := F.length) z (by omega) c_60)
          refine lv_iconst (v := 0) hx hb d_Mo_format_171 (by decide) ?_
          refine lv_istore (lv' := [(7, .int 0), (0, .ref mo), (1, .int (nI us)), (2, .int (nI i2)), (4, .int (by_z mi)), (5, .int (by_z pl)), (6, .int (by_z ze))]) hx hb d_Mo_format_172 hl (by decide) rfl (fun ls hl => ?_)
          refine lv_iconst (v := 0) hx hb d_Mo_format_174 (by decide) ?_
          refine lv_istore (lv' := [(8, .int 0), (7, .int 0), (0, .ref mo), (1, .int (nI us)), (2, .int (nI i2)), (4, .int (by_z mi)), (5, .int (by_z pl)), (6, .int (by_z ze))]) hx hb d_Mo_format_175 hl (by decide) rfl (fun ls hl => ?_)
          refine zz_loop (fun (x : Nat × Nat × Nat) H locs ls => match x with | (n, i3, wd) => va_P (dC, dI) vwCl [(mo, .inr (8, [.int 0, .int (nI F.length), .ref rt, .int (nI AL.length), .ref rk, .ref rv, .ref rw, .ref ro, .int (nI (List.take 4096 G).length), .ref rr, .int pt2, .ref ra, .long pz, .int kc, .ref rc, .ref rl, .ref rb, .int la2, .int ca2])), (rt, .inl (cB, 4096, .inl ft)), (ra, .inl (cB, 16400, .inl g)), (rk, .inl (cI, 16, .inl fk)), (rv, .inl (cL, 16, .inr (.inl fv))), (rw, .inl (cI, 16, .inl fw)), (ro, .inl (cB, 65536, .inl fo)), (rr, .inl (cB, 4096, .inl g2))] H ∧ va_D A [(mo, .inr (8, [.int 0, .int (nI F.length), .ref rt, .int (nI AL.length), .ref rk, .ref rv, .ref rw, .ref ro, .int (nI (List.take 4096 G).length), .ref rr, .int pt2, .ref ra, .long pz, .int kc, .ref rc, .ref rl, .ref rb, .int la2, .int ca2])), (rt, .inl (cB, 4096, .inl ft)), (ra, .inl (cB, 16400, .inl g)), (rk, .inl (cI, 16, .inl fk)), (rv, .inl (cL, 16, .inr (.inl fv))), (rw, .inl (cI, 16, .inl fw)), (ro, .inl (cB, 65536, .inl fo)), (rr, .inl (cB, 4096, .inl g2))] ∧ va_S A s.heap H locs ∧ lv_has ls 9 [(0, .ref mo), (1, .int (nI us)), (2, .int (nI i3)), (4, .int (by_z mi)), (5, .int (by_z pl)), (6, .int (by_z ze)), (7, .int (nI wd)), (8, .int (nI n))] ∧ fo_K AL F i3 G us (n + 1) mi pl ze wd ∧ n ≤ 2 ∧ fo_w (n + 1) wd ∧ (n = 0 → i3 < F.length → ¬ (F.getD i3 0 = 45 ∨ F.getD i3 0 = 43 ∨ F.getD i3 0 = 48)) ∧ i < i3) (fun x => match x with | (n, i3, wd) => 2 - n) ?_ (0, i2, 0) ⟨hP.sub [0, 1, 2, 3, 4, 5, 6, 7] rfl, hD.sub [0, 1, 2, 3, 4, 5, 6, 7] (by decide) rfl, hS, lv_sub hl [2, 3, 4, 5, 6, 7, 1, 0] rfl, hK2, (by decide), (Or.inr (Or.inl ⟨rfl, rfl⟩)), (fun _ z => absurd z (by omega)), hi2⟩
          intro x H locs ls hI ih_177
          obtain ⟨n, i3, wd⟩ := x
          try dsimp only at hI
          obtain ⟨hP, hD, hS, hl, hKf, hn2, hwn, hfl, hi9⟩ := hI
          have hk3 := hKf.1
          refine lv_iload hx hb d_Mo_format_177 (lv_at hl 7 rfl) ?_
          refine lv_iconst (v := 2) hx hb d_Mo_format_179 (by decide) ?_
          refine lv_icmp_ge (tgt := 239) hx hb d_Mo_format_180 (by decide) (fun c_180 => ?_) (fun c_180 => ?_)
          · skip
            have f_180 : 2 ≤ n := Nat.le_of_not_lt (fun z => nI_ge (b := 2) z (by omega) c_180)
            exact hJ_239 (n + 1, i3, mi, pl, ze, wd) H locs ls ⟨hP.sub [0, 1, 2, 3, 4, 5, 6, 7] rfl, hD.sub [0, 1, 2, 3, 4, 5, 6, 7] (by decide) rfl, hS, lv_sub hl [0, 1, 2, 3, 4, 5, 6] rfl, hKf, (by omega), (by rcases hwn with z | z | z | z <;> omega), (fun _ => ⟨fun z => by have := z.1; omega, fun z => by have := z.1; omega⟩), hi9⟩
          · skip
            have f_180 : n < 2 := Nat.lt_of_not_le (fun z => c_180 (nI_le (a := 2) z (by omega)))
            refine lv_iload_n hx hb d_Mo_format_183 rfl (lv_at hl 2 rfl) ?_
            refine lv_aload_n hx hb d_Mo_format_184 rfl (lv_at hl 0 rfl) ?_
            refine va_get (D := (dC, dI)) (ci := 8) (v := .int (nI F.length)) (C := "TextForgeModel") (T := TX8) (N := 19) hx hb hg iwX8 hown hK hP 0 rfl rfl 1 (by decide) (hg _ kw_727) (fun _ h9 => h9) rfl d_Mo_format_185 ?_
            refine lv_icmp_ge (tgt := 239) hx hb d_Mo_format_188 (by decide) (fun c_188 => ?_) (fun c_188 => ?_)
            · skip
              have f_188 : F.length ≤ i3 := Nat.le_of_not_lt (fun z => nI_ge (b := F.length) z (by omega) c_188)
              exact hJ_239 (n + 1, i3, mi, pl, ze, wd) H locs ls ⟨hP.sub [0, 1, 2, 3, 4, 5, 6, 7] rfl, hD.sub [0, 1, 2, 3, 4, 5, 6, 7] (by decide) rfl, hS, lv_sub hl [0, 1, 2, 3, 4, 5, 6] rfl, hKf, (by omega), (by rcases hwn with z | z | z | z <;> omega), (fun z => absurd z (by omega)), hi9⟩
            · skip
              have f_188 : i3 < F.length := Nat.lt_of_not_le (fun z => c_188 (nI_le (a := F.length) z (by omega)))
              have htd := hLt i3 f_188
              refine lv_aload_n hx hb d_Mo_format_191 rfl (lv_at hl 0 rfl) ?_
              refine va_get (D := (dC, dI)) (ci := 8) (v := .ref rt) (C := "TextForgeModel") (T := TX8) (N := 19) hx hb hg iwX8 hown hK hP 0 rfl rfl 2 (by decide) (hg _ kw_728) (fun _ h9 => h9) rfl d_Mo_format_192 ?_
              refine lv_iload_n hx hb d_Mo_format_195 rfl (lv_at hl 2 rfl) ?_
              refine va_bald hx hb hK hP 1 0 rfl rfl (vp_in_nI (by omega) (by decide)) d_Mo_format_196 ?_
              refine lv_topi (fun y_56 ey_56 => ?_)
              have ey_56 : y_56 = (sb_b (F.getD i3 0) : Int32) := ey_56.trans (show (ft (nI i3).toNatClampNeg) = sb_b (F.getD i3 0) from (by rw [nI_clamp (show i3 < 2 ^ 31 by omega)]; exact htd.2))
              subst ey_56
              refine lv_bipush (v := 48) hx hb d_Mo_format_197 (by decide) ?_
              refine lv_icmp_lt (tgt := 239) hx hb d_Mo_format_199 (by decide) (fun c_199 => ?_) (fun c_199 => ?_)
              · skip
                have f_199 := (sb_48 _ htd.1).mp c_199
                exact hJ_239 (n + 1, i3, mi, pl, ze, wd) H locs ls ⟨hP.sub [0, 1, 2, 3, 4, 5, 6, 7] rfl, hD.sub [0, 1, 2, 3, 4, 5, 6, 7] (by decide) rfl, hS, lv_sub hl [0, 1, 2, 3, 4, 5, 6] rfl, hKf, (by omega), (by rcases hwn with z | z | z | z <;> omega), (fun _ => ⟨(fun z => hfl (by have := z.1; omega) f_188 z.2), fun z => by have := z.2; omega⟩), hi9⟩
              · skip
                have f_199 := fun z => c_199 ((sb_48 _ htd.1).mpr z)
                refine lv_aload_n hx hb d_Mo_format_202 rfl (lv_at hl 0 rfl) ?_
                refine va_get (D := (dC, dI)) (ci := 8) (v := .ref rt) (C := "TextForgeModel") (T := TX8) (N := 19) hx hb hg iwX8 hown hK hP 0 rfl rfl 2 (by decide) (hg _ kw_728) (fun _ h9 => h9) rfl d_Mo_format_203 ?_
                refine lv_iload_n hx hb d_Mo_format_206 rfl (lv_at hl 2 rfl) ?_
                refine va_bald hx hb hK hP 1 0 rfl rfl (vp_in_nI (by omega) (by decide)) d_Mo_format_207 ?_
                refine lv_topi (fun y_57 ey_57 => ?_)
                have ey_57 : y_57 = (sb_b (F.getD i3 0) : Int32) := ey_57.trans (show (ft (nI i3).toNatClampNeg) = sb_b (F.getD i3 0) from (by rw [nI_clamp (show i3 < 2 ^ 31 by omega)]; exact htd.2))
                subst ey_57
                refine lv_bipush (v := 57) hx hb d_Mo_format_208 (by decide) ?_
                refine lv_icmp_gt (tgt := 239) hx hb d_Mo_format_210 (by decide) (fun c_210 => ?_) (fun c_210 => ?_)
                · skip
                  have f_210 := (sb_57 _ htd.1).mp c_210
                  exact hJ_239 (n + 1, i3, mi, pl, ze, wd) H locs ls ⟨hP.sub [0, 1, 2, 3, 4, 5, 6, 7] rfl, hD.sub [0, 1, 2, 3, 4, 5, 6, 7] (by decide) rfl, hS, lv_sub hl [0, 1, 2, 3, 4, 5, 6] rfl, hKf, (by omega), (by rcases hwn with z | z | z | z <;> omega), (fun _ => ⟨(fun z => hfl (by have := z.1; omega) f_188 z.2), fun z => by have := z.2; omega⟩), hi9⟩
                · skip
                  have f_210 := fun z => c_210 ((sb_57 _ htd.1).mpr z)
                  have hdg : 48 ≤ F.getD i3 0 ∧ F.getD i3 0 ≤ 57 := by have h1 : ¬ (F.getD i3 0 < 48 ∨ 128 ≤ F.getD i3 0) := f_199; have h2 : ¬ (57 < F.getD i3 0 ∧ F.getD i3 0 < 128) := f_210; omega
                  refine lv_bipush (v := 10) hx hb d_Mo_format_213 (by decide) ?_
                  refine lv_iload hx hb d_Mo_format_215 (lv_at hl 6 rfl) ?_
                  refine lv_imul hx hb d_Mo_format_217 ?_
                  refine lv_aload_n hx hb d_Mo_format_218 rfl (lv_at hl 0 rfl) ?_
                  refine va_get (D := (dC, dI)) (ci := 8) (v := .ref rt) (C := "TextForgeModel") (T := TX8) (N := 19) hx hb hg iwX8 hown hK hP 0 rfl rfl 2 (by decide) (hg _ kw_728) (fun _ h9 => h9) rfl d_Mo_format_219 ?_
                  refine lv_iload_n hx hb d_Mo_format_222 rfl (lv_at hl 2 rfl) ?_
                  refine va_bald hx hb hK hP 1 0 rfl rfl (vp_in_nI (by omega) (by decide)) d_Mo_format_223 ?_
                  refine lv_topi (fun y_58 ey_58 => ?_)
                  have ey_58 : y_58 = (sb_b (F.getD i3 0) : Int32) := ey_58.trans (show (ft (nI i3).toNatClampNeg) = sb_b (F.getD i3 0) from (by rw [nI_clamp (show i3 < 2 ^ 31 by omega)]; exact htd.2))
                  subst ey_58
                  refine lv_iadd hx hb d_Mo_format_224 ?_
                  refine lv_bipush (v := 48) hx hb d_Mo_format_225 (by decide) ?_
                  refine lv_isub hx hb d_Mo_format_227 ?_
                  refine lv_topi (fun y_59 ey_59 => ?_)
                  have ey_59 : y_59 = (nI (wd * 10 + F.getD i3 0 - 48) : Int32) := ey_59.trans (show (((10 * (nI wd)) + (sb_b (F.getD i3 0))) - 48) = nI (wd * 10 + F.getD i3 0 - 48) from (wd_v hdg))
                  subst ey_59
                  refine lv_istore (lv' := [(7, .int (nI (wd * 10 + F.getD i3 0 - 48))), (0, .ref mo), (1, .int (nI us)), (2, .int (nI i3)), (4, .int (by_z mi)), (5, .int (by_z pl)), (6, .int (by_z ze)), (8, .int (nI n))]) hx hb d_Mo_format_228 hl (by decide) rfl (fun ls hl => ?_)
                  refine lv_iinc (v := (nI i3) + 1) (lv' := [(2, .int ((nI i3) + 1)), (7, .int (nI (wd * 10 + F.getD i3 0 - 48))), (0, .ref mo), (1, .int (nI us)), (4, .int (by_z mi)), (5, .int (by_z pl)), (6, .int (by_z ze)), (8, .int (nI n))]) hx hb d_Mo_format_230 hl (k := 3) rfl rfl (by decide) rfl (fun ls hl => ?_)
                  refine lv_iinc (v := (nI n) + 1) (lv' := [(8, .int ((nI n) + 1)), (2, .int ((nI i3) + 1)), (7, .int (nI (wd * 10 + F.getD i3 0 - 48))), (0, .ref mo), (1, .int (nI us)), (4, .int (by_z mi)), (5, .int (by_z pl)), (6, .int (by_z ze))]) hx hb d_Mo_format_233 hl (k := 7) rfl rfl (by decide) rfl (fun ls hl => ?_)
                  refine lv_goto (tgt := 177) hx hb d_Mo_format_236 (by decide) ?_
                  rw [nI_1, nI_1] at hl
                  exact ih_177 (n + 1, i3 + 1, wd * 10 + F.getD i3 0 - 48) H locs ls ⟨hP.sub [0, 1, 2, 3, 4, 5, 6, 7] rfl, hD.sub [0, 1, 2, 3, 4, 5, 6, 7] (by decide) rfl, hS, lv_sub hl [3, 4, 1, 5, 6, 7, 2, 0] rfl, (fk_digit hKf f_188 rfl f_180 (fun z => hfl z f_188) hdg), (by omega), (fw_s hwn f_180 hdg), (fun z => absurd z (Nat.succ_ne_zero n)), (by omega)⟩ (by dsimp only; omega)
        · skip
          have f_60 : i2 < F.length := Nat.lt_of_not_le (fun z => c_60 (nI_le (a := F.length) z (by omega)))
          have htc := hLt i2 f_60
          refine lv_aload_n hx hb d_Mo_format_63 rfl (lv_at hl 0 rfl) ?_
          refine va_get (D := (dC, dI)) (ci := 8) (v := .ref rt) (C := "TextForgeModel") (T := TX8) (N := 19) hx hb hg iwX8 hown hK hP 0 rfl rfl 2 (by decide) (hg _ kw_728) (fun _ h9 => h9) rfl d_Mo_format_64 ?_
          refine lv_iload_n hx hb d_Mo_format_67 rfl (lv_at hl 2 rfl) ?_
          refine va_bald hx hb hK hP 1 0 rfl rfl (vp_in_nI (by omega) (by decide)) d_Mo_format_68 ?_
          refine lv_topi (fun y_60 ey_60 => ?_)
          have ey_60 : y_60 = (sb_b (F.getD i2 0) : Int32) := ey_60.trans (show (ft (nI i2).toNatClampNeg) = sb_b (F.getD i2 0) from (by rw [nI_clamp (show i2 < 2 ^ 31 by omega)]; exact htc.2))
          subst ey_60
          refine lv_bipush (v := 45) hx hb d_Mo_format_69 (by decide) ?_
          refine lv_icmp_eq (tgt := 96) hx hb d_Mo_format_71 (by decide) (fun c_71 => ?_) (fun c_71 => ?_)
          · skip
            have f_71 : F.getD i2 0 = 45 := sb_e1 (k := 45) htc.1 (by decide) c_71
            refine lv_iload hx hb d_Mo_format_96 (lv_at hl 3 rfl) ?_
            refine lv_if_ne (tgt := 112) hx hb d_Mo_format_98 (by decide) (fun c_98 => ?_) (fun c_98 => ?_)
            · skip
              refine lv_iconst (v := 1) hx hb d_Mo_format_112 (by decide) ?_
              refine lv_goto (tgt := 117) hx hb d_Mo_format_113 (by decide) ?_
              refine lv_topi (fun y_61 ey_61 => ?_)
              have ey_61 : y_61 = (by_z (mi || F.getD i2 0 == 45) : Int32) := ey_61.trans (show 1 = by_z (mi || F.getD i2 0 == 45) from (by rw [by_z_t rfl c_98]; rfl))
              subst ey_61
              refine lv_istore (lv' := [(4, .int (by_z (mi || F.getD i2 0 == 45))), (0, .ref mo), (1, .int (nI us)), (2, .int (nI i2)), (5, .int (by_z pl)), (6, .int (by_z ze))]) hx hb d_Mo_format_117 hl (by decide) rfl (fun ls hl => ?_)
              refine lv_iload hx hb d_Mo_format_119 (lv_at hl 4 rfl) ?_
              refine lv_if_ne (tgt := 135) hx hb d_Mo_format_121 (by decide) (fun c_121 => ?_) (fun c_121 => ?_)
              · skip
                refine lv_iconst (v := 1) hx hb d_Mo_format_135 (by decide) ?_
                refine lv_goto (tgt := 140) hx hb d_Mo_format_136 (by decide) ?_
                refine lv_topi (fun y_62 ey_62 => ?_)
                have ey_62 : y_62 = (by_z (pl || F.getD i2 0 == 43) : Int32) := ey_62.trans (show 1 = by_z (pl || F.getD i2 0 == 43) from (by rw [by_z_t rfl c_121]; rfl))
                subst ey_62
                refine lv_istore (lv' := [(5, .int (by_z (pl || F.getD i2 0 == 43))), (4, .int (by_z (mi || F.getD i2 0 == 45))), (0, .ref mo), (1, .int (nI us)), (2, .int (nI i2)), (6, .int (by_z ze))]) hx hb d_Mo_format_140 hl (by decide) rfl (fun ls hl => ?_)
                refine lv_iload hx hb d_Mo_format_142 (lv_at hl 5 rfl) ?_
                refine lv_if_ne (tgt := 158) hx hb d_Mo_format_144 (by decide) (fun c_144 => ?_) (fun c_144 => ?_)
                · skip
                  refine lv_iconst (v := 1) hx hb d_Mo_format_158 (by decide) ?_
                  refine lv_goto (tgt := 163) hx hb d_Mo_format_159 (by decide) ?_
                  refine lv_topi (fun y_63 ey_63 => ?_)
                  have ey_63 : y_63 = (by_z (ze || F.getD i2 0 == 48) : Int32) := ey_63.trans (show 1 = by_z (ze || F.getD i2 0 == 48) from (by rw [by_z_t rfl c_144]; rfl))
                  subst ey_63
                  refine lv_istore (lv' := [(6, .int (by_z (ze || F.getD i2 0 == 48))), (5, .int (by_z (pl || F.getD i2 0 == 43))), (4, .int (by_z (mi || F.getD i2 0 == 45))), (0, .ref mo), (1, .int (nI us)), (2, .int (nI i2))]) hx hb d_Mo_format_163 hl (by decide) rfl (fun ls hl => ?_)
                  refine lv_iinc (v := (nI i2) + 1) (lv' := [(2, .int ((nI i2) + 1)), (6, .int (by_z (ze || F.getD i2 0 == 48))), (5, .int (by_z (pl || F.getD i2 0 == 43))), (4, .int (by_z (mi || F.getD i2 0 == 45))), (0, .ref mo), (1, .int (nI us))]) hx hb d_Mo_format_165 hl (k := 5) rfl rfl (by decide) rfl (fun ls hl => ?_)
                  refine lv_goto (tgt := 55) hx hb d_Mo_format_168 (by decide) ?_
                  rw [nI_1] at hl
                  exact ih_55 (i2 + 1, (mi || F.getD i2 0 == 45), (pl || F.getD i2 0 == 43), (ze || F.getD i2 0 == 48)) H locs ls ⟨hP.sub [0, 1, 2, 3, 4, 5, 6, 7] rfl, hD.sub [0, 1, 2, 3, 4, 5, 6, 7] (by decide) rfl, hS, lv_sub hl [4, 5, 0, 3, 2, 1] rfl, (fk_flag hK2 f_60 rfl (Or.inl f_71)), (by omega)⟩ (by dsimp only; omega)
                · skip
                  refine lv_aload_n hx hb d_Mo_format_147 rfl (lv_at hl 2 rfl) ?_
                  refine va_get (D := (dC, dI)) (ci := 8) (v := .ref rt) (C := "TextForgeModel") (T := TX8) (N := 19) hx hb hg iwX8 hown hK hP 0 rfl rfl 2 (by decide) (hg _ kw_728) (fun _ h9 => h9) rfl d_Mo_format_148 ?_
                  refine lv_iload_n hx hb d_Mo_format_151 rfl (lv_at hl 4 rfl) ?_
                  refine va_bald hx hb hK hP 1 0 rfl rfl (vp_in_nI (by omega) (by decide)) d_Mo_format_152 ?_
                  refine lv_topi (fun y_64 ey_64 => ?_)
                  have ey_64 : y_64 = (sb_b (F.getD i2 0) : Int32) := ey_64.trans (show (ft (nI i2).toNatClampNeg) = sb_b (F.getD i2 0) from (by rw [nI_clamp (show i2 < 2 ^ 31 by omega)]; exact htc.2))
                  subst ey_64
                  refine lv_bipush (v := 48) hx hb d_Mo_format_153 (by decide) ?_
                  refine lv_icmp_ne (tgt := 162) hx hb d_Mo_format_155 (by decide) (fun _ => ?_) (fun c9 => by first | exact absurd c9 (sb_e4 (k := 48) htc.1 (by decide) (by omega)) | exact absurd (sb_e4 (k := 48) htc.1 (by decide) (by omega)) c9)
                  refine lv_iconst (v := 0) hx hb d_Mo_format_162 (by decide) ?_
                  refine lv_topi (fun y_65 ey_65 => ?_)
                  have ey_65 : y_65 = (by_z (ze || F.getD i2 0 == 48) : Int32) := ey_65.trans (show 0 = by_z (ze || F.getD i2 0 == 48) from (by rw [by_z_f rfl c_144, f_71]; rfl))
                  subst ey_65
                  refine lv_istore (lv' := [(6, .int (by_z (ze || F.getD i2 0 == 48))), (5, .int (by_z (pl || F.getD i2 0 == 43))), (4, .int (by_z (mi || F.getD i2 0 == 45))), (0, .ref mo), (1, .int (nI us)), (2, .int (nI i2))]) hx hb d_Mo_format_163 hl (by decide) rfl (fun ls hl => ?_)
                  refine lv_iinc (v := (nI i2) + 1) (lv' := [(2, .int ((nI i2) + 1)), (6, .int (by_z (ze || F.getD i2 0 == 48))), (5, .int (by_z (pl || F.getD i2 0 == 43))), (4, .int (by_z (mi || F.getD i2 0 == 45))), (0, .ref mo), (1, .int (nI us))]) hx hb d_Mo_format_165 hl (k := 5) rfl rfl (by decide) rfl (fun ls hl => ?_)
                  refine lv_goto (tgt := 55) hx hb d_Mo_format_168 (by decide) ?_
                  rw [nI_1] at hl
                  exact ih_55 (i2 + 1, (mi || F.getD i2 0 == 45), (pl || F.getD i2 0 == 43), (ze || F.getD i2 0 == 48)) H locs ls ⟨hP.sub [0, 1, 2, 3, 4, 5, 6, 7] rfl, hD.sub [0, 1, 2, 3, 4, 5, 6, 7] (by decide) rfl, hS, lv_sub hl [4, 5, 0, 3, 2, 1] rfl, (fk_flag hK2 f_60 rfl (Or.inl f_71)), (by omega)⟩ (by dsimp only; omega)
              · skip
                refine lv_aload_n hx hb d_Mo_format_124 rfl (lv_at hl 1 rfl) ?_
                refine va_get (D := (dC, dI)) (ci := 8) (v := .ref rt) (C := "TextForgeModel") (T := TX8) (N := 19) hx hb hg iwX8 hown hK hP 0 rfl rfl 2 (by decide) (hg _ kw_728) (fun _ h9 => h9) rfl d_Mo_format_125 ?_
                refine lv_iload_n hx hb d_Mo_format_128 rfl (lv_at hl 3 rfl) ?_
                refine va_bald hx hb hK hP 1 0 rfl rfl (vp_in_nI (by omega) (by decide)) d_Mo_format_129 ?_
                refine lv_topi (fun y_66 ey_66 => ?_)
                have ey_66 : y_66 = (sb_b (F.getD i2 0) : Int32) := ey_66.trans (show (ft (nI i2).toNatClampNeg) = sb_b (F.getD i2 0) from (by rw [nI_clamp (show i2 < 2 ^ 31 by omega)]; exact htc.2))
                subst ey_66
                refine lv_bipush (v := 43) hx hb d_Mo_format_130 (by decide) ?_
                refine lv_icmp_ne (tgt := 139) hx hb d_Mo_format_132 (by decide) (fun _ => ?_) (fun c9 => by first | exact absurd c9 (sb_e4 (k := 43) htc.1 (by decide) (by omega)) | exact absurd (sb_e4 (k := 43) htc.1 (by decide) (by omega)) c9)
                refine lv_iconst (v := 0) hx hb d_Mo_format_139 (by decide) ?_
                refine lv_topi (fun y_67 ey_67 => ?_)
                have ey_67 : y_67 = (by_z (pl || F.getD i2 0 == 43) : Int32) := ey_67.trans (show 0 = by_z (pl || F.getD i2 0 == 43) from (by rw [by_z_f rfl c_121, f_71]; rfl))
                subst ey_67
                refine lv_istore (lv' := [(5, .int (by_z (pl || F.getD i2 0 == 43))), (4, .int (by_z (mi || F.getD i2 0 == 45))), (0, .ref mo), (1, .int (nI us)), (2, .int (nI i2)), (6, .int (by_z ze))]) hx hb d_Mo_format_140 hl (by decide) rfl (fun ls hl => ?_)
                refine lv_iload hx hb d_Mo_format_142 (lv_at hl 5 rfl) ?_
                refine lv_if_ne (tgt := 158) hx hb d_Mo_format_144 (by decide) (fun c_144 => ?_) (fun c_144 => ?_)
                · skip
                  refine lv_iconst (v := 1) hx hb d_Mo_format_158 (by decide) ?_
                  refine lv_goto (tgt := 163) hx hb d_Mo_format_159 (by decide) ?_
                  refine lv_topi (fun y_68 ey_68 => ?_)
                  have ey_68 : y_68 = (by_z (ze || F.getD i2 0 == 48) : Int32) := ey_68.trans (show 1 = by_z (ze || F.getD i2 0 == 48) from (by rw [by_z_t rfl c_144]; rfl))
                  subst ey_68
                  refine lv_istore (lv' := [(6, .int (by_z (ze || F.getD i2 0 == 48))), (5, .int (by_z (pl || F.getD i2 0 == 43))), (4, .int (by_z (mi || F.getD i2 0 == 45))), (0, .ref mo), (1, .int (nI us)), (2, .int (nI i2))]) hx hb d_Mo_format_163 hl (by decide) rfl (fun ls hl => ?_)
                  refine lv_iinc (v := (nI i2) + 1) (lv' := [(2, .int ((nI i2) + 1)), (6, .int (by_z (ze || F.getD i2 0 == 48))), (5, .int (by_z (pl || F.getD i2 0 == 43))), (4, .int (by_z (mi || F.getD i2 0 == 45))), (0, .ref mo), (1, .int (nI us))]) hx hb d_Mo_format_165 hl (k := 5) rfl rfl (by decide) rfl (fun ls hl => ?_)
                  refine lv_goto (tgt := 55) hx hb d_Mo_format_168 (by decide) ?_
                  rw [nI_1] at hl
                  exact ih_55 (i2 + 1, (mi || F.getD i2 0 == 45), (pl || F.getD i2 0 == 43), (ze || F.getD i2 0 == 48)) H locs ls ⟨hP.sub [0, 1, 2, 3, 4, 5, 6, 7] rfl, hD.sub [0, 1, 2, 3, 4, 5, 6, 7] (by decide) rfl, hS, lv_sub hl [4, 5, 0, 3, 2, 1] rfl, (fk_flag hK2 f_60 rfl (Or.inl f_71)), (by omega)⟩ (by dsimp only; omega)
                · skip
                  refine lv_aload_n hx hb d_Mo_format_147 rfl (lv_at hl 2 rfl) ?_
                  refine va_get (D := (dC, dI)) (ci := 8) (v := .ref rt) (C := "TextForgeModel") (T := TX8) (N := 19) hx hb hg iwX8 hown hK hP 0 rfl rfl 2 (by decide) (hg _ kw_728) (fun _ h9 => h9) rfl d_Mo_format_148 ?_
                  refine lv_iload_n hx hb d_Mo_format_151 rfl (lv_at hl 4 rfl) ?_
                  refine va_bald hx hb hK hP 1 0 rfl rfl (vp_in_nI (by omega) (by decide)) d_Mo_format_152 ?_
                  refine lv_topi (fun y_69 ey_69 => ?_)
                  have ey_69 : y_69 = (sb_b (F.getD i2 0) : Int32) := ey_69.trans (show (ft (nI i2).toNatClampNeg) = sb_b (F.getD i2 0) from (by rw [nI_clamp (show i2 < 2 ^ 31 by omega)]; exact htc.2))
                  subst ey_69
                  refine lv_bipush (v := 48) hx hb d_Mo_format_153 (by decide) ?_
                  refine lv_icmp_ne (tgt := 162) hx hb d_Mo_format_155 (by decide) (fun _ => ?_) (fun c9 => by first | exact absurd c9 (sb_e4 (k := 48) htc.1 (by decide) (by omega)) | exact absurd (sb_e4 (k := 48) htc.1 (by decide) (by omega)) c9)
                  refine lv_iconst (v := 0) hx hb d_Mo_format_162 (by decide) ?_
                  refine lv_topi (fun y_70 ey_70 => ?_)
                  have ey_70 : y_70 = (by_z (ze || F.getD i2 0 == 48) : Int32) := ey_70.trans (show 0 = by_z (ze || F.getD i2 0 == 48) from (by rw [by_z_f rfl c_144, f_71]; rfl))
                  subst ey_70
                  refine lv_istore (lv' := [(6, .int (by_z (ze || F.getD i2 0 == 48))), (5, .int (by_z (pl || F.getD i2 0 == 43))), (4, .int (by_z (mi || F.getD i2 0 == 45))), (0, .ref mo), (1, .int (nI us)), (2, .int (nI i2))]) hx hb d_Mo_format_163 hl (by decide) rfl (fun ls hl => ?_)
                  refine lv_iinc (v := (nI i2) + 1) (lv' := [(2, .int ((nI i2) + 1)), (6, .int (by_z (ze || F.getD i2 0 == 48))), (5, .int (by_z (pl || F.getD i2 0 == 43))), (4, .int (by_z (mi || F.getD i2 0 == 45))), (0, .ref mo), (1, .int (nI us))]) hx hb d_Mo_format_165 hl (k := 5) rfl rfl (by decide) rfl (fun ls hl => ?_)
                  refine lv_goto (tgt := 55) hx hb d_Mo_format_168 (by decide) ?_
                  rw [nI_1] at hl
                  exact ih_55 (i2 + 1, (mi || F.getD i2 0 == 45), (pl || F.getD i2 0 == 43), (ze || F.getD i2 0 == 48)) H locs ls ⟨hP.sub [0, 1, 2, 3, 4, 5, 6, 7] rfl, hD.sub [0, 1, 2, 3, 4, 5, 6, 7] (by decide) rfl, hS, lv_sub hl [4, 5, 0, 3, 2, 1] rfl, (fk_flag hK2 f_60 rfl (Or.inl f_71)), (by omega)⟩ (by dsimp only; omega)
            · skip
              refine lv_aload_n hx hb d_Mo_format_101 rfl (lv_at hl 0 rfl) ?_
              refine va_get (D := (dC, dI)) (ci := 8) (v := .ref rt) (C := "TextForgeModel") (T := TX8) (N := 19) hx hb hg iwX8 hown hK hP 0 rfl rfl 2 (by decide) (hg _ kw_728) (fun _ h9 => h9) rfl d_Mo_format_102 ?_
              refine lv_iload_n hx hb d_Mo_format_105 rfl (lv_at hl 2 rfl) ?_
              refine va_bald hx hb hK hP 1 0 rfl rfl (vp_in_nI (by omega) (by decide)) d_Mo_format_106 ?_
              refine lv_topi (fun y_71 ey_71 => ?_)
              have ey_71 : y_71 = (sb_b (F.getD i2 0) : Int32) := ey_71.trans (show (ft (nI i2).toNatClampNeg) = sb_b (F.getD i2 0) from (by rw [nI_clamp (show i2 < 2 ^ 31 by omega)]; exact htc.2))
              subst ey_71
              refine lv_bipush (v := 45) hx hb d_Mo_format_107 (by decide) ?_
              refine lv_icmp_ne (tgt := 116) hx hb d_Mo_format_109 (by decide) (fun c9 => by first | exact absurd c9 (sb_e3 (k := 45) htc.1 (by decide) f_71) | exact absurd (sb_e3 (k := 45) htc.1 (by decide) f_71) c9) (fun _ => ?_)
              refine lv_iconst (v := 1) hx hb d_Mo_format_112 (by decide) ?_
              refine lv_goto (tgt := 117) hx hb d_Mo_format_113 (by decide) ?_
              refine lv_topi (fun y_72 ey_72 => ?_)
              have ey_72 : y_72 = (by_z (mi || F.getD i2 0 == 45) : Int32) := ey_72.trans (show 1 = by_z (mi || F.getD i2 0 == 45) from (by rw [by_z_f rfl c_98, f_71]; rfl))
              subst ey_72
              refine lv_istore (lv' := [(4, .int (by_z (mi || F.getD i2 0 == 45))), (0, .ref mo), (1, .int (nI us)), (2, .int (nI i2)), (5, .int (by_z pl)), (6, .int (by_z ze))]) hx hb d_Mo_format_117 hl (by decide) rfl (fun ls hl => ?_)
              refine lv_iload hx hb d_Mo_format_119 (lv_at hl 4 rfl) ?_
              refine lv_if_ne (tgt := 135) hx hb d_Mo_format_121 (by decide) (fun c_121 => ?_) (fun c_121 => ?_)
              · skip
                refine lv_iconst (v := 1) hx hb d_Mo_format_135 (by decide) ?_
                refine lv_goto (tgt := 140) hx hb d_Mo_format_136 (by decide) ?_
                refine lv_topi (fun y_73 ey_73 => ?_)
                have ey_73 : y_73 = (by_z (pl || F.getD i2 0 == 43) : Int32) := ey_73.trans (show 1 = by_z (pl || F.getD i2 0 == 43) from (by rw [by_z_t rfl c_121]; rfl))
                subst ey_73
                refine lv_istore (lv' := [(5, .int (by_z (pl || F.getD i2 0 == 43))), (4, .int (by_z (mi || F.getD i2 0 == 45))), (0, .ref mo), (1, .int (nI us)), (2, .int (nI i2)), (6, .int (by_z ze))]) hx hb d_Mo_format_140 hl (by decide) rfl (fun ls hl => ?_)
                refine lv_iload hx hb d_Mo_format_142 (lv_at hl 5 rfl) ?_
                refine lv_if_ne (tgt := 158) hx hb d_Mo_format_144 (by decide) (fun c_144 => ?_) (fun c_144 => ?_)
                · skip
                  refine lv_iconst (v := 1) hx hb d_Mo_format_158 (by decide) ?_
                  refine lv_goto (tgt := 163) hx hb d_Mo_format_159 (by decide) ?_
                  refine lv_topi (fun y_74 ey_74 => ?_)
                  have ey_74 : y_74 = (by_z (ze || F.getD i2 0 == 48) : Int32) := ey_74.trans (show 1 = by_z (ze || F.getD i2 0 == 48) from (by rw [by_z_t rfl c_144]; rfl))
                  subst ey_74
                  refine lv_istore (lv' := [(6, .int (by_z (ze || F.getD i2 0 == 48))), (5, .int (by_z (pl || F.getD i2 0 == 43))), (4, .int (by_z (mi || F.getD i2 0 == 45))), (0, .ref mo), (1, .int (nI us)), (2, .int (nI i2))]) hx hb d_Mo_format_163 hl (by decide) rfl (fun ls hl => ?_)
                  refine lv_iinc (v := (nI i2) + 1) (lv' := [(2, .int ((nI i2) + 1)), (6, .int (by_z (ze || F.getD i2 0 == 48))), (5, .int (by_z (pl || F.getD i2 0 == 43))), (4, .int (by_z (mi || F.getD i2 0 == 45))), (0, .ref mo), (1, .int (nI us))]) hx hb d_Mo_format_165 hl (k := 5) rfl rfl (by decide) rfl (fun ls hl => ?_)
                  refine lv_goto (tgt := 55) hx hb d_Mo_format_168 (by decide) ?_
                  rw [nI_1] at hl
                  exact ih_55 (i2 + 1, (mi || F.getD i2 0 == 45), (pl || F.getD i2 0 == 43), (ze || F.getD i2 0 == 48)) H locs ls ⟨hP.sub [0, 1, 2, 3, 4, 5, 6, 7] rfl, hD.sub [0, 1, 2, 3, 4, 5, 6, 7] (by decide) rfl, hS, lv_sub hl [4, 5, 0, 3, 2, 1] rfl, (fk_flag hK2 f_60 rfl (Or.inl f_71)), (by omega)⟩ (by dsimp only; omega)
                · skip
                  refine lv_aload_n hx hb d_Mo_format_147 rfl (lv_at hl 2 rfl) ?_
                  refine va_get (D := (dC, dI)) (ci := 8) (v := .ref rt) (C := "TextForgeModel") (T := TX8) (N := 19) hx hb hg iwX8 hown hK hP 0 rfl rfl 2 (by decide) (hg _ kw_728) (fun _ h9 => h9) rfl d_Mo_format_148 ?_
                  refine lv_iload_n hx hb d_Mo_format_151 rfl (lv_at hl 4 rfl) ?_
                  refine va_bald hx hb hK hP 1 0 rfl rfl (vp_in_nI (by omega) (by decide)) d_Mo_format_152 ?_
                  refine lv_topi (fun y_75 ey_75 => ?_)
                  have ey_75 : y_75 = (sb_b (F.getD i2 0) : Int32) := ey_75.trans (show (ft (nI i2).toNatClampNeg) = sb_b (F.getD i2 0) from (by rw [nI_clamp (show i2 < 2 ^ 31 by omega)]; exact htc.2))
                  subst ey_75
                  refine lv_bipush (v := 48) hx hb d_Mo_format_153 (by decide) ?_
                  refine lv_icmp_ne (tgt := 162) hx hb d_Mo_format_155 (by decide) (fun _ => ?_) (fun c9 => by first | exact absurd c9 (sb_e4 (k := 48) htc.1 (by decide) (by omega)) | exact absurd (sb_e4 (k := 48) htc.1 (by decide) (by omega)) c9)
                  refine lv_iconst (v := 0) hx hb d_Mo_format_162 (by decide) ?_
                  refine lv_topi (fun y_76 ey_76 => ?_)
                  have ey_76 : y_76 = (by_z (ze || F.getD i2 0 == 48) : Int32) := ey_76.trans (show 0 = by_z (ze || F.getD i2 0 == 48) from (by rw [by_z_f rfl c_144, f_71]; rfl))
                  subst ey_76
                  refine lv_istore (lv' := [(6, .int (by_z (ze || F.getD i2 0 == 48))), (5, .int (by_z (pl || F.getD i2 0 == 43))), (4, .int (by_z (mi || F.getD i2 0 == 45))), (0, .ref mo), (1, .int (nI us)), (2, .int (nI i2))]) hx hb d_Mo_format_163 hl (by decide) rfl (fun ls hl => ?_)
                  refine lv_iinc (v := (nI i2) + 1) (lv' := [(2, .int ((nI i2) + 1)), (6, .int (by_z (ze || F.getD i2 0 == 48))), (5, .int (by_z (pl || F.getD i2 0 == 43))), (4, .int (by_z (mi || F.getD i2 0 == 45))), (0, .ref mo), (1, .int (nI us))]) hx hb d_Mo_format_165 hl (k := 5) rfl rfl (by decide) rfl (fun ls hl => ?_)
                  refine lv_goto (tgt := 55) hx hb d_Mo_format_168 (by decide) ?_
                  rw [nI_1] at hl
                  exact ih_55 (i2 + 1, (mi || F.getD i2 0 == 45), (pl || F.getD i2 0 == 43), (ze || F.getD i2 0 == 48)) H locs ls ⟨hP.sub [0, 1, 2, 3, 4, 5, 6, 7] rfl, hD.sub [0, 1, 2, 3, 4, 5, 6, 7] (by decide) rfl, hS, lv_sub hl [4, 5, 0, 3, 2, 1] rfl, (fk_flag hK2 f_60 rfl (Or.inl f_71)), (by omega)⟩ (by dsimp only; omega)
              · skip
                refine lv_aload_n hx hb d_Mo_format_124 rfl (lv_at hl 1 rfl) ?_
                refine va_get (D := (dC, dI)) (ci := 8) (v := .ref rt) (C := "TextForgeModel") (T := TX8) (N := 19) hx hb hg iwX8 hown hK hP 0 rfl rfl 2 (by decide) (hg _ kw_728) (fun _ h9 => h9) rfl d_Mo_format_125 ?_
                refine lv_iload_n hx hb d_Mo_format_128 rfl (lv_at hl 3 rfl) ?_
                refine va_bald hx hb hK hP 1 0 rfl rfl (vp_in_nI (by omega) (by decide)) d_Mo_format_129 ?_
                refine lv_topi (fun y_77 ey_77 => ?_)
                have ey_77 : y_77 = (sb_b (F.getD i2 0) : Int32) := ey_77.trans (show (ft (nI i2).toNatClampNeg) = sb_b (F.getD i2 0) from (by rw [nI_clamp (show i2 < 2 ^ 31 by omega)]; exact htc.2))
                subst ey_77
                refine lv_bipush (v := 43) hx hb d_Mo_format_130 (by decide) ?_
                refine lv_icmp_ne (tgt := 139) hx hb d_Mo_format_132 (by decide) (fun _ => ?_) (fun c9 => by first | exact absurd c9 (sb_e4 (k := 43) htc.1 (by decide) (by omega)) | exact absurd (sb_e4 (k := 43) htc.1 (by decide) (by omega)) c9)
                refine lv_iconst (v := 0) hx hb d_Mo_format_139 (by decide) ?_
                refine lv_topi (fun y_78 ey_78 => ?_)
                have ey_78 : y_78 = (by_z (pl || F.getD i2 0 == 43) : Int32) := ey_78.trans (show 0 = by_z (pl || F.getD i2 0 == 43) from (by rw [by_z_f rfl c_121, f_71]; rfl))
                subst ey_78
                refine lv_istore (lv' := [(5, .int (by_z (pl || F.getD i2 0 == 43))), (4, .int (by_z (mi || F.getD i2 0 == 45))), (0, .ref mo), (1, .int (nI us)), (2, .int (nI i2)), (6, .int (by_z ze))]) hx hb d_Mo_format_140 hl (by decide) rfl (fun ls hl => ?_)
                refine lv_iload hx hb d_Mo_format_142 (lv_at hl 5 rfl) ?_
                refine lv_if_ne (tgt := 158) hx hb d_Mo_format_144 (by decide) (fun c_144 => ?_) (fun c_144 => ?_)
                · skip
                  refine lv_iconst (v := 1) hx hb d_Mo_format_158 (by decide) ?_
                  refine lv_goto (tgt := 163) hx hb d_Mo_format_159 (by decide) ?_
                  refine lv_topi (fun y_79 ey_79 => ?_)
                  have ey_79 : y_79 = (by_z (ze || F.getD i2 0 == 48) : Int32) := ey_79.trans (show 1 = by_z (ze || F.getD i2 0 == 48) from (by rw [by_z_t rfl c_144]; rfl))
                  subst ey_79
                  refine lv_istore (lv' := [(6, .int (by_z (ze || F.getD i2 0 == 48))), (5, .int (by_z (pl || F.getD i2 0 == 43))), (4, .int (by_z (mi || F.getD i2 0 == 45))), (0, .ref mo), (1, .int (nI us)), (2, .int (nI i2))]) hx hb d_Mo_format_163 hl (by decide) rfl (fun ls hl => ?_)
                  refine lv_iinc (v := (nI i2) + 1) (lv' := [(2, .int ((nI i2) + 1)), (6, .int (by_z (ze || F.getD i2 0 == 48))), (5, .int (by_z (pl || F.getD i2 0 == 43))), (4, .int (by_z (mi || F.getD i2 0 == 45))), (0, .ref mo), (1, .int (nI us))]) hx hb d_Mo_format_165 hl (k := 5) rfl rfl (by decide) rfl (fun ls hl => ?_)
                  refine lv_goto (tgt := 55) hx hb d_Mo_format_168 (by decide) ?_
                  rw [nI_1] at hl
                  exact ih_55 (i2 + 1, (mi || F.getD i2 0 == 45), (pl || F.getD i2 0 == 43), (ze || F.getD i2 0 == 48)) H locs ls ⟨hP.sub [0, 1, 2, 3, 4, 5, 6, 7] rfl, hD.sub [0, 1, 2, 3, 4, 5, 6, 7] (by decide) rfl, hS, lv_sub hl [4, 5, 0, 3, 2, 1] rfl, (fk_flag hK2 f_60 rfl (Or.inl f_71)), (by omega)⟩ (by dsimp only; omega)
                · skip
                  refine lv_aload_n hx hb d_Mo_format_147 rfl (lv_at hl 2 rfl) ?_
                  refine va_get (D := (dC, dI)) (ci := 8) (v := .ref rt) (C := "TextForgeModel") (T := TX8) (N := 19) hx hb hg iwX8 hown hK hP 0 rfl rfl 2 (by decide) (hg _ kw_728) (fun _ h9 => h9) rfl d_Mo_format_148 ?_
                  refine lv_iload_n hx hb d_Mo_format_151 rfl (lv_at hl 4 rfl) ?_
                  refine va_bald hx hb hK hP 1 0 rfl rfl (vp_in_nI (by omega) (by decide)) d_Mo_format_152 ?_
                  refine lv_topi (fun y_80 ey_80 => ?_)
                  have ey_80 : y_80 = (sb_b (F.getD i2 0) : Int32) := ey_80.trans (show (ft (nI i2).toNatClampNeg) = sb_b (F.getD i2 0) from (by rw [nI_clamp (show i2 < 2 ^ 31 by omega)]; exact htc.2))
                  subst ey_80
                  refine lv_bipush (v := 48) hx hb d_Mo_format_153 (by decide) ?_
                  refine lv_icmp_ne (tgt := 162) hx hb d_Mo_format_155 (by decide) (fun _ => ?_) (fun c9 => by first | exact absurd c9 (sb_e4 (k := 48) htc.1 (by decide) (by omega)) | exact absurd (sb_e4 (k := 48) htc.1 (by decide) (by omega)) c9)
                  refine lv_iconst (v := 0) hx hb d_Mo_format_162 (by decide) ?_
                  refine lv_topi (fun y_81 ey_81 => ?_)
                  have ey_81 : y_81 = (by_z (ze || F.getD i2 0 == 48) : Int32) := ey_81.trans (show 0 = by_z (ze || F.getD i2 0 == 48) from (by rw [by_z_f rfl c_144, f_71]; rfl))
                  subst ey_81
                  refine lv_istore (lv' := [(6, .int (by_z (ze || F.getD i2 0 == 48))), (5, .int (by_z (pl || F.getD i2 0 == 43))), (4, .int (by_z (mi || F.getD i2 0 == 45))), (0, .ref mo), (1, .int (nI us)), (2, .int (nI i2))]) hx hb d_Mo_format_163 hl (by decide) rfl (fun ls hl => ?_)
                  refine lv_iinc (v := (nI i2) + 1) (lv' := [(2, .int ((nI i2) + 1)), (6, .int (by_z (ze || F.getD i2 0 == 48))), (5, .int (by_z (pl || F.getD i2 0 == 43))), (4, .int (by_z (mi || F.getD i2 0 == 45))), (0, .ref mo), (1, .int (nI us))]) hx hb d_Mo_format_165 hl (k := 5) rfl rfl (by decide) rfl (fun ls hl => ?_)
                  refine lv_goto (tgt := 55) hx hb d_Mo_format_168 (by decide) ?_
                  rw [nI_1] at hl
                  exact ih_55 (i2 + 1, (mi || F.getD i2 0 == 45), (pl || F.getD i2 0 == 43), (ze || F.getD i2 0 == 48)) H locs ls ⟨hP.sub [0, 1, 2, 3, 4, 5, 6, 7] rfl, hD.sub [0, 1, 2, 3, 4, 5, 6, 7] (by decide) rfl, hS, lv_sub hl [4, 5, 0, 3, 2, 1] rfl, (fk_flag hK2 f_60 rfl (Or.inl f_71)), (by omega)⟩ (by dsimp only; omega)
          · skip
            have f_71 : F.getD i2 0 ≠ 45 := sb_e2 (k := 45) htc.1 (by decide) c_71
            refine lv_aload_n hx hb d_Mo_format_74 rfl (lv_at hl 0 rfl) ?_
            refine va_get (D := (dC, dI)) (ci := 8) (v := .ref rt) (C := "TextForgeModel") (T := TX8) (N := 19) hx hb hg iwX8 hown hK hP 0 rfl rfl 2 (by decide) (hg _ kw_728) (fun _ h9 => h9) rfl d_Mo_format_75 ?_
            refine lv_iload_n hx hb d_Mo_format_78 rfl (lv_at hl 2 rfl) ?_
            refine va_bald hx hb hK hP 1 0 rfl rfl (vp_in_nI (by omega) (by decide)) d_Mo_format_79 ?_
            refine lv_topi (fun y_82 ey_82 => ?_)
            have ey_82 : y_82 = (sb_b (F.getD i2 0) : Int32) := ey_82.trans (show (ft (nI i2).toNatClampNeg) = sb_b (F.getD i2 0) from (by rw [nI_clamp (show i2 < 2 ^ 31 by omega)]; exact htc.2))
            subst ey_82
            refine lv_bipush (v := 43) hx hb d_Mo_format_80 (by decide) ?_
            refine lv_icmp_eq (tgt := 96) hx hb d_Mo_format_82 (by decide) (fun c_82 => ?_) (fun c_82 => ?_)
            · skip
              have f_82 : F.getD i2 0 = 43 := sb_e1 (k := 43) htc.1 (by decide) c_82
              refine lv_iload hx hb d_Mo_format_96 (lv_at hl 3 rfl) ?_
              refine lv_if_ne (tgt := 112) hx hb d_Mo_format_98 (by decide) (fun c_98 => ?_) (fun c_98 => ?_)
              · skip
                refine lv_iconst (v := 1) hx hb d_Mo_format_112 (by decide) ?_
                refine lv_goto (tgt := 117) hx hb d_Mo_format_113 (by decide) ?_
                refine lv_topi (fun y_83 ey_83 => ?_)
                have ey_83 : y_83 = (by_z (mi || F.getD i2 0 == 45) : Int32) := ey_83.trans (show 1 = by_z (mi || F.getD i2 0 == 45) from (by rw [by_z_t rfl c_98]; rfl))
                subst ey_83
                refine lv_istore (lv' := [(4, .int (by_z (mi || F.getD i2 0 == 45))), (0, .ref mo), (1, .int (nI us)), (2, .int (nI i2)), (5, .int (by_z pl)), (6, .int (by_z ze))]) hx hb d_Mo_format_117 hl (by decide) rfl (fun ls hl => ?_)
                refine lv_iload hx hb d_Mo_format_119 (lv_at hl 4 rfl) ?_
                refine lv_if_ne (tgt := 135) hx hb d_Mo_format_121 (by decide) (fun c_121 => ?_) (fun c_121 => ?_)
                · skip
                  refine lv_iconst (v := 1) hx hb d_Mo_format_135 (by decide) ?_
                  refine lv_goto (tgt := 140) hx hb d_Mo_format_136 (by decide) ?_
                  refine lv_topi (fun y_84 ey_84 => ?_)
                  have ey_84 : y_84 = (by_z (pl || F.getD i2 0 == 43) : Int32) := ey_84.trans (show 1 = by_z (pl || F.getD i2 0 == 43) from (by rw [by_z_t rfl c_121]; rfl))
                  subst ey_84
                  refine lv_istore (lv' := [(5, .int (by_z (pl || F.getD i2 0 == 43))), (4, .int (by_z (mi || F.getD i2 0 == 45))), (0, .ref mo), (1, .int (nI us)), (2, .int (nI i2)), (6, .int (by_z ze))]) hx hb d_Mo_format_140 hl (by decide) rfl (fun ls hl => ?_)
                  refine lv_iload hx hb d_Mo_format_142 (lv_at hl 5 rfl) ?_
                  refine lv_if_ne (tgt := 158) hx hb d_Mo_format_144 (by decide) (fun c_144 => ?_) (fun c_144 => ?_)
                  · skip
                    refine lv_iconst (v := 1) hx hb d_Mo_format_158 (by decide) ?_
                    refine lv_goto (tgt := 163) hx hb d_Mo_format_159 (by decide) ?_
                    refine lv_topi (fun y_85 ey_85 => ?_)
                    have ey_85 : y_85 = (by_z (ze || F.getD i2 0 == 48) : Int32) := ey_85.trans (show 1 = by_z (ze || F.getD i2 0 == 48) from (by rw [by_z_t rfl c_144]; rfl))
                    subst ey_85
                    refine lv_istore (lv' := [(6, .int (by_z (ze || F.getD i2 0 == 48))), (5, .int (by_z (pl || F.getD i2 0 == 43))), (4, .int (by_z (mi || F.getD i2 0 == 45))), (0, .ref mo), (1, .int (nI us)), (2, .int (nI i2))]) hx hb d_Mo_format_163 hl (by decide) rfl (fun ls hl => ?_)
                    refine lv_iinc (v := (nI i2) + 1) (lv' := [(2, .int ((nI i2) + 1)), (6, .int (by_z (ze || F.getD i2 0 == 48))), (5, .int (by_z (pl || F.getD i2 0 == 43))), (4, .int (by_z (mi || F.getD i2 0 == 45))), (0, .ref mo), (1, .int (nI us))]) hx hb d_Mo_format_165 hl (k := 5) rfl rfl (by decide) rfl (fun ls hl => ?_)
                    refine lv_goto (tgt := 55) hx hb d_Mo_format_168 (by decide) ?_
                    rw [nI_1] at hl
                    exact ih_55 (i2 + 1, (mi || F.getD i2 0 == 45), (pl || F.getD i2 0 == 43), (ze || F.getD i2 0 == 48)) H locs ls ⟨hP.sub [0, 1, 2, 3, 4, 5, 6, 7] rfl, hD.sub [0, 1, 2, 3, 4, 5, 6, 7] (by decide) rfl, hS, lv_sub hl [4, 5, 0, 3, 2, 1] rfl, (fk_flag hK2 f_60 rfl (Or.inr (Or.inl f_82))), (by omega)⟩ (by dsimp only; omega)
                  · skip
                    refine lv_aload_n hx hb d_Mo_format_147 rfl (lv_at hl 2 rfl) ?_
                    refine va_get (D := (dC, dI)) (ci := 8) (v := .ref rt) (C := "TextForgeModel") (T := TX8) (N := 19) hx hb hg iwX8 hown hK hP 0 rfl rfl 2 (by decide) (hg _ kw_728) (fun _ h9 => h9) rfl d_Mo_format_148 ?_
                    refine lv_iload_n hx hb d_Mo_format_151 rfl (lv_at hl 4 rfl) ?_
                    refine va_bald hx hb hK hP 1 0 rfl rfl (vp_in_nI (by omega) (by decide)) d_Mo_format_152 ?_
                    refine lv_topi (fun y_86 ey_86 => ?_)
                    have ey_86 : y_86 = (sb_b (F.getD i2 0) : Int32) := ey_86.trans (show (ft (nI i2).toNatClampNeg) = sb_b (F.getD i2 0) from (by rw [nI_clamp (show i2 < 2 ^ 31 by omega)]; exact htc.2))
                    subst ey_86
                    refine lv_bipush (v := 48) hx hb d_Mo_format_153 (by decide) ?_
                    refine lv_icmp_ne (tgt := 162) hx hb d_Mo_format_155 (by decide) (fun _ => ?_) (fun c9 => by first | exact absurd c9 (sb_e4 (k := 48) htc.1 (by decide) (by omega)) | exact absurd (sb_e4 (k := 48) htc.1 (by decide) (by omega)) c9)
                    refine lv_iconst (v := 0) hx hb d_Mo_format_162 (by decide) ?_
                    refine lv_topi (fun y_87 ey_87 => ?_)
                    have ey_87 : y_87 = (by_z (ze || F.getD i2 0 == 48) : Int32) := ey_87.trans (show 0 = by_z (ze || F.getD i2 0 == 48) from (by rw [by_z_f rfl c_144, f_82]; rfl))
                    subst ey_87
                    refine lv_istore (lv' := [(6, .int (by_z (ze || F.getD i2 0 == 48))), (5, .int (by_z (pl || F.getD i2 0 == 43))), (4, .int (by_z (mi || F.getD i2 0 == 45))), (0, .ref mo), (1, .int (nI us)), (2, .int (nI i2))]) hx hb d_Mo_format_163 hl (by decide) rfl (fun ls hl => ?_)
                    refine lv_iinc (v := (nI i2) + 1) (lv' := [(2, .int ((nI i2) + 1)), (6, .int (by_z (ze || F.getD i2 0 == 48))), (5, .int (by_z (pl || F.getD i2 0 == 43))), (4, .int (by_z (mi || F.getD i2 0 == 45))), (0, .ref mo), (1, .int (nI us))]) hx hb d_Mo_format_165 hl (k := 5) rfl rfl (by decide) rfl (fun ls hl => ?_)
                    refine lv_goto (tgt := 55) hx hb d_Mo_format_168 (by decide) ?_
                    rw [nI_1] at hl
                    exact ih_55 (i2 + 1, (mi || F.getD i2 0 == 45), (pl || F.getD i2 0 == 43), (ze || F.getD i2 0 == 48)) H locs ls ⟨hP.sub [0, 1, 2, 3, 4, 5, 6, 7] rfl, hD.sub [0, 1, 2, 3, 4, 5, 6, 7] (by decide) rfl, hS, lv_sub hl [4, 5, 0, 3, 2, 1] rfl, (fk_flag hK2 f_60 rfl (Or.inr (Or.inl f_82))), (by omega)⟩ (by dsimp only; omega)
                · skip
                  refine lv_aload_n hx hb d_Mo_format_124 rfl (lv_at hl 1 rfl) ?_
                  refine va_get (D := (dC, dI)) (ci := 8) (v := .ref rt) (C := "TextForgeModel") (T := TX8) (N := 19) hx hb hg iwX8 hown hK hP 0 rfl rfl 2 (by decide) (hg _ kw_728) (fun _ h9 => h9) rfl d_Mo_format_125 ?_
                  refine lv_iload_n hx hb d_Mo_format_128 rfl (lv_at hl 3 rfl) ?_
                  refine va_bald hx hb hK hP 1 0 rfl rfl (vp_in_nI (by omega) (by decide)) d_Mo_format_129 ?_
                  refine lv_topi (fun y_88 ey_88 => ?_)
                  have ey_88 : y_88 = (sb_b (F.getD i2 0) : Int32) := ey_88.trans (show (ft (nI i2).toNatClampNeg) = sb_b (F.getD i2 0) from (by rw [nI_clamp (show i2 < 2 ^ 31 by omega)]; exact htc.2))
                  subst ey_88
                  refine lv_bipush (v := 43) hx hb d_Mo_format_130 (by decide) ?_
                  refine lv_icmp_ne (tgt := 139) hx hb d_Mo_format_132 (by decide) (fun c9 => by first | exact absurd c9 (sb_e3 (k := 43) htc.1 (by decide) f_82) | exact absurd (sb_e3 (k := 43) htc.1 (by decide) f_82) c9) (fun _ => ?_)
                  refine lv_iconst (v := 1) hx hb d_Mo_format_135 (by decide) ?_
                  refine lv_goto (tgt := 140) hx hb d_Mo_format_136 (by decide) ?_
                  refine lv_topi (fun y_89 ey_89 => ?_)
                  have ey_89 : y_89 = (by_z (pl || F.getD i2 0 == 43) : Int32) := ey_89.trans (show 1 = by_z (pl || F.getD i2 0 == 43) from (by rw [by_z_f rfl c_121, f_82]; rfl))
                  subst ey_89
                  refine lv_istore (lv' := [(5, .int (by_z (pl || F.getD i2 0 == 43))), (4, .int (by_z (mi || F.getD i2 0 == 45))), (0, .ref mo), (1, .int (nI us)), (2, .int (nI i2)), (6, .int (by_z ze))]) hx hb d_Mo_format_140 hl (by decide) rfl (fun ls hl => ?_)
                  refine lv_iload hx hb d_Mo_format_142 (lv_at hl 5 rfl) ?_
                  refine lv_if_ne (tgt := 158) hx hb d_Mo_format_144 (by decide) (fun c_144 => ?_) (fun c_144 => ?_)
                  · skip
                    refine lv_iconst (v := 1) hx hb d_Mo_format_158 (by decide) ?_
                    refine lv_goto (tgt := 163) hx hb d_Mo_format_159 (by decide) ?_
                    refine lv_topi (fun y_90 ey_90 => ?_)
                    have ey_90 : y_90 = (by_z (ze || F.getD i2 0 == 48) : Int32) := ey_90.trans (show 1 = by_z (ze || F.getD i2 0 == 48) from (by rw [by_z_t rfl c_144]; rfl))
                    subst ey_90
                    refine lv_istore (lv' := [(6, .int (by_z (ze || F.getD i2 0 == 48))), (5, .int (by_z (pl || F.getD i2 0 == 43))), (4, .int (by_z (mi || F.getD i2 0 == 45))), (0, .ref mo), (1, .int (nI us)), (2, .int (nI i2))]) hx hb d_Mo_format_163 hl (by decide) rfl (fun ls hl => ?_)
                    refine lv_iinc (v := (nI i2) + 1) (lv' := [(2, .int ((nI i2) + 1)), (6, .int (by_z (ze || F.getD i2 0 == 48))), (5, .int (by_z (pl || F.getD i2 0 == 43))), (4, .int (by_z (mi || F.getD i2 0 == 45))), (0, .ref mo), (1, .int (nI us))]) hx hb d_Mo_format_165 hl (k := 5) rfl rfl (by decide) rfl (fun ls hl => ?_)
                    refine lv_goto (tgt := 55) hx hb d_Mo_format_168 (by decide) ?_
                    rw [nI_1] at hl
                    exact ih_55 (i2 + 1, (mi || F.getD i2 0 == 45), (pl || F.getD i2 0 == 43), (ze || F.getD i2 0 == 48)) H locs ls ⟨hP.sub [0, 1, 2, 3, 4, 5, 6, 7] rfl, hD.sub [0, 1, 2, 3, 4, 5, 6, 7] (by decide) rfl, hS, lv_sub hl [4, 5, 0, 3, 2, 1] rfl, (fk_flag hK2 f_60 rfl (Or.inr (Or.inl f_82))), (by omega)⟩ (by dsimp only; omega)
                  · skip
                    refine lv_aload_n hx hb d_Mo_format_147 rfl (lv_at hl 2 rfl) ?_
                    refine va_get (D := (dC, dI)) (ci := 8) (v := .ref rt) (C := "TextForgeModel") (T := TX8) (N := 19) hx hb hg iwX8 hown hK hP 0 rfl rfl 2 (by decide) (hg _ kw_728) (fun _ h9 => h9) rfl d_Mo_format_148 ?_
                    refine lv_iload_n hx hb d_Mo_format_151 rfl (lv_at hl 4 rfl) ?_
                    refine va_bald hx hb hK hP 1 0 rfl rfl (vp_in_nI (by omega) (by decide)) d_Mo_format_152 ?_
                    refine lv_topi (fun y_91 ey_91 => ?_)
                    have ey_91 : y_91 = (sb_b (F.getD i2 0) : Int32) := ey_91.trans (show (ft (nI i2).toNatClampNeg) = sb_b (F.getD i2 0) from (by rw [nI_clamp (show i2 < 2 ^ 31 by omega)]; exact htc.2))
                    subst ey_91
                    refine lv_bipush (v := 48) hx hb d_Mo_format_153 (by decide) ?_
                    refine lv_icmp_ne (tgt := 162) hx hb d_Mo_format_155 (by decide) (fun _ => ?_) (fun c9 => by first | exact absurd c9 (sb_e4 (k := 48) htc.1 (by decide) (by omega)) | exact absurd (sb_e4 (k := 48) htc.1 (by decide) (by omega)) c9)
                    refine lv_iconst (v := 0) hx hb d_Mo_format_162 (by decide) ?_
                    refine lv_topi (fun y_92 ey_92 => ?_)
                    have ey_92 : y_92 = (by_z (ze || F.getD i2 0 == 48) : Int32) := ey_92.trans (show 0 = by_z (ze || F.getD i2 0 == 48) from (by rw [by_z_f rfl c_144, f_82]; rfl))
                    subst ey_92
                    refine lv_istore (lv' := [(6, .int (by_z (ze || F.getD i2 0 == 48))), (5, .int (by_z (pl || F.getD i2 0 == 43))), (4, .int (by_z (mi || F.getD i2 0 == 45))), (0, .ref mo), (1, .int (nI us)), (2, .int (nI i2))]) hx hb d_Mo_format_163 hl (by decide) rfl (fun ls hl => ?_)
                    refine lv_iinc (v := (nI i2) + 1) (lv' := [(2, .int ((nI i2) + 1)), (6, .int (by_z (ze || F.getD i2 0 == 48))), (5, .int (by_z (pl || F.getD i2 0 == 43))), (4, .int (by_z (mi || F.getD i2 0 == 45))), (0, .ref mo), (1, .int (nI us))]) hx hb d_Mo_format_165 hl (k := 5) rfl rfl (by decide) rfl (fun ls hl => ?_)
                    refine lv_goto (tgt := 55) hx hb d_Mo_format_168 (by decide) ?_
                    rw [nI_1] at hl
                    exact ih_55 (i2 + 1, (mi || F.getD i2 0 == 45), (pl || F.getD i2 0 == 43), (ze || F.getD i2 0 == 48)) H locs ls ⟨hP.sub [0, 1, 2, 3, 4, 5, 6, 7] rfl, hD.sub [0, 1, 2, 3, 4, 5, 6, 7] (by decide) rfl, hS, lv_sub hl [4, 5, 0, 3, 2, 1] rfl, (fk_flag hK2 f_60 rfl (Or.inr (Or.inl f_82))), (by omega)⟩ (by dsimp only; omega)
              · skip
                refine lv_aload_n hx hb d_Mo_format_101 rfl (lv_at hl 0 rfl) ?_
                refine va_get (D := (dC, dI)) (ci := 8) (v := .ref rt) (C := "TextForgeModel") (T := TX8) (N := 19) hx hb hg iwX8 hown hK hP 0 rfl rfl 2 (by decide) (hg _ kw_728) (fun _ h9 => h9) rfl d_Mo_format_102 ?_
                refine lv_iload_n hx hb d_Mo_format_105 rfl (lv_at hl 2 rfl) ?_
                refine va_bald hx hb hK hP 1 0 rfl rfl (vp_in_nI (by omega) (by decide)) d_Mo_format_106 ?_
                refine lv_topi (fun y_93 ey_93 => ?_)
                have ey_93 : y_93 = (sb_b (F.getD i2 0) : Int32) := ey_93.trans (show (ft (nI i2).toNatClampNeg) = sb_b (F.getD i2 0) from (by rw [nI_clamp (show i2 < 2 ^ 31 by omega)]; exact htc.2))
                subst ey_93
                refine lv_bipush (v := 45) hx hb d_Mo_format_107 (by decide) ?_
                refine lv_icmp_ne (tgt := 116) hx hb d_Mo_format_109 (by decide) (fun _ => ?_) (fun c9 => by first | exact absurd c9 (sb_e4 (k := 45) htc.1 (by decide) (by omega)) | exact absurd (sb_e4 (k := 45) htc.1 (by decide) (by omega)) c9)
                refine lv_iconst (v := 0) hx hb d_Mo_format_116 (by decide) ?_
                refine lv_topi (fun y_94 ey_94 => ?_)
                have ey_94 : y_94 = (by_z (mi || F.getD i2 0 == 45) : Int32) := ey_94.trans (show 0 = by_z (mi || F.getD i2 0 == 45) from (by rw [by_z_f rfl c_98, f_82]; rfl))
                subst ey_94
                refine lv_istore (lv' := [(4, .int (by_z (mi || F.getD i2 0 == 45))), (0, .ref mo), (1, .int (nI us)), (2, .int (nI i2)), (5, .int (by_z pl)), (6, .int (by_z ze))]) hx hb d_Mo_format_117 hl (by decide) rfl (fun ls hl => ?_)
                refine lv_iload hx hb d_Mo_format_119 (lv_at hl 4 rfl) ?_
                refine lv_if_ne (tgt := 135) hx hb d_Mo_format_121 (by decide) (fun c_121 => ?_) (fun c_121 => ?_)
                · skip
                  refine lv_iconst (v := 1) hx hb d_Mo_format_135 (by decide) ?_
                  refine lv_goto (tgt := 140) hx hb d_Mo_format_136 (by decide) ?_
                  refine lv_topi (fun y_95 ey_95 => ?_)
                  have ey_95 : y_95 = (by_z (pl || F.getD i2 0 == 43) : Int32) := ey_95.trans (show 1 = by_z (pl || F.getD i2 0 == 43) from (by rw [by_z_t rfl c_121]; rfl))
                  subst ey_95
                  refine lv_istore (lv' := [(5, .int (by_z (pl || F.getD i2 0 == 43))), (4, .int (by_z (mi || F.getD i2 0 == 45))), (0, .ref mo), (1, .int (nI us)), (2, .int (nI i2)), (6, .int (by_z ze))]) hx hb d_Mo_format_140 hl (by decide) rfl (fun ls hl => ?_)
                  refine lv_iload hx hb d_Mo_format_142 (lv_at hl 5 rfl) ?_
                  refine lv_if_ne (tgt := 158) hx hb d_Mo_format_144 (by decide) (fun c_144 => ?_) (fun c_144 => ?_)
                  · skip
                    refine lv_iconst (v := 1) hx hb d_Mo_format_158 (by decide) ?_
                    refine lv_goto (tgt := 163) hx hb d_Mo_format_159 (by decide) ?_
                    refine lv_topi (fun y_96 ey_96 => ?_)
                    have ey_96 : y_96 = (by_z (ze || F.getD i2 0 == 48) : Int32) := ey_96.trans (show 1 = by_z (ze || F.getD i2 0 == 48) from (by rw [by_z_t rfl c_144]; rfl))
                    subst ey_96
                    refine lv_istore (lv' := [(6, .int (by_z (ze || F.getD i2 0 == 48))), (5, .int (by_z (pl || F.getD i2 0 == 43))), (4, .int (by_z (mi || F.getD i2 0 == 45))), (0, .ref mo), (1, .int (nI us)), (2, .int (nI i2))]) hx hb d_Mo_format_163 hl (by decide) rfl (fun ls hl => ?_)
                    refine lv_iinc (v := (nI i2) + 1) (lv' := [(2, .int ((nI i2) + 1)), (6, .int (by_z (ze || F.getD i2 0 == 48))), (5, .int (by_z (pl || F.getD i2 0 == 43))), (4, .int (by_z (mi || F.getD i2 0 == 45))), (0, .ref mo), (1, .int (nI us))]) hx hb d_Mo_format_165 hl (k := 5) rfl rfl (by decide) rfl (fun ls hl => ?_)
                    refine lv_goto (tgt := 55) hx hb d_Mo_format_168 (by decide) ?_
                    rw [nI_1] at hl
                    exact ih_55 (i2 + 1, (mi || F.getD i2 0 == 45), (pl || F.getD i2 0 == 43), (ze || F.getD i2 0 == 48)) H locs ls ⟨hP.sub [0, 1, 2, 3, 4, 5, 6, 7] rfl, hD.sub [0, 1, 2, 3, 4, 5, 6, 7] (by decide) rfl, hS, lv_sub hl [4, 5, 0, 3, 2, 1] rfl, (fk_flag hK2 f_60 rfl (Or.inr (Or.inl f_82))), (by omega)⟩ (by dsimp only; omega)
                  · skip
                    refine lv_aload_n hx hb d_Mo_format_147 rfl (lv_at hl 2 rfl) ?_
                    refine va_get (D := (dC, dI)) (ci := 8) (v := .ref rt) (C := "TextForgeModel") (T := TX8) (N := 19) hx hb hg iwX8 hown hK hP 0 rfl rfl 2 (by decide) (hg _ kw_728) (fun _ h9 => h9) rfl d_Mo_format_148 ?_
                    refine lv_iload_n hx hb d_Mo_format_151 rfl (lv_at hl 4 rfl) ?_
                    refine va_bald hx hb hK hP 1 0 rfl rfl (vp_in_nI (by omega) (by decide)) d_Mo_format_152 ?_
                    refine lv_topi (fun y_97 ey_97 => ?_)
                    have ey_97 : y_97 = (sb_b (F.getD i2 0) : Int32) := ey_97.trans (show (ft (nI i2).toNatClampNeg) = sb_b (F.getD i2 0) from (by rw [nI_clamp (show i2 < 2 ^ 31 by omega)]; exact htc.2))
                    subst ey_97
                    refine lv_bipush (v := 48) hx hb d_Mo_format_153 (by decide) ?_
                    refine lv_icmp_ne (tgt := 162) hx hb d_Mo_format_155 (by decide) (fun _ => ?_) (fun c9 => by first | exact absurd c9 (sb_e4 (k := 48) htc.1 (by decide) (by omega)) | exact absurd (sb_e4 (k := 48) htc.1 (by decide) (by omega)) c9)
                    refine lv_iconst (v := 0) hx hb d_Mo_format_162 (by decide) ?_
                    refine lv_topi (fun y_98 ey_98 => ?_)
                    have ey_98 : y_98 = (by_z (ze || F.getD i2 0 == 48) : Int32) := ey_98.trans (show 0 = by_z (ze || F.getD i2 0 == 48) from (by rw [by_z_f rfl c_144, f_82]; rfl))
                    subst ey_98
                    refine lv_istore (lv' := [(6, .int (by_z (ze || F.getD i2 0 == 48))), (5, .int (by_z (pl || F.getD i2 0 == 43))), (4, .int (by_z (mi || F.getD i2 0 == 45))), (0, .ref mo), (1, .int (nI us)), (2, .int (nI i2))]) hx hb d_Mo_format_163 hl (by decide) rfl (fun ls hl => ?_)
                    refine lv_iinc (v := (nI i2) + 1) (lv' := [(2, .int ((nI i2) + 1)), (6, .int (by_z (ze || F.getD i2 0 == 48))), (5, .int (by_z (pl || F.getD i2 0 == 43))), (4, .int (by_z (mi || F.getD i2 0 == 45))), (0, .ref mo), (1, .int (nI us))]) hx hb d_Mo_format_165 hl (k := 5) rfl rfl (by decide) rfl (fun ls hl => ?_)
                    refine lv_goto (tgt := 55) hx hb d_Mo_format_168 (by decide) ?_
                    rw [nI_1] at hl
                    exact ih_55 (i2 + 1, (mi || F.getD i2 0 == 45), (pl || F.getD i2 0 == 43), (ze || F.getD i2 0 == 48)) H locs ls ⟨hP.sub [0, 1, 2, 3, 4, 5, 6, 7] rfl, hD.sub [0, 1, 2, 3, 4, 5, 6, 7] (by decide) rfl, hS, lv_sub hl [4, 5, 0, 3, 2, 1] rfl, (fk_flag hK2 f_60 rfl (Or.inr (Or.inl f_82))), (by omega)⟩ (by dsimp only; omega)
                · skip
                  refine lv_aload_n hx hb d_Mo_format_124 rfl (lv_at hl 1 rfl) ?_
                  refine va_get (D := (dC, dI)) (ci := 8) (v := .ref rt) (C := "TextForgeModel") (T := TX8) (N := 19) hx hb hg iwX8 hown hK hP 0 rfl rfl 2 (by decide) (hg _ kw_728) (fun _ h9 => h9) rfl d_Mo_format_125 ?_
                  refine lv_iload_n hx hb d_Mo_format_128 rfl (lv_at hl 3 rfl) ?_
                  refine va_bald hx hb hK hP 1 0 rfl rfl (vp_in_nI (by omega) (by decide)) d_Mo_format_129 ?_
                  refine lv_topi (fun y_99 ey_99 => ?_)
                  have ey_99 : y_99 = (sb_b (F.getD i2 0) : Int32) := ey_99.trans (show (ft (nI i2).toNatClampNeg) = sb_b (F.getD i2 0) from (by rw [nI_clamp (show i2 < 2 ^ 31 by omega)]; exact htc.2))
                  subst ey_99
                  refine lv_bipush (v := 43) hx hb d_Mo_format_130 (by decide) ?_
                  refine lv_icmp_ne (tgt := 139) hx hb d_Mo_format_132 (by decide) (fun c9 => by first | exact absurd c9 (sb_e3 (k := 43) htc.1 (by decide) f_82) | exact absurd (sb_e3 (k := 43) htc.1 (by decide) f_82) c9) (fun _ => ?_)
                  refine lv_iconst (v := 1) hx hb d_Mo_format_135 (by decide) ?_
                  refine lv_goto (tgt := 140) hx hb d_Mo_format_136 (by decide) ?_
                  refine lv_topi (fun y_100 ey_100 => ?_)
                  have ey_100 : y_100 = (by_z (pl || F.getD i2 0 == 43) : Int32) := ey_100.trans (show 1 = by_z (pl || F.getD i2 0 == 43) from (by rw [by_z_f rfl c_121, f_82]; rfl))
                  subst ey_100
                  refine lv_istore (lv' := [(5, .int (by_z (pl || F.getD i2 0 == 43))), (4, .int (by_z (mi || F.getD i2 0 == 45))), (0, .ref mo), (1, .int (nI us)), (2, .int (nI i2)), (6, .int (by_z ze))]) hx hb d_Mo_format_140 hl (by decide) rfl (fun ls hl => ?_)
                  refine lv_iload hx hb d_Mo_format_142 (lv_at hl 5 rfl) ?_
                  refine lv_if_ne (tgt := 158) hx hb d_Mo_format_144 (by decide) (fun c_144 => ?_) (fun c_144 => ?_)
                  · skip
                    refine lv_iconst (v := 1) hx hb d_Mo_format_158 (by decide) ?_
                    refine lv_goto (tgt := 163) hx hb d_Mo_format_159 (by decide) ?_
                    refine lv_topi (fun y_101 ey_101 => ?_)
                    have ey_101 : y_101 = (by_z (ze || F.getD i2 0 == 48) : Int32) := ey_101.trans (show 1 = by_z (ze || F.getD i2 0 == 48) from (by rw [by_z_t rfl c_144]; rfl))
                    subst ey_101
                    refine lv_istore (lv' := [(6, .int (by_z (ze || F.getD i2 0 == 48))), (5, .int (by_z (pl || F.getD i2 0 == 43))), (4, .int (by_z (mi || F.getD i2 0 == 45))), (0, .ref mo), (1, .int (nI us)), (2, .int (nI i2))]) hx hb d_Mo_format_163 hl (by decide) rfl (fun ls hl => ?_)
                    refine lv_iinc (v := (nI i2) + 1) (lv' := [(2, .int ((nI i2) + 1)), (6, .int (by_z (ze || F.getD i2 0 == 48))), (5, .int (by_z (pl || F.getD i2 0 == 43))), (4, .int (by_z (mi || F.getD i2 0 == 45))), (0, .ref mo), (1, .int (nI us))]) hx hb d_Mo_format_165 hl (k := 5) rfl rfl (by decide) rfl (fun ls hl => ?_)
                    refine lv_goto (tgt := 55) hx hb d_Mo_format_168 (by decide) ?_
                    rw [nI_1] at hl
                    exact ih_55 (i2 + 1, (mi || F.getD i2 0 == 45), (pl || F.getD i2 0 == 43), (ze || F.getD i2 0 == 48)) H locs ls ⟨hP.sub [0, 1, 2, 3, 4, 5, 6, 7] rfl, hD.sub [0, 1, 2, 3, 4, 5, 6, 7] (by decide) rfl, hS, lv_sub hl [4, 5, 0, 3, 2, 1] rfl, (fk_flag hK2 f_60 rfl (Or.inr (Or.inl f_82))), (by omega)⟩ (by dsimp only; omega)
                  · skip
                    refine lv_aload_n hx hb d_Mo_format_147 rfl (lv_at hl 2 rfl) ?_
                    refine va_get (D := (dC, dI)) (ci := 8) (v := .ref rt) (C := "TextForgeModel") (T := TX8) (N := 19) hx hb hg iwX8 hown hK hP 0 rfl rfl 2 (by decide) (hg _ kw_728) (fun _ h9 => h9) rfl d_Mo_format_148 ?_
                    refine lv_iload_n hx hb d_Mo_format_151 rfl (lv_at hl 4 rfl) ?_
                    refine va_bald hx hb hK hP 1 0 rfl rfl (vp_in_nI (by omega) (by decide)) d_Mo_format_152 ?_
                    refine lv_topi (fun y_102 ey_102 => ?_)
                    have ey_102 : y_102 = (sb_b (F.getD i2 0) : Int32) := ey_102.trans (show (ft (nI i2).toNatClampNeg) = sb_b (F.getD i2 0) from (by rw [nI_clamp (show i2 < 2 ^ 31 by omega)]; exact htc.2))
                    subst ey_102
                    refine lv_bipush (v := 48) hx hb d_Mo_format_153 (by decide) ?_
                    refine lv_icmp_ne (tgt := 162) hx hb d_Mo_format_155 (by decide) (fun _ => ?_) (fun c9 => by first | exact absurd c9 (sb_e4 (k := 48) htc.1 (by decide) (by omega)) | exact absurd (sb_e4 (k := 48) htc.1 (by decide) (by omega)) c9)
                    refine lv_iconst (v := 0) hx hb d_Mo_format_162 (by decide) ?_
                    refine lv_topi (fun y_103 ey_103 => ?_)
                    have ey_103 : y_103 = (by_z (ze || F.getD i2 0 == 48) : Int32) := ey_103.trans (show 0 = by_z (ze || F.getD i2 0 == 48) from (by rw [by_z_f rfl c_144, f_82]; rfl))
                    subst ey_103
                    refine lv_istore (lv' := [(6, .int (by_z (ze || F.getD i2 0 == 48))), (5, .int (by_z (pl || F.getD i2 0 == 43))), (4, .int (by_z (mi || F.getD i2 0 == 45))), (0, .ref mo), (1, .int (nI us)), (2, .int (nI i2))]) hx hb d_Mo_format_163 hl (by decide) rfl (fun ls hl => ?_)
                    refine lv_iinc (v := (nI i2) + 1) (lv' := [(2, .int ((nI i2) + 1)), (6, .int (by_z (ze || F.getD i2 0 == 48))), (5, .int (by_z (pl || F.getD i2 0 == 43))), (4, .int (by_z (mi || F.getD i2 0 == 45))), (0, .ref mo), (1, .int (nI us))]) hx hb d_Mo_format_165 hl (k := 5) rfl rfl (by decide) rfl (fun ls hl => ?_)
                    refine lv_goto (tgt := 55) hx hb d_Mo_format_168 (by decide) ?_
                    rw [nI_1] at hl
                    exact ih_55 (i2 + 1, (mi || F.getD i2 0 == 45), (pl || F.getD i2 0 == 43), (ze || F.getD i2 0 == 48)) H locs ls ⟨hP.sub [0, 1, 2, 3, 4, 5, 6, 7] rfl, hD.sub [0, 1, 2, 3, 4, 5, 6, 7] (by decide) rfl, hS, lv_sub hl [4, 5, 0, 3, 2, 1] rfl, (fk_flag hK2 f_60 rfl (Or.inr (Or.inl f_82))), (by omega)⟩ (by dsimp only; omega)
            · skip
              have f_82 : F.getD i2 0 ≠ 43 := sb_e2 (k := 43) htc.1 (by decide) c_82
              refine lv_aload_n hx hb d_Mo_format_85 rfl (lv_at hl 0 rfl) ?_
              refine va_get (D := (dC, dI)) (ci := 8) (v := .ref rt) (C := "TextForgeModel") (T := TX8) (N := 19) hx hb hg iwX8 hown hK hP 0 rfl rfl 2 (by decide) (hg _ kw_728) (fun _ h9 => h9) rfl d_Mo_format_86 ?_
              refine lv_iload_n hx hb d_Mo_format_89 rfl (lv_at hl 2 rfl) ?_
              refine va_bald hx hb hK hP 1 0 rfl rfl (vp_in_nI (by omega) (by decide)) d_Mo_format_90 ?_
              refine lv_topi (fun y_104 ey_104 => ?_)
              have ey_104 : y_104 = (sb_b (F.getD i2 0) : Int32) := ey_104.trans (show (ft (nI i2).toNatClampNeg) = sb_b (F.getD i2 0) from (by rw [nI_clamp (show i2 < 2 ^ 31 by omega)]; exact htc.2))
              subst ey_104
              refine lv_bipush (v := 48) hx hb d_Mo_format_91 (by decide) ?_
              refine lv_icmp_ne (tgt := 171) hx hb d_Mo_format_93 (by decide) (fun c_93 => ?_) (fun c_93 => ?_)
              · skip
                have f_93 : F.getD i2 0 ≠ 48 := sb_e2 (k := 48) htc.1 (by decide) c_93
                refine lv_iconst (v := 0) hx hb d_Mo_format_171 (by decide) ?_
                refine lv_istore (lv' := [(7, .int 0), (0, .ref mo), (1, .int (nI us)), (2, .int (nI i2)), (4, .int (by_z mi)), (5, .int (by_z pl)), (6, .int (by_z ze))]) hx hb d_Mo_format_172 hl (by decide) rfl (fun ls hl => ?_)
                refine lv_iconst (v := 0) hx hb d_Mo_format_174 (by decide) ?_
                refine lv_istore (lv' := [(8, .int 0), (7, .int 0), (0, .ref mo), (1, .int (nI us)), (2, .int (nI i2)), (4, .int (by_z mi)), (5, .int (by_z pl)), (6, .int (by_z ze))]) hx hb d_Mo_format_175 hl (by decide) rfl (fun ls hl => ?_)
                refine zz_loop (fun (x : Nat × Nat × Nat) H locs ls => match x with | (n, i3, wd) => va_P (dC, dI) vwCl [(mo, .inr (8, [.int 0, .int (nI F.length), .ref rt, .int (nI AL.length), .ref rk, .ref rv, .ref rw, .ref ro, .int (nI (List.take 4096 G).length), .ref rr, .int pt2, .ref ra, .long pz, .int kc, .ref rc, .ref rl, .ref rb, .int la2, .int ca2])), (rt, .inl (cB, 4096, .inl ft)), (ra, .inl (cB, 16400, .inl g)), (rk, .inl (cI, 16, .inl fk)), (rv, .inl (cL, 16, .inr (.inl fv))), (rw, .inl (cI, 16, .inl fw)), (ro, .inl (cB, 65536, .inl fo)), (rr, .inl (cB, 4096, .inl g2))] H ∧ va_D A [(mo, .inr (8, [.int 0, .int (nI F.length), .ref rt, .int (nI AL.length), .ref rk, .ref rv, .ref rw, .ref ro, .int (nI (List.take 4096 G).length), .ref rr, .int pt2, .ref ra, .long pz, .int kc, .ref rc, .ref rl, .ref rb, .int la2, .int ca2])), (rt, .inl (cB, 4096, .inl ft)), (ra, .inl (cB, 16400, .inl g)), (rk, .inl (cI, 16, .inl fk)), (rv, .inl (cL, 16, .inr (.inl fv))), (rw, .inl (cI, 16, .inl fw)), (ro, .inl (cB, 65536, .inl fo)), (rr, .inl (cB, 4096, .inl g2))] ∧ va_S A s.heap H locs ∧ lv_has ls 9 [(0, .ref mo), (1, .int (nI us)), (2, .int (nI i3)), (4, .int (by_z mi)), (5, .int (by_z pl)), (6, .int (by_z ze)), (7, .int (nI wd)), (8, .int (nI n))] ∧ fo_K AL F i3 G us (n + 1) mi pl ze wd ∧ n ≤ 2 ∧ fo_w (n + 1) wd ∧ (n = 0 → i3 < F.length → ¬ (F.getD i3 0 = 45 ∨ F.getD i3 0 = 43 ∨ F.getD i3 0 = 48)) ∧ i < i3) (fun x => match x with | (n, i3, wd) => 2 - n) ?_ (0, i2, 0) ⟨hP.sub [0, 1, 2, 3, 4, 5, 6, 7] rfl, hD.sub [0, 1, 2, 3, 4, 5, 6, 7] (by decide) rfl, hS, lv_sub hl [2, 3, 4, 5, 6, 7, 1, 0] rfl, hK2, (by decide), (Or.inr (Or.inl ⟨rfl, rfl⟩)), (fun _ _ z => z.elim f_71 (fun z => z.elim f_82 f_93)), hi2⟩
                intro x H locs ls hI ih_177
                obtain ⟨n, i3, wd⟩ := x
                try dsimp only at hI
                obtain ⟨hP, hD, hS, hl, hKf, hn2, hwn, hfl, hi9⟩ := hI
                have hk3 := hKf.1
                refine lv_iload hx hb d_Mo_format_177 (lv_at hl 7 rfl) ?_
                refine lv_iconst (v := 2) hx hb d_Mo_format_179 (by decide) ?_
                refine lv_icmp_ge (tgt := 239) hx hb d_Mo_format_180 (by decide) (fun c_180 => ?_) (fun c_180 => ?_)
                · skip
                  have f_180 : 2 ≤ n := Nat.le_of_not_lt (fun z => nI_ge (b := 2) z (by omega) c_180)
                  exact hJ_239 (n + 1, i3, mi, pl, ze, wd) H locs ls ⟨hP.sub [0, 1, 2, 3, 4, 5, 6, 7] rfl, hD.sub [0, 1, 2, 3, 4, 5, 6, 7] (by decide) rfl, hS, lv_sub hl [0, 1, 2, 3, 4, 5, 6] rfl, hKf, (by omega), (by rcases hwn with z | z | z | z <;> omega), (fun _ => ⟨fun z => by have := z.1; omega, fun z => by have := z.1; omega⟩), hi9⟩
                · skip
                  have f_180 : n < 2 := Nat.lt_of_not_le (fun z => c_180 (nI_le (a := 2) z (by omega)))
                  refine lv_iload_n hx hb d_Mo_format_183 rfl (lv_at hl 2 rfl) ?_
                  refine lv_aload_n hx hb d_Mo_format_184 rfl (lv_at hl 0 rfl) ?_
                  refine va_get (D := (dC, dI)) (ci := 8) (v := .int (nI F.length)) (C := "TextForgeModel") (T := TX8) (N := 19) hx hb hg iwX8 hown hK hP 0 rfl rfl 1 (by decide) (hg _ kw_727) (fun _ h9 => h9) rfl d_Mo_format_185 ?_
                  refine lv_icmp_ge (tgt := 239) hx hb d_Mo_format_188 (by decide) (fun c_188 => ?_) (fun c_188 => ?_)
                  · skip
                    have f_188 : F.length ≤ i3 := Nat.le_of_not_lt (fun z => nI_ge (b := F.length) z (by omega) c_188)
                    exact hJ_239 (n + 1, i3, mi, pl, ze, wd) H locs ls ⟨hP.sub [0, 1, 2, 3, 4, 5, 6, 7] rfl, hD.sub [0, 1, 2, 3, 4, 5, 6, 7] (by decide) rfl, hS, lv_sub hl [0, 1, 2, 3, 4, 5, 6] rfl, hKf, (by omega), (by rcases hwn with z | z | z | z <;> omega), (fun z => absurd z (by omega)), hi9⟩
                  · skip
                    have f_188 : i3 < F.length := Nat.lt_of_not_le (fun z => c_188 (nI_le (a := F.length) z (by omega)))
                    have htd := hLt i3 f_188
                    refine lv_aload_n hx hb d_Mo_format_191 rfl (lv_at hl 0 rfl) ?_
                    refine va_get (D := (dC, dI)) (ci := 8) (v := .ref rt) (C := "TextForgeModel") (T := TX8) (N := 19) hx hb hg iwX8 hown hK hP 0 rfl rfl 2 (by decide) (hg _ kw_728) (fun _ h9 => h9) rfl d_Mo_format_192 ?_
                    refine lv_iload_n hx hb d_Mo_format_195 rfl (lv_at hl 2 rfl) ?_
                    refine va_bald hx hb hK hP 1 0 rfl rfl (vp_in_nI (by omega) (by decide)) d_Mo_format_196 ?_
                    refine lv_topi (fun y_105 ey_105 => ?_)
                    have ey_105 : y_105 = (sb_b (F.getD i3 0) : Int32) := ey_105.trans (show (ft (nI i3).toNatClampNeg) = sb_b (F.getD i3 0) from (by rw [nI_clamp (show i3 < 2 ^ 31 by omega)]; exact htd.2))
                    subst ey_105
                    refine lv_bipush (v := 48) hx hb d_Mo_format_197 (by decide) ?_
                    refine lv_icmp_lt (tgt := 239) hx hb d_Mo_format_199 (by decide) (fun c_199 => ?_) (fun c_199 => ?_)
                    · skip
                      have f_199 := (sb_48 _ htd.1).mp c_199
                      exact hJ_239 (n + 1, i3, mi, pl, ze, wd) H locs ls ⟨hP.sub [0, 1, 2, 3, 4, 5, 6, 7] rfl, hD.sub [0, 1, 2, 3, 4, 5, 6, 7] (by decide) rfl, hS, lv_sub hl [0, 1, 2, 3, 4, 5, 6] rfl, hKf, (by omega), (by rcases hwn with z | z | z | z <;> omega), (fun _ => ⟨(fun z => hfl (by have := z.1; omega) f_188 z.2), fun z => by have := z.2; omega⟩), hi9⟩
                    · skip
                      have f_199 := fun z => c_199 ((sb_48 _ htd.1).mpr z)
                      refine lv_aload_n hx hb d_Mo_format_202 rfl (lv_at hl 0 rfl) ?_
                      refine va_get (D := (dC, dI)) (ci := 8) (v := .ref rt) (C := "TextForgeModel") (T := TX8) (N := 19) hx hb hg iwX8 hown hK hP 0 rfl rfl 2 (by decide) (hg _ kw_728) (fun _ h9 => h9) rfl d_Mo_format_203 ?_
                      refine lv_iload_n hx hb d_Mo_format_206 rfl (lv_at hl 2 rfl) ?_
                      refine va_bald hx hb hK hP 1 0 rfl rfl (vp_in_nI (by omega) (by decide)) d_Mo_format_207 ?_
                      refine lv_topi (fun y_106 ey_106 => ?_)
                      have ey_106 : y_106 = (sb_b (F.getD i3 0) : Int32) := ey_106.trans (show (ft (nI i3).toNatClampNeg) = sb_b (F.getD i3 0) from (by rw [nI_clamp (show i3 < 2 ^ 31 by omega)]; exact htd.2))
                      subst ey_106
                      refine lv_bipush (v := 57) hx hb d_Mo_format_208 (by decide) ?_
                      refine lv_icmp_gt (tgt := 239) hx hb d_Mo_format_210 (by decide) (fun c_210 => ?_) (fun c_210 => ?_)
                      · skip
                        have f_210 := (sb_57 _ htd.1).mp c_210
                        exact hJ_239 (n + 1, i3, mi, pl, ze, wd) H locs ls ⟨hP.sub [0, 1, 2, 3, 4, 5, 6, 7] rfl, hD.sub [0, 1, 2, 3, 4, 5, 6, 7] (by decide) rfl, hS, lv_sub hl [0, 1, 2, 3, 4, 5, 6] rfl, hKf, (by omega), (by rcases hwn with z | z | z | z <;> omega), (fun _ => ⟨(fun z => hfl (by have := z.1; omega) f_188 z.2), fun z => by have := z.2; omega⟩), hi9⟩
                      · skip
                        have f_210 := fun z => c_210 ((sb_57 _ htd.1).mpr z)
                        have hdg : 48 ≤ F.getD i3 0 ∧ F.getD i3 0 ≤ 57 := by have h1 : ¬ (F.getD i3 0 < 48 ∨ 128 ≤ F.getD i3 0) := f_199; have h2 : ¬ (57 < F.getD i3 0 ∧ F.getD i3 0 < 128) := f_210; omega
                        refine lv_bipush (v := 10) hx hb d_Mo_format_213 (by decide) ?_
                        refine lv_iload hx hb d_Mo_format_215 (lv_at hl 6 rfl) ?_
                        refine lv_imul hx hb d_Mo_format_217 ?_
                        refine lv_aload_n hx hb d_Mo_format_218 rfl (lv_at hl 0 rfl) ?_
                        refine va_get (D := (dC, dI)) (ci := 8) (v := .ref rt) (C := "TextForgeModel") (T := TX8) (N := 19) hx hb hg iwX8 hown hK hP 0 rfl rfl 2 (by decide) (hg _ kw_728) (fun _ h9 => h9) rfl d_Mo_format_219 ?_
                        refine lv_iload_n hx hb d_Mo_format_222 rfl (lv_at hl 2 rfl) ?_
                        refine va_bald hx hb hK hP 1 0 rfl rfl (vp_in_nI (by omega) (by decide)) d_Mo_format_223 ?_
                        refine lv_topi (fun y_107 ey_107 => ?_)
                        have ey_107 : y_107 = (sb_b (F.getD i3 0) : Int32) := ey_107.trans (show (ft (nI i3).toNatClampNeg) = sb_b (F.getD i3 0) from (by rw [nI_clamp (show i3 < 2 ^ 31 by omega)]; exact htd.2))
                        subst ey_107
                        refine lv_iadd hx hb d_Mo_format_224 ?_
                        refine lv_bipush (v := 48) hx hb d_Mo_format_225 (by decide) ?_
                        refine lv_isub hx hb d_Mo_format_227 ?_
                        refine lv_topi (fun y_108 ey_108 => ?_)
                        have ey_108 : y_108 = (nI (wd * 10 + F.getD i3 0 - 48) : Int32) := ey_108.trans (show (((10 * (nI wd)) + (sb_b (F.getD i3 0))) - 48) = nI (wd * 10 + F.getD i3 0 - 48) from (wd_v hdg))
                        subst ey_108
                        refine lv_istore (lv' := [(7, .int (nI (wd * 10 + F.getD i3 0 - 48))), (0, .ref mo), (1, .int (nI us)), (2, .int (nI i3)), (4, .int (by_z mi)), (5, .int (by_z pl)), (6, .int (by_z ze)), (8, .int (nI n))]) hx hb d_Mo_format_228 hl (by decide) rfl (fun ls hl => ?_)
                        refine lv_iinc (v := (nI i3) + 1) (lv' := [(2, .int ((nI i3) + 1)), (7, .int (nI (wd * 10 + F.getD i3 0 - 48))), (0, .ref mo), (1, .int (nI us)), (4, .int (by_z mi)), (5, .int (by_z pl)), (6, .int (by_z ze)), (8, .int (nI n))]) hx hb d_Mo_format_230 hl (k := 3) rfl rfl (by decide) rfl (fun ls hl => ?_)
                        refine lv_iinc (v := (nI n) + 1) (lv' := [(8, .int ((nI n) + 1)), (2, .int ((nI i3) + 1)), (7, .int (nI (wd * 10 + F.getD i3 0 - 48))), (0, .ref mo), (1, .int (nI us)), (4, .int (by_z mi)), (5, .int (by_z pl)), (6, .int (by_z ze))]) hx hb d_Mo_format_233 hl (k := 7) rfl rfl (by decide) rfl (fun ls hl => ?_)
                        refine lv_goto (tgt := 177) hx hb d_Mo_format_236 (by decide) ?_
                        rw [nI_1, nI_1] at hl
                        exact ih_177 (n + 1, i3 + 1, wd * 10 + F.getD i3 0 - 48) H locs ls ⟨hP.sub [0, 1, 2, 3, 4, 5, 6, 7] rfl, hD.sub [0, 1, 2, 3, 4, 5, 6, 7] (by decide) rfl, hS, lv_sub hl [3, 4, 1, 5, 6, 7, 2, 0] rfl, (fk_digit hKf f_188 rfl f_180 (fun z => hfl z f_188) hdg), (by omega), (fw_s hwn f_180 hdg), (fun z => absurd z (Nat.succ_ne_zero n)), (by omega)⟩ (by dsimp only; omega)
              · skip
                have f_93 : F.getD i2 0 = 48 := sb_e1 (k := 48) htc.1 (by decide) c_93
                refine lv_iload hx hb d_Mo_format_96 (lv_at hl 3 rfl) ?_
                refine lv_if_ne (tgt := 112) hx hb d_Mo_format_98 (by decide) (fun c_98 => ?_) (fun c_98 => ?_)
                · skip
                  refine lv_iconst (v := 1) hx hb d_Mo_format_112 (by decide) ?_
                  refine lv_goto (tgt := 117) hx hb d_Mo_format_113 (by decide) ?_
                  refine lv_topi (fun y_109 ey_109 => ?_)
                  have ey_109 : y_109 = (by_z (mi || F.getD i2 0 == 45) : Int32) := ey_109.trans (show 1 = by_z (mi || F.getD i2 0 == 45) from (by rw [by_z_t rfl c_98]; rfl))
                  subst ey_109
                  refine lv_istore (lv' := [(4, .int (by_z (mi || F.getD i2 0 == 45))), (0, .ref mo), (1, .int (nI us)), (2, .int (nI i2)), (5, .int (by_z pl)), (6, .int (by_z ze))]) hx hb d_Mo_format_117 hl (by decide) rfl (fun ls hl => ?_)
                  refine lv_iload hx hb d_Mo_format_119 (lv_at hl 4 rfl) ?_
                  refine lv_if_ne (tgt := 135) hx hb d_Mo_format_121 (by decide) (fun c_121 => ?_) (fun c_121 => ?_)
                  · skip
                    refine lv_iconst (v := 1) hx hb d_Mo_format_135 (by decide) ?_
                    refine lv_goto (tgt := 140) hx hb d_Mo_format_136 (by decide) ?_
                    refine lv_topi (fun y_110 ey_110 => ?_)
                    have ey_110 : y_110 = (by_z (pl || F.getD i2 0 == 43) : Int32) := ey_110.trans (show 1 = by_z (pl || F.getD i2 0 == 43) from (by rw [by_z_t rfl c_121]; rfl))
                    subst ey_110
                    refine lv_istore (lv' := [(5, .int (by_z (pl || F.getD i2 0 == 43))), (4, .int (by_z (mi || F.getD i2 0 == 45))), (0, .ref mo), (1, .int (nI us)), (2, .int (nI i2)), (6, .int (by_z ze))]) hx hb d_Mo_format_140 hl (by decide) rfl (fun ls hl => ?_)
                    refine lv_iload hx hb d_Mo_format_142 (lv_at hl 5 rfl) ?_
                    refine lv_if_ne (tgt := 158) hx hb d_Mo_format_144 (by decide) (fun c_144 => ?_) (fun c_144 => ?_)
                    · skip
                      refine lv_iconst (v := 1) hx hb d_Mo_format_158 (by decide) ?_
                      refine lv_goto (tgt := 163) hx hb d_Mo_format_159 (by decide) ?_
                      refine lv_topi (fun y_111 ey_111 => ?_)
                      have ey_111 : y_111 = (by_z (ze || F.getD i2 0 == 48) : Int32) := ey_111.trans (show 1 = by_z (ze || F.getD i2 0 == 48) from (by rw [by_z_t rfl c_144]; rfl))
                      subst ey_111
                      refine lv_istore (lv' := [(6, .int (by_z (ze || F.getD i2 0 == 48))), (5, .int (by_z (pl || F.getD i2 0 == 43))), (4, .int (by_z (mi || F.getD i2 0 == 45))), (0, .ref mo), (1, .int (nI us)), (2, .int (nI i2))]) hx hb d_Mo_format_163 hl (by decide) rfl (fun ls hl => ?_)
                      refine lv_iinc (v := (nI i2) + 1) (lv' := [(2, .int ((nI i2) + 1)), (6, .int (by_z (ze || F.getD i2 0 == 48))), (5, .int (by_z (pl || F.getD i2 0 == 43))), (4, .int (by_z (mi || F.getD i2 0 == 45))), (0, .ref mo), (1, .int (nI us))]) hx hb d_Mo_format_165 hl (k := 5) rfl rfl (by decide) rfl (fun ls hl => ?_)
                      refine lv_goto (tgt := 55) hx hb d_Mo_format_168 (by decide) ?_
                      rw [nI_1] at hl
                      exact ih_55 (i2 + 1, (mi || F.getD i2 0 == 45), (pl || F.getD i2 0 == 43), (ze || F.getD i2 0 == 48)) H locs ls ⟨hP.sub [0, 1, 2, 3, 4, 5, 6, 7] rfl, hD.sub [0, 1, 2, 3, 4, 5, 6, 7] (by decide) rfl, hS, lv_sub hl [4, 5, 0, 3, 2, 1] rfl, (fk_flag hK2 f_60 rfl (Or.inr (Or.inr f_93))), (by omega)⟩ (by dsimp only; omega)
                    · skip
                      refine lv_aload_n hx hb d_Mo_format_147 rfl (lv_at hl 2 rfl) ?_
                      refine va_get (D := (dC, dI)) (ci := 8) (v := .ref rt) (C := "TextForgeModel") (T := TX8) (N := 19) hx hb hg iwX8 hown hK hP 0 rfl rfl 2 (by decide) (hg _ kw_728) (fun _ h9 => h9) rfl d_Mo_format_148 ?_
                      refine lv_iload_n hx hb d_Mo_format_151 rfl (lv_at hl 4 rfl) ?_
                      refine va_bald hx hb hK hP 1 0 rfl rfl (vp_in_nI (by omega) (by decide)) d_Mo_format_152 ?_
                      refine lv_topi (fun y_112 ey_112 => ?_)
                      have ey_112 : y_112 = (sb_b (F.getD i2 0) : Int32) := ey_112.trans (show (ft (nI i2).toNatClampNeg) = sb_b (F.getD i2 0) from (by rw [nI_clamp (show i2 < 2 ^ 31 by omega)]; exact htc.2))
                      subst ey_112
                      refine lv_bipush (v := 48) hx hb d_Mo_format_153 (by decide) ?_
                      refine lv_icmp_ne (tgt := 162) hx hb d_Mo_format_155 (by decide) (fun c9 => by first | exact absurd c9 (sb_e3 (k := 48) htc.1 (by decide) f_93) | exact absurd (sb_e3 (k := 48) htc.1 (by decide) f_93) c9) (fun _ => ?_)
                      refine lv_iconst (v := 1) hx hb d_Mo_format_158 (by decide) ?_
                      refine lv_goto (tgt := 163) hx hb d_Mo_format_159 (by decide) ?_
                      refine lv_topi (fun y_113 ey_113 => ?_)
                      have ey_113 : y_113 = (by_z (ze || F.getD i2 0 == 48) : Int32) := ey_113.trans (show 1 = by_z (ze || F.getD i2 0 == 48) from (by rw [by_z_f rfl c_144, f_93]; rfl))
                      subst ey_113
                      refine lv_istore (lv' := [(6, .int (by_z (ze || F.getD i2 0 == 48))), (5, .int (by_z (pl || F.getD i2 0 == 43))), (4, .int (by_z (mi || F.getD i2 0 == 45))), (0, .ref mo), (1, .int (nI us)), (2, .int (nI i2))]) hx hb d_Mo_format_163 hl (by decide) rfl (fun ls hl => ?_)
                      refine lv_iinc (v := (nI i2) + 1) (lv' := [(2, .int ((nI i2) + 1)), (6, .int (by_z (ze || F.getD i2 0 == 48))), (5, .int (by_z (pl || F.getD i2 0 == 43))), (4, .int (by_z (mi || F.getD i2 0 == 45))), (0, .ref mo), (1, .int (nI us))]) hx hb d_Mo_format_165 hl (k := 5) rfl rfl (by decide) rfl (fun ls hl => ?_)
                      refine lv_goto (tgt := 55) hx hb d_Mo_format_168 (by decide) ?_
                      rw [nI_1] at hl
                      exact ih_55 (i2 + 1, (mi || F.getD i2 0 == 45), (pl || F.getD i2 0 == 43), (ze || F.getD i2 0 == 48)) H locs ls ⟨hP.sub [0, 1, 2, 3, 4, 5, 6, 7] rfl, hD.sub [0, 1, 2, 3, 4, 5, 6, 7] (by decide) rfl, hS, lv_sub hl [4, 5, 0, 3, 2, 1] rfl, (fk_flag hK2 f_60 rfl (Or.inr (Or.inr f_93))), (by omega)⟩ (by dsimp only; omega)
                  · skip
                    refine lv_aload_n hx hb d_Mo_format_124 rfl (lv_at hl 1 rfl) ?_
                    refine va_get (D := (dC, dI)) (ci := 8) (v := .ref rt) (C := "TextForgeModel") (T := TX8) (N := 19) hx hb hg iwX8 hown hK hP 0 rfl rfl 2 (by decide) (hg _ kw_728) (fun _ h9 => h9) rfl d_Mo_format_125 ?_
                    refine lv_iload_n hx hb d_Mo_format_128 rfl (lv_at hl 3 rfl) ?_
                    refine va_bald hx hb hK hP 1 0 rfl rfl (vp_in_nI (by omega) (by decide)) d_Mo_format_129 ?_
                    refine lv_topi (fun y_114 ey_114 => ?_)
                    have ey_114 : y_114 = (sb_b (F.getD i2 0) : Int32) := ey_114.trans (show (ft (nI i2).toNatClampNeg) = sb_b (F.getD i2 0) from (by rw [nI_clamp (show i2 < 2 ^ 31 by omega)]; exact htc.2))
                    subst ey_114
                    refine lv_bipush (v := 43) hx hb d_Mo_format_130 (by decide) ?_
                    refine lv_icmp_ne (tgt := 139) hx hb d_Mo_format_132 (by decide) (fun _ => ?_) (fun c9 => by first | exact absurd c9 (sb_e4 (k := 43) htc.1 (by decide) (by omega)) | exact absurd (sb_e4 (k := 43) htc.1 (by decide) (by omega)) c9)
                    refine lv_iconst (v := 0) hx hb d_Mo_format_139 (by decide) ?_
                    refine lv_topi (fun y_115 ey_115 => ?_)
                    have ey_115 : y_115 = (by_z (pl || F.getD i2 0 == 43) : Int32) := ey_115.trans (show 0 = by_z (pl || F.getD i2 0 == 43) from (by rw [by_z_f rfl c_121, f_93]; rfl))
                    subst ey_115
                    refine lv_istore (lv' := [(5, .int (by_z (pl || F.getD i2 0 == 43))), (4, .int (by_z (mi || F.getD i2 0 == 45))), (0, .ref mo), (1, .int (nI us)), (2, .int (nI i2)), (6, .int (by_z ze))]) hx hb d_Mo_format_140 hl (by decide) rfl (fun ls hl => ?_)
                    refine lv_iload hx hb d_Mo_format_142 (lv_at hl 5 rfl) ?_
                    refine lv_if_ne (tgt := 158) hx hb d_Mo_format_144 (by decide) (fun c_144 => ?_) (fun c_144 => ?_)
                    · skip
                      refine lv_iconst (v := 1) hx hb d_Mo_format_158 (by decide) ?_
                      refine lv_goto (tgt := 163) hx hb d_Mo_format_159 (by decide) ?_
                      refine lv_topi (fun y_116 ey_116 => ?_)
                      have ey_116 : y_116 = (by_z (ze || F.getD i2 0 == 48) : Int32) := ey_116.trans (show 1 = by_z (ze || F.getD i2 0 == 48) from (by rw [by_z_t rfl c_144]; rfl))
                      subst ey_116
                      refine lv_istore (lv' := [(6, .int (by_z (ze || F.getD i2 0 == 48))), (5, .int (by_z (pl || F.getD i2 0 == 43))), (4, .int (by_z (mi || F.getD i2 0 == 45))), (0, .ref mo), (1, .int (nI us)), (2, .int (nI i2))]) hx hb d_Mo_format_163 hl (by decide) rfl (fun ls hl => ?_)
                      refine lv_iinc (v := (nI i2) + 1) (lv' := [(2, .int ((nI i2) + 1)), (6, .int (by_z (ze || F.getD i2 0 == 48))), (5, .int (by_z (pl || F.getD i2 0 == 43))), (4, .int (by_z (mi || F.getD i2 0 == 45))), (0, .ref mo), (1, .int (nI us))]) hx hb d_Mo_format_165 hl (k := 5) rfl rfl (by decide) rfl (fun ls hl => ?_)
                      refine lv_goto (tgt := 55) hx hb d_Mo_format_168 (by decide) ?_
                      rw [nI_1] at hl
                      exact ih_55 (i2 + 1, (mi || F.getD i2 0 == 45), (pl || F.getD i2 0 == 43), (ze || F.getD i2 0 == 48)) H locs ls ⟨hP.sub [0, 1, 2, 3, 4, 5, 6, 7] rfl, hD.sub [0, 1, 2, 3, 4, 5, 6, 7] (by decide) rfl, hS, lv_sub hl [4, 5, 0, 3, 2, 1] rfl, (fk_flag hK2 f_60 rfl (Or.inr (Or.inr f_93))), (by omega)⟩ (by dsimp only; omega)
                    · skip
                      refine lv_aload_n hx hb d_Mo_format_147 rfl (lv_at hl 2 rfl) ?_
                      refine va_get (D := (dC, dI)) (ci := 8) (v := .ref rt) (C := "TextForgeModel") (T := TX8) (N := 19) hx hb hg iwX8 hown hK hP 0 rfl rfl 2 (by decide) (hg _ kw_728) (fun _ h9 => h9) rfl d_Mo_format_148 ?_
                      refine lv_iload_n hx hb d_Mo_format_151 rfl (lv_at hl 4 rfl) ?_
                      refine va_bald hx hb hK hP 1 0 rfl rfl (vp_in_nI (by omega) (by decide)) d_Mo_format_152 ?_
                      refine lv_topi (fun y_117 ey_117 => ?_)
                      have ey_117 : y_117 = (sb_b (F.getD i2 0) : Int32) := ey_117.trans (show (ft (nI i2).toNatClampNeg) = sb_b (F.getD i2 0) from (by rw [nI_clamp (show i2 < 2 ^ 31 by omega)]; exact htc.2))
                      subst ey_117
                      refine lv_bipush (v := 48) hx hb d_Mo_format_153 (by decide) ?_
                      refine lv_icmp_ne (tgt := 162) hx hb d_Mo_format_155 (by decide) (fun c9 => by first | exact absurd c9 (sb_e3 (k := 48) htc.1 (by decide) f_93) | exact absurd (sb_e3 (k := 48) htc.1 (by decide) f_93) c9) (fun _ => ?_)
                      refine lv_iconst (v := 1) hx hb d_Mo_format_158 (by decide) ?_
                      refine lv_goto (tgt := 163) hx hb d_Mo_format_159 (by decide) ?_
                      refine lv_topi (fun y_118 ey_118 => ?_)
                      have ey_118 : y_118 = (by_z (ze || F.getD i2 0 == 48) : Int32) := ey_118.trans (show 1 = by_z (ze || F.getD i2 0 == 48) from (by rw [by_z_f rfl c_144, f_93]; rfl))
                      subst ey_118
                      refine lv_istore (lv' := [(6, .int (by_z (ze || F.getD i2 0 == 48))), (5, .int (by_z (pl || F.getD i2 0 == 43))), (4, .int (by_z (mi || F.getD i2 0 == 45))), (0, .ref mo), (1, .int (nI us)), (2, .int (nI i2))]) hx hb d_Mo_format_163 hl (by decide) rfl (fun ls hl => ?_)
                      refine lv_iinc (v := (nI i2) + 1) (lv' := [(2, .int ((nI i2) + 1)), (6, .int (by_z (ze || F.getD i2 0 == 48))), (5, .int (by_z (pl || F.getD i2 0 == 43))), (4, .int (by_z (mi || F.getD i2 0 == 45))), (0, .ref mo), (1, .int (nI us))]) hx hb d_Mo_format_165 hl (k := 5) rfl rfl (by decide) rfl (fun ls hl => ?_)
                      refine lv_goto (tgt := 55) hx hb d_Mo_format_168 (by decide) ?_
                      rw [nI_1] at hl
                      exact ih_55 (i2 + 1, (mi || F.getD i2 0 == 45), (pl || F.getD i2 0 == 43), (ze || F.getD i2 0 == 48)) H locs ls ⟨hP.sub [0, 1, 2, 3, 4, 5, 6, 7] rfl, hD.sub [0, 1, 2, 3, 4, 5, 6, 7] (by decide) rfl, hS, lv_sub hl [4, 5, 0, 3, 2, 1] rfl, (fk_flag hK2 f_60 rfl (Or.inr (Or.inr f_93))), (by omega)⟩ (by dsimp only; omega)
                · skip
                  refine lv_aload_n hx hb d_Mo_format_101 rfl (lv_at hl 0 rfl) ?_
                  refine va_get (D := (dC, dI)) (ci := 8) (v := .ref rt) (C := "TextForgeModel") (T := TX8) (N := 19) hx hb hg iwX8 hown hK hP 0 rfl rfl 2 (by decide) (hg _ kw_728) (fun _ h9 => h9) rfl d_Mo_format_102 ?_
                  refine lv_iload_n hx hb d_Mo_format_105 rfl (lv_at hl 2 rfl) ?_
                  refine va_bald hx hb hK hP 1 0 rfl rfl (vp_in_nI (by omega) (by decide)) d_Mo_format_106 ?_
                  refine lv_topi (fun y_119 ey_119 => ?_)
                  have ey_119 : y_119 = (sb_b (F.getD i2 0) : Int32) := ey_119.trans (show (ft (nI i2).toNatClampNeg) = sb_b (F.getD i2 0) from (by rw [nI_clamp (show i2 < 2 ^ 31 by omega)]; exact htc.2))
                  subst ey_119
                  refine lv_bipush (v := 45) hx hb d_Mo_format_107 (by decide) ?_
                  refine lv_icmp_ne (tgt := 116) hx hb d_Mo_format_109 (by decide) (fun _ => ?_) (fun c9 => by first | exact absurd c9 (sb_e4 (k := 45) htc.1 (by decide) (by omega)) | exact absurd (sb_e4 (k := 45) htc.1 (by decide) (by omega)) c9)
                  refine lv_iconst (v := 0) hx hb d_Mo_format_116 (by decide) ?_
                  refine lv_topi (fun y_120 ey_120 => ?_)
                  have ey_120 : y_120 = (by_z (mi || F.getD i2 0 == 45) : Int32) := ey_120.trans (show 0 = by_z (mi || F.getD i2 0 == 45) from (by rw [by_z_f rfl c_98, f_93]; rfl))
                  subst ey_120
                  refine lv_istore (lv' := [(4, .int (by_z (mi || F.getD i2 0 == 45))), (0, .ref mo), (1, .int (nI us)), (2, .int (nI i2)), (5, .int (by_z pl)), (6, .int (by_z ze))]) hx hb d_Mo_format_117 hl (by decide) rfl (fun ls hl => ?_)
                  refine lv_iload hx hb d_Mo_format_119 (lv_at hl 4 rfl) ?_
                  refine lv_if_ne (tgt := 135) hx hb d_Mo_format_121 (by decide) (fun c_121 => ?_) (fun c_121 => ?_)
                  · skip
                    refine lv_iconst (v := 1) hx hb d_Mo_format_135 (by decide) ?_
                    refine lv_goto (tgt := 140) hx hb d_Mo_format_136 (by decide) ?_
                    refine lv_topi (fun y_121 ey_121 => ?_)
                    have ey_121 : y_121 = (by_z (pl || F.getD i2 0 == 43) : Int32) := ey_121.trans (show 1 = by_z (pl || F.getD i2 0 == 43) from (by rw [by_z_t rfl c_121]; rfl))
                    subst ey_121
                    refine lv_istore (lv' := [(5, .int (by_z (pl || F.getD i2 0 == 43))), (4, .int (by_z (mi || F.getD i2 0 == 45))), (0, .ref mo), (1, .int (nI us)), (2, .int (nI i2)), (6, .int (by_z ze))]) hx hb d_Mo_format_140 hl (by decide) rfl (fun ls hl => ?_)
                    refine lv_iload hx hb d_Mo_format_142 (lv_at hl 5 rfl) ?_
                    refine lv_if_ne (tgt := 158) hx hb d_Mo_format_144 (by decide) (fun c_144 => ?_) (fun c_144 => ?_)
                    · skip
                      refine lv_iconst (v := 1) hx hb d_Mo_format_158 (by decide) ?_
                      refine lv_goto (tgt := 163) hx hb d_Mo_format_159 (by decide) ?_
                      refine lv_topi (fun y_122 ey_122 => ?_)
                      have ey_122 : y_122 = (by_z (ze || F.getD i2 0 == 48) : Int32) := ey_122.trans (show 1 = by_z (ze || F.getD i2 0 == 48) from (by rw [by_z_t rfl c_144]; rfl))
                      subst ey_122
                      refine lv_istore (lv' := [(6, .int (by_z (ze || F.getD i2 0 == 48))), (5, .int (by_z (pl || F.getD i2 0 == 43))), (4, .int (by_z (mi || F.getD i2 0 == 45))), (0, .ref mo), (1, .int (nI us)), (2, .int (nI i2))]) hx hb d_Mo_format_163 hl (by decide) rfl (fun ls hl => ?_)
                      refine lv_iinc (v := (nI i2) + 1) (lv' := [(2, .int ((nI i2) + 1)), (6, .int (by_z (ze || F.getD i2 0 == 48))), (5, .int (by_z (pl || F.getD i2 0 == 43))), (4, .int (by_z (mi || F.getD i2 0 == 45))), (0, .ref mo), (1, .int (nI us))]) hx hb d_Mo_format_165 hl (k := 5) rfl rfl (by decide) rfl (fun ls hl => ?_)
                      refine lv_goto (tgt := 55) hx hb d_Mo_format_168 (by decide) ?_
                      rw [nI_1] at hl
                      exact ih_55 (i2 + 1, (mi || F.getD i2 0 == 45), (pl || F.getD i2 0 == 43), (ze || F.getD i2 0 == 48)) H locs ls ⟨hP.sub [0, 1, 2, 3, 4, 5, 6, 7] rfl, hD.sub [0, 1, 2, 3, 4, 5, 6, 7] (by decide) rfl, hS, lv_sub hl [4, 5, 0, 3, 2, 1] rfl, (fk_flag hK2 f_60 rfl (Or.inr (Or.inr f_93))), (by omega)⟩ (by dsimp only; omega)
                    · skip
                      refine lv_aload_n hx hb d_Mo_format_147 rfl (lv_at hl 2 rfl) ?_
                      refine va_get (D := (dC, dI)) (ci := 8) (v := .ref rt) (C := "TextForgeModel") (T := TX8) (N := 19) hx hb hg iwX8 hown hK hP 0 rfl rfl 2 (by decide) (hg _ kw_728) (fun _ h9 => h9) rfl d_Mo_format_148 ?_
                      refine lv_iload_n hx hb d_Mo_format_151 rfl (lv_at hl 4 rfl) ?_
                      refine va_bald hx hb hK hP 1 0 rfl rfl (vp_in_nI (by omega) (by decide)) d_Mo_format_152 ?_
                      refine lv_topi (fun y_123 ey_123 => ?_)
                      have ey_123 : y_123 = (sb_b (F.getD i2 0) : Int32) := ey_123.trans (show (ft (nI i2).toNatClampNeg) = sb_b (F.getD i2 0) from (by rw [nI_clamp (show i2 < 2 ^ 31 by omega)]; exact htc.2))
                      subst ey_123
                      refine lv_bipush (v := 48) hx hb d_Mo_format_153 (by decide) ?_
                      refine lv_icmp_ne (tgt := 162) hx hb d_Mo_format_155 (by decide) (fun c9 => by first | exact absurd c9 (sb_e3 (k := 48) htc.1 (by decide) f_93) | exact absurd (sb_e3 (k := 48) htc.1 (by decide) f_93) c9) (fun _ => ?_)
                      refine lv_iconst (v := 1) hx hb d_Mo_format_158 (by decide) ?_
                      refine lv_goto (tgt := 163) hx hb d_Mo_format_159 (by decide) ?_
                      refine lv_topi (fun y_124 ey_124 => ?_)
                      have ey_124 : y_124 = (by_z (ze || F.getD i2 0 == 48) : Int32) := ey_124.trans (show 1 = by_z (ze || F.getD i2 0 == 48) from (by rw [by_z_f rfl c_144, f_93]; rfl))
                      subst ey_124
                      refine lv_istore (lv' := [(6, .int (by_z (ze || F.getD i2 0 == 48))), (5, .int (by_z (pl || F.getD i2 0 == 43))), (4, .int (by_z (mi || F.getD i2 0 == 45))), (0, .ref mo), (1, .int (nI us)), (2, .int (nI i2))]) hx hb d_Mo_format_163 hl (by decide) rfl (fun ls hl => ?_)
                      refine lv_iinc (v := (nI i2) + 1) (lv' := [(2, .int ((nI i2) + 1)), (6, .int (by_z (ze || F.getD i2 0 == 48))), (5, .int (by_z (pl || F.getD i2 0 == 43))), (4, .int (by_z (mi || F.getD i2 0 == 45))), (0, .ref mo), (1, .int (nI us))]) hx hb d_Mo_format_165 hl (k := 5) rfl rfl (by decide) rfl (fun ls hl => ?_)
                      refine lv_goto (tgt := 55) hx hb d_Mo_format_168 (by decide) ?_
                      rw [nI_1] at hl
                      exact ih_55 (i2 + 1, (mi || F.getD i2 0 == 45), (pl || F.getD i2 0 == 43), (ze || F.getD i2 0 == 48)) H locs ls ⟨hP.sub [0, 1, 2, 3, 4, 5, 6, 7] rfl, hD.sub [0, 1, 2, 3, 4, 5, 6, 7] (by decide) rfl, hS, lv_sub hl [4, 5, 0, 3, 2, 1] rfl, (fk_flag hK2 f_60 rfl (Or.inr (Or.inr f_93))), (by omega)⟩ (by dsimp only; omega)
                  · skip
                    refine lv_aload_n hx hb d_Mo_format_124 rfl (lv_at hl 1 rfl) ?_
                    refine va_get (D := (dC, dI)) (ci := 8) (v := .ref rt) (C := "TextForgeModel") (T := TX8) (N := 19) hx hb hg iwX8 hown hK hP 0 rfl rfl 2 (by decide) (hg _ kw_728) (fun _ h9 => h9) rfl d_Mo_format_125 ?_
                    refine lv_iload_n hx hb d_Mo_format_128 rfl (lv_at hl 3 rfl) ?_
                    refine va_bald hx hb hK hP 1 0 rfl rfl (vp_in_nI (by omega) (by decide)) d_Mo_format_129 ?_
                    refine lv_topi (fun y_125 ey_125 => ?_)
                    have ey_125 : y_125 = (sb_b (F.getD i2 0) : Int32) := ey_125.trans (show (ft (nI i2).toNatClampNeg) = sb_b (F.getD i2 0) from (by rw [nI_clamp (show i2 < 2 ^ 31 by omega)]; exact htc.2))
                    subst ey_125
                    refine lv_bipush (v := 43) hx hb d_Mo_format_130 (by decide) ?_
                    refine lv_icmp_ne (tgt := 139) hx hb d_Mo_format_132 (by decide) (fun _ => ?_) (fun c9 => by first | exact absurd c9 (sb_e4 (k := 43) htc.1 (by decide) (by omega)) | exact absurd (sb_e4 (k := 43) htc.1 (by decide) (by omega)) c9)
                    refine lv_iconst (v := 0) hx hb d_Mo_format_139 (by decide) ?_
                    refine lv_topi (fun y_126 ey_126 => ?_)
                    have ey_126 : y_126 = (by_z (pl || F.getD i2 0 == 43) : Int32) := ey_126.trans (show 0 = by_z (pl || F.getD i2 0 == 43) from (by rw [by_z_f rfl c_121, f_93]; rfl))
                    subst ey_126
                    refine lv_istore (lv' := [(5, .int (by_z (pl || F.getD i2 0 == 43))), (4, .int (by_z (mi || F.getD i2 0 == 45))), (0, .ref mo), (1, .int (nI us)), (2, .int (nI i2)), (6, .int (by_z ze))]) hx hb d_Mo_format_140 hl (by decide) rfl (fun ls hl => ?_)
                    refine lv_iload hx hb d_Mo_format_142 (lv_at hl 5 rfl) ?_
                    refine lv_if_ne (tgt := 158) hx hb d_Mo_format_144 (by decide) (fun c_144 => ?_) (fun c_144 => ?_)
                    · skip
                      refine lv_iconst (v := 1) hx hb d_Mo_format_158 (by decide) ?_
                      refine lv_goto (tgt := 163) hx hb d_Mo_format_159 (by decide) ?_
                      refine lv_topi (fun y_127 ey_127 => ?_)
                      have ey_127 : y_127 = (by_z (ze || F.getD i2 0 == 48) : Int32) := ey_127.trans (show 1 = by_z (ze || F.getD i2 0 == 48) from (by rw [by_z_t rfl c_144]; rfl))
                      subst ey_127
                      refine lv_istore (lv' := [(6, .int (by_z (ze || F.getD i2 0 == 48))), (5, .int (by_z (pl || F.getD i2 0 == 43))), (4, .int (by_z (mi || F.getD i2 0 == 45))), (0, .ref mo), (1, .int (nI us)), (2, .int (nI i2))]) hx hb d_Mo_format_163 hl (by decide) rfl (fun ls hl => ?_)
                      refine lv_iinc (v := (nI i2) + 1) (lv' := [(2, .int ((nI i2) + 1)), (6, .int (by_z (ze || F.getD i2 0 == 48))), (5, .int (by_z (pl || F.getD i2 0 == 43))), (4, .int (by_z (mi || F.getD i2 0 == 45))), (0, .ref mo), (1, .int (nI us))]) hx hb d_Mo_format_165 hl (k := 5) rfl rfl (by decide) rfl (fun ls hl => ?_)
                      refine lv_goto (tgt := 55) hx hb d_Mo_format_168 (by decide) ?_
                      rw [nI_1] at hl
                      exact ih_55 (i2 + 1, (mi || F.getD i2 0 == 45), (pl || F.getD i2 0 == 43), (ze || F.getD i2 0 == 48)) H locs ls ⟨hP.sub [0, 1, 2, 3, 4, 5, 6, 7] rfl, hD.sub [0, 1, 2, 3, 4, 5, 6, 7] (by decide) rfl, hS, lv_sub hl [4, 5, 0, 3, 2, 1] rfl, (fk_flag hK2 f_60 rfl (Or.inr (Or.inr f_93))), (by omega)⟩ (by dsimp only; omega)
                    · skip
                      refine lv_aload_n hx hb d_Mo_format_147 rfl (lv_at hl 2 rfl) ?_
                      refine va_get (D := (dC, dI)) (ci := 8) (v := .ref rt) (C := "TextForgeModel") (T := TX8) (N := 19) hx hb hg iwX8 hown hK hP 0 rfl rfl 2 (by decide) (hg _ kw_728) (fun _ h9 => h9) rfl d_Mo_format_148 ?_
                      refine lv_iload_n hx hb d_Mo_format_151 rfl (lv_at hl 4 rfl) ?_
                      refine va_bald hx hb hK hP 1 0 rfl rfl (vp_in_nI (by omega) (by decide)) d_Mo_format_152 ?_
                      refine lv_topi (fun y_128 ey_128 => ?_)
                      have ey_128 : y_128 = (sb_b (F.getD i2 0) : Int32) := ey_128.trans (show (ft (nI i2).toNatClampNeg) = sb_b (F.getD i2 0) from (by rw [nI_clamp (show i2 < 2 ^ 31 by omega)]; exact htc.2))
                      subst ey_128
                      refine lv_bipush (v := 48) hx hb d_Mo_format_153 (by decide) ?_
                      refine lv_icmp_ne (tgt := 162) hx hb d_Mo_format_155 (by decide) (fun c9 => by first | exact absurd c9 (sb_e3 (k := 48) htc.1 (by decide) f_93) | exact absurd (sb_e3 (k := 48) htc.1 (by decide) f_93) c9) (fun _ => ?_)
                      refine lv_iconst (v := 1) hx hb d_Mo_format_158 (by decide) ?_
                      refine lv_goto (tgt := 163) hx hb d_Mo_format_159 (by decide) ?_
                      refine lv_topi (fun y_129 ey_129 => ?_)
                      have ey_129 : y_129 = (by_z (ze || F.getD i2 0 == 48) : Int32) := ey_129.trans (show 1 = by_z (ze || F.getD i2 0 == 48) from (by rw [by_z_f rfl c_144, f_93]; rfl))
                      subst ey_129
                      refine lv_istore (lv' := [(6, .int (by_z (ze || F.getD i2 0 == 48))), (5, .int (by_z (pl || F.getD i2 0 == 43))), (4, .int (by_z (mi || F.getD i2 0 == 45))), (0, .ref mo), (1, .int (nI us)), (2, .int (nI i2))]) hx hb d_Mo_format_163 hl (by decide) rfl (fun ls hl => ?_)
                      refine lv_iinc (v := (nI i2) + 1) (lv' := [(2, .int ((nI i2) + 1)), (6, .int (by_z (ze || F.getD i2 0 == 48))), (5, .int (by_z (pl || F.getD i2 0 == 43))), (4, .int (by_z (mi || F.getD i2 0 == 45))), (0, .ref mo), (1, .int (nI us))]) hx hb d_Mo_format_165 hl (k := 5) rfl rfl (by decide) rfl (fun ls hl => ?_)
                      refine lv_goto (tgt := 55) hx hb d_Mo_format_168 (by decide) ?_
                      rw [nI_1] at hl
                      exact ih_55 (i2 + 1, (mi || F.getD i2 0 == 45), (pl || F.getD i2 0 == 43), (ze || F.getD i2 0 == 48)) H locs ls ⟨hP.sub [0, 1, 2, 3, 4, 5, 6, 7] rfl, hD.sub [0, 1, 2, 3, 4, 5, 6, 7] (by decide) rfl, hS, lv_sub hl [4, 5, 0, 3, 2, 1] rfl, (fk_flag hK2 f_60 rfl (Or.inr (Or.inr f_93))), (by omega)⟩ (by dsimp only; omega)
    · skip
      have f_35 : F.getD i 0 ≠ 37 := sb_e2 (k := 37) htb.1 (by decide) c_35
      refine lv_aload_n hx hb d_Mo_format_38 rfl (lv_at hl 2 rfl) ?_
      refine lv_iload_n hx hb d_Mo_format_39 rfl (lv_at hl 1 rfl) ?_
      have hPc := hP.sub (ws' := [(mo, .inr (8, [.int 0, .int (nI F.length), .ref rt, .int (nI AL.length), .ref rk, .ref rv, .ref rw, .ref ro, .int (nI (List.take 4096 G).length), .ref rr, .int pt2, .ref ra, .long pz, .int kc, .ref rc, .ref rl, .ref rb, .int la2, .int ca2])), (rr, .inl (cB, 4096, .inl g2))]) [0, 7] rfl
      have hKc := hK.sub (tys' := [(cB, .byte)]) [0] rfl
      have hDc := hD.sub (ws' := [(mo, .inr (8, [.int 0, .int (nI F.length), .ref rt, .int (nI AL.length), .ref rk, .ref rv, .ref rw, .ref ro, .int (nI (List.take 4096 G).length), .ref rr, .int pt2, .ref ra, .long pz, .int kc, .ref rc, .ref rl, .ref rb, .int la2, .int ca2])), (rr, .inl (cB, 4096, .inl g2))]) [0, 7] (by decide) rfl
      have hFc := va_free (wc := [(mo, .inr (8, [.int 0, .int (nI F.length), .ref rt, .int (nI AL.length), .ref rk, .ref rv, .ref rw, .ref ro, .int (nI (List.take 4096 G).length), .ref rr, .int pt2, .ref ra, .long pz, .int kc, .ref rc, .ref rl, .ref rb, .int la2, .int ca2])), (rr, .inl (cB, 4096, .inl g2))]) hD hS hA [0, 7] rfl
      refine zz_callv (va_runV (As := [.int (sb_b (F.getD i 0))]) (rest := []) ⟨hx, hb, hml, hown, hg⟩ (c_Mo_give l dC dI mo rt rk rv rw ro rr ra rc rl rb 0 (nI F.length) (nI AL.length) (nI (List.take 4096 G).length) pt2 pz kc la2 ca2 cB g2 (List.take 4096 G) (sb_b (F.getD i 0)) hRi (List.length_take_le _ _) H.size) (cwV 1 hg (gi_V kw_848 kw_850 sw_13 kw_9 kw_851) rfl rfl rfl (by decide +kernel) ⟨Nat.le_of_ble_eq_true rfl, Nat.le_of_ble_eq_true rfl⟩) (zz_preV hPc hKc hDc _ (q0 := 0) (ci := 8) rfl rfl) rfl rfl hl.1 rfl (lv_room (Nat.le_of_ble_eq_true rfl)) d_Mo_format_40 ⟨Nat.le_of_ble_eq_true rfl, Nat.le_of_ble_eq_true rfl⟩) hS hFc (fun u H1 k9 p9 d9 => va_join (wr := [(rt, .inl (cB, 4096, .inl ft)), (ra, .inl (cB, 16400, .inl g)), (rk, .inl (cI, 16, .inl fk)), (rv, .inl (cL, 16, .inr (.inl fv))), (rw, .inl (cI, 16, .inl fw)), (ro, .inl (cB, 65536, .inl fo))]) hP hD [0, 7] [1, 2, 3, 4, 5, 6] rfl rfl (by decide) (by decide) k9 hFc p9 d9) (fun u H locs hw hP hD hK1 hS => ?_)
      obtain ⟨u_130, rfl⟩ : ∃ z, z = u := ⟨_, rfl⟩
      try dsimp only at hw
      have hP : va_P (dC, dI) vwCl [(rt, .inl (cB, 4096, .inl ft)), (ra, .inl (cB, 16400, .inl g)), (rk, .inl (cI, 16, .inl fk)), (rv, .inl (cL, 16, .inr (.inl fv))), (rw, .inl (cI, 16, .inl fw)), (ro, .inl (cB, 65536, .inl fo)), (mo, .inr (8, [.int 0, .int (nI F.length), .ref rt, .int (nI AL.length), .ref rk, .ref rv, .ref rw, .ref ro, .int (nI (by_ap 4096 (List.take 4096 G) [by_b (sb_b (F.getD i 0))]).length), .ref rr, .int pt2, .ref ra, .long pz, .int kc, .ref rc, .ref rl, .ref rb, .int la2, .int ca2])), (rr, .inl (cB, 4096, .inl u_130))] H := hP
      have hD : va_D A [(rt, .inl (cB, 4096, .inl ft)), (ra, .inl (cB, 16400, .inl g)), (rk, .inl (cI, 16, .inl fk)), (rv, .inl (cL, 16, .inr (.inl fv))), (rw, .inl (cI, 16, .inl fw)), (ro, .inl (cB, 65536, .inl fo)), (mo, .inr (8, [.int 0, .int (nI F.length), .ref rt, .int (nI AL.length), .ref rk, .ref rv, .ref rw, .ref ro, .int (nI (by_ap 4096 (List.take 4096 G) [by_b (sb_b (F.getD i 0))]).length), .ref rr, .int pt2, .ref ra, .long pz, .int kc, .ref rc, .ref rl, .ref rb, .int la2, .int ca2])), (rr, .inl (cB, 4096, .inl u_130))] := hD
      have hR_132 := hw
      refine lv_goto (tgt := 14) hx hb d_Mo_format_43 (by decide) ?_
      rw [show (by_ap 4096 (List.take 4096 G) [by_b (sb_b (F.getD i 0))]) = (List.take 4096 (G ++ [F.getD i 0])) from (by rw [tk_ap, by_b_sb htb.1])] at hP hD hR_132
      exact ih_14 (us, i + 1, G ++ [F.getD i 0], g, u_130, pt2, la2, ca2) H locs ls ⟨hP.sub [6, 0, 1, 2, 3, 4, 5, 7] rfl, hD.sub [6, 0, 1, 2, 3, 4, 5, 7] (by decide) rfl, hS, lv_sub hl [2, 3, 0] rfl, (fj_give hJ f_19 rfl f_35), hR_132, (by omega), (by omega)⟩ (by dsimp only; omega)
