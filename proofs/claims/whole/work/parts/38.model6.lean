/-! MODEL 6: letters, laying, joining -/
/-- a place where roads meet -/
theorem zz_meet2 {p : Program} {l : Launch} {e : Env} {R : Room} {s : State} {m : MethodId} {args : Array Value} {below : List Frame} {meth : Method} {c : Code} {cells slots : Nat} {Q : State → Prop} {σ : Type} (pj : Nat) (I : σ → Heap → List Loc → Array Slot → Prop) {pc0 : Nat} {H0 : Heap} {locs0 : List Loc} {ls0 : Array Slot} {st0 : List Value}
    (hs : ∀ (x : σ) (H : Heap) (locs : List Loc) (ls : Array Slot), I x H locs ls → W p l e R s m args below meth c H locs cells slots Q (F0 m pj ls []))
    (k : (∀ (x : σ) (H : Heap) (locs : List Loc) (ls : Array Slot), I x H locs ls → W p l e R s m args below meth c H locs cells slots Q (F0 m pj ls [])) → W p l e R s m args below meth c H0 locs0 cells slots Q (F0 m pc0 ls0 st0)) : W p l e R s m args below meth c H0 locs0 cells slots Q (F0 m pc0 ls0 st0) := k hs
def mk_o (v k : Nat) (x : Int64) (B : List Nat) (q : Bool) : Option (List Nat) := if k = 3 then pa_t v B else if k = 0 ∨ k = 1 then pa_n v k x 0 q else pa_w v k x
theorem mk_n {v k : Nat} {x : Int64} {B : List Nat} {q : Bool} (h : k = 0 ∨ k = 1) : mk_o v k x B q = pa_n v k x 0 q := by unfold mk_o; rw [if_neg (by omega), if_pos h]
theorem mk_t3 {v k : Nat} {x : Int64} {B : List Nat} {q : Bool} (h : k = 3) : mk_o v k x B q = pa_t v B := if_pos h
theorem mk_w {v k : Nat} {x : Int64} {B : List Nat} {q : Bool} (h : k = 2 ∨ k = 4) : mk_o v k x B q = pa_w v k x := by unfold mk_o; rw [if_neg (by omega), if_neg (by omega)]
theorem mb_s {v n : Nat} (h : mb_v v ≠ 0) : v ≠ 118 ∧ v ≠ 99 ∧ v ≠ 113 ∧ nu_s v n = some (nu_f (mb_v v) (dg_t (decide (v = 88))) 64 n) ∧ 2 ≤ mb_v v ∧ mb_v v ≤ 36 := by
  unfold mb_v at h
  by_cases h1 : v = 100
  · subst h1; exact ⟨by decide, by decide, by decide, rfl, by decide, by decide⟩
  · rw [if_neg h1] at h
    by_cases h2 : v = 120 ∨ v = 88
    · rcases h2 with rfl | rfl
      · exact ⟨by decide, by decide, by decide, rfl, by decide, by decide⟩
      · exact ⟨by decide, by decide, by decide, rfl, by decide, by decide⟩
    · rw [if_neg h2] at h
      by_cases h3 : v = 98
      · subst h3; exact ⟨by decide, by decide, by decide, rfl, by decide, by decide⟩
      · rw [if_neg h3] at h
        by_cases h4 : v = 111
        · subst h4; exact ⟨by decide, by decide, by decide, rfl, by decide, by decide⟩
        · rw [if_neg h4] at h; exact absurd rfl h
theorem mb_n {v n : Nat} (h : mb_v v = 0) : nu_s v n = none := by
  unfold mb_v at h
  unfold nu_s
  by_cases h1 : v = 100
  · rw [if_pos h1] at h; exact absurd h (by decide)
  · rw [if_neg h1] at h
    by_cases h2 : v = 120 ∨ v = 88
    · rw [if_pos h2] at h; exact absurd h (by decide)
    · rw [if_neg h2] at h
      by_cases h3 : v = 98
      · rw [if_pos h3] at h; exact absurd h (by decide)
      · rw [if_neg h3] at h
        by_cases h4 : v = 111
        · rw [if_pos h4] at h; exact absurd h (by decide)
        · rw [if_neg h1, if_neg (fun z => h2 (Or.inl z)), if_neg (fun z => h2 (Or.inr z)), if_neg h3, if_neg h4]
theorem mb_l (v : Nat) : mb_v v < 37 := by unfold mb_v; split <;> (try split) <;> (try split) <;> (try split) <;> decide
/-- numbers by a letter with a base -/
theorem mk_nb {v k : Nat} {x : Int64} {B : List Nat} {q : Bool} (h : k = 0 ∨ k = 1) (hm : mb_v v ≠ 0) : mk_o v k x B q = some ((if ar_b (nI k) x then [45] else if q then [43] else []) ++ (nu_f (mb_v v) (dg_t (decide (v = 88))) 64 (ar_m (nI k) x)).reverse) := by
  obtain ⟨h1, h2, h3, h4, _⟩ := mb_s (n := ar_m (nI k) x) hm
  rw [mk_n h]; unfold pa_n pp_x; rw [if_neg h1, if_neg h2, if_neg h3, h4, Option.map_some, pn_0]
section MKN
variable {v k : Nat} {x : Int64} {B : List Nat} {q : Bool}
theorem mk_b1 (h : k = 0 ∨ k = 1) (hm : mb_v v ≠ 0) (hb : ar_b (nI k) x = true) : mk_o v k x B q = some (([] ++ [by_b 45]) ++ (nu_f (mb_v v) (dg_t (decide (v = 88))) 64 (ar_m (nI k) x)).reverse) := by rw [mk_nb h hm, hb]; rfl
theorem mk_b2 (h : k = 0 ∨ k = 1) (hm : mb_v v ≠ 0) (hb : ar_b (nI k) x = false) (hq : q = true) : mk_o v k x B q = some (([] ++ [by_b 43]) ++ (nu_f (mb_v v) (dg_t (decide (v = 88))) 64 (ar_m (nI k) x)).reverse) := by rw [mk_nb h hm, hb, hq]; rfl
theorem mk_b3 (h : k = 0 ∨ k = 1) (hm : mb_v v ≠ 0) (hb : ar_b (nI k) x = false) (hq : q = false) : mk_o v k x B q = some ([] ++ (nu_f (mb_v v) (dg_t (decide (v = 88))) 64 (ar_m (nI k) x)).reverse) := by rw [mk_nb h hm, hb, hq]; rfl
theorem mk_nc (h : k = 0 ∨ k = 1) (hv : v = 99) : mk_o v k x B q = some ([] ++ ut_8 (ut_cn x.toInt)) := by rw [mk_n h, hv]; rfl
theorem mk_nq (h : k = 0 ∨ k = 1) (hv : v = 113) : mk_o v k x B q = some ((([] ++ [by_b 39]) ++ mq 39 (ut_cn x.toInt)) ++ [by_b 39]) := by rw [mk_n h, hv]; rfl
theorem mk_np (hok : mo_o k x) (hv : v = 118) : mk_o v k x B q = some ([] ++ mo_p k x B) := by
  unfold mk_o mo_p
  by_cases h3 : k = 3
  · rw [if_pos h3, if_pos h3, hv]; rfl
  · rw [if_neg h3, if_neg h3]
    by_cases h : k = 0 ∨ k = 1
    · rw [if_pos h, if_pos h, hv]; rfl
    · rw [if_neg h, if_neg h, hv]; rfl
theorem mk_tp (h : k = 2) (hv : v = 116) : mk_o v k x B q = some ([] ++ mo_p k x B) := by subst h; subst hv; rfl
theorem mk_n0 (h : k = 0 ∨ k = 1) (hm : mb_v v = 0) (h1 : v ≠ 99) (h2 : v ≠ 113) (h3 : v ≠ 118) : mk_o v k x B q = none := by
  rw [mk_n h]; unfold pa_n pp_x; rw [if_neg h3, if_neg h1, if_neg h2, mb_n hm]; rfl
theorem mk_th (h : k = 3) (hv : v = 120 ∨ v = 88) : mk_o v k x B q = some ([] ++ px_h (dg_t (decide (v = 88))) B) := by rw [mk_t3 h]; rcases hv with rfl | rfl <;> rfl
theorem mk_ts (h : k = 3) (hv : v = 115) : mk_o v k x B q = some ([] ++ B) := by rw [mk_t3 h, hv]; rfl
theorem mk_tq (h : k = 3) (hv : v = 113) : mk_o v k x B q = some ([] ++ qu_t B) := by rw [mk_t3 h, hv]; rfl
theorem mk_t0 (h : k = 3) (h1 : v ≠ 120) (h2 : v ≠ 88) (h3 : v ≠ 115) (h4 : v ≠ 113) (h5 : v ≠ 118) : mk_o v k x B q = none := by
  rw [mk_t3 h]; unfold pa_t px_t; rw [if_neg h5, if_neg h3, if_neg h4, if_neg h1, if_neg h2]
theorem mk_w0 (h : k = 2 ∨ k = 4) (h1 : v ≠ 118) (h2 : ¬ (v = 116 ∧ k = 2)) : mk_o v k x B q = none := by
  rw [mk_w h]; unfold pa_w; rw [if_neg (fun z => z.elim h1 h2)]
end MKN
theorem mk_cf {x : Int64} (h : x < 0) : ut_ok x.toInt = false := by
  have : x.toInt < 0 := by rw [Int64.lt_iff_toInt_lt] at h; exact h
  unfold ut_ok; exact decide_eq_false (by omega)
theorem px_h1 {t i : Nat} {B : List Nat} (h : i < B.length) : ([] ++ px_h t (B.take i)) ++ [nu_d t (B.getD i 0 / 16), nu_d t (B.getD i 0 % 16)] = [] ++ px_h t (B.take (i + 1)) := by
  unfold px_h; rw [List.take_add_one, List.flatMap_append, List.getD_eq_getElem?_getD, List.getElem?_eq_getElem h]; rfl
theorem px_hl {t : Nat} : ∀ (B : List Nat), (px_h t B).length = 2 * B.length
  | [] => rfl
  | b :: r => by have := px_hl (t := t) r; unfold px_h at *; rw [List.flatMap_cons, List.length_append, this]; show 2 + 2 * r.length = 2 * (r.length + 1); omega
/-! laying -/
def ly_s (P : List Nat) (z : Bool) : Nat := if z = true ∧ (P.getD 0 0 = 45 ∨ P.getD 0 0 = 43) then 1 else 0
def ly_y (z : Bool) : Nat := if z then 48 else 32
def ly_o (P : List Nat) (w : Nat) (b z : Bool) : List Nat := if b then P ++ List.replicate (w - P.length) 32 else (P.take (ly_s P z) ++ List.replicate (w - P.length) (ly_y z)) ++ P.drop (ly_s P z)
theorem tk_ap (G X : List Nat) : by_ap 4096 (G.take 4096) X = (G ++ X).take 4096 := by
  have := by_ap_ap 4096 [] G X
  exact this
theorem rp_s {M A : List Nat} {i y : Nat} : by_ap 4096 (by_ap 4096 M (A ++ List.replicate i y)) [y] = by_ap 4096 M (A ++ List.replicate (i + 1) y) := by
  rw [by_ap_ap, List.append_assoc, ← List.replicate_succ']
theorem sg_s {M A P : List Nat} {a i : Nat} (h : a + i < P.length) (hb : P.getD (a + i) 0 < 256) : by_ap 4096 (by_ap 4096 M (A ++ by_sg P a i)) [by_b (sb_b (P.getD (a + i) 0))] = by_ap 4096 M (A ++ by_sg P a (i + 1)) := by
  rw [by_ap_ap, by_b_sb hb, by_sg_s h, List.append_assoc]
theorem sg_e {P : List Nat} {a i : Nat} (h : a + i = P.length) : by_sg P a i = P.drop a := by unfold by_sg; rw [List.take_of_length_le (by rw [List.length_drop]; omega)]
theorem nu_ge {b t : Nat} (ht : 65 ≤ t) : ∀ k n, ∀ y ∈ nu_f b t k n, 48 ≤ y
  | 0, _, y, h => by cases h
  | k + 1, n, y, h => by
    rw [nu_f] at h
    rcases List.mem_cons.mp h with rfl | h
    · unfold nu_d; split <;> omega
    · by_cases z : n / b = 0
      · rw [if_pos z] at h; cases h
      · rw [if_neg z] at h; exact nu_ge ht k _ y h
theorem nu_ne (b t k n : Nat) (h : 0 < k) : 0 < (nu_f b t k n).length := by
  obtain ⟨j, rfl⟩ : ∃ j, k = j + 1 := ⟨k - 1, by omega⟩
  rw [nu_f]; exact Nat.succ_pos _
theorem ly_f {P : List Nat} {w : Nat} {b : Bool} : ly_o P w b false = pd_o P w b := by
  unfold ly_o pd_o
  cases b
  · show (P.take (ly_s P false) ++ List.replicate (w - P.length) 32) ++ P.drop (ly_s P false) = List.replicate (w - P.length) 32 ++ P
    rw [show ly_s P false = 0 from if_neg (fun z => absurd z.1 (by decide))]; rfl
  · rfl
theorem ly_z1 {R : List Nat} {w c : Nat} (hc : c = 45 ∨ c = 43) : [c] ++ (List.replicate (w - R.length - 1) 48 ++ R) = ly_o ([c] ++ R) w false true := by
  have hs : ly_s ([c] ++ R) true = 1 := if_pos ⟨rfl, hc⟩
  have e : ly_o ([c] ++ R) w false true = (([c] ++ R).take (ly_s ([c] ++ R) true) ++ List.replicate (w - ([c] ++ R).length) 48) ++ ([c] ++ R).drop (ly_s ([c] ++ R) true) := rfl
  rw [e, hs]
  show [c] ++ (List.replicate (w - R.length - 1) 48 ++ R) = ([c] ++ List.replicate (w - (R.length + 1)) 48) ++ R
  rw [Nat.sub_sub, List.append_assoc]
theorem ly_z0 {R : List Nat} {w : Nat} (h : 48 ≤ R.getD 0 0) : List.replicate (w - R.length) 48 ++ R = ly_o R w false true := by
  have hs : ly_s R true = 0 := if_neg (fun z => by have := z.2; omega)
  have e : ly_o R w false true = (R.take (ly_s R true) ++ List.replicate (w - R.length) 48) ++ R.drop (ly_s R true) := rfl
  rw [e, hs]; rfl
theorem pd_0 {O : List Nat} {w : Nat} (h : w ≤ O.length) : pd_o O w false = O := by
  have e : pd_o O w false = List.replicate (w - O.length) 32 ++ O := rfl
  rw [e, show w - O.length = 0 by omega]; rfl
/-- zeros between sign and digits -/
theorem ly_z {D : List Nat} {b q : Bool} {w : Nat} (hD : ∀ y ∈ D, 48 ≤ y) (h0 : 0 < D.length) : pd_o (pn_l b q w D) w false = ly_o (pn_l b q 0 D) w false true := by
  have hr : D.reverse.length = D.length := List.length_reverse
  have hl : w ≤ (pn_l b q w D).length := by
    unfold pn_l; cases b <;> cases q <;> simp <;> omega
  rw [pd_0 hl, pn_0]
  cases b
  · cases q
    · have h9 : 48 ≤ D.reverse.getD 0 0 := by
        rw [List.getD_eq_getElem?_getD, List.getElem?_eq_getElem (by rw [hr]; exact h0)]
        exact hD _ (List.mem_reverse.mp (List.getElem_mem _))
      have := ly_z0 (w := w) h9
      rw [hr] at this; exact this
    · have := ly_z1 (R := D.reverse) (w := w) (c := 43) (Or.inr rfl)
      rw [hr] at this; exact this
  · have := ly_z1 (R := D.reverse) (w := w) (c := 45) (Or.inl rfl)
    rw [hr] at this
    cases q <;> exact this
/-- what a letter makes, laid -/
def fm_z (bz bm : Bool) (k v : Nat) : Bool := bz && !bm && decide (k = 0 ∨ k = 1) && decide (mb_v v ≠ 0)
theorem fm_n {v k w : Nat} {x : Int64} {q : Bool} {g : Ag} {a h r : Nat} {f : Nat → Int32} {B : List Nat} (hg : g = (a, k, x, h, r, f, B)) (ho : mk_o v k x B q = none) : ag_o v g w q = none := by
  subst hg
  unfold mk_o at ho
  show (if k = 3 then pa_t v B else if k = 0 ∨ k = 1 then pa_n v k x w q else pa_w v k x) = none
  by_cases h3 : k = 3
  · rw [if_pos h3] at ho ⊢; exact ho
  · rw [if_neg h3] at ho ⊢
    by_cases hk : k = 0 ∨ k = 1
    · rw [if_pos hk] at ho ⊢
      unfold pa_n pp_x at ho ⊢
      by_cases h1 : v = 118
      · rw [if_pos h1] at ho; exact absurd ho (by simp)
      · rw [if_neg h1] at ho ⊢
        by_cases h2 : v = 99
        · rw [if_pos h2] at ho; exact absurd ho (by simp)
        · rw [if_neg h2] at ho ⊢
          by_cases h4 : v = 113
          · rw [if_pos h4] at ho; exact absurd ho (by simp)
          · rw [if_neg h4] at ho ⊢
            rw [Option.map_eq_none_iff] at ho ⊢; exact ho
    · rw [if_neg hk] at ho ⊢; exact ho
theorem fm_s {v k wd : Nat} {x : Int64} {q bz bm : Bool} {g : Ag} {a h r : Nat} {f : Nat → Int32} {B O : List Nat} (hg : g = (a, k, x, h, r, f, B)) (ho : mk_o v k x B q = some O) : ∃ O2, ag_o v g (pp_w bz bm wd) q = some O2 ∧ pd_o O2 wd bm = ly_o O wd bm (fm_z bz bm k v) := by
  subst hg
  show ∃ O2, (if k = 3 then pa_t v B else if k = 0 ∨ k = 1 then pa_n v k x (pp_w bz bm wd) q else pa_w v k x) = some O2 ∧ _
  by_cases hk : (k = 0 ∨ k = 1) ∧ mb_v v ≠ 0
  · obtain ⟨hk, hm⟩ := hk
    obtain ⟨h1, h2, h3, h4, _⟩ := mb_s (n := ar_m (nI k) x) hm
    rw [if_neg (by omega), if_pos hk]
    rw [mk_n hk] at ho
    unfold pa_n pp_x at ho ⊢
    rw [if_neg h1, if_neg h2, if_neg h3, h4, Option.map_some] at ho ⊢
    injection ho with ho
    refine ⟨_, rfl, ?_⟩
    rw [← ho]
    unfold fm_z
    rw [decide_eq_true hk, decide_eq_true hm, Bool.and_true, Bool.and_true]
    cases bz
    · exact ly_f.symm
    · cases bm
      · exact ly_z (nu_ge (by unfold dg_t; split <;> decide) _ _) (nu_ne _ _ _ _ (by decide))
      · exact ly_f.symm
  · have hz : fm_z bz bm k v = false := by
      unfold fm_z
      by_cases h9 : k = 0 ∨ k = 1
      · rw [decide_eq_false (fun z => hk ⟨h9, z⟩), Bool.and_false]
      · rw [decide_eq_false h9, Bool.and_false, Bool.false_and]
    rw [hz]
    refine ⟨O, ?_, ly_f.symm⟩
    unfold mk_o at ho
    by_cases h3 : k = 3
    · rw [if_pos h3] at ho ⊢; exact ho
    · rw [if_neg h3] at ho ⊢
      by_cases h9 : k = 0 ∨ k = 1
      · rw [if_pos h9] at ho ⊢
        have hm : mb_v v = 0 := Decidable.byContradiction (fun z => hk ⟨h9, z⟩)
        unfold pa_n pp_x at ho ⊢
        rw [mb_n hm, Option.map_none] at ho ⊢; exact ho
      · rw [if_neg h9] at ho ⊢; exact ho
theorem ly_1 {M P : List Nat} {y : Nat} (h : 0 < P.length) (hb : P.getD 0 0 < 256) : by_ap 4096 M [by_b (sb_b (P.getD 0 0))] = by_ap 4096 M (P.take 1 ++ List.replicate 0 y) := by
  rw [by_b_sb hb]
  cases P with
  | nil => exact absurd h (Nat.lt_irrefl _)
  | cons a r => rfl
theorem ly_0 {M P : List Nat} {y : Nat} (h : M.length ≤ 4096) : M = by_ap 4096 M (P.take 0 ++ List.replicate 0 y) := by
  show M = by_ap 4096 M []
  rw [by_ap_nil h]
theorem ly_00 {M P : List Nat} (h : M.length ≤ 4096) : M = by_ap 4096 M ([] ++ by_sg P 0 0) := by
  show M = by_ap 4096 M []
  rw [by_ap_nil h]
theorem ly_a {M A P : List Nat} {a : Nat} : by_ap 4096 M A = by_ap 4096 M (A ++ by_sg P a 0) := by rw [by_sg_0, List.append_nil]
theorem ly_ef {M P : List Nat} {w a i : Nat} {z : Bool} (hs : ly_s P z = a) (h : a + i = P.length) : by_ap 4096 M ((P.take a ++ List.replicate (w - P.length) (ly_y z)) ++ by_sg P a i) = by_ap 4096 M (ly_o P w false z) := by
  rw [sg_e h, ← hs]; rfl
theorem ly_et {M P : List Nat} {w i : Nat} {z : Bool} (h : i = w - P.length) : by_ap 4096 M (P ++ List.replicate i 32) = by_ap 4096 M (ly_o P w true z) := by rw [h]; rfl
theorem ly_bt {M P : List Nat} {i : Nat} (h : 0 + i = P.length) : by_ap 4096 M ([] ++ by_sg P 0 i) = by_ap 4096 M (P ++ List.replicate 0 32) := by rw [sg_e h, List.replicate_zero, List.append_nil]; rfl
/-- what the reference holds of all arguments -/
def mo_G (g : Ag) (j : Nat) (fk : Nat → Int32) (fv : Nat → Int64) (fw fo : Nat → Int32) : Prop := match g with
  | (_, k, x, _, _, _, B) => mo_h k x B j fk fv fw fo ∧ mo_o k x
def mo_A (AL : List Ag) (fk : Nat → Int32) (fv : Nat → Int64) (fw fo : Nat → Int32) : Prop := ∀ j g, AL[j]? = some g → mo_G g j fk fv fw fo
theorem jn_s {bl : Bool} {AL : List Ag} {i a k h r : Nat} {x : Int64} {f : Nat → Int32} {B : List Nat} (hg : AL[i]? = some (a, k, x, h, r, f, B)) : jn bl AL (i + 1) = jn bl AL i ++ (jn_1 bl i ++ mo_p k x B) := by
  rw [jn, hg]; rfl
theorem jn_a {bl : Bool} {i : Nat} (h : ¬ (bl = true ∧ 0 < i)) : jn_1 bl i = [] := if_neg h
theorem jn_b {bl : Bool} {i : Nat} (h : bl = true ∧ 0 < i) : jn_1 bl i = [32] := if_pos h
theorem kx_l100 : ∀ i, i < 33 → (kxB i).length ≤ 100 := by decide +kernel
theorem mo_pl {k j : Nat} {x : Int64} {B : List Nat} {fk : Nat → Int32} {fv : Nat → Int64} {fw fo : Nat → Int32} (ho : mo_o k x) (h : mo_h k x B j fk fv fw fo) : (mo_p k x B).length ≤ 4096 := by
  rcases ho with hk | hk | hk
  · rw [mo_pn hk, List.length_append, List.length_reverse]
    have := nu_fl64 (b := 10) (t := 97) 64 (ar_m (nI k) x)
    split
    · show 1 + _ ≤ _; omega
    · show 0 + _ ≤ _; omega
  · unfold mo_p; rw [if_pos hk]; exact (h.2.2 hk).2.1
  · unfold mo_p; rw [if_neg (by omega), if_neg (by omega)]
    have := kx_l100 (ar_w k x) (ar_wl hk)
    omega
abbrev y_Mo_makes : MethodName := ⟨"TextForgeModel", "makes", "(IIZ)Z"⟩
abbrev w_Mo_makes : List Cond := Cond.code y_Mo_makes prog_12_method_32_code 8 (some .boolean) :: gw
theorem d_Mo_makes_0 : decode prog_12_method_32_code 0 = .ok (.aload_n 0, 1) := by decide +kernel
theorem d_Mo_makes_1 : decode prog_12_method_32_code 1 = .ok (.getfield 13, 3) := by decide +kernel
theorem d_Mo_makes_4 : decode prog_12_method_32_code 4 = .ok (.iload_n 2, 1) := by decide +kernel
theorem d_Mo_makes_5 : decode prog_12_method_32_code 5 = .ok (.iaload, 1) := by decide +kernel
theorem d_Mo_makes_6 : decode prog_12_method_32_code 6 = .ok (.iconst 1, 1) := by decide +kernel
theorem d_Mo_makes_7 : decode prog_12_method_32_code 7 = .ok (.if_icmp .gt 7, 3) := by decide +kernel
theorem d_Mo_makes_10 : decode prog_12_method_32_code 10 = .ok (.iconst 1, 1) := by decide +kernel
theorem d_Mo_makes_11 : decode prog_12_method_32_code 11 = .ok (.goto 4, 3) := by decide +kernel
theorem d_Mo_makes_14 : decode prog_12_method_32_code 14 = .ok (.iconst 0, 1) := by decide +kernel
theorem d_Mo_makes_15 : decode prog_12_method_32_code 15 = .ok (.istore 4, 2) := by decide +kernel
theorem d_Mo_makes_17 : decode prog_12_method_32_code 17 = .ok (.aload_n 0, 1) := by decide +kernel
theorem d_Mo_makes_18 : decode prog_12_method_32_code 18 = .ok (.getfield 13, 3) := by decide +kernel
theorem d_Mo_makes_21 : decode prog_12_method_32_code 21 = .ok (.iload_n 2, 1) := by decide +kernel
theorem d_Mo_makes_22 : decode prog_12_method_32_code 22 = .ok (.iaload, 1) := by decide +kernel
theorem d_Mo_makes_23 : decode prog_12_method_32_code 23 = .ok (.iconst 3, 1) := by decide +kernel
theorem d_Mo_makes_24 : decode prog_12_method_32_code 24 = .ok (.if_icmp .ne 7, 3) := by decide +kernel
theorem d_Mo_makes_27 : decode prog_12_method_32_code 27 = .ok (.iconst 1, 1) := by decide +kernel
theorem d_Mo_makes_28 : decode prog_12_method_32_code 28 = .ok (.goto 4, 3) := by decide +kernel
theorem d_Mo_makes_31 : decode prog_12_method_32_code 31 = .ok (.iconst 0, 1) := by decide +kernel
theorem d_Mo_makes_32 : decode prog_12_method_32_code 32 = .ok (.istore 5, 2) := by decide +kernel
theorem d_Mo_makes_34 : decode prog_12_method_32_code 34 = .ok (.iload 4, 2) := by decide +kernel
theorem d_Mo_makes_36 : decode prog_12_method_32_code 36 = .ok (.ifCond .eq 46, 3) := by decide +kernel
theorem d_Mo_makes_39 : decode prog_12_method_32_code 39 = .ok (.aload_n 0, 1) := by decide +kernel
theorem d_Mo_makes_40 : decode prog_12_method_32_code 40 = .ok (.getfield 13, 3) := by decide +kernel
theorem d_Mo_makes_43 : decode prog_12_method_32_code 43 = .ok (.iload_n 2, 1) := by decide +kernel
theorem d_Mo_makes_44 : decode prog_12_method_32_code 44 = .ok (.iaload, 1) := by decide +kernel
theorem d_Mo_makes_45 : decode prog_12_method_32_code 45 = .ok (.iconst 1, 1) := by decide +kernel
theorem d_Mo_makes_46 : decode prog_12_method_32_code 46 = .ok (.if_icmp .ne 14, 3) := by decide +kernel
theorem d_Mo_makes_49 : decode prog_12_method_32_code 49 = .ok (.aload_n 0, 1) := by decide +kernel
theorem d_Mo_makes_50 : decode prog_12_method_32_code 50 = .ok (.getfield 17, 3) := by decide +kernel
theorem d_Mo_makes_53 : decode prog_12_method_32_code 53 = .ok (.iload_n 2, 1) := by decide +kernel
theorem d_Mo_makes_54 : decode prog_12_method_32_code 54 = .ok (.laload, 1) := by decide +kernel
theorem d_Mo_makes_55 : decode prog_12_method_32_code 55 = .ok (.lconst 0, 1) := by decide +kernel
theorem d_Mo_makes_56 : decode prog_12_method_32_code 56 = .ok (.lcmp, 1) := by decide +kernel
theorem d_Mo_makes_57 : decode prog_12_method_32_code 57 = .ok (.ifCond .lt 25, 3) := by decide +kernel
theorem d_Mo_makes_60 : decode prog_12_method_32_code 60 = .ok (.aload_n 0, 1) := by decide +kernel
theorem d_Mo_makes_61 : decode prog_12_method_32_code 61 = .ok (.getfield 17, 3) := by decide +kernel
theorem d_Mo_makes_64 : decode prog_12_method_32_code 64 = .ok (.iload_n 2, 1) := by decide +kernel
theorem d_Mo_makes_65 : decode prog_12_method_32_code 65 = .ok (.laload, 1) := by decide +kernel
theorem d_Mo_makes_66 : decode prog_12_method_32_code 66 = .ok (.invokestatic 114, 3) := by decide +kernel
theorem d_Mo_makes_69 : decode prog_12_method_32_code 69 = .ok (.ifCond .eq 13, 3) := by decide +kernel
theorem d_Mo_makes_72 : decode prog_12_method_32_code 72 = .ok (.aload_n 0, 1) := by decide +kernel
theorem d_Mo_makes_73 : decode prog_12_method_32_code 73 = .ok (.getfield 17, 3) := by decide +kernel
theorem d_Mo_makes_76 : decode prog_12_method_32_code 76 = .ok (.iload_n 2, 1) := by decide +kernel
theorem d_Mo_makes_77 : decode prog_12_method_32_code 77 = .ok (.laload, 1) := by decide +kernel
theorem d_Mo_makes_78 : decode prog_12_method_32_code 78 = .ok (.l2i, 1) := by decide +kernel
theorem d_Mo_makes_79 : decode prog_12_method_32_code 79 = .ok (.goto 5, 3) := by decide +kernel
theorem d_Mo_makes_82 : decode prog_12_method_32_code 82 = .ok (.ldc 110, 2) := by decide +kernel
theorem d_Mo_makes_84 : decode prog_12_method_32_code 84 = .ok (.istore 6, 2) := by decide +kernel
theorem d_Mo_makes_86 : decode prog_12_method_32_code 86 = .ok (.iload 4, 2) := by decide +kernel
theorem d_Mo_makes_88 : decode prog_12_method_32_code 88 = .ok (.ifCond .eq 60, 3) := by decide +kernel
theorem d_Mo_makes_91 : decode prog_12_method_32_code 91 = .ok (.iload_n 1, 1) := by decide +kernel
theorem d_Mo_makes_92 : decode prog_12_method_32_code 92 = .ok (.invokestatic 175, 3) := by decide +kernel
theorem d_Mo_makes_95 : decode prog_12_method_32_code 95 = .ok (.ifCond .le 53, 3) := by decide +kernel
theorem d_Mo_makes_98 : decode prog_12_method_32_code 98 = .ok (.aload_n 0, 1) := by decide +kernel
theorem d_Mo_makes_99 : decode prog_12_method_32_code 99 = .ok (.iload_n 2, 1) := by decide +kernel
theorem d_Mo_makes_100 : decode prog_12_method_32_code 100 = .ok (.invokevirtual 151, 3) := by decide +kernel
theorem d_Mo_makes_103 : decode prog_12_method_32_code 103 = .ok (.ifCond .eq 12, 3) := by decide +kernel
theorem d_Mo_makes_106 : decode prog_12_method_32_code 106 = .ok (.aload_n 0, 1) := by decide +kernel
theorem d_Mo_makes_107 : decode prog_12_method_32_code 107 = .ok (.bipush 45, 2) := by decide +kernel
theorem d_Mo_makes_109 : decode prog_12_method_32_code 109 = .ok (.invokevirtual 74, 3) := by decide +kernel
theorem d_Mo_makes_112 : decode prog_12_method_32_code 112 = .ok (.goto 13, 3) := by decide +kernel
theorem d_Mo_makes_115 : decode prog_12_method_32_code 115 = .ok (.iload_n 3, 1) := by decide +kernel
theorem d_Mo_makes_116 : decode prog_12_method_32_code 116 = .ok (.ifCond .eq 9, 3) := by decide +kernel
theorem d_Mo_makes_119 : decode prog_12_method_32_code 119 = .ok (.aload_n 0, 1) := by decide +kernel
theorem d_Mo_makes_120 : decode prog_12_method_32_code 120 = .ok (.bipush 43, 2) := by decide +kernel
theorem d_Mo_makes_122 : decode prog_12_method_32_code 122 = .ok (.invokevirtual 74, 3) := by decide +kernel
theorem d_Mo_makes_125 : decode prog_12_method_32_code 125 = .ok (.aload_n 0, 1) := by decide +kernel
theorem d_Mo_makes_126 : decode prog_12_method_32_code 126 = .ok (.iload_n 2, 1) := by decide +kernel
theorem d_Mo_makes_127 : decode prog_12_method_32_code 127 = .ok (.iload_n 1, 1) := by decide +kernel
theorem d_Mo_makes_128 : decode prog_12_method_32_code 128 = .ok (.invokestatic 175, 3) := by decide +kernel
theorem d_Mo_makes_131 : decode prog_12_method_32_code 131 = .ok (.iload_n 1, 1) := by decide +kernel
theorem d_Mo_makes_132 : decode prog_12_method_32_code 132 = .ok (.bipush 88, 2) := by decide +kernel
theorem d_Mo_makes_134 : decode prog_12_method_32_code 134 = .ok (.if_icmp .ne 7, 3) := by decide +kernel
theorem d_Mo_makes_137 : decode prog_12_method_32_code 137 = .ok (.iconst 1, 1) := by decide +kernel
theorem d_Mo_makes_138 : decode prog_12_method_32_code 138 = .ok (.goto 4, 3) := by decide +kernel
theorem d_Mo_makes_141 : decode prog_12_method_32_code 141 = .ok (.iconst 0, 1) := by decide +kernel
theorem d_Mo_makes_142 : decode prog_12_method_32_code 142 = .ok (.invokevirtual 155, 3) := by decide +kernel
theorem d_Mo_makes_145 : decode prog_12_method_32_code 145 = .ok (.goto 213, 3) := by decide +kernel
theorem d_Mo_makes_148 : decode prog_12_method_32_code 148 = .ok (.iload 5, 2) := by decide +kernel
theorem d_Mo_makes_150 : decode prog_12_method_32_code 150 = .ok (.ifCond .eq 70, 3) := by decide +kernel
theorem d_Mo_makes_153 : decode prog_12_method_32_code 153 = .ok (.iload_n 1, 1) := by decide +kernel
theorem d_Mo_makes_154 : decode prog_12_method_32_code 154 = .ok (.bipush 120, 2) := by decide +kernel
theorem d_Mo_makes_156 : decode prog_12_method_32_code 156 = .ok (.if_icmp .eq 9, 3) := by decide +kernel
theorem d_Mo_makes_159 : decode prog_12_method_32_code 159 = .ok (.iload_n 1, 1) := by decide +kernel
theorem d_Mo_makes_160 : decode prog_12_method_32_code 160 = .ok (.bipush 88, 2) := by decide +kernel
theorem d_Mo_makes_162 : decode prog_12_method_32_code 162 = .ok (.if_icmp .ne 58, 3) := by decide +kernel
theorem d_Mo_makes_165 : decode prog_12_method_32_code 165 = .ok (.iconst 0, 1) := by decide +kernel
theorem d_Mo_makes_166 : decode prog_12_method_32_code 166 = .ok (.istore 7, 2) := by decide +kernel
theorem d_Mo_makes_168 : decode prog_12_method_32_code 168 = .ok (.iload 7, 2) := by decide +kernel
theorem d_Mo_makes_170 : decode prog_12_method_32_code 170 = .ok (.aload_n 0, 1) := by decide +kernel
theorem d_Mo_makes_171 : decode prog_12_method_32_code 171 = .ok (.getfield 21, 3) := by decide +kernel
theorem d_Mo_makes_174 : decode prog_12_method_32_code 174 = .ok (.iload_n 2, 1) := by decide +kernel
theorem d_Mo_makes_175 : decode prog_12_method_32_code 175 = .ok (.iaload, 1) := by decide +kernel
theorem d_Mo_makes_176 : decode prog_12_method_32_code 176 = .ok (.if_icmp .ge 41, 3) := by decide +kernel
theorem d_Mo_makes_179 : decode prog_12_method_32_code 179 = .ok (.aload_n 0, 1) := by decide +kernel
theorem d_Mo_makes_180 : decode prog_12_method_32_code 180 = .ok (.aload_n 0, 1) := by decide +kernel
theorem d_Mo_makes_181 : decode prog_12_method_32_code 181 = .ok (.getfield 25, 3) := by decide +kernel
theorem d_Mo_makes_184 : decode prog_12_method_32_code 184 = .ok (.sipush 4096, 3) := by decide +kernel
theorem d_Mo_makes_187 : decode prog_12_method_32_code 187 = .ok (.iload_n 2, 1) := by decide +kernel
theorem d_Mo_makes_188 : decode prog_12_method_32_code 188 = .ok (.imul, 1) := by decide +kernel
theorem d_Mo_makes_189 : decode prog_12_method_32_code 189 = .ok (.iload 7, 2) := by decide +kernel
theorem d_Mo_makes_191 : decode prog_12_method_32_code 191 = .ok (.iadd, 1) := by decide +kernel
theorem d_Mo_makes_192 : decode prog_12_method_32_code 192 = .ok (.baload, 1) := by decide +kernel
theorem d_Mo_makes_193 : decode prog_12_method_32_code 193 = .ok (.sipush 255, 3) := by decide +kernel
theorem d_Mo_makes_196 : decode prog_12_method_32_code 196 = .ok (.iand, 1) := by decide +kernel
theorem d_Mo_makes_197 : decode prog_12_method_32_code 197 = .ok (.iload_n 1, 1) := by decide +kernel
theorem d_Mo_makes_198 : decode prog_12_method_32_code 198 = .ok (.bipush 88, 2) := by decide +kernel
theorem d_Mo_makes_200 : decode prog_12_method_32_code 200 = .ok (.if_icmp .ne 7, 3) := by decide +kernel
theorem d_Mo_makes_203 : decode prog_12_method_32_code 203 = .ok (.iconst 1, 1) := by decide +kernel
theorem d_Mo_makes_204 : decode prog_12_method_32_code 204 = .ok (.goto 4, 3) := by decide +kernel
theorem d_Mo_makes_207 : decode prog_12_method_32_code 207 = .ok (.iconst 0, 1) := by decide +kernel
theorem d_Mo_makes_208 : decode prog_12_method_32_code 208 = .ok (.invokevirtual 178, 3) := by decide +kernel
theorem d_Mo_makes_211 : decode prog_12_method_32_code 211 = .ok (.iinc 7 1, 3) := by decide +kernel
theorem d_Mo_makes_214 : decode prog_12_method_32_code 214 = .ok (.goto (-46), 3) := by decide +kernel
theorem d_Mo_makes_217 : decode prog_12_method_32_code 217 = .ok (.goto 141, 3) := by decide +kernel
theorem d_Mo_makes_220 : decode prog_12_method_32_code 220 = .ok (.iload 4, 2) := by decide +kernel
theorem d_Mo_makes_222 : decode prog_12_method_32_code 222 = .ok (.ifCond .eq 18, 3) := by decide +kernel
theorem d_Mo_makes_225 : decode prog_12_method_32_code 225 = .ok (.iload_n 1, 1) := by decide +kernel
theorem d_Mo_makes_226 : decode prog_12_method_32_code 226 = .ok (.bipush 99, 2) := by decide +kernel
theorem d_Mo_makes_228 : decode prog_12_method_32_code 228 = .ok (.if_icmp .ne 12, 3) := by decide +kernel
theorem d_Mo_makes_231 : decode prog_12_method_32_code 231 = .ok (.aload_n 0, 1) := by decide +kernel
theorem d_Mo_makes_232 : decode prog_12_method_32_code 232 = .ok (.iload 6, 2) := by decide +kernel
theorem d_Mo_makes_234 : decode prog_12_method_32_code 234 = .ok (.invokevirtual 104, 3) := by decide +kernel
theorem d_Mo_makes_237 : decode prog_12_method_32_code 237 = .ok (.goto 121, 3) := by decide +kernel
theorem d_Mo_makes_240 : decode prog_12_method_32_code 240 = .ok (.iload 4, 2) := by decide +kernel
theorem d_Mo_makes_242 : decode prog_12_method_32_code 242 = .ok (.ifCond .eq 32, 3) := by decide +kernel
theorem d_Mo_makes_245 : decode prog_12_method_32_code 245 = .ok (.iload_n 1, 1) := by decide +kernel
theorem d_Mo_makes_246 : decode prog_12_method_32_code 246 = .ok (.bipush 113, 2) := by decide +kernel
theorem d_Mo_makes_248 : decode prog_12_method_32_code 248 = .ok (.if_icmp .ne 26, 3) := by decide +kernel
theorem d_Mo_makes_251 : decode prog_12_method_32_code 251 = .ok (.aload_n 0, 1) := by decide +kernel
theorem d_Mo_makes_252 : decode prog_12_method_32_code 252 = .ok (.bipush 39, 2) := by decide +kernel
theorem d_Mo_makes_254 : decode prog_12_method_32_code 254 = .ok (.invokevirtual 74, 3) := by decide +kernel
theorem d_Mo_makes_257 : decode prog_12_method_32_code 257 = .ok (.aload_n 0, 1) := by decide +kernel
theorem d_Mo_makes_258 : decode prog_12_method_32_code 258 = .ok (.iload 6, 2) := by decide +kernel
theorem d_Mo_makes_260 : decode prog_12_method_32_code 260 = .ok (.bipush 39, 2) := by decide +kernel
theorem d_Mo_makes_262 : decode prog_12_method_32_code 262 = .ok (.invokevirtual 122, 3) := by decide +kernel
theorem d_Mo_makes_265 : decode prog_12_method_32_code 265 = .ok (.aload_n 0, 1) := by decide +kernel
theorem d_Mo_makes_266 : decode prog_12_method_32_code 266 = .ok (.bipush 39, 2) := by decide +kernel
theorem d_Mo_makes_268 : decode prog_12_method_32_code 268 = .ok (.invokevirtual 74, 3) := by decide +kernel
theorem d_Mo_makes_271 : decode prog_12_method_32_code 271 = .ok (.goto 87, 3) := by decide +kernel
theorem d_Mo_makes_274 : decode prog_12_method_32_code 274 = .ok (.iload 5, 2) := by decide +kernel
theorem d_Mo_makes_276 : decode prog_12_method_32_code 276 = .ok (.ifCond .eq 17, 3) := by decide +kernel
theorem d_Mo_makes_279 : decode prog_12_method_32_code 279 = .ok (.iload_n 1, 1) := by decide +kernel
theorem d_Mo_makes_280 : decode prog_12_method_32_code 280 = .ok (.bipush 115, 2) := by decide +kernel
theorem d_Mo_makes_282 : decode prog_12_method_32_code 282 = .ok (.if_icmp .ne 11, 3) := by decide +kernel
theorem d_Mo_makes_285 : decode prog_12_method_32_code 285 = .ok (.aload_n 0, 1) := by decide +kernel
theorem d_Mo_makes_286 : decode prog_12_method_32_code 286 = .ok (.iload_n 2, 1) := by decide +kernel
theorem d_Mo_makes_287 : decode prog_12_method_32_code 287 = .ok (.invokevirtual 166, 3) := by decide +kernel
theorem d_Mo_makes_290 : decode prog_12_method_32_code 290 = .ok (.goto 68, 3) := by decide +kernel
theorem d_Mo_makes_293 : decode prog_12_method_32_code 293 = .ok (.iload 5, 2) := by decide +kernel
theorem d_Mo_makes_295 : decode prog_12_method_32_code 295 = .ok (.ifCond .eq 31, 3) := by decide +kernel
theorem d_Mo_makes_298 : decode prog_12_method_32_code 298 = .ok (.iload_n 1, 1) := by decide +kernel
theorem d_Mo_makes_299 : decode prog_12_method_32_code 299 = .ok (.bipush 113, 2) := by decide +kernel
theorem d_Mo_makes_301 : decode prog_12_method_32_code 301 = .ok (.if_icmp .ne 25, 3) := by decide +kernel
theorem d_Mo_makes_304 : decode prog_12_method_32_code 304 = .ok (.aload_n 0, 1) := by decide +kernel
theorem d_Mo_makes_305 : decode prog_12_method_32_code 305 = .ok (.aload_n 0, 1) := by decide +kernel
theorem d_Mo_makes_306 : decode prog_12_method_32_code 306 = .ok (.getfield 25, 3) := by decide +kernel
theorem d_Mo_makes_309 : decode prog_12_method_32_code 309 = .ok (.sipush 4096, 3) := by decide +kernel
theorem d_Mo_makes_312 : decode prog_12_method_32_code 312 = .ok (.iload_n 2, 1) := by decide +kernel
theorem d_Mo_makes_313 : decode prog_12_method_32_code 313 = .ok (.imul, 1) := by decide +kernel
theorem d_Mo_makes_314 : decode prog_12_method_32_code 314 = .ok (.aload_n 0, 1) := by decide +kernel
theorem d_Mo_makes_315 : decode prog_12_method_32_code 315 = .ok (.getfield 21, 3) := by decide +kernel
theorem d_Mo_makes_318 : decode prog_12_method_32_code 318 = .ok (.iload_n 2, 1) := by decide +kernel
theorem d_Mo_makes_319 : decode prog_12_method_32_code 319 = .ok (.iaload, 1) := by decide +kernel
theorem d_Mo_makes_320 : decode prog_12_method_32_code 320 = .ok (.invokevirtual 182, 3) := by decide +kernel
theorem d_Mo_makes_323 : decode prog_12_method_32_code 323 = .ok (.goto 35, 3) := by decide +kernel
theorem d_Mo_makes_326 : decode prog_12_method_32_code 326 = .ok (.iload_n 1, 1) := by decide +kernel
theorem d_Mo_makes_327 : decode prog_12_method_32_code 327 = .ok (.bipush 116, 2) := by decide +kernel
theorem d_Mo_makes_329 : decode prog_12_method_32_code 329 = .ok (.if_icmp .ne 13, 3) := by decide +kernel
theorem d_Mo_makes_332 : decode prog_12_method_32_code 332 = .ok (.aload_n 0, 1) := by decide +kernel
theorem d_Mo_makes_333 : decode prog_12_method_32_code 333 = .ok (.getfield 13, 3) := by decide +kernel
theorem d_Mo_makes_336 : decode prog_12_method_32_code 336 = .ok (.iload_n 2, 1) := by decide +kernel
theorem d_Mo_makes_337 : decode prog_12_method_32_code 337 = .ok (.iaload, 1) := by decide +kernel
theorem d_Mo_makes_338 : decode prog_12_method_32_code 338 = .ok (.iconst 2, 1) := by decide +kernel
theorem d_Mo_makes_339 : decode prog_12_method_32_code 339 = .ok (.if_icmp .eq 9, 3) := by decide +kernel
theorem d_Mo_makes_342 : decode prog_12_method_32_code 342 = .ok (.iload_n 1, 1) := by decide +kernel
theorem d_Mo_makes_343 : decode prog_12_method_32_code 343 = .ok (.bipush 118, 2) := by decide +kernel
theorem d_Mo_makes_345 : decode prog_12_method_32_code 345 = .ok (.if_icmp .ne 11, 3) := by decide +kernel
theorem d_Mo_makes_348 : decode prog_12_method_32_code 348 = .ok (.aload_n 0, 1) := by decide +kernel
theorem d_Mo_makes_349 : decode prog_12_method_32_code 349 = .ok (.iload_n 2, 1) := by decide +kernel
theorem d_Mo_makes_350 : decode prog_12_method_32_code 350 = .ok (.invokevirtual 185, 3) := by decide +kernel
theorem d_Mo_makes_353 : decode prog_12_method_32_code 353 = .ok (.goto 5, 3) := by decide +kernel
theorem d_Mo_makes_356 : decode prog_12_method_32_code 356 = .ok (.iconst 0, 1) := by decide +kernel
theorem d_Mo_makes_357 : decode prog_12_method_32_code 357 = .ok (.ireturn, 1) := by decide +kernel
theorem d_Mo_makes_358 : decode prog_12_method_32_code 358 = .ok (.iconst 1, 1) := by decide +kernel
theorem d_Mo_makes_359 : decode prog_12_method_32_code 359 = .ok (.ireturn, 1) := by decide +kernel
set_option maxHeartbeats 4000000 in
set_option maxRecDepth 100000 in
theorem c_Mo_makes (l : Launch) (dC : Nat → ClassId) (dI : Nat → Nat → Nat) (ad : Nat → Nat) (mo rt rk rv rw ro rr ra rc rl rb : Nat) (th fd mn md pt : Int32) (pz : Int64) (kc la ca : Int32) (cB : ClassId) (fa : Nat → Int32) (cI cL : ClassId) (fk : Nat → Int32) (fv : Nat → Int64) (fw fo : Nat → Int32) (j k : Nat) (x : Int64) (B : List Nat) (v : Nat) (bp : Bool) (hv : v < 256) (hj : j < 16) (hok : mo_o k x) (hmg : mo_h k x B j fk fv fw fo) : yM_i (S := (Nat → Int32) × Int32 × Int32) ad l y_Mo_makes w_Mo_makes { frames := 6, cells := 0, slots := 0, locals := 131 } (dC, dI) vwCl [.ref mo, .int (sb_b v), .int (nI j), .int (by_z bp)] [(mo, .inr (8, [.int th, .int fd, .ref rt, .int mn, .ref rk, .ref rv, .ref rw, .ref ro, .int md, .ref rr, .int (nI ([] : List Nat).length), .ref ra, .long pz, .int kc, .ref rc, .ref rl, .ref rb, .int la, .int ca])), (ra, .inl (cB, 16400, .inl fa)), (rk, .inl (cI, 16, .inl fk)), (rv, .inl (cL, 16, .inr (.inl fv))), (rw, .inl (cI, 16, .inl fw)), (ro, .inl (cB, 65536, .inl fo))] [(cB, .byte), (cI, .int), (cL, .long)] (fun (r : Int32) (u : (Nat → Int32) × Int32 × Int32) => match u with | (g1, la1, ca1) => r = by_z (mk_o v k x B bp).isSome ∧ by_L ((mk_o v k x B bp).getD []) g1) (fun u => match u with | (g1, la1, ca1) => [(mo, .inr (8, [.int th, .int fd, .ref rt, .int mn, .ref rk, .ref rv, .ref rw, .ref ro, .int md, .ref rr, .int (nI ((mk_o v k x B bp).getD []).length), .ref ra, .long pz, .int kc, .ref rc, .ref rl, .ref rb, .int la1, .int ca1])), (ra, .inl (cB, 16400, .inl g1)), (rk, .inl (cI, 16, .inl fk)), (rv, .inl (cL, 16, .inr (.inl fv))), (rw, .inl (cI, 16, .inl fw)), (ro, .inl (cB, 65536, .inl fo))]) (fun u => match u with | (g1, la1, ca1) => [(cB, .byte), (cI, .int), (cL, .long)]) 0 0 := by
  refine zy_enteri (cc := prog_12_method_32_code) (nL := 8) (ret := (some .boolean)) (by decide) rfl (Nat.le_of_ble_eq_true rfl) ?_
  intro p e s m below meth c A ls C0 hA hS hP hK hD hl hX
  obtain ⟨hx, hb, hml, hown, hg, hr, hlocks, hin⟩ := C0
  have hown : s.vm.findClass "TextForgeModel" = some m.cls := hown
  have hP : va_P (dC, dI) vwCl [(mo, .inr (8, [.int th, .int fd, .ref rt, .int mn, .ref rk, .ref rv, .ref rw, .ref ro, .int md, .ref rr, .int (nI ([] : List Nat).length), .ref ra, .long pz, .int kc, .ref rc, .ref rl, .ref rb, .int la, .int ca])), (ra, .inl (cB, 16400, .inl fa)), (rk, .inl (cI, 16, .inl fk)), (rv, .inl (cL, 16, .inr (.inl fv))), (rw, .inl (cI, 16, .inl fw)), (ro, .inl (cB, 65536, .inl fo))] s.heap := hP
  have hK : va_K (dC, dI) vwCl [(cB, .byte), (cI, .int), (cL, .long)] s := hK
  have hD : va_D A [(mo, .inr (8, [.int th, .int fd, .ref rt, .int mn, .ref rk, .ref rv, .ref rw, .ref ro, .int md, .ref rr, .int (nI ([] : List Nat).length), .ref ra, .long pz, .int kc, .ref rc, .ref rl, .ref rb, .int la, .int ca])), (ra, .inl (cB, 16400, .inl fa)), (rk, .inl (cI, 16, .inl fk)), (rv, .inl (cL, 16, .inr (.inl fv))), (rw, .inl (cI, 16, .inl fw)), (ro, .inl (cB, 65536, .inl fo))] := hD
  have hl : lv_has ls 8 [(0, .ref mo), (1, .int (sb_b v)), (2, .int (nI j)), (3, .int (by_z bp))] := hl
  have hok9 := hok
  rcases hok with hkn | hk3 | ⟨hk2, _⟩ | ⟨hk4, i1, hi1, hxx⟩
  · skip
    have hk9 : fk j = nI k := hmg.1.trans (mo_kn hkn)
    refine lv_aload_n hx hb d_Mo_makes_0 rfl (lv_at hl 0 rfl) ?_
    refine va_get (D := (dC, dI)) (ci := 8) (v := .ref rk) (C := "TextForgeModel") (T := TX8) (N := 19) hx hb hg iwX8 hown hK hP 0 rfl rfl 4 (by decide) (hg _ kw_730) (fun _ h9 => h9) rfl d_Mo_makes_1 ?_
    refine lv_iload_n hx hb d_Mo_makes_4 rfl (lv_at hl 2 rfl) ?_
    refine va_iald hx hb hK hP 2 1 rfl rfl (vp_in_nI hj (by decide)) d_Mo_makes_5 ?_
    refine lv_topi (fun y_1 ey_1 => ?_)
    have ey_1 : y_1 = (nI k : Int32) := ey_1.trans (show (fk (nI j).toNatClampNeg) = nI k from (by rw [nI_clamp (show j < 2 ^ 31 by omega)]; exact hk9))
    subst ey_1
    refine lv_iconst (v := 1) hx hb d_Mo_makes_6 (by decide) ?_
    refine lv_icmp_gt (tgt := 14) hx hb d_Mo_makes_7 (by decide) (fun c9 => by first | exact absurd c9 (nI_nlt (a := 1) (b := k) (by omega) (by decide)) | exact absurd (nI_nlt (a := 1) (b := k) (by omega) (by decide)) c9) (fun _ => ?_)
    refine lv_iconst (v := 1) hx hb d_Mo_makes_10 (by decide) ?_
    refine lv_goto (tgt := 15) hx hb d_Mo_makes_11 (by decide) ?_
    refine lv_istore (lv' := [(4, .int 1), (0, .ref mo), (1, .int (sb_b v)), (2, .int (nI j)), (3, .int (by_z bp))]) hx hb d_Mo_makes_15 hl (by decide) rfl (fun ls hl => ?_)
    refine lv_aload_n hx hb d_Mo_makes_17 rfl (lv_at hl 1 rfl) ?_
    refine va_get (D := (dC, dI)) (ci := 8) (v := .ref rk) (C := "TextForgeModel") (T := TX8) (N := 19) hx hb hg iwX8 hown hK hP 0 rfl rfl 4 (by decide) (hg _ kw_730) (fun _ h9 => h9) rfl d_Mo_makes_18 ?_
    refine lv_iload_n hx hb d_Mo_makes_21 rfl (lv_at hl 3 rfl) ?_
    refine va_iald hx hb hK hP 2 1 rfl rfl (vp_in_nI hj (by decide)) d_Mo_makes_22 ?_
    refine lv_topi (fun y_2 ey_2 => ?_)
    have ey_2 : y_2 = (nI k : Int32) := ey_2.trans (show (fk (nI j).toNatClampNeg) = nI k from (by rw [nI_clamp (show j < 2 ^ 31 by omega)]; exact hk9))
    subst ey_2
    refine lv_iconst (v := 3) hx hb d_Mo_makes_23 (by decide) ?_
    refine lv_icmp_ne (tgt := 31) hx hb d_Mo_makes_24 (by decide) (fun _ => ?_) (fun c9 => by first | exact absurd c9 (fun z => by have := nI_e1 (b := 3) z (by omega) (by decide); omega) | exact absurd (fun z => by have := nI_e1 (b := 3) z (by omega) (by decide); omega) c9)
    refine lv_iconst (v := 0) hx hb d_Mo_makes_31 (by decide) ?_
    refine lv_istore (lv' := [(5, .int 0), (4, .int 1), (0, .ref mo), (1, .int (sb_b v)), (2, .int (nI j)), (3, .int (by_z bp))]) hx hb d_Mo_makes_32 hl (by decide) rfl (fun ls hl => ?_)
    refine lv_iload hx hb d_Mo_makes_34 (lv_at hl 1 rfl) ?_
    refine lv_if_eq (tgt := 82) hx hb d_Mo_makes_36 (by decide) (fun c9 => by first | exact absurd c9 (by decide) | exact absurd (by decide) c9) (fun _ => ?_)
    refine lv_aload_n hx hb d_Mo_makes_39 rfl (lv_at hl 2 rfl) ?_
    refine va_get (D := (dC, dI)) (ci := 8) (v := .ref rk) (C := "TextForgeModel") (T := TX8) (N := 19) hx hb hg iwX8 hown hK hP 0 rfl rfl 4 (by decide) (hg _ kw_730) (fun _ h9 => h9) rfl d_Mo_makes_40 ?_
    refine lv_iload_n hx hb d_Mo_makes_43 rfl (lv_at hl 4 rfl) ?_
    refine va_iald hx hb hK hP 2 1 rfl rfl (vp_in_nI hj (by decide)) d_Mo_makes_44 ?_
    refine lv_topi (fun y_3 ey_3 => ?_)
    have ey_3 : y_3 = (nI k : Int32) := ey_3.trans (show (fk (nI j).toNatClampNeg) = nI k from (by rw [nI_clamp (show j < 2 ^ 31 by omega)]; exact hk9))
    subst ey_3
    refine lv_iconst (v := 1) hx hb d_Mo_makes_45 (by decide) ?_
    refine lv_icmp_ne (tgt := 60) hx hb d_Mo_makes_46 (by decide) (fun c_46 => ?_) (fun c_46 => ?_)
    · skip
      have f_46 : k ≠ 1 := nI_ne (b := 1) c_46
      refine lv_aload_n hx hb d_Mo_makes_60 rfl (lv_at hl 2 rfl) ?_
      refine va_get (D := (dC, dI)) (ci := 8) (v := .ref rv) (C := "TextForgeModel") (T := TX8) (N := 19) hx hb hg iwX8 hown hK hP 0 rfl rfl 5 (by decide) (hg _ kw_731) (fun _ h9 => h9) rfl d_Mo_makes_61 ?_
      refine lv_iload_n hx hb d_Mo_makes_64 rfl (lv_at hl 4 rfl) ?_
      refine va_lald hx hb hK hP 3 2 rfl rfl (vp_in_nI hj (by decide)) d_Mo_makes_65 ?_
      refine lv_topl (fun y_4 ey_4 => ?_)
      have ey_4 : y_4 = (x : Int64) := ey_4.trans (show (fv (nI j).toNatClampNeg) = x from (by rw [nI_clamp (show j < 2 ^ 31 by omega)]; exact hmg.2.1))
      rw [ey_4]
      have hPc := hP.sub (ws' := []) [] rfl
      have hKc := hK.sub (tys' := []) [] rfl
      refine vp_callSi (W.runS (As := [.long x]) (rest := []) ⟨hx, hb, hml, hown, hg⟩ (c_Mo_isCode l dC dI x ) (va_cwS 1 hg (gi_S kw_834 kw_835 kw_9 kw_836) rfl rfl rfl (by decide +kernel) ⟨Nat.le_of_ble_eq_true rfl, Nat.le_of_ble_eq_true rfl⟩) (zz_prJS hPc hKc _) rfl rfl hl.1 rfl (lv_room (Nat.le_of_ble_eq_true rfl)) d_Mo_makes_66 ⟨Nat.le_of_ble_eq_true rfl, Nat.le_of_ble_eq_true rfl⟩) (fun r_5 hr_5 => ?_)
      refine lv_if_eq (tgt := 82) hx hb d_Mo_makes_69 (by decide) (fun c_69 => ?_) (fun c_69 => ?_)
      · skip
        have hcn : 65533 = nI (ut_cn x.toInt) := ut_cf (by_z_f hr_5 c_69)
        refine W.ldc (v := 65533) hx hb hown (hg _ kw_833) rfl d_Mo_makes_82 ?_
        refine W.eq (g2 := F0 m 84 ls [.int 65533]) rfl ?_
        refine lv_topi (fun y_6 ey_6 => ?_)
        have ey_6 : y_6 = (nI (ut_cn x.toInt) : Int32) := ey_6.trans (show 65533 = nI (ut_cn x.toInt) from hcn)
        subst ey_6
        refine lv_istore (lv' := [(6, .int (nI (ut_cn x.toInt))), (5, .int 0), (4, .int 1), (0, .ref mo), (1, .int (sb_b v)), (2, .int (nI j)), (3, .int (by_z bp))]) hx hb d_Mo_makes_84 hl (by decide) rfl (fun ls hl => ?_)
        refine lv_iload hx hb d_Mo_makes_86 (lv_at hl 2 rfl) ?_
        refine lv_if_eq (tgt := 148) hx hb d_Mo_makes_88 (by decide) (fun c9 => by first | exact absurd c9 (by decide) | exact absurd (by decide) c9) (fun _ => ?_)
        refine lv_iload_n hx hb d_Mo_makes_91 rfl (lv_at hl 4 rfl) ?_
        have hPc := hP.sub (ws' := []) [] rfl
        have hKc := hK.sub (tys' := []) [] rfl
        refine vp_callSi (W.runS (As := [.int (sb_b v)]) (rest := []) ⟨hx, hb, hml, hown, hg⟩ (c_Mo_baseOf l dC dI v hv) (va_cwS 1 hg (gi_S kw_856 kw_857 kw_9 kw_858) rfl rfl rfl (by decide +kernel) ⟨Nat.le_of_ble_eq_true rfl, Nat.le_of_ble_eq_true rfl⟩) (zz_prJS hPc hKc _) rfl rfl hl.1 rfl (lv_room (Nat.le_of_ble_eq_true rfl)) d_Mo_makes_92 ⟨Nat.le_of_ble_eq_true rfl, Nat.le_of_ble_eq_true rfl⟩) (fun r_7 hr_7 => ?_)
        subst hr_7
        refine lv_if_le (tgt := 148) hx hb d_Mo_makes_95 (by decide) (fun c_95 => ?_) (fun c_95 => ?_)
        · skip
          have f_95 : (mb_v v) ≤ 0 := (nI_leI (b := 0) (by have := mb_l v; omega) (by omega)).mp c_95
          refine lv_iload hx hb d_Mo_makes_148 (lv_at hl 1 rfl) ?_
          refine lv_if_eq (tgt := 220) hx hb d_Mo_makes_150 (by decide) (fun _ => ?_) (fun c9 => by first | exact absurd c9 rfl | exact absurd rfl c9)
          refine lv_iload hx hb d_Mo_makes_220 (lv_at hl 2 rfl) ?_
          refine lv_if_eq (tgt := 240) hx hb d_Mo_makes_222 (by decide) (fun c9 => by first | exact absurd c9 (by decide) | exact absurd (by decide) c9) (fun _ => ?_)
          refine lv_iload_n hx hb d_Mo_makes_225 rfl (lv_at hl 4 rfl) ?_
          refine lv_bipush (v := 99) hx hb d_Mo_makes_226 (by decide) ?_
          refine lv_icmp_ne (tgt := 240) hx hb d_Mo_makes_228 (by decide) (fun c_228 => ?_) (fun c_228 => ?_)
          · skip
            have f_228 : v ≠ 99 := sb_e2 (k := 99) hv (by decide) c_228
            refine lv_iload hx hb d_Mo_makes_240 (lv_at hl 2 rfl) ?_
            refine lv_if_eq (tgt := 274) hx hb d_Mo_makes_242 (by decide) (fun c9 => by first | exact absurd c9 (by decide) | exact absurd (by decide) c9) (fun _ => ?_)
            refine lv_iload_n hx hb d_Mo_makes_245 rfl (lv_at hl 4 rfl) ?_
            refine lv_bipush (v := 113) hx hb d_Mo_makes_246 (by decide) ?_
            refine lv_icmp_ne (tgt := 274) hx hb d_Mo_makes_248 (by decide) (fun c_248 => ?_) (fun c_248 => ?_)
            · skip
              have f_248 : v ≠ 113 := sb_e2 (k := 113) hv (by decide) c_248
              refine lv_iload hx hb d_Mo_makes_274 (lv_at hl 1 rfl) ?_
              refine lv_if_eq (tgt := 293) hx hb d_Mo_makes_276 (by decide) (fun _ => ?_) (fun c9 => by first | exact absurd c9 rfl | exact absurd rfl c9)
              refine lv_iload hx hb d_Mo_makes_293 (lv_at hl 1 rfl) ?_
              refine lv_if_eq (tgt := 326) hx hb d_Mo_makes_295 (by decide) (fun _ => ?_) (fun c9 => by first | exact absurd c9 rfl | exact absurd rfl c9)
              refine lv_iload_n hx hb d_Mo_makes_326 rfl (lv_at hl 4 rfl) ?_
              refine lv_bipush (v := 116) hx hb d_Mo_makes_327 (by decide) ?_
              refine lv_icmp_ne (tgt := 342) hx hb d_Mo_makes_329 (by decide) (fun c_329 => ?_) (fun c_329 => ?_)
              · skip
                have f_329 : v ≠ 116 := sb_e2 (k := 116) hv (by decide) c_329
                refine lv_iload_n hx hb d_Mo_makes_342 rfl (lv_at hl 4 rfl) ?_
                refine lv_bipush (v := 118) hx hb d_Mo_makes_343 (by decide) ?_
                refine lv_icmp_ne (tgt := 356) hx hb d_Mo_makes_345 (by decide) (fun c_345 => ?_) (fun c_345 => ?_)
                · skip
                  have f_345 : v ≠ 118 := sb_e2 (k := 118) hv (by decide) c_345
                  refine lv_iconst (v := 0) hx hb d_Mo_makes_356 (by decide) ?_
                  have hmo : (mk_o v k x B bp) = none := (mk_n0 hkn (by omega) f_228 f_248 f_345)
                  have hP9 := hP.sub (ws' := [(mo, .inr (8, [.int th, .int fd, .ref rt, .int mn, .ref rk, .ref rv, .ref rw, .ref ro, .int md, .ref rr, .int (nI ([] : List Nat).length), .ref ra, .long pz, .int kc, .ref rc, .ref rl, .ref rb, .int la, .int ca])), (ra, .inl (cB, 16400, .inl fa)), (rk, .inl (cI, 16, .inl fk)), (rv, .inl (cL, 16, .inr (.inl fv))), (rw, .inl (cI, 16, .inl fw)), (ro, .inl (cB, 65536, .inl fo))]) [0, 1, 2, 3, 4, 5] rfl
                  have hD9 := hD.sub (ws' := [(mo, .inr (8, [.int th, .int fd, .ref rt, .int mn, .ref rk, .ref rv, .ref rw, .ref ro, .int md, .ref rr, .int (nI ([] : List Nat).length), .ref ra, .long pz, .int kc, .ref rc, .ref rl, .ref rb, .int la, .int ca])), (ra, .inl (cB, 16400, .inl fa)), (rk, .inl (cI, 16, .inl fk)), (rv, .inl (cL, 16, .inr (.inl fv))), (rw, .inl (cI, 16, .inl fw)), (ro, .inl (cB, 65536, .inl fo))]) [0, 1, 2, 3, 4, 5] (by decide) rfl
                  have hK9 := hK.sub (tys' := [(cB, .byte), (cI, .int), (cL, .long)]) [0, 1, 2] rfl
                  rw [show nI ([] : List Nat).length = nI ((mk_o v k x B bp).getD []).length by rw [hmo]; rfl] at hP9 hD9
                  exact zz_zret hx hb hr hlocks d_Mo_makes_357 (by decide) hS (by first | exact Nat.le_refl _ | decide | omega | (dsimp only; omega)) (by first | exact Nat.le_refl _ | decide | omega | (dsimp only; omega)) (fa, la, ca) ⟨by rw [hmo]; rfl, by rw [hmo]; exact by_nil _⟩ hP9 hK9 hD9
                · skip
                  have f_345 : v = 118 := sb_e1 (k := 118) hv (by decide) c_345
                  refine lv_aload_n hx hb d_Mo_makes_348 rfl (lv_at hl 3 rfl) ?_
                  refine lv_iload_n hx hb d_Mo_makes_349 rfl (lv_at hl 5 rfl) ?_
                  have hPc := hP.sub (ws' := [(mo, .inr (8, [.int th, .int fd, .ref rt, .int mn, .ref rk, .ref rv, .ref rw, .ref ro, .int md, .ref rr, .int (nI ([] : List Nat).length), .ref ra, .long pz, .int kc, .ref rc, .ref rl, .ref rb, .int la, .int ca])), (ra, .inl (cB, 16400, .inl fa)), (rk, .inl (cI, 16, .inl fk)), (rv, .inl (cL, 16, .inr (.inl fv))), (rw, .inl (cI, 16, .inl fw)), (ro, .inl (cB, 65536, .inl fo))]) [0, 1, 2, 3, 4, 5] rfl
                  have hKc := hK.sub (tys' := [(cB, .byte), (cI, .int), (cL, .long)]) [0, 1, 2] rfl
                  have hDc := hD.sub (ws' := [(mo, .inr (8, [.int th, .int fd, .ref rt, .int mn, .ref rk, .ref rv, .ref rw, .ref ro, .int md, .ref rr, .int (nI ([] : List Nat).length), .ref ra, .long pz, .int kc, .ref rc, .ref rl, .ref rb, .int la, .int ca])), (ra, .inl (cB, 16400, .inl fa)), (rk, .inl (cI, 16, .inl fk)), (rv, .inl (cL, 16, .inr (.inl fv))), (rw, .inl (cI, 16, .inl fw)), (ro, .inl (cB, 65536, .inl fo))]) [0, 1, 2, 3, 4, 5] (by decide) rfl
                  have hFc := va_free (wc := [(mo, .inr (8, [.int th, .int fd, .ref rt, .int mn, .ref rk, .ref rv, .ref rw, .ref ro, .int md, .ref rr, .int (nI ([] : List Nat).length), .ref ra, .long pz, .int kc, .ref rc, .ref rl, .ref rb, .int la, .int ca])), (ra, .inl (cB, 16400, .inl fa)), (rk, .inl (cI, 16, .inl fk)), (rv, .inl (cL, 16, .inr (.inl fv))), (rw, .inl (cI, 16, .inl fw)), (ro, .inl (cB, 65536, .inl fo))]) hD hS hA [0, 1, 2, 3, 4, 5] rfl
                  refine zz_callv (va_runV (As := [.int (nI j)]) (rest := []) ⟨hx, hb, hml, hown, hg⟩ (c_Mo_plain l dC dI ad mo rt rk rv rw ro rr ra rc rl rb th fd mn md (nI ([] : List Nat).length) pz kc la ca cB fa ([] : List Nat) cI cL fk fv fw fo j k x B (by_nil _) (by (try simp only [List.length_append, List.length_cons, List.length_nil]); omega) hj hok9 hmg s.heap.size) (cwV 1 hg (gi_V kw_908 kw_910 sw_25 kw_9 kw_911) rfl rfl rfl (by decide +kernel) ⟨Nat.le_of_ble_eq_true rfl, Nat.le_of_ble_eq_true rfl⟩) (zy_preV hX hS hFc hPc hKc hDc _ (q0 := 0) (ci := 8) rfl rfl) rfl rfl hl.1 rfl (lv_room (Nat.le_of_ble_eq_true rfl)) d_Mo_makes_350 ⟨Nat.le_of_ble_eq_true rfl, Nat.le_of_ble_eq_true rfl⟩) hS hFc (fun u H1 k9 p9 d9 => va_join (wr := []) hP hD [0, 1, 2, 3, 4, 5] [] rfl rfl (by decide) (by decide) k9 hFc p9 d9) (fun u H locs hw hP hD hK1 hS => ?_)
                  obtain ⟨u_8, rfl⟩ : ∃ z, z = u := ⟨_, rfl⟩
                  try dsimp only at hw
                  have hP : va_P (dC, dI) vwCl [(mo, .inr (8, [.int th, .int fd, .ref rt, .int mn, .ref rk, .ref rv, .ref rw, .ref ro, .int md, .ref rr, .int (nI (([] : List Nat) ++ (mo_p k x B)).length), .ref ra, .long pz, .int kc, .ref rc, .ref rl, .ref rb, .int la, .int ca])), (ra, .inl (cB, 16400, .inl u_8)), (rk, .inl (cI, 16, .inl fk)), (rv, .inl (cL, 16, .inr (.inl fv))), (rw, .inl (cI, 16, .inl fw)), (ro, .inl (cB, 65536, .inl fo))] H := hP
                  have hD : va_D A [(mo, .inr (8, [.int th, .int fd, .ref rt, .int mn, .ref rk, .ref rv, .ref rw, .ref ro, .int md, .ref rr, .int (nI (([] : List Nat) ++ (mo_p k x B)).length), .ref ra, .long pz, .int kc, .ref rc, .ref rl, .ref rb, .int la, .int ca])), (ra, .inl (cB, 16400, .inl u_8)), (rk, .inl (cI, 16, .inl fk)), (rv, .inl (cL, 16, .inr (.inl fv))), (rw, .inl (cI, 16, .inl fw)), (ro, .inl (cB, 65536, .inl fo))] := hD
                  have hL_10 := hw
                  refine lv_goto (tgt := 358) hx hb d_Mo_makes_353 (by decide) ?_
                  refine lv_iconst (v := 1) hx hb d_Mo_makes_358 (by decide) ?_
                  have hmo : (mk_o v k x B bp) = some (([] : List Nat) ++ (mo_p k x B)) := (mk_np hok9 f_345)
                  have hP9 := hP.sub (ws' := [(mo, .inr (8, [.int th, .int fd, .ref rt, .int mn, .ref rk, .ref rv, .ref rw, .ref ro, .int md, .ref rr, .int (nI (([] : List Nat) ++ (mo_p k x B)).length), .ref ra, .long pz, .int kc, .ref rc, .ref rl, .ref rb, .int la, .int ca])), (ra, .inl (cB, 16400, .inl u_8)), (rk, .inl (cI, 16, .inl fk)), (rv, .inl (cL, 16, .inr (.inl fv))), (rw, .inl (cI, 16, .inl fw)), (ro, .inl (cB, 65536, .inl fo))]) [0, 1, 2, 3, 4, 5] rfl
                  have hD9 := hD.sub (ws' := [(mo, .inr (8, [.int th, .int fd, .ref rt, .int mn, .ref rk, .ref rv, .ref rw, .ref ro, .int md, .ref rr, .int (nI (([] : List Nat) ++ (mo_p k x B)).length), .ref ra, .long pz, .int kc, .ref rc, .ref rl, .ref rb, .int la, .int ca])), (ra, .inl (cB, 16400, .inl u_8)), (rk, .inl (cI, 16, .inl fk)), (rv, .inl (cL, 16, .inr (.inl fv))), (rw, .inl (cI, 16, .inl fw)), (ro, .inl (cB, 65536, .inl fo))]) [0, 1, 2, 3, 4, 5] (by decide) rfl
                  have hK9 := hK.sub (tys' := [(cB, .byte), (cI, .int), (cL, .long)]) [0, 1, 2] rfl
                  rw [show nI (([] : List Nat) ++ (mo_p k x B)).length = nI ((mk_o v k x B bp).getD []).length by rw [hmo]; rfl] at hP9 hD9
                  exact zz_zret hx hb hr hlocks d_Mo_makes_359 (by decide) hS (by first | exact Nat.le_refl _ | decide | omega | (dsimp only; omega)) (by first | exact Nat.le_refl _ | decide | omega | (dsimp only; omega)) (u_8, la, ca) ⟨by rw [hmo]; rfl, by rw [hmo]; exact hL_10⟩ hP9 hK9 hD9
              · skip
                have f_329 : v = 116 := sb_e1 (k := 116) hv (by decide) c_329
                refine lv_aload_n hx hb d_Mo_makes_332 rfl (lv_at hl 3 rfl) ?_
                refine va_get (D := (dC, dI)) (ci := 8) (v := .ref rk) (C := "TextForgeModel") (T := TX8) (N := 19) hx hb hg iwX8 hown hK hP 0 rfl rfl 4 (by decide) (hg _ kw_730) (fun _ h9 => h9) rfl d_Mo_makes_333 ?_
                refine lv_iload_n hx hb d_Mo_makes_336 rfl (lv_at hl 5 rfl) ?_
                refine va_iald hx hb hK hP 2 1 rfl rfl (vp_in_nI hj (by decide)) d_Mo_makes_337 ?_
                refine lv_topi (fun y_11 ey_11 => ?_)
                have ey_11 : y_11 = (nI k : Int32) := ey_11.trans (show (fk (nI j).toNatClampNeg) = nI k from (by rw [nI_clamp (show j < 2 ^ 31 by omega)]; exact hk9))
                subst ey_11
                refine lv_iconst (v := 2) hx hb d_Mo_makes_338 (by decide) ?_
                refine lv_icmp_eq (tgt := 348) hx hb d_Mo_makes_339 (by decide) (fun c9 => by first | exact absurd c9 (fun z => by have := nI_e1 (b := 2) z (by omega) (by decide); omega) | exact absurd (fun z => by have := nI_e1 (b := 2) z (by omega) (by decide); omega) c9) (fun _ => ?_)
                refine lv_iload_n hx hb d_Mo_makes_342 rfl (lv_at hl 4 rfl) ?_
                refine lv_bipush (v := 118) hx hb d_Mo_makes_343 (by decide) ?_
                refine lv_icmp_ne (tgt := 356) hx hb d_Mo_makes_345 (by decide) (fun c_345 => ?_) (fun c_345 => ?_)
                · skip
                  have f_345 : v ≠ 118 := sb_e2 (k := 118) hv (by decide) c_345
                  refine lv_iconst (v := 0) hx hb d_Mo_makes_356 (by decide) ?_
                  have hmo : (mk_o v k x B bp) = none := (mk_n0 hkn (by omega) f_228 f_248 f_345)
                  have hP9 := hP.sub (ws' := [(mo, .inr (8, [.int th, .int fd, .ref rt, .int mn, .ref rk, .ref rv, .ref rw, .ref ro, .int md, .ref rr, .int (nI ([] : List Nat).length), .ref ra, .long pz, .int kc, .ref rc, .ref rl, .ref rb, .int la, .int ca])), (ra, .inl (cB, 16400, .inl fa)), (rk, .inl (cI, 16, .inl fk)), (rv, .inl (cL, 16, .inr (.inl fv))), (rw, .inl (cI, 16, .inl fw)), (ro, .inl (cB, 65536, .inl fo))]) [0, 1, 2, 3, 4, 5] rfl
                  have hD9 := hD.sub (ws' := [(mo, .inr (8, [.int th, .int fd, .ref rt, .int mn, .ref rk, .ref rv, .ref rw, .ref ro, .int md, .ref rr, .int (nI ([] : List Nat).length), .ref ra, .long pz, .int kc, .ref rc, .ref rl, .ref rb, .int la, .int ca])), (ra, .inl (cB, 16400, .inl fa)), (rk, .inl (cI, 16, .inl fk)), (rv, .inl (cL, 16, .inr (.inl fv))), (rw, .inl (cI, 16, .inl fw)), (ro, .inl (cB, 65536, .inl fo))]) [0, 1, 2, 3, 4, 5] (by decide) rfl
                  have hK9 := hK.sub (tys' := [(cB, .byte), (cI, .int), (cL, .long)]) [0, 1, 2] rfl
                  rw [show nI ([] : List Nat).length = nI ((mk_o v k x B bp).getD []).length by rw [hmo]; rfl] at hP9 hD9
                  exact zz_zret hx hb hr hlocks d_Mo_makes_357 (by decide) hS (by first | exact Nat.le_refl _ | decide | omega | (dsimp only; omega)) (by first | exact Nat.le_refl _ | decide | omega | (dsimp only; omega)) (fa, la, ca) ⟨by rw [hmo]; rfl, by rw [hmo]; exact by_nil _⟩ hP9 hK9 hD9
                · skip
                  have f_345 : v = 118 := sb_e1 (k := 118) hv (by decide) c_345
                  refine lv_aload_n hx hb d_Mo_makes_348 rfl (lv_at hl 3 rfl) ?_
                  refine lv_iload_n hx hb d_Mo_makes_349 rfl (lv_at hl 5 rfl) ?_
                  have hPc := hP.sub (ws' := [(mo, .inr (8, [.int th, .int fd, .ref rt, .int mn, .ref rk, .ref rv, .ref rw, .ref ro, .int md, .ref rr, .int (nI ([] : List Nat).length), .ref ra, .long pz, .int kc, .ref rc, .ref rl, .ref rb, .int la, .int ca])), (ra, .inl (cB, 16400, .inl fa)), (rk, .inl (cI, 16, .inl fk)), (rv, .inl (cL, 16, .inr (.inl fv))), (rw, .inl (cI, 16, .inl fw)), (ro, .inl (cB, 65536, .inl fo))]) [0, 1, 2, 3, 4, 5] rfl
                  have hKc := hK.sub (tys' := [(cB, .byte), (cI, .int), (cL, .long)]) [0, 1, 2] rfl
                  have hDc := hD.sub (ws' := [(mo, .inr (8, [.int th, .int fd, .ref rt, .int mn, .ref rk, .ref rv, .ref rw, .ref ro, .int md, .ref rr, .int (nI ([] : List Nat).length), .ref ra, .long pz, .int kc, .ref rc, .ref rl, .ref rb, .int la, .int ca])), (ra, .inl (cB, 16400, .inl fa)), (rk, .inl (cI, 16, .inl fk)), (rv, .inl (cL, 16, .inr (.inl fv))), (rw, .inl (cI, 16, .inl fw)), (ro, .inl (cB, 65536, .inl fo))]) [0, 1, 2, 3, 4, 5] (by decide) rfl
                  have hFc := va_free (wc := [(mo, .inr (8, [.int th, .int fd, .ref rt, .int mn, .ref rk, .ref rv, .ref rw, .ref ro, .int md, .ref rr, .int (nI ([] : List Nat).length), .ref ra, .long pz, .int kc, .ref rc, .ref rl, .ref rb, .int la, .int ca])), (ra, .inl (cB, 16400, .inl fa)), (rk, .inl (cI, 16, .inl fk)), (rv, .inl (cL, 16, .inr (.inl fv))), (rw, .inl (cI, 16, .inl fw)), (ro, .inl (cB, 65536, .inl fo))]) hD hS hA [0, 1, 2, 3, 4, 5] rfl
                  refine zz_callv (va_runV (As := [.int (nI j)]) (rest := []) ⟨hx, hb, hml, hown, hg⟩ (c_Mo_plain l dC dI ad mo rt rk rv rw ro rr ra rc rl rb th fd mn md (nI ([] : List Nat).length) pz kc la ca cB fa ([] : List Nat) cI cL fk fv fw fo j k x B (by_nil _) (by (try simp only [List.length_append, List.length_cons, List.length_nil]); omega) hj hok9 hmg s.heap.size) (cwV 1 hg (gi_V kw_908 kw_910 sw_25 kw_9 kw_911) rfl rfl rfl (by decide +kernel) ⟨Nat.le_of_ble_eq_true rfl, Nat.le_of_ble_eq_true rfl⟩) (zy_preV hX hS hFc hPc hKc hDc _ (q0 := 0) (ci := 8) rfl rfl) rfl rfl hl.1 rfl (lv_room (Nat.le_of_ble_eq_true rfl)) d_Mo_makes_350 ⟨Nat.le_of_ble_eq_true rfl, Nat.le_of_ble_eq_true rfl⟩) hS hFc (fun u H1 k9 p9 d9 => va_join (wr := []) hP hD [0, 1, 2, 3, 4, 5] [] rfl rfl (by decide) (by decide) k9 hFc p9 d9) (fun u H locs hw hP hD hK1 hS => ?_)
                  obtain ⟨u_12, rfl⟩ : ∃ z, z = u := ⟨_, rfl⟩
                  try dsimp only at hw
                  have hP : va_P (dC, dI) vwCl [(mo, .inr (8, [.int th, .int fd, .ref rt, .int mn, .ref rk, .ref rv, .ref rw, .ref ro, .int md, .ref rr, .int (nI (([] : List Nat) ++ (mo_p k x B)).length), .ref ra, .long pz, .int kc, .ref rc, .ref rl, .ref rb, .int la, .int ca])), (ra, .inl (cB, 16400, .inl u_12)), (rk, .inl (cI, 16, .inl fk)), (rv, .inl (cL, 16, .inr (.inl fv))), (rw, .inl (cI, 16, .inl fw)), (ro, .inl (cB, 65536, .inl fo))] H := hP
                  have hD : va_D A [(mo, .inr (8, [.int th, .int fd, .ref rt, .int mn, .ref rk, .ref rv, .ref rw, .ref ro, .int md, .ref rr, .int (nI (([] : List Nat) ++ (mo_p k x B)).length), .ref ra, .long pz, .int kc, .ref rc, .ref rl, .ref rb, .int la, .int ca])), (ra, .inl (cB, 16400, .inl u_12)), (rk, .inl (cI, 16, .inl fk)), (rv, .inl (cL, 16, .inr (.inl fv))), (rw, .inl (cI, 16, .inl fw)), (ro, .inl (cB, 65536, .inl fo))] := hD
                  have hL_14 := hw
                  refine lv_goto (tgt := 358) hx hb d_Mo_makes_353 (by decide) ?_
                  refine lv_iconst (v := 1) hx hb d_Mo_makes_358 (by decide) ?_
                  have hmo : (mk_o v k x B bp) = some (([] : List Nat) ++ (mo_p k x B)) := (mk_np hok9 f_345)
                  have hP9 := hP.sub (ws' := [(mo, .inr (8, [.int th, .int fd, .ref rt, .int mn, .ref rk, .ref rv, .ref rw, .ref ro, .int md, .ref rr, .int (nI (([] : List Nat) ++ (mo_p k x B)).length), .ref ra, .long pz, .int kc, .ref rc, .ref rl, .ref rb, .int la, .int ca])), (ra, .inl (cB, 16400, .inl u_12)), (rk, .inl (cI, 16, .inl fk)), (rv, .inl (cL, 16, .inr (.inl fv))), (rw, .inl (cI, 16, .inl fw)), (ro, .inl (cB, 65536, .inl fo))]) [0, 1, 2, 3, 4, 5] rfl
                  have hD9 := hD.sub (ws' := [(mo, .inr (8, [.int th, .int fd, .ref rt, .int mn, .ref rk, .ref rv, .ref rw, .ref ro, .int md, .ref rr, .int (nI (([] : List Nat) ++ (mo_p k x B)).length), .ref ra, .long pz, .int kc, .ref rc, .ref rl, .ref rb, .int la, .int ca])), (ra, .inl (cB, 16400, .inl u_12)), (rk, .inl (cI, 16, .inl fk)), (rv, .inl (cL, 16, .inr (.inl fv))), (rw, .inl (cI, 16, .inl fw)), (ro, .inl (cB, 65536, .inl fo))]) [0, 1, 2, 3, 4, 5] (by decide) rfl
                  have hK9 := hK.sub (tys' := [(cB, .byte), (cI, .int), (cL, .long)]) [0, 1, 2] rfl
                  rw [show nI (([] : List Nat) ++ (mo_p k x B)).length = nI ((mk_o v k x B bp).getD []).length by rw [hmo]; rfl] at hP9 hD9
                  exact zz_zret hx hb hr hlocks d_Mo_makes_359 (by decide) hS (by first | exact Nat.le_refl _ | decide | omega | (dsimp only; omega)) (by first | exact Nat.le_refl _ | decide | omega | (dsimp only; omega)) (u_12, la, ca) ⟨by rw [hmo]; rfl, by rw [hmo]; exact hL_14⟩ hP9 hK9 hD9
            · skip
              have f_248 : v = 113 := sb_e1 (k := 113) hv (by decide) c_248
              refine lv_aload_n hx hb d_Mo_makes_251 rfl (lv_at hl 3 rfl) ?_
              refine lv_bipush (v := 39) hx hb d_Mo_makes_252 (by decide) ?_
              have hPc := hP.sub (ws' := [(mo, .inr (8, [.int th, .int fd, .ref rt, .int mn, .ref rk, .ref rv, .ref rw, .ref ro, .int md, .ref rr, .int (nI ([] : List Nat).length), .ref ra, .long pz, .int kc, .ref rc, .ref rl, .ref rb, .int la, .int ca])), (ra, .inl (cB, 16400, .inl fa))]) [0, 1] rfl
              have hKc := hK.sub (tys' := [(cB, .byte)]) [0] rfl
              have hDc := hD.sub (ws' := [(mo, .inr (8, [.int th, .int fd, .ref rt, .int mn, .ref rk, .ref rv, .ref rw, .ref ro, .int md, .ref rr, .int (nI ([] : List Nat).length), .ref ra, .long pz, .int kc, .ref rc, .ref rl, .ref rb, .int la, .int ca])), (ra, .inl (cB, 16400, .inl fa))]) [0, 1] (by decide) rfl
              have hFc := va_free (wc := [(mo, .inr (8, [.int th, .int fd, .ref rt, .int mn, .ref rk, .ref rv, .ref rw, .ref ro, .int md, .ref rr, .int (nI ([] : List Nat).length), .ref ra, .long pz, .int kc, .ref rc, .ref rl, .ref rb, .int la, .int ca])), (ra, .inl (cB, 16400, .inl fa))]) hD hS hA [0, 1] rfl
              refine zz_callv (va_runV (As := [.int 39]) (rest := []) ⟨hx, hb, hml, hown, hg⟩ (c_Mo_put l dC dI mo rt rk rv rw ro rr ra rc rl rb th fd mn md (nI ([] : List Nat).length) pz kc la ca cB fa ([] : List Nat) 39 (by_nil _) (by (try simp only [List.length_append, List.length_cons, List.length_nil]); omega) s.heap.size) (cwV 1 hg (gi_V kw_863 kw_865 sw_16 kw_9 kw_866) rfl rfl rfl (by decide +kernel) ⟨Nat.le_of_ble_eq_true rfl, Nat.le_of_ble_eq_true rfl⟩) (zz_preV hPc hKc hDc _ (q0 := 0) (ci := 8) rfl rfl) rfl rfl hl.1 rfl (lv_room (Nat.le_of_ble_eq_true rfl)) d_Mo_makes_254 ⟨Nat.le_of_ble_eq_true rfl, Nat.le_of_ble_eq_true rfl⟩) hS hFc (fun u H1 k9 p9 d9 => va_join (wr := [(rk, .inl (cI, 16, .inl fk)), (rv, .inl (cL, 16, .inr (.inl fv))), (rw, .inl (cI, 16, .inl fw)), (ro, .inl (cB, 65536, .inl fo))]) hP hD [0, 1] [2, 3, 4, 5] rfl rfl (by decide) (by decide) k9 hFc p9 d9) (fun u H locs hw hP hD hK1 hS => ?_)
              obtain ⟨u_15, rfl⟩ : ∃ z, z = u := ⟨_, rfl⟩
              try dsimp only at hw
              have hP : va_P (dC, dI) vwCl [(rk, .inl (cI, 16, .inl fk)), (rv, .inl (cL, 16, .inr (.inl fv))), (rw, .inl (cI, 16, .inl fw)), (ro, .inl (cB, 65536, .inl fo)), (mo, .inr (8, [.int th, .int fd, .ref rt, .int mn, .ref rk, .ref rv, .ref rw, .ref ro, .int md, .ref rr, .int (nI (([] : List Nat) ++ [by_b 39]).length), .ref ra, .long pz, .int kc, .ref rc, .ref rl, .ref rb, .int la, .int ca])), (ra, .inl (cB, 16400, .inl u_15))] H := hP
              have hD : va_D A [(rk, .inl (cI, 16, .inl fk)), (rv, .inl (cL, 16, .inr (.inl fv))), (rw, .inl (cI, 16, .inl fw)), (ro, .inl (cB, 65536, .inl fo)), (mo, .inr (8, [.int th, .int fd, .ref rt, .int mn, .ref rk, .ref rv, .ref rw, .ref ro, .int md, .ref rr, .int (nI (([] : List Nat) ++ [by_b 39]).length), .ref ra, .long pz, .int kc, .ref rc, .ref rl, .ref rb, .int la, .int ca])), (ra, .inl (cB, 16400, .inl u_15))] := hD
              have hL_17 := hw
              refine lv_aload_n hx hb d_Mo_makes_257 rfl (lv_at hl 3 rfl) ?_
              refine lv_iload hx hb d_Mo_makes_258 (lv_at hl 0 rfl) ?_
              refine lv_bipush (v := 39) hx hb d_Mo_makes_260 (by decide) ?_
              have hPc := hP.sub (ws' := [(mo, .inr (8, [.int th, .int fd, .ref rt, .int mn, .ref rk, .ref rv, .ref rw, .ref ro, .int md, .ref rr, .int (nI (([] : List Nat) ++ [by_b 39]).length), .ref ra, .long pz, .int kc, .ref rc, .ref rl, .ref rb, .int la, .int ca])), (ra, .inl (cB, 16400, .inl u_15))]) [4, 5] rfl
              have hKc := hK.sub (tys' := [(cB, .byte)]) [0] rfl
              have hDc := hD.sub (ws' := [(mo, .inr (8, [.int th, .int fd, .ref rt, .int mn, .ref rk, .ref rv, .ref rw, .ref ro, .int md, .ref rr, .int (nI (([] : List Nat) ++ [by_b 39]).length), .ref ra, .long pz, .int kc, .ref rc, .ref rl, .ref rb, .int la, .int ca])), (ra, .inl (cB, 16400, .inl u_15))]) [4, 5] (by decide) rfl
              have hFc := va_free (wc := [(mo, .inr (8, [.int th, .int fd, .ref rt, .int mn, .ref rk, .ref rv, .ref rw, .ref ro, .int md, .ref rr, .int (nI (([] : List Nat) ++ [by_b 39]).length), .ref ra, .long pz, .int kc, .ref rc, .ref rl, .ref rb, .int la, .int ca])), (ra, .inl (cB, 16400, .inl u_15))]) hD hS hA [4, 5] rfl
              refine zz_callv (va_runV (As := [.int (nI (ut_cn x.toInt)), .int 39]) (rest := []) ⟨hx, hb, hml, hown, hg⟩ (c_Mo_quoted l dC dI ad mo rt rk rv rw ro rr ra rc rl rb th fd mn md (nI (([] : List Nat) ++ [by_b 39]).length) pz kc la ca cB u_15 (([] : List Nat) ++ [by_b 39]) (ut_cn x.toInt) 39 hL_17 (by (try simp only [List.length_append, List.length_cons, List.length_nil]); omega) (pp_cn _) (by decide) H.size) (cwV 2 hg (gi_V kw_894 kw_896 sw_22 kw_9 kw_897) rfl rfl rfl (by decide +kernel) ⟨Nat.le_of_ble_eq_true rfl, Nat.le_of_ble_eq_true rfl⟩) (zy_preV hX hS hFc hPc hKc hDc _ (q0 := 0) (ci := 8) rfl rfl) rfl rfl hl.1 rfl (lv_room (Nat.le_of_ble_eq_true rfl)) d_Mo_makes_262 ⟨Nat.le_of_ble_eq_true rfl, Nat.le_of_ble_eq_true rfl⟩) hS hFc (fun u H1 k9 p9 d9 => va_join (wr := [(rk, .inl (cI, 16, .inl fk)), (rv, .inl (cL, 16, .inr (.inl fv))), (rw, .inl (cI, 16, .inl fw)), (ro, .inl (cB, 65536, .inl fo))]) hP hD [4, 5] [0, 1, 2, 3] rfl rfl (by decide) (by decide) k9 hFc p9 d9) (fun u H locs hw hP hD hK1 hS => ?_)
              obtain ⟨u_18, rfl⟩ : ∃ z, z = u := ⟨_, rfl⟩
              try dsimp only at hw
              have hP : va_P (dC, dI) vwCl [(rk, .inl (cI, 16, .inl fk)), (rv, .inl (cL, 16, .inr (.inl fv))), (rw, .inl (cI, 16, .inl fw)), (ro, .inl (cB, 65536, .inl fo)), (mo, .inr (8, [.int th, .int fd, .ref rt, .int mn, .ref rk, .ref rv, .ref rw, .ref ro, .int md, .ref rr, .int (nI ((([] : List Nat) ++ [by_b 39]) ++ (mq 39 (ut_cn x.toInt))).length), .ref ra, .long pz, .int kc, .ref rc, .ref rl, .ref rb, .int la, .int ca])), (ra, .inl (cB, 16400, .inl u_18))] H := hP
              have hD : va_D A [(rk, .inl (cI, 16, .inl fk)), (rv, .inl (cL, 16, .inr (.inl fv))), (rw, .inl (cI, 16, .inl fw)), (ro, .inl (cB, 65536, .inl fo)), (mo, .inr (8, [.int th, .int fd, .ref rt, .int mn, .ref rk, .ref rv, .ref rw, .ref ro, .int md, .ref rr, .int (nI ((([] : List Nat) ++ [by_b 39]) ++ (mq 39 (ut_cn x.toInt))).length), .ref ra, .long pz, .int kc, .ref rc, .ref rl, .ref rb, .int la, .int ca])), (ra, .inl (cB, 16400, .inl u_18))] := hD
              have hL_20 := hw
              have hq4 := mq_len 39 (ut_cn x.toInt)
              refine lv_aload_n hx hb d_Mo_makes_265 rfl (lv_at hl 3 rfl) ?_
              refine lv_bipush (v := 39) hx hb d_Mo_makes_266 (by decide) ?_
              have hPc := hP.sub (ws' := [(mo, .inr (8, [.int th, .int fd, .ref rt, .int mn, .ref rk, .ref rv, .ref rw, .ref ro, .int md, .ref rr, .int (nI ((([] : List Nat) ++ [by_b 39]) ++ (mq 39 (ut_cn x.toInt))).length), .ref ra, .long pz, .int kc, .ref rc, .ref rl, .ref rb, .int la, .int ca])), (ra, .inl (cB, 16400, .inl u_18))]) [4, 5] rfl
              have hKc := hK.sub (tys' := [(cB, .byte)]) [0] rfl
              have hDc := hD.sub (ws' := [(mo, .inr (8, [.int th, .int fd, .ref rt, .int mn, .ref rk, .ref rv, .ref rw, .ref ro, .int md, .ref rr, .int (nI ((([] : List Nat) ++ [by_b 39]) ++ (mq 39 (ut_cn x.toInt))).length), .ref ra, .long pz, .int kc, .ref rc, .ref rl, .ref rb, .int la, .int ca])), (ra, .inl (cB, 16400, .inl u_18))]) [4, 5] (by decide) rfl
              have hFc := va_free (wc := [(mo, .inr (8, [.int th, .int fd, .ref rt, .int mn, .ref rk, .ref rv, .ref rw, .ref ro, .int md, .ref rr, .int (nI ((([] : List Nat) ++ [by_b 39]) ++ (mq 39 (ut_cn x.toInt))).length), .ref ra, .long pz, .int kc, .ref rc, .ref rl, .ref rb, .int la, .int ca])), (ra, .inl (cB, 16400, .inl u_18))]) hD hS hA [4, 5] rfl
              refine zz_callv (va_runV (As := [.int 39]) (rest := []) ⟨hx, hb, hml, hown, hg⟩ (c_Mo_put l dC dI mo rt rk rv rw ro rr ra rc rl rb th fd mn md (nI ((([] : List Nat) ++ [by_b 39]) ++ (mq 39 (ut_cn x.toInt))).length) pz kc la ca cB u_18 ((([] : List Nat) ++ [by_b 39]) ++ (mq 39 (ut_cn x.toInt))) 39 hL_20 (by (try simp only [List.length_append, List.length_cons, List.length_nil]); omega) H.size) (cwV 1 hg (gi_V kw_863 kw_865 sw_16 kw_9 kw_866) rfl rfl rfl (by decide +kernel) ⟨Nat.le_of_ble_eq_true rfl, Nat.le_of_ble_eq_true rfl⟩) (zz_preV hPc hKc hDc _ (q0 := 0) (ci := 8) rfl rfl) rfl rfl hl.1 rfl (lv_room (Nat.le_of_ble_eq_true rfl)) d_Mo_makes_268 ⟨Nat.le_of_ble_eq_true rfl, Nat.le_of_ble_eq_true rfl⟩) hS hFc (fun u H1 k9 p9 d9 => va_join (wr := [(rk, .inl (cI, 16, .inl fk)), (rv, .inl (cL, 16, .inr (.inl fv))), (rw, .inl (cI, 16, .inl fw)), (ro, .inl (cB, 65536, .inl fo))]) hP hD [4, 5] [0, 1, 2, 3] rfl rfl (by decide) (by decide) k9 hFc p9 d9) (fun u H locs hw hP hD hK1 hS => ?_)
              obtain ⟨u_21, rfl⟩ : ∃ z, z = u := ⟨_, rfl⟩
              try dsimp only at hw
              have hP : va_P (dC, dI) vwCl [(rk, .inl (cI, 16, .inl fk)), (rv, .inl (cL, 16, .inr (.inl fv))), (rw, .inl (cI, 16, .inl fw)), (ro, .inl (cB, 65536, .inl fo)), (mo, .inr (8, [.int th, .int fd, .ref rt, .int mn, .ref rk, .ref rv, .ref rw, .ref ro, .int md, .ref rr, .int (nI (((([] : List Nat) ++ [by_b 39]) ++ (mq 39 (ut_cn x.toInt))) ++ [by_b 39]).length), .ref ra, .long pz, .int kc, .ref rc, .ref rl, .ref rb, .int la, .int ca])), (ra, .inl (cB, 16400, .inl u_21))] H := hP
              have hD : va_D A [(rk, .inl (cI, 16, .inl fk)), (rv, .inl (cL, 16, .inr (.inl fv))), (rw, .inl (cI, 16, .inl fw)), (ro, .inl (cB, 65536, .inl fo)), (mo, .inr (8, [.int th, .int fd, .ref rt, .int mn, .ref rk, .ref rv, .ref rw, .ref ro, .int md, .ref rr, .int (nI (((([] : List Nat) ++ [by_b 39]) ++ (mq 39 (ut_cn x.toInt))) ++ [by_b 39]).length), .ref ra, .long pz, .int kc, .ref rc, .ref rl, .ref rb, .int la, .int ca])), (ra, .inl (cB, 16400, .inl u_21))] := hD
              have hL_23 := hw
              refine lv_goto (tgt := 358) hx hb d_Mo_makes_271 (by decide) ?_
              refine lv_iconst (v := 1) hx hb d_Mo_makes_358 (by decide) ?_
              have hmo : (mk_o v k x B bp) = some (((([] : List Nat) ++ [by_b 39]) ++ (mq 39 (ut_cn x.toInt))) ++ [by_b 39]) := (mk_nq hkn f_248)
              have hP9 := hP.sub (ws' := [(mo, .inr (8, [.int th, .int fd, .ref rt, .int mn, .ref rk, .ref rv, .ref rw, .ref ro, .int md, .ref rr, .int (nI (((([] : List Nat) ++ [by_b 39]) ++ (mq 39 (ut_cn x.toInt))) ++ [by_b 39]).length), .ref ra, .long pz, .int kc, .ref rc, .ref rl, .ref rb, .int la, .int ca])), (ra, .inl (cB, 16400, .inl u_21)), (rk, .inl (cI, 16, .inl fk)), (rv, .inl (cL, 16, .inr (.inl fv))), (rw, .inl (cI, 16, .inl fw)), (ro, .inl (cB, 65536, .inl fo))]) [4, 5, 0, 1, 2, 3] rfl
              have hD9 := hD.sub (ws' := [(mo, .inr (8, [.int th, .int fd, .ref rt, .int mn, .ref rk, .ref rv, .ref rw, .ref ro, .int md, .ref rr, .int (nI (((([] : List Nat) ++ [by_b 39]) ++ (mq 39 (ut_cn x.toInt))) ++ [by_b 39]).length), .ref ra, .long pz, .int kc, .ref rc, .ref rl, .ref rb, .int la, .int ca])), (ra, .inl (cB, 16400, .inl u_21)), (rk, .inl (cI, 16, .inl fk)), (rv, .inl (cL, 16, .inr (.inl fv))), (rw, .inl (cI, 16, .inl fw)), (ro, .inl (cB, 65536, .inl fo))]) [4, 5, 0, 1, 2, 3] (by decide) rfl
              have hK9 := hK.sub (tys' := [(cB, .byte), (cI, .int), (cL, .long)]) [0, 1, 2] rfl
              rw [show nI (((([] : List Nat) ++ [by_b 39]) ++ (mq 39 (ut_cn x.toInt))) ++ [by_b 39]).length = nI ((mk_o v k x B bp).getD []).length by rw [hmo]; rfl] at hP9 hD9
              exact zz_zret hx hb hr hlocks d_Mo_makes_359 (by decide) hS (by first | exact Nat.le_refl _ | decide | omega | (dsimp only; omega)) (by first | exact Nat.le_refl _ | decide | omega | (dsimp only; omega)) (u_21, la, ca) ⟨by rw [hmo]; rfl, by rw [hmo]; exact hL_23⟩ hP9 hK9 hD9
          · skip
            have f_228 : v = 99 := sb_e1 (k := 99) hv (by decide) c_228
            refine lv_aload_n hx hb d_Mo_makes_231 rfl (lv_at hl 3 rfl) ?_
            refine lv_iload hx hb d_Mo_makes_232 (lv_at hl 0 rfl) ?_
            have hPc := hP.sub (ws' := [(mo, .inr (8, [.int th, .int fd, .ref rt, .int mn, .ref rk, .ref rv, .ref rw, .ref ro, .int md, .ref rr, .int (nI ([] : List Nat).length), .ref ra, .long pz, .int kc, .ref rc, .ref rl, .ref rb, .int la, .int ca])), (ra, .inl (cB, 16400, .inl fa))]) [0, 1] rfl
            have hKc := hK.sub (tys' := [(cB, .byte)]) [0] rfl
            have hDc := hD.sub (ws' := [(mo, .inr (8, [.int th, .int fd, .ref rt, .int mn, .ref rk, .ref rv, .ref rw, .ref ro, .int md, .ref rr, .int (nI ([] : List Nat).length), .ref ra, .long pz, .int kc, .ref rc, .ref rl, .ref rb, .int la, .int ca])), (ra, .inl (cB, 16400, .inl fa))]) [0, 1] (by decide) rfl
            have hFc := va_free (wc := [(mo, .inr (8, [.int th, .int fd, .ref rt, .int mn, .ref rk, .ref rv, .ref rw, .ref ro, .int md, .ref rr, .int (nI ([] : List Nat).length), .ref ra, .long pz, .int kc, .ref rc, .ref rl, .ref rb, .int la, .int ca])), (ra, .inl (cB, 16400, .inl fa))]) hD hS hA [0, 1] rfl
            refine zz_callv (va_runV (As := [.int (nI (ut_cn x.toInt))]) (rest := []) ⟨hx, hb, hml, hown, hg⟩ (c_Mo_utf l dC dI mo rt rk rv rw ro rr ra rc rl rb th fd mn md (nI ([] : List Nat).length) pz kc la ca cB fa ([] : List Nat) (ut_cn x.toInt) (by_nil _) (by (try simp only [List.length_append, List.length_cons, List.length_nil]); omega) (pp_cn _) s.heap.size) (cwV 1 hg (gi_V kw_890 kw_892 sw_21 kw_9 kw_893) rfl rfl rfl (by decide +kernel) ⟨Nat.le_of_ble_eq_true rfl, Nat.le_of_ble_eq_true rfl⟩) (zz_preV hPc hKc hDc _ (q0 := 0) (ci := 8) rfl rfl) rfl rfl hl.1 rfl (lv_room (Nat.le_of_ble_eq_true rfl)) d_Mo_makes_234 ⟨Nat.le_of_ble_eq_true rfl, Nat.le_of_ble_eq_true rfl⟩) hS hFc (fun u H1 k9 p9 d9 => va_join (wr := [(rk, .inl (cI, 16, .inl fk)), (rv, .inl (cL, 16, .inr (.inl fv))), (rw, .inl (cI, 16, .inl fw)), (ro, .inl (cB, 65536, .inl fo))]) hP hD [0, 1] [2, 3, 4, 5] rfl rfl (by decide) (by decide) k9 hFc p9 d9) (fun u H locs hw hP hD hK1 hS => ?_)
            obtain ⟨u_24, rfl⟩ : ∃ z, z = u := ⟨_, rfl⟩
            try dsimp only at hw
            have hP : va_P (dC, dI) vwCl [(rk, .inl (cI, 16, .inl fk)), (rv, .inl (cL, 16, .inr (.inl fv))), (rw, .inl (cI, 16, .inl fw)), (ro, .inl (cB, 65536, .inl fo)), (mo, .inr (8, [.int th, .int fd, .ref rt, .int mn, .ref rk, .ref rv, .ref rw, .ref ro, .int md, .ref rr, .int (nI (([] : List Nat) ++ (ut_8 (ut_cn x.toInt))).length), .ref ra, .long pz, .int kc, .ref rc, .ref rl, .ref rb, .int la, .int ca])), (ra, .inl (cB, 16400, .inl u_24))] H := hP
            have hD : va_D A [(rk, .inl (cI, 16, .inl fk)), (rv, .inl (cL, 16, .inr (.inl fv))), (rw, .inl (cI, 16, .inl fw)), (ro, .inl (cB, 65536, .inl fo)), (mo, .inr (8, [.int th, .int fd, .ref rt, .int mn, .ref rk, .ref rv, .ref rw, .ref ro, .int md, .ref rr, .int (nI (([] : List Nat) ++ (ut_8 (ut_cn x.toInt))).length), .ref ra, .long pz, .int kc, .ref rc, .ref rl, .ref rb, .int la, .int ca])), (ra, .inl (cB, 16400, .inl u_24))] := hD
            have hL_26 := hw
            refine lv_goto (tgt := 358) hx hb d_Mo_makes_237 (by decide) ?_
            refine lv_iconst (v := 1) hx hb d_Mo_makes_358 (by decide) ?_
            have hmo : (mk_o v k x B bp) = some (([] : List Nat) ++ (ut_8 (ut_cn x.toInt))) := (mk_nc hkn f_228)
            have hP9 := hP.sub (ws' := [(mo, .inr (8, [.int th, .int fd, .ref rt, .int mn, .ref rk, .ref rv, .ref rw, .ref ro, .int md, .ref rr, .int (nI (([] : List Nat) ++ (ut_8 (ut_cn x.toInt))).length), .ref ra, .long pz, .int kc, .ref rc, .ref rl, .ref rb, .int la, .int ca])), (ra, .inl (cB, 16400, .inl u_24)), (rk, .inl (cI, 16, .inl fk)), (rv, .inl (cL, 16, .inr (.inl fv))), (rw, .inl (cI, 16, .inl fw)), (ro, .inl (cB, 65536, .inl fo))]) [4, 5, 0, 1, 2, 3] rfl
            have hD9 := hD.sub (ws' := [(mo, .inr (8, [.int th, .int fd, .ref rt, .int mn, .ref rk, .ref rv, .ref rw, .ref ro, .int md, .ref rr, .int (nI (([] : List Nat) ++ (ut_8 (ut_cn x.toInt))).length), .ref ra, .long pz, .int kc, .ref rc, .ref rl, .ref rb, .int la, .int ca])), (ra, .inl (cB, 16400, .inl u_24)), (rk, .inl (cI, 16, .inl fk)), (rv, .inl (cL, 16, .inr (.inl fv))), (rw, .inl (cI, 16, .inl fw)), (ro, .inl (cB, 65536, .inl fo))]) [4, 5, 0, 1, 2, 3] (by decide) rfl
            have hK9 := hK.sub (tys' := [(cB, .byte), (cI, .int), (cL, .long)]) [0, 1, 2] rfl
            rw [show nI (([] : List Nat) ++ (ut_8 (ut_cn x.toInt))).length = nI ((mk_o v k x B bp).getD []).length by rw [hmo]; rfl] at hP9 hD9
            exact zz_zret hx hb hr hlocks d_Mo_makes_359 (by decide) hS (by first | exact Nat.le_refl _ | decide | omega | (dsimp only; omega)) (by first | exact Nat.le_refl _ | decide | omega | (dsimp only; omega)) (u_24, la, ca) ⟨by rw [hmo]; rfl, by rw [hmo]; exact hL_26⟩ hP9 hK9 hD9
        · skip
          have f_95 : 0 < (mb_v v) := Nat.lt_of_not_le (fun z => c_95 (nI_le (b := 0) z (by omega)))
          refine lv_aload_n hx hb d_Mo_makes_98 rfl (lv_at hl 3 rfl) ?_
          refine lv_iload_n hx hb d_Mo_makes_99 rfl (lv_at hl 5 rfl) ?_
          have hPc := hP.sub (ws' := [(mo, .inr (8, [.int th, .int fd, .ref rt, .int mn, .ref rk, .ref rv, .ref rw, .ref ro, .int md, .ref rr, .int (nI ([] : List Nat).length), .ref ra, .long pz, .int kc, .ref rc, .ref rl, .ref rb, .int la, .int ca])), (rk, .inl (cI, 16, .inl fk)), (rv, .inl (cL, 16, .inr (.inl fv)))]) [0, 2, 3] rfl
          have hKc := hK.sub (tys' := [(cI, .int), (cL, .long)]) [1, 2] rfl
          refine vp_callSi (W.runV (As := [.int (nI j)]) (rest := []) ⟨hx, hb, hml, hown, hg⟩ (c_Mo_isBelow l dC dI mo rt rk rv rw ro rr ra rc rl rb th fd mn md (nI ([] : List Nat).length) pz kc la ca cI cL fk fv j hj) (cwV 1 hg (gi_V kw_859 kw_861 sw_15 kw_9 kw_862) rfl rfl rfl (by decide +kernel) ⟨Nat.le_of_ble_eq_true rfl, Nat.le_of_ble_eq_true rfl⟩) (zz_prJV hPc hKc _ (q0 := 0) (ci := 8) rfl rfl) rfl rfl hl.1 rfl (lv_room (Nat.le_of_ble_eq_true rfl)) d_Mo_makes_100 ⟨Nat.le_of_ble_eq_true rfl, Nat.le_of_ble_eq_true rfl⟩) (fun r_27 hr_27 => ?_)
          rw [hk9, hmg.2.1] at hr_27
          refine lv_if_eq (tgt := 115) hx hb d_Mo_makes_103 (by decide) (fun c_103 => ?_) (fun c_103 => ?_)
          · skip
            have hbb : ar_b (nI k) x = false := by_z_f hr_27 c_103
            refine lv_iload_n hx hb d_Mo_makes_115 rfl (lv_at hl 6 rfl) ?_
            refine lv_if_eq (tgt := 125) hx hb d_Mo_makes_116 (by decide) (fun c_116 => ?_) (fun c_116 => ?_)
            · skip
              have hbq : bp = false := by_z_f rfl c_116
              refine lv_aload_n hx hb d_Mo_makes_125 rfl (lv_at hl 3 rfl) ?_
              refine lv_iload_n hx hb d_Mo_makes_126 rfl (lv_at hl 5 rfl) ?_
              refine lv_iload_n hx hb d_Mo_makes_127 rfl (lv_at hl 4 rfl) ?_
              have hPc := hP.sub (ws' := []) [] rfl
              have hKc := hK.sub (tys' := []) [] rfl
              refine vp_callSi (W.runS (As := [.int (sb_b v)]) (rest := [.int (nI j), .ref mo]) ⟨hx, hb, hml, hown, hg⟩ (c_Mo_baseOf l dC dI v hv) (va_cwS 1 hg (gi_S kw_856 kw_857 kw_9 kw_858) rfl rfl rfl (by decide +kernel) ⟨Nat.le_of_ble_eq_true rfl, Nat.le_of_ble_eq_true rfl⟩) (zz_prJS hPc hKc _) rfl rfl hl.1 rfl (lv_room (Nat.le_of_ble_eq_true rfl)) d_Mo_makes_128 ⟨Nat.le_of_ble_eq_true rfl, Nat.le_of_ble_eq_true rfl⟩) (fun r_28 hr_28 => ?_)
              subst hr_28
              refine lv_iload_n hx hb d_Mo_makes_131 rfl (lv_at hl 4 rfl) ?_
              refine lv_bipush (v := 88) hx hb d_Mo_makes_132 (by decide) ?_
              refine lv_icmp_ne (tgt := 141) hx hb d_Mo_makes_134 (by decide) (fun c_134 => ?_) (fun c_134 => ?_)
              · skip
                have f_134 : v ≠ 88 := sb_e2 (k := 88) hv (by decide) c_134
                refine lv_iconst (v := 0) hx hb d_Mo_makes_141 (by decide) ?_
                refine lv_topi (fun y_29 ey_29 => ?_)
                have ey_29 : y_29 = (by_z (decide (v = 88)) : Int32) := ey_29.trans (show 0 = by_z (decide (v = 88)) from (by rw [decide_eq_false f_134]; rfl))
                subst ey_29
                have hPc := hP.sub (ws' := [(mo, .inr (8, [.int th, .int fd, .ref rt, .int mn, .ref rk, .ref rv, .ref rw, .ref ro, .int md, .ref rr, .int (nI ([] : List Nat).length), .ref ra, .long pz, .int kc, .ref rc, .ref rl, .ref rb, .int la, .int ca])), (ra, .inl (cB, 16400, .inl fa)), (rk, .inl (cI, 16, .inl fk)), (rv, .inl (cL, 16, .inr (.inl fv)))]) [0, 1, 2, 3] rfl
                have hKc := hK.sub (tys' := [(cB, .byte), (cI, .int), (cL, .long)]) [0, 1, 2] rfl
                have hDc := hD.sub (ws' := [(mo, .inr (8, [.int th, .int fd, .ref rt, .int mn, .ref rk, .ref rv, .ref rw, .ref ro, .int md, .ref rr, .int (nI ([] : List Nat).length), .ref ra, .long pz, .int kc, .ref rc, .ref rl, .ref rb, .int la, .int ca])), (ra, .inl (cB, 16400, .inl fa)), (rk, .inl (cI, 16, .inl fk)), (rv, .inl (cL, 16, .inr (.inl fv)))]) [0, 1, 2, 3] (by decide) rfl
                have hFc := va_free (wc := [(mo, .inr (8, [.int th, .int fd, .ref rt, .int mn, .ref rk, .ref rv, .ref rw, .ref ro, .int md, .ref rr, .int (nI ([] : List Nat).length), .ref ra, .long pz, .int kc, .ref rc, .ref rl, .ref rb, .int la, .int ca])), (ra, .inl (cB, 16400, .inl fa)), (rk, .inl (cI, 16, .inl fk)), (rv, .inl (cL, 16, .inr (.inl fv)))]) hD hS hA [0, 1, 2, 3] rfl
                refine zz_callv (va_runV (As := [.int (nI j), .int (nI (mb_v v)), .int (by_z (decide (v = 88)))]) (rest := []) ⟨hx, hb, hml, hown, hg⟩ (c_Mo_sized l dC dI mo rt rk rv rw ro rr ra rc rl rb th fd mn md (nI ([] : List Nat).length) pz kc la ca cB fa ([] : List Nat) cI cL fk fv j (mb_v v) (decide (v = 88)) (by_nil _) (by (try simp only [List.length_append, List.length_cons, List.length_nil]); omega) hj (mb_s (n := 0) (by omega)).2.2.2.2.1 (mb_s (n := 0) (by omega)).2.2.2.2.2 s.heap.size) (cwV 3 hg (gi_V kw_867 kw_869 sw_17 kw_9 kw_870) rfl rfl rfl (by decide +kernel) ⟨Nat.le_of_ble_eq_true rfl, Nat.le_of_ble_eq_true rfl⟩) (zz_preV hPc hKc hDc _ (q0 := 0) (ci := 8) rfl rfl) rfl rfl hl.1 rfl (lv_room (Nat.le_of_ble_eq_true rfl)) d_Mo_makes_142 ⟨Nat.le_of_ble_eq_true rfl, Nat.le_of_ble_eq_true rfl⟩) hS hFc (fun u H1 k9 p9 d9 => va_join (wr := [(rw, .inl (cI, 16, .inl fw)), (ro, .inl (cB, 65536, .inl fo))]) hP hD [0, 1, 2, 3] [4, 5] rfl rfl (by decide) (by decide) k9 hFc p9 d9) (fun u H locs hw hP hD hK1 hS => ?_)
                obtain ⟨u_30, rfl⟩ : ∃ z, z = u := ⟨_, rfl⟩
                try dsimp only at hw
                have hP : va_P (dC, dI) vwCl [(rw, .inl (cI, 16, .inl fw)), (ro, .inl (cB, 65536, .inl fo)), (mo, .inr (8, [.int th, .int fd, .ref rt, .int mn, .ref rk, .ref rv, .ref rw, .ref ro, .int md, .ref rr, .int (nI (([] : List Nat) ++ (nu_f (mb_v v) (dg_t (decide (v = 88))) 64 (ar_m (fk j) (fv j))).reverse).length), .ref ra, .long pz, .int kc, .ref rc, .ref rl, .ref rb, .int la, .int ca])), (ra, .inl (cB, 16400, .inl u_30)), (rk, .inl (cI, 16, .inl fk)), (rv, .inl (cL, 16, .inr (.inl fv)))] H := hP
                have hD : va_D A [(rw, .inl (cI, 16, .inl fw)), (ro, .inl (cB, 65536, .inl fo)), (mo, .inr (8, [.int th, .int fd, .ref rt, .int mn, .ref rk, .ref rv, .ref rw, .ref ro, .int md, .ref rr, .int (nI (([] : List Nat) ++ (nu_f (mb_v v) (dg_t (decide (v = 88))) 64 (ar_m (fk j) (fv j))).reverse).length), .ref ra, .long pz, .int kc, .ref rc, .ref rl, .ref rb, .int la, .int ca])), (ra, .inl (cB, 16400, .inl u_30)), (rk, .inl (cI, 16, .inl fk)), (rv, .inl (cL, 16, .inr (.inl fv)))] := hD
                have hL_32 := hw
                refine lv_goto (tgt := 358) hx hb d_Mo_makes_145 (by decide) ?_
                refine lv_iconst (v := 1) hx hb d_Mo_makes_358 (by decide) ?_
                have hmo : (mk_o v k x B bp) = some (([] : List Nat) ++ (nu_f (mb_v v) (dg_t (decide (v = 88))) 64 (ar_m (fk j) (fv j))).reverse) := (by rw [hk9, hmg.2.1]; exact mk_b3 hkn (by omega) hbb hbq)
                have hP9 := hP.sub (ws' := [(mo, .inr (8, [.int th, .int fd, .ref rt, .int mn, .ref rk, .ref rv, .ref rw, .ref ro, .int md, .ref rr, .int (nI (([] : List Nat) ++ (nu_f (mb_v v) (dg_t (decide (v = 88))) 64 (ar_m (fk j) (fv j))).reverse).length), .ref ra, .long pz, .int kc, .ref rc, .ref rl, .ref rb, .int la, .int ca])), (ra, .inl (cB, 16400, .inl u_30)), (rk, .inl (cI, 16, .inl fk)), (rv, .inl (cL, 16, .inr (.inl fv))), (rw, .inl (cI, 16, .inl fw)), (ro, .inl (cB, 65536, .inl fo))]) [2, 3, 4, 5, 0, 1] rfl
                have hD9 := hD.sub (ws' := [(mo, .inr (8, [.int th, .int fd, .ref rt, .int mn, .ref rk, .ref rv, .ref rw, .ref ro, .int md, .ref rr, .int (nI (([] : List Nat) ++ (nu_f (mb_v v) (dg_t (decide (v = 88))) 64 (ar_m (fk j) (fv j))).reverse).length), .ref ra, .long pz, .int kc, .ref rc, .ref rl, .ref rb, .int la, .int ca])), (ra, .inl (cB, 16400, .inl u_30)), (rk, .inl (cI, 16, .inl fk)), (rv, .inl (cL, 16, .inr (.inl fv))), (rw, .inl (cI, 16, .inl fw)), (ro, .inl (cB, 65536, .inl fo))]) [2, 3, 4, 5, 0, 1] (by decide) rfl
                have hK9 := hK.sub (tys' := [(cB, .byte), (cI, .int), (cL, .long)]) [0, 1, 2] rfl
                rw [show nI (([] : List Nat) ++ (nu_f (mb_v v) (dg_t (decide (v = 88))) 64 (ar_m (fk j) (fv j))).reverse).length = nI ((mk_o v k x B bp).getD []).length by rw [hmo]; rfl] at hP9 hD9
                exact zz_zret hx hb hr hlocks d_Mo_makes_359 (by decide) hS (by first | exact Nat.le_refl _ | decide | omega | (dsimp only; omega)) (by first | exact Nat.le_refl _ | decide | omega | (dsimp only; omega)) (u_30, la, ca) ⟨by rw [hmo]; rfl, by rw [hmo]; exact hL_32⟩ hP9 hK9 hD9
              · skip
                have f_134 : v = 88 := sb_e1 (k := 88) hv (by decide) c_134
                refine lv_iconst (v := 1) hx hb d_Mo_makes_137 (by decide) ?_
                refine lv_goto (tgt := 142) hx hb d_Mo_makes_138 (by decide) ?_
                refine lv_topi (fun y_33 ey_33 => ?_)
                have ey_33 : y_33 = (by_z (decide (v = 88)) : Int32) := ey_33.trans (show 1 = by_z (decide (v = 88)) from (by rw [decide_eq_true f_134]; rfl))
                subst ey_33
                have hPc := hP.sub (ws' := [(mo, .inr (8, [.int th, .int fd, .ref rt, .int mn, .ref rk, .ref rv, .ref rw, .ref ro, .int md, .ref rr, .int (nI ([] : List Nat).length), .ref ra, .long pz, .int kc, .ref rc, .ref rl, .ref rb, .int la, .int ca])), (ra, .inl (cB, 16400, .inl fa)), (rk, .inl (cI, 16, .inl fk)), (rv, .inl (cL, 16, .inr (.inl fv)))]) [0, 1, 2, 3] rfl
                have hKc := hK.sub (tys' := [(cB, .byte), (cI, .int), (cL, .long)]) [0, 1, 2] rfl
                have hDc := hD.sub (ws' := [(mo, .inr (8, [.int th, .int fd, .ref rt, .int mn, .ref rk, .ref rv, .ref rw, .ref ro, .int md, .ref rr, .int (nI ([] : List Nat).length), .ref ra, .long pz, .int kc, .ref rc, .ref rl, .ref rb, .int la, .int ca])), (ra, .inl (cB, 16400, .inl fa)), (rk, .inl (cI, 16, .inl fk)), (rv, .inl (cL, 16, .inr (.inl fv)))]) [0, 1, 2, 3] (by decide) rfl
                have hFc := va_free (wc := [(mo, .inr (8, [.int th, .int fd, .ref rt, .int mn, .ref rk, .ref rv, .ref rw, .ref ro, .int md, .ref rr, .int (nI ([] : List Nat).length), .ref ra, .long pz, .int kc, .ref rc, .ref rl, .ref rb, .int la, .int ca])), (ra, .inl (cB, 16400, .inl fa)), (rk, .inl (cI, 16, .inl fk)), (rv, .inl (cL, 16, .inr (.inl fv)))]) hD hS hA [0, 1, 2, 3] rfl
                refine zz_callv (va_runV (As := [.int (nI j), .int (nI (mb_v v)), .int (by_z (decide (v = 88)))]) (rest := []) ⟨hx, hb, hml, hown, hg⟩ (c_Mo_sized l dC dI mo rt rk rv rw ro rr ra rc rl rb th fd mn md (nI ([] : List Nat).length) pz kc la ca cB fa ([] : List Nat) cI cL fk fv j (mb_v v) (decide (v = 88)) (by_nil _) (by (try simp only [List.length_append, List.length_cons, List.length_nil]); omega) hj (mb_s (n := 0) (by omega)).2.2.2.2.1 (mb_s (n := 0) (by omega)).2.2.2.2.2 s.heap.size) (cwV 3 hg (gi_V kw_867 kw_869 sw_17 kw_9 kw_870) rfl rfl rfl (by decide +kernel) ⟨Nat.le_of_ble_eq_true rfl, Nat.le_of_ble_eq_true rfl⟩) (zz_preV hPc hKc hDc _ (q0 := 0) (ci := 8) rfl rfl) rfl rfl hl.1 rfl (lv_room (Nat.le_of_ble_eq_true rfl)) d_Mo_makes_142 ⟨Nat.le_of_ble_eq_true rfl, Nat.le_of_ble_eq_true rfl⟩) hS hFc (fun u H1 k9 p9 d9 => va_join (wr := [(rw, .inl (cI, 16, .inl fw)), (ro, .inl (cB, 65536, .inl fo))]) hP hD [0, 1, 2, 3] [4, 5] rfl rfl (by decide) (by decide) k9 hFc p9 d9) (fun u H locs hw hP hD hK1 hS => ?_)
                obtain ⟨u_34, rfl⟩ : ∃ z, z = u := ⟨_, rfl⟩
                try dsimp only at hw
                have hP : va_P (dC, dI) vwCl [(rw, .inl (cI, 16, .inl fw)), (ro, .inl (cB, 65536, .inl fo)), (mo, .inr (8, [.int th, .int fd, .ref rt, .int mn, .ref rk, .ref rv, .ref rw, .ref ro, .int md, .ref rr, .int (nI (([] : List Nat) ++ (nu_f (mb_v v) (dg_t (decide (v = 88))) 64 (ar_m (fk j) (fv j))).reverse).length), .ref ra, .long pz, .int kc, .ref rc, .ref rl, .ref rb, .int la, .int ca])), (ra, .inl (cB, 16400, .inl u_34)), (rk, .inl (cI, 16, .inl fk)), (rv, .inl (cL, 16, .inr (.inl fv)))] H := hP
                have hD : va_D A [(rw, .inl (cI, 16, .inl fw)), (ro, .inl (cB, 65536, .inl fo)), (mo, .inr (8, [.int th, .int fd, .ref rt, .int mn, .ref rk, .ref rv, .ref rw, .ref ro, .int md, .ref rr, .int (nI (([] : List Nat) ++ (nu_f (mb_v v) (dg_t (decide (v = 88))) 64 (ar_m (fk j) (fv j))).reverse).length), .ref ra, .long pz, .int kc, .ref rc, .ref rl, .ref rb, .int la, .int ca])), (ra, .inl (cB, 16400, .inl u_34)), (rk, .inl (cI, 16, .inl fk)), (rv, .inl (cL, 16, .inr (.inl fv)))] := hD
                have hL_36 := hw
                refine lv_goto (tgt := 358) hx hb d_Mo_makes_145 (by decide) ?_
                refine lv_iconst (v := 1) hx hb d_Mo_makes_358 (by decide) ?_
                have hmo : (mk_o v k x B bp) = some (([] : List Nat) ++ (nu_f (mb_v v) (dg_t (decide (v = 88))) 64 (ar_m (fk j) (fv j))).reverse) := (by rw [hk9, hmg.2.1]; exact mk_b3 hkn (by omega) hbb hbq)
                have hP9 := hP.sub (ws' := [(mo, .inr (8, [.int th, .int fd, .ref rt, .int mn, .ref rk, .ref rv, .ref rw, .ref ro, .int md, .ref rr, .int (nI (([] : List Nat) ++ (nu_f (mb_v v) (dg_t (decide (v = 88))) 64 (ar_m (fk j) (fv j))).reverse).length), .ref ra, .long pz, .int kc, .ref rc, .ref rl, .ref rb, .int la, .int ca])), (ra, .inl (cB, 16400, .inl u_34)), (rk, .inl (cI, 16, .inl fk)), (rv, .inl (cL, 16, .inr (.inl fv))), (rw, .inl (cI, 16, .inl fw)), (ro, .inl (cB, 65536, .inl fo))]) [2, 3, 4, 5, 0, 1] rfl
                have hD9 := hD.sub (ws' := [(mo, .inr (8, [.int th, .int fd, .ref rt, .int mn, .ref rk, .ref rv, .ref rw, .ref ro, .int md, .ref rr, .int (nI (([] : List Nat) ++ (nu_f (mb_v v) (dg_t (decide (v = 88))) 64 (ar_m (fk j) (fv j))).reverse).length), .ref ra, .long pz, .int kc, .ref rc, .ref rl, .ref rb, .int la, .int ca])), (ra, .inl (cB, 16400, .inl u_34)), (rk, .inl (cI, 16, .inl fk)), (rv, .inl (cL, 16, .inr (.inl fv))), (rw, .inl (cI, 16, .inl fw)), (ro, .inl (cB, 65536, .inl fo))]) [2, 3, 4, 5, 0, 1] (by decide) rfl
                have hK9 := hK.sub (tys' := [(cB, .byte), (cI, .int), (cL, .long)]) [0, 1, 2] rfl
                rw [show nI (([] : List Nat) ++ (nu_f (mb_v v) (dg_t (decide (v = 88))) 64 (ar_m (fk j) (fv j))).reverse).length = nI ((mk_o v k x B bp).getD []).length by rw [hmo]; rfl] at hP9 hD9
                exact zz_zret hx hb hr hlocks d_Mo_makes_359 (by decide) hS (by first | exact Nat.le_refl _ | decide | omega | (dsimp only; omega)) (by first | exact Nat.le_refl _ | decide | omega | (dsimp only; omega)) (u_34, la, ca) ⟨by rw [hmo]; rfl, by rw [hmo]; exact hL_36⟩ hP9 hK9 hD9
            · skip
              have hbq : bp = true := by_z_t rfl c_116
              refine lv_aload_n hx hb d_Mo_makes_119 rfl (lv_at hl 3 rfl) ?_
              refine lv_bipush (v := 43) hx hb d_Mo_makes_120 (by decide) ?_
              have hPc := hP.sub (ws' := [(mo, .inr (8, [.int th, .int fd, .ref rt, .int mn, .ref rk, .ref rv, .ref rw, .ref ro, .int md, .ref rr, .int (nI ([] : List Nat).length), .ref ra, .long pz, .int kc, .ref rc, .ref rl, .ref rb, .int la, .int ca])), (ra, .inl (cB, 16400, .inl fa))]) [0, 1] rfl
              have hKc := hK.sub (tys' := [(cB, .byte)]) [0] rfl
              have hDc := hD.sub (ws' := [(mo, .inr (8, [.int th, .int fd, .ref rt, .int mn, .ref rk, .ref rv, .ref rw, .ref ro, .int md, .ref rr, .int (nI ([] : List Nat).length), .ref ra, .long pz, .int kc, .ref rc, .ref rl, .ref rb, .int la, .int ca])), (ra, .inl (cB, 16400, .inl fa))]) [0, 1] (by decide) rfl
              have hFc := va_free (wc := [(mo, .inr (8, [.int th, .int fd, .ref rt, .int mn, .ref rk, .ref rv, .ref rw, .ref ro, .int md, .ref rr, .int (nI ([] : List Nat).length), .ref ra, .long pz, .int kc, .ref rc, .ref rl, .ref rb, .int la, .int ca])), (ra, .inl (cB, 16400, .inl fa))]) hD hS hA [0, 1] rfl
              refine zz_callv (va_runV (As := [.int 43]) (rest := []) ⟨hx, hb, hml, hown, hg⟩ (c_Mo_put l dC dI mo rt rk rv rw ro rr ra rc rl rb th fd mn md (nI ([] : List Nat).length) pz kc la ca cB fa ([] : List Nat) 43 (by_nil _) (by (try simp only [List.length_append, List.length_cons, List.length_nil]); omega) s.heap.size) (cwV 1 hg (gi_V kw_863 kw_865 sw_16 kw_9 kw_866) rfl rfl rfl (by decide +kernel) ⟨Nat.le_of_ble_eq_true rfl, Nat.le_of_ble_eq_true rfl⟩) (zz_preV hPc hKc hDc _ (q0 := 0) (ci := 8) rfl rfl) rfl rfl hl.1 rfl (lv_room (Nat.le_of_ble_eq_true rfl)) d_Mo_makes_122 ⟨Nat.le_of_ble_eq_true rfl, Nat.le_of_ble_eq_true rfl⟩) hS hFc (fun u H1 k9 p9 d9 => va_join (wr := [(rk, .inl (cI, 16, .inl fk)), (rv, .inl (cL, 16, .inr (.inl fv))), (rw, .inl (cI, 16, .inl fw)), (ro, .inl (cB, 65536, .inl fo))]) hP hD [0, 1] [2, 3, 4, 5] rfl rfl (by decide) (by decide) k9 hFc p9 d9) (fun u H locs hw hP hD hK1 hS => ?_)
              obtain ⟨u_37, rfl⟩ : ∃ z, z = u := ⟨_, rfl⟩
              try dsimp only at hw
              have hP : va_P (dC, dI) vwCl [(rk, .inl (cI, 16, .inl fk)), (rv, .inl (cL, 16, .inr (.inl fv))), (rw, .inl (cI, 16, .inl fw)), (ro, .inl (cB, 65536, .inl fo)), (mo, .inr (8, [.int th, .int fd, .ref rt, .int mn, .ref rk, .ref rv, .ref rw, .ref ro, .int md, .ref rr, .int (nI (([] : List Nat) ++ [by_b 43]).length), .ref ra, .long pz, .int kc, .ref rc, .ref rl, .ref rb, .int la, .int ca])), (ra, .inl (cB, 16400, .inl u_37))] H := hP
              have hD : va_D A [(rk, .inl (cI, 16, .inl fk)), (rv, .inl (cL, 16, .inr (.inl fv))), (rw, .inl (cI, 16, .inl fw)), (ro, .inl (cB, 65536, .inl fo)), (mo, .inr (8, [.int th, .int fd, .ref rt, .int mn, .ref rk, .ref rv, .ref rw, .ref ro, .int md, .ref rr, .int (nI (([] : List Nat) ++ [by_b 43]).length), .ref ra, .long pz, .int kc, .ref rc, .ref rl, .ref rb, .int la, .int ca])), (ra, .inl (cB, 16400, .inl u_37))] := hD
              have hL_39 := hw
              refine lv_aload_n hx hb d_Mo_makes_125 rfl (lv_at hl 3 rfl) ?_
              refine lv_iload_n hx hb d_Mo_makes_126 rfl (lv_at hl 5 rfl) ?_
              refine lv_iload_n hx hb d_Mo_makes_127 rfl (lv_at hl 4 rfl) ?_
              have hPc := hP.sub (ws' := []) [] rfl
              have hKc := hK.sub (tys' := []) [] rfl
              refine vp_callSi (W.runS (As := [.int (sb_b v)]) (rest := [.int (nI j), .ref mo]) ⟨hx, hb, hml, hown, hg⟩ (c_Mo_baseOf l dC dI v hv) (va_cwS 1 hg (gi_S kw_856 kw_857 kw_9 kw_858) rfl rfl rfl (by decide +kernel) ⟨Nat.le_of_ble_eq_true rfl, Nat.le_of_ble_eq_true rfl⟩) (zz_prJS hPc hKc _) rfl rfl hl.1 rfl (lv_room (Nat.le_of_ble_eq_true rfl)) d_Mo_makes_128 ⟨Nat.le_of_ble_eq_true rfl, Nat.le_of_ble_eq_true rfl⟩) (fun r_40 hr_40 => ?_)
              subst hr_40
              refine lv_iload_n hx hb d_Mo_makes_131 rfl (lv_at hl 4 rfl) ?_
              refine lv_bipush (v := 88) hx hb d_Mo_makes_132 (by decide) ?_
              refine lv_icmp_ne (tgt := 141) hx hb d_Mo_makes_134 (by decide) (fun c_134 => ?_) (fun c_134 => ?_)
              · skip
                have f_134 : v ≠ 88 := sb_e2 (k := 88) hv (by decide) c_134
                refine lv_iconst (v := 0) hx hb d_Mo_makes_141 (by decide) ?_
                refine lv_topi (fun y_41 ey_41 => ?_)
                have ey_41 : y_41 = (by_z (decide (v = 88)) : Int32) := ey_41.trans (show 0 = by_z (decide (v = 88)) from (by rw [decide_eq_false f_134]; rfl))
                subst ey_41
                have hPc := hP.sub (ws' := [(mo, .inr (8, [.int th, .int fd, .ref rt, .int mn, .ref rk, .ref rv, .ref rw, .ref ro, .int md, .ref rr, .int (nI (([] : List Nat) ++ [by_b 43]).length), .ref ra, .long pz, .int kc, .ref rc, .ref rl, .ref rb, .int la, .int ca])), (ra, .inl (cB, 16400, .inl u_37)), (rk, .inl (cI, 16, .inl fk)), (rv, .inl (cL, 16, .inr (.inl fv)))]) [4, 5, 0, 1] rfl
                have hKc := hK.sub (tys' := [(cB, .byte), (cI, .int), (cL, .long)]) [0, 1, 2] rfl
                have hDc := hD.sub (ws' := [(mo, .inr (8, [.int th, .int fd, .ref rt, .int mn, .ref rk, .ref rv, .ref rw, .ref ro, .int md, .ref rr, .int (nI (([] : List Nat) ++ [by_b 43]).length), .ref ra, .long pz, .int kc, .ref rc, .ref rl, .ref rb, .int la, .int ca])), (ra, .inl (cB, 16400, .inl u_37)), (rk, .inl (cI, 16, .inl fk)), (rv, .inl (cL, 16, .inr (.inl fv)))]) [4, 5, 0, 1] (by decide) rfl
                have hFc := va_free (wc := [(mo, .inr (8, [.int th, .int fd, .ref rt, .int mn, .ref rk, .ref rv, .ref rw, .ref ro, .int md, .ref rr, .int (nI (([] : List Nat) ++ [by_b 43]).length), .ref ra, .long pz, .int kc, .ref rc, .ref rl, .ref rb, .int la, .int ca])), (ra, .inl (cB, 16400, .inl u_37)), (rk, .inl (cI, 16, .inl fk)), (rv, .inl (cL, 16, .inr (.inl fv)))]) hD hS hA [4, 5, 0, 1] rfl
                refine zz_callv (va_runV (As := [.int (nI j), .int (nI (mb_v v)), .int (by_z (decide (v = 88)))]) (rest := []) ⟨hx, hb, hml, hown, hg⟩ (c_Mo_sized l dC dI mo rt rk rv rw ro rr ra rc rl rb th fd mn md (nI (([] : List Nat) ++ [by_b 43]).length) pz kc la ca cB u_37 (([] : List Nat) ++ [by_b 43]) cI cL fk fv j (mb_v v) (decide (v = 88)) hL_39 (by (try simp only [List.length_append, List.length_cons, List.length_nil]); omega) hj (mb_s (n := 0) (by omega)).2.2.2.2.1 (mb_s (n := 0) (by omega)).2.2.2.2.2 H.size) (cwV 3 hg (gi_V kw_867 kw_869 sw_17 kw_9 kw_870) rfl rfl rfl (by decide +kernel) ⟨Nat.le_of_ble_eq_true rfl, Nat.le_of_ble_eq_true rfl⟩) (zz_preV hPc hKc hDc _ (q0 := 0) (ci := 8) rfl rfl) rfl rfl hl.1 rfl (lv_room (Nat.le_of_ble_eq_true rfl)) d_Mo_makes_142 ⟨Nat.le_of_ble_eq_true rfl, Nat.le_of_ble_eq_true rfl⟩) hS hFc (fun u H1 k9 p9 d9 => va_join (wr := [(rw, .inl (cI, 16, .inl fw)), (ro, .inl (cB, 65536, .inl fo))]) hP hD [4, 5, 0, 1] [2, 3] rfl rfl (by decide) (by decide) k9 hFc p9 d9) (fun u H locs hw hP hD hK1 hS => ?_)
                obtain ⟨u_42, rfl⟩ : ∃ z, z = u := ⟨_, rfl⟩
                try dsimp only at hw
                have hP : va_P (dC, dI) vwCl [(rw, .inl (cI, 16, .inl fw)), (ro, .inl (cB, 65536, .inl fo)), (mo, .inr (8, [.int th, .int fd, .ref rt, .int mn, .ref rk, .ref rv, .ref rw, .ref ro, .int md, .ref rr, .int (nI ((([] : List Nat) ++ [by_b 43]) ++ (nu_f (mb_v v) (dg_t (decide (v = 88))) 64 (ar_m (fk j) (fv j))).reverse).length), .ref ra, .long pz, .int kc, .ref rc, .ref rl, .ref rb, .int la, .int ca])), (ra, .inl (cB, 16400, .inl u_42)), (rk, .inl (cI, 16, .inl fk)), (rv, .inl (cL, 16, .inr (.inl fv)))] H := hP
                have hD : va_D A [(rw, .inl (cI, 16, .inl fw)), (ro, .inl (cB, 65536, .inl fo)), (mo, .inr (8, [.int th, .int fd, .ref rt, .int mn, .ref rk, .ref rv, .ref rw, .ref ro, .int md, .ref rr, .int (nI ((([] : List Nat) ++ [by_b 43]) ++ (nu_f (mb_v v) (dg_t (decide (v = 88))) 64 (ar_m (fk j) (fv j))).reverse).length), .ref ra, .long pz, .int kc, .ref rc, .ref rl, .ref rb, .int la, .int ca])), (ra, .inl (cB, 16400, .inl u_42)), (rk, .inl (cI, 16, .inl fk)), (rv, .inl (cL, 16, .inr (.inl fv)))] := hD
                have hL_44 := hw
                refine lv_goto (tgt := 358) hx hb d_Mo_makes_145 (by decide) ?_
                refine lv_iconst (v := 1) hx hb d_Mo_makes_358 (by decide) ?_
                have hmo : (mk_o v k x B bp) = some ((([] : List Nat) ++ [by_b 43]) ++ (nu_f (mb_v v) (dg_t (decide (v = 88))) 64 (ar_m (fk j) (fv j))).reverse) := (by rw [hk9, hmg.2.1]; exact mk_b2 hkn (by omega) hbb hbq)
                have hP9 := hP.sub (ws' := [(mo, .inr (8, [.int th, .int fd, .ref rt, .int mn, .ref rk, .ref rv, .ref rw, .ref ro, .int md, .ref rr, .int (nI ((([] : List Nat) ++ [by_b 43]) ++ (nu_f (mb_v v) (dg_t (decide (v = 88))) 64 (ar_m (fk j) (fv j))).reverse).length), .ref ra, .long pz, .int kc, .ref rc, .ref rl, .ref rb, .int la, .int ca])), (ra, .inl (cB, 16400, .inl u_42)), (rk, .inl (cI, 16, .inl fk)), (rv, .inl (cL, 16, .inr (.inl fv))), (rw, .inl (cI, 16, .inl fw)), (ro, .inl (cB, 65536, .inl fo))]) [2, 3, 4, 5, 0, 1] rfl
                have hD9 := hD.sub (ws' := [(mo, .inr (8, [.int th, .int fd, .ref rt, .int mn, .ref rk, .ref rv, .ref rw, .ref ro, .int md, .ref rr, .int (nI ((([] : List Nat) ++ [by_b 43]) ++ (nu_f (mb_v v) (dg_t (decide (v = 88))) 64 (ar_m (fk j) (fv j))).reverse).length), .ref ra, .long pz, .int kc, .ref rc, .ref rl, .ref rb, .int la, .int ca])), (ra, .inl (cB, 16400, .inl u_42)), (rk, .inl (cI, 16, .inl fk)), (rv, .inl (cL, 16, .inr (.inl fv))), (rw, .inl (cI, 16, .inl fw)), (ro, .inl (cB, 65536, .inl fo))]) [2, 3, 4, 5, 0, 1] (by decide) rfl
                have hK9 := hK.sub (tys' := [(cB, .byte), (cI, .int), (cL, .long)]) [0, 1, 2] rfl
                rw [show nI ((([] : List Nat) ++ [by_b 43]) ++ (nu_f (mb_v v) (dg_t (decide (v = 88))) 64 (ar_m (fk j) (fv j))).reverse).length = nI ((mk_o v k x B bp).getD []).length by rw [hmo]; rfl] at hP9 hD9
                exact zz_zret hx hb hr hlocks d_Mo_makes_359 (by decide) hS (by first | exact Nat.le_refl _ | decide | omega | (dsimp only; omega)) (by first | exact Nat.le_refl _ | decide | omega | (dsimp only; omega)) (u_42, la, ca) ⟨by rw [hmo]; rfl, by rw [hmo]; exact hL_44⟩ hP9 hK9 hD9
              · skip
                have f_134 : v = 88 := sb_e1 (k := 88) hv (by decide) c_134
                refine lv_iconst (v := 1) hx hb d_Mo_makes_137 (by decide) ?_
                refine lv_goto (tgt := 142) hx hb d_Mo_makes_138 (by decide) ?_
                refine lv_topi (fun y_45 ey_45 => ?_)
                have ey_45 : y_45 = (by_z (decide (v = 88)) : Int32) := ey_45.trans (show 1 = by_z (decide (v = 88)) from (by rw [decide_eq_true f_134]; rfl))
                subst ey_45
                have hPc := hP.sub (ws' := [(mo, .inr (8, [.int th, .int fd, .ref rt, .int mn, .ref rk, .ref rv, .ref rw, .ref ro, .int md, .ref rr, .int (nI (([] : List Nat) ++ [by_b 43]).length), .ref ra, .long pz, .int kc, .ref rc, .ref rl, .ref rb, .int la, .int ca])), (ra, .inl (cB, 16400, .inl u_37)), (rk, .inl (cI, 16, .inl fk)), (rv, .inl (cL, 16, .inr (.inl fv)))]) [4, 5, 0, 1] rfl
                have hKc := hK.sub (tys' := [(cB, .byte), (cI, .int), (cL, .long)]) [0, 1, 2] rfl
                have hDc := hD.sub (ws' := [(mo, .inr (8, [.int th, .int fd, .ref rt, .int mn, .ref rk, .ref rv, .ref rw, .ref ro, .int md, .ref rr, .int (nI (([] : List Nat) ++ [by_b 43]).length), .ref ra, .long pz, .int kc, .ref rc, .ref rl, .ref rb, .int la, .int ca])), (ra, .inl (cB, 16400, .inl u_37)), (rk, .inl (cI, 16, .inl fk)), (rv, .inl (cL, 16, .inr (.inl fv)))]) [4, 5, 0, 1] (by decide) rfl
                have hFc := va_free (wc := [(mo, .inr (8, [.int th, .int fd, .ref rt, .int mn, .ref rk, .ref rv, .ref rw, .ref ro, .int md, .ref rr, .int (nI (([] : List Nat) ++ [by_b 43]).length), .ref ra, .long pz, .int kc, .ref rc, .ref rl, .ref rb, .int la, .int ca])), (ra, .inl (cB, 16400, .inl u_37)), (rk, .inl (cI, 16, .inl fk)), (rv, .inl (cL, 16, .inr (.inl fv)))]) hD hS hA [4, 5, 0, 1] rfl
                refine zz_callv (va_runV (As := [.int (nI j), .int (nI (mb_v v)), .int (by_z (decide (v = 88)))]) (rest := []) ⟨hx, hb, hml, hown, hg⟩ (c_Mo_sized l dC dI mo rt rk rv rw ro rr ra rc rl rb th fd mn md (nI (([] : List Nat) ++ [by_b 43]).length) pz kc la ca cB u_37 (([] : List Nat) ++ [by_b 43]) cI cL fk fv j (mb_v v) (decide (v = 88)) hL_39 (by (try simp only [List.length_append, List.length_cons, List.length_nil]); omega) hj (mb_s (n := 0) (by omega)).2.2.2.2.1 (mb_s (n := 0) (by omega)).2.2.2.2.2 H.size) (cwV 3 hg (gi_V kw_867 kw_869 sw_17 kw_9 kw_870) rfl rfl rfl (by decide +kernel) ⟨Nat.le_of_ble_eq_true rfl, Nat.le_of_ble_eq_true rfl⟩) (zz_preV hPc hKc hDc _ (q0 := 0) (ci := 8) rfl rfl) rfl rfl hl.1 rfl (lv_room (Nat.le_of_ble_eq_true rfl)) d_Mo_makes_142 ⟨Nat.le_of_ble_eq_true rfl, Nat.le_of_ble_eq_true rfl⟩) hS hFc (fun u H1 k9 p9 d9 => va_join (wr := [(rw, .inl (cI, 16, .inl fw)), (ro, .inl (cB, 65536, .inl fo))]) hP hD [4, 5, 0, 1] [2, 3] rfl rfl (by decide) (by decide) k9 hFc p9 d9) (fun u H locs hw hP hD hK1 hS => ?_)
                obtain ⟨u_46, rfl⟩ : ∃ z, z = u := ⟨_, rfl⟩
                try dsimp only at hw
                have hP : va_P (dC, dI) vwCl [(rw, .inl (cI, 16, .inl fw)), (ro, .inl (cB, 65536, .inl fo)), (mo, .inr (8, [.int th, .int fd, .ref rt, .int mn, .ref rk, .ref rv, .ref rw, .ref ro, .int md, .ref rr, .int (nI ((([] : List Nat) ++ [by_b 43]) ++ (nu_f (mb_v v) (dg_t (decide (v = 88))) 64 (ar_m (fk j) (fv j))).reverse).length), .ref ra, .long pz, .int kc, .ref rc, .ref rl, .ref rb, .int la, .int ca])), (ra, .inl (cB, 16400, .inl u_46)), (rk, .inl (cI, 16, .inl fk)), (rv, .inl (cL, 16, .inr (.inl fv)))] H := hP
                have hD : va_D A [(rw, .inl (cI, 16, .inl fw)), (ro, .inl (cB, 65536, .inl fo)), (mo, .inr (8, [.int th, .int fd, .ref rt, .int mn, .ref rk, .ref rv, .ref rw, .ref ro, .int md, .ref rr, .int (nI ((([] : List Nat) ++ [by_b 43]) ++ (nu_f (mb_v v) (dg_t (decide (v = 88))) 64 (ar_m (fk j) (fv j))).reverse).length), .ref ra, .long pz, .int kc, .ref rc, .ref rl, .ref rb, .int la, .int ca])), (ra, .inl (cB, 16400, .inl u_46)), (rk, .inl (cI, 16, .inl fk)), (rv, .inl (cL, 16, .inr (.inl fv)))] := hD
                have hL_48 := hw
                refine lv_goto (tgt := 358) hx hb d_Mo_makes_145 (by decide) ?_
                refine lv_iconst (v := 1) hx hb d_Mo_makes_358 (by decide) ?_
                have hmo : (mk_o v k x B bp) = some ((([] : List Nat) ++ [by_b 43]) ++ (nu_f (mb_v v) (dg_t (decide (v = 88))) 64 (ar_m (fk j) (fv j))).reverse) := (by rw [hk9, hmg.2.1]; exact mk_b2 hkn (by omega) hbb hbq)
                have hP9 := hP.sub (ws' := [(mo, .inr (8, [.int th, .int fd, .ref rt, .int mn, .ref rk, .ref rv, .ref rw, .ref ro, .int md, .ref rr, .int (nI ((([] : List Nat) ++ [by_b 43]) ++ (nu_f (mb_v v) (dg_t (decide (v = 88))) 64 (ar_m (fk j) (fv j))).reverse).length), .ref ra, .long pz, .int kc, .ref rc, .ref rl, .ref rb, .int la, .int ca])), (ra, .inl (cB, 16400, .inl u_46)), (rk, .inl (cI, 16, .inl fk)), (rv, .inl (cL, 16, .inr (.inl fv))), (rw, .inl (cI, 16, .inl fw)), (ro, .inl (cB, 65536, .inl fo))]) [2, 3, 4, 5, 0, 1] rfl
                have hD9 := hD.sub (ws' := [(mo, .inr (8, [.int th, .int fd, .ref rt, .int mn, .ref rk, .ref rv, .ref rw, .ref ro, .int md, .ref rr, .int (nI ((([] : List Nat) ++ [by_b 43]) ++ (nu_f (mb_v v) (dg_t (decide (v = 88))) 64 (ar_m (fk j) (fv j))).reverse).length), .ref ra, .long pz, .int kc, .ref rc, .ref rl, .ref rb, .int la, .int ca])), (ra, .inl (cB, 16400, .inl u_46)), (rk, .inl (cI, 16, .inl fk)), (rv, .inl (cL, 16, .inr (.inl fv))), (rw, .inl (cI, 16, .inl fw)), (ro, .inl (cB, 65536, .inl fo))]) [2, 3, 4, 5, 0, 1] (by decide) rfl
                have hK9 := hK.sub (tys' := [(cB, .byte), (cI, .int), (cL, .long)]) [0, 1, 2] rfl
                rw [show nI ((([] : List Nat) ++ [by_b 43]) ++ (nu_f (mb_v v) (dg_t (decide (v = 88))) 64 (ar_m (fk j) (fv j))).reverse).length = nI ((mk_o v k x B bp).getD []).length by rw [hmo]; rfl] at hP9 hD9
                exact zz_zret hx hb hr hlocks d_Mo_makes_359 (by decide) hS (by first | exact Nat.le_refl _ | decide | omega | (dsimp only; omega)) (by first | exact Nat.le_refl _ | decide | omega | (dsimp only; omega)) (u_46, la, ca) ⟨by rw [hmo]; rfl, by rw [hmo]; exact hL_48⟩ hP9 hK9 hD9
          · skip
            have hbb : ar_b (nI k) x = true := by_z_t hr_27 c_103
            refine lv_aload_n hx hb d_Mo_makes_106 rfl (lv_at hl 3 rfl) ?_
            refine lv_bipush (v := 45) hx hb d_Mo_makes_107 (by decide) ?_
            have hPc := hP.sub (ws' := [(mo, .inr (8, [.int th, .int fd, .ref rt, .int mn, .ref rk, .ref rv, .ref rw, .ref ro, .int md, .ref rr, .int (nI ([] : List Nat).length), .ref ra, .long pz, .int kc, .ref rc, .ref rl, .ref rb, .int la, .int ca])), (ra, .inl (cB, 16400, .inl fa))]) [0, 1] rfl
            have hKc := hK.sub (tys' := [(cB, .byte)]) [0] rfl
            have hDc := hD.sub (ws' := [(mo, .inr (8, [.int th, .int fd, .ref rt, .int mn, .ref rk, .ref rv, .ref rw, .ref ro, .int md, .ref rr, .int (nI ([] : List Nat).length), .ref ra, .long pz, .int kc, .ref rc, .ref rl, .ref rb, .int la, .int ca])), (ra, .inl (cB, 16400, .inl fa))]) [0, 1] (by decide) rfl
            have hFc := va_free (wc := [(mo, .inr (8, [.int th, .int fd, .ref rt, .int mn, .ref rk, .ref rv, .ref rw, .ref ro, .int md, .ref rr, .int (nI ([] : List Nat).length), .ref ra, .long pz, .int kc, .ref rc, .ref rl, .ref rb, .int la, .int ca])), (ra, .inl (cB, 16400, .inl fa))]) hD hS hA [0, 1] rfl
            refine zz_callv (va_runV (As := [.int 45]) (rest := []) ⟨hx, hb, hml, hown, hg⟩ (c_Mo_put l dC dI mo rt rk rv rw ro rr ra rc rl rb th fd mn md (nI ([] : List Nat).length) pz kc la ca cB fa ([] : List Nat) 45 (by_nil _) (by (try simp only [List.length_append, List.length_cons, List.length_nil]); omega) s.heap.size) (cwV 1 hg (gi_V kw_863 kw_865 sw_16 kw_9 kw_866) rfl rfl rfl (by decide +kernel) ⟨Nat.le_of_ble_eq_true rfl, Nat.le_of_ble_eq_true rfl⟩) (zz_preV hPc hKc hDc _ (q0 := 0) (ci := 8) rfl rfl) rfl rfl hl.1 rfl (lv_room (Nat.le_of_ble_eq_true rfl)) d_Mo_makes_109 ⟨Nat.le_of_ble_eq_true rfl, Nat.le_of_ble_eq_true rfl⟩) hS hFc (fun u H1 k9 p9 d9 => va_join (wr := [(rk, .inl (cI, 16, .inl fk)), (rv, .inl (cL, 16, .inr (.inl fv))), (rw, .inl (cI, 16, .inl fw)), (ro, .inl (cB, 65536, .inl fo))]) hP hD [0, 1] [2, 3, 4, 5] rfl rfl (by decide) (by decide) k9 hFc p9 d9) (fun u H locs hw hP hD hK1 hS => ?_)
            obtain ⟨u_49, rfl⟩ : ∃ z, z = u := ⟨_, rfl⟩
            try dsimp only at hw
            have hP : va_P (dC, dI) vwCl [(rk, .inl (cI, 16, .inl fk)), (rv, .inl (cL, 16, .inr (.inl fv))), (rw, .inl (cI, 16, .inl fw)), (ro, .inl (cB, 65536, .inl fo)), (mo, .inr (8, [.int th, .int fd, .ref rt, .int mn, .ref rk, .ref rv, .ref rw, .ref ro, .int md, .ref rr, .int (nI (([] : List Nat) ++ [by_b 45]).length), .ref ra, .long pz, .int kc, .ref rc, .ref rl, .ref rb, .int la, .int ca])), (ra, .inl (cB, 16400, .inl u_49))] H := hP
            have hD : va_D A [(rk, .inl (cI, 16, .inl fk)), (rv, .inl (cL, 16, .inr (.inl fv))), (rw, .inl (cI, 16, .inl fw)), (ro, .inl (cB, 65536, .inl fo)), (mo, .inr (8, [.int th, .int fd, .ref rt, .int mn, .ref rk, .ref rv, .ref rw, .ref ro, .int md, .ref rr, .int (nI (([] : List Nat) ++ [by_b 45]).length), .ref ra, .long pz, .int kc, .ref rc, .ref rl, .ref rb, .int la, .int ca])), (ra, .inl (cB, 16400, .inl u_49))] := hD
            have hL_51 := hw
            refine lv_goto (tgt := 125) hx hb d_Mo_makes_112 (by decide) ?_
            refine lv_aload_n hx hb d_Mo_makes_125 rfl (lv_at hl 3 rfl) ?_
            refine lv_iload_n hx hb d_Mo_makes_126 rfl (lv_at hl 5 rfl) ?_
            refine lv_iload_n hx hb d_Mo_makes_127 rfl (lv_at hl 4 rfl) ?_
            have hPc := hP.sub (ws' := []) [] rfl
            have hKc := hK.sub (tys' := []) [] rfl
            refine vp_callSi (W.runS (As := [.int (sb_b v)]) (rest := [.int (nI j), .ref mo]) ⟨hx, hb, hml, hown, hg⟩ (c_Mo_baseOf l dC dI v hv) (va_cwS 1 hg (gi_S kw_856 kw_857 kw_9 kw_858) rfl rfl rfl (by decide +kernel) ⟨Nat.le_of_ble_eq_true rfl, Nat.le_of_ble_eq_true rfl⟩) (zz_prJS hPc hKc _) rfl rfl hl.1 rfl (lv_room (Nat.le_of_ble_eq_true rfl)) d_Mo_makes_128 ⟨Nat.le_of_ble_eq_true rfl, Nat.le_of_ble_eq_true rfl⟩) (fun r_52 hr_52 => ?_)
            subst hr_52
            refine lv_iload_n hx hb d_Mo_makes_131 rfl (lv_at hl 4 rfl) ?_
            refine lv_bipush (v := 88) hx hb d_Mo_makes_132 (by decide) ?_
            refine lv_icmp_ne (tgt := 141) hx hb d_Mo_makes_134 (by decide) (fun c_134 => ?_) (fun c_134 => ?_)
            · skip
              have f_134 : v ≠ 88 := sb_e2 (k := 88) hv (by decide) c_134
              refine lv_iconst (v := 0) hx hb d_Mo_makes_141 (by decide) ?_
              refine lv_topi (fun y_53 ey_53 => ?_)
              have ey_53 : y_53 = (by_z (decide (v = 88)) : Int32) := ey_53.trans (show 0 = by_z (decide (v = 88)) from (by rw [decide_eq_false f_134]; rfl))
              subst ey_53
              have hPc := hP.sub (ws' := [(mo, .inr (8, [.int th, .int fd, .ref rt, .int mn, .ref rk, .ref rv, .ref rw, .ref ro, .int md, .ref rr, .int (nI (([] : List Nat) ++ [by_b 45]).length), .ref ra, .long pz, .int kc, .ref rc, .ref rl, .ref rb, .int la, .int ca])), (ra, .inl (cB, 16400, .inl u_49)), (rk, .inl (cI, 16, .inl fk)), (rv, .inl (cL, 16, .inr (.inl fv)))]) [4, 5, 0, 1] rfl
              have hKc := hK.sub (tys' := [(cB, .byte), (cI, .int), (cL, .long)]) [0, 1, 2] rfl
              have hDc := hD.sub (ws' := [(mo, .inr (8, [.int th, .int fd, .ref rt, .int mn, .ref rk, .ref rv, .ref rw, .ref ro, .int md, .ref rr, .int (nI (([] : List Nat) ++ [by_b 45]).length), .ref ra, .long pz, .int kc, .ref rc, .ref rl, .ref rb, .int la, .int ca])), (ra, .inl (cB, 16400, .inl u_49)), (rk, .inl (cI, 16, .inl fk)), (rv, .inl (cL, 16, .inr (.inl fv)))]) [4, 5, 0, 1] (by decide) rfl
              have hFc := va_free (wc := [(mo, .inr (8, [.int th, .int fd, .ref rt, .int mn, .ref rk, .ref rv, .ref rw, .ref ro, .int md, .ref rr, .int (nI (([] : List Nat) ++ [by_b 45]).length), .ref ra, .long pz, .int kc, .ref rc, .ref rl, .ref rb, .int la, .int ca])), (ra, .inl (cB, 16400, .inl u_49)), (rk, .inl (cI, 16, .inl fk)), (rv, .inl (cL, 16, .inr (.inl fv)))]) hD hS hA [4, 5, 0, 1] rfl
              refine zz_callv (va_runV (As := [.int (nI j), .int (nI (mb_v v)), .int (by_z (decide (v = 88)))]) (rest := []) ⟨hx, hb, hml, hown, hg⟩ (c_Mo_sized l dC dI mo rt rk rv rw ro rr ra rc rl rb th fd mn md (nI (([] : List Nat) ++ [by_b 45]).length) pz kc la ca cB u_49 (([] : List Nat) ++ [by_b 45]) cI cL fk fv j (mb_v v) (decide (v = 88)) hL_51 (by (try simp only [List.length_append, List.length_cons, List.length_nil]); omega) hj (mb_s (n := 0) (by omega)).2.2.2.2.1 (mb_s (n := 0) (by omega)).2.2.2.2.2 H.size) (cwV 3 hg (gi_V kw_867 kw_869 sw_17 kw_9 kw_870) rfl rfl rfl (by decide +kernel) ⟨Nat.le_of_ble_eq_true rfl, Nat.le_of_ble_eq_true rfl⟩) (zz_preV hPc hKc hDc _ (q0 := 0) (ci := 8) rfl rfl) rfl rfl hl.1 rfl (lv_room (Nat.le_of_ble_eq_true rfl)) d_Mo_makes_142 ⟨Nat.le_of_ble_eq_true rfl, Nat.le_of_ble_eq_true rfl⟩) hS hFc (fun u H1 k9 p9 d9 => va_join (wr := [(rw, .inl (cI, 16, .inl fw)), (ro, .inl (cB, 65536, .inl fo))]) hP hD [4, 5, 0, 1] [2, 3] rfl rfl (by decide) (by decide) k9 hFc p9 d9) (fun u H locs hw hP hD hK1 hS => ?_)
              obtain ⟨u_54, rfl⟩ : ∃ z, z = u := ⟨_, rfl⟩
              try dsimp only at hw
              have hP : va_P (dC, dI) vwCl [(rw, .inl (cI, 16, .inl fw)), (ro, .inl (cB, 65536, .inl fo)), (mo, .inr (8, [.int th, .int fd, .ref rt, .int mn, .ref rk, .ref rv, .ref rw, .ref ro, .int md, .ref rr, .int (nI ((([] : List Nat) ++ [by_b 45]) ++ (nu_f (mb_v v) (dg_t (decide (v = 88))) 64 (ar_m (fk j) (fv j))).reverse).length), .ref ra, .long pz, .int kc, .ref rc, .ref rl, .ref rb, .int la, .int ca])), (ra, .inl (cB, 16400, .inl u_54)), (rk, .inl (cI, 16, .inl fk)), (rv, .inl (cL, 16, .inr (.inl fv)))] H := hP
              have hD : va_D A [(rw, .inl (cI, 16, .inl fw)), (ro, .inl (cB, 65536, .inl fo)), (mo, .inr (8, [.int th, .int fd, .ref rt, .int mn, .ref rk, .ref rv, .ref rw, .ref ro, .int md, .ref rr, .int (nI ((([] : List Nat) ++ [by_b 45]) ++ (nu_f (mb_v v) (dg_t (decide (v = 88))) 64 (ar_m (fk j) (fv j))).reverse).length), .ref ra, .long pz, .int kc, .ref rc, .ref rl, .ref rb, .int la, .int ca])), (ra, .inl (cB, 16400, .inl u_54)), (rk, .inl (cI, 16, .inl fk)), (rv, .inl (cL, 16, .inr (.inl fv)))] := hD
              have hL_56 := hw
              refine lv_goto (tgt := 358) hx hb d_Mo_makes_145 (by decide) ?_
              refine lv_iconst (v := 1) hx hb d_Mo_makes_358 (by decide) ?_
              have hmo : (mk_o v k x B bp) = some ((([] : List Nat) ++ [by_b 45]) ++ (nu_f (mb_v v) (dg_t (decide (v = 88))) 64 (ar_m (fk j) (fv j))).reverse) := (by rw [hk9, hmg.2.1]; exact mk_b1 hkn (by omega) hbb)
              have hP9 := hP.sub (ws' := [(mo, .inr (8, [.int th, .int fd, .ref rt, .int mn, .ref rk, .ref rv, .ref rw, .ref ro, .int md, .ref rr, .int (nI ((([] : List Nat) ++ [by_b 45]) ++ (nu_f (mb_v v) (dg_t (decide (v = 88))) 64 (ar_m (fk j) (fv j))).reverse).length), .ref ra, .long pz, .int kc, .ref rc, .ref rl, .ref rb, .int la, .int ca])), (ra, .inl (cB, 16400, .inl u_54)), (rk, .inl (cI, 16, .inl fk)), (rv, .inl (cL, 16, .inr (.inl fv))), (rw, .inl (cI, 16, .inl fw)), (ro, .inl (cB, 65536, .inl fo))]) [2, 3, 4, 5, 0, 1] rfl
              have hD9 := hD.sub (ws' := [(mo, .inr (8, [.int th, .int fd, .ref rt, .int mn, .ref rk, .ref rv, .ref rw, .ref ro, .int md, .ref rr, .int (nI ((([] : List Nat) ++ [by_b 45]) ++ (nu_f (mb_v v) (dg_t (decide (v = 88))) 64 (ar_m (fk j) (fv j))).reverse).length), .ref ra, .long pz, .int kc, .ref rc, .ref rl, .ref rb, .int la, .int ca])), (ra, .inl (cB, 16400, .inl u_54)), (rk, .inl (cI, 16, .inl fk)), (rv, .inl (cL, 16, .inr (.inl fv))), (rw, .inl (cI, 16, .inl fw)), (ro, .inl (cB, 65536, .inl fo))]) [2, 3, 4, 5, 0, 1] (by decide) rfl
              have hK9 := hK.sub (tys' := [(cB, .byte), (cI, .int), (cL, .long)]) [0, 1, 2] rfl
              rw [show nI ((([] : List Nat) ++ [by_b 45]) ++ (nu_f (mb_v v) (dg_t (decide (v = 88))) 64 (ar_m (fk j) (fv j))).reverse).length = nI ((mk_o v k x B bp).getD []).length by rw [hmo]; rfl] at hP9 hD9
              exact zz_zret hx hb hr hlocks d_Mo_makes_359 (by decide) hS (by first | exact Nat.le_refl _ | decide | omega | (dsimp only; omega)) (by first | exact Nat.le_refl _ | decide | omega | (dsimp only; omega)) (u_54, la, ca) ⟨by rw [hmo]; rfl, by rw [hmo]; exact hL_56⟩ hP9 hK9 hD9
            · skip
              have f_134 : v = 88 := sb_e1 (k := 88) hv (by decide) c_134
              refine lv_iconst (v := 1) hx hb d_Mo_makes_137 (by decide) ?_
              refine lv_goto (tgt := 142) hx hb d_Mo_makes_138 (by decide) ?_
              refine lv_topi (fun y_57 ey_57 => ?_)
              have ey_57 : y_57 = (by_z (decide (v = 88)) : Int32) := ey_57.trans (show 1 = by_z (decide (v = 88)) from (by rw [decide_eq_true f_134]; rfl))
              subst ey_57
              have hPc := hP.sub (ws' := [(mo, .inr (8, [.int th, .int fd, .ref rt, .int mn, .ref rk, .ref rv, .ref rw, .ref ro, .int md, .ref rr, .int (nI (([] : List Nat) ++ [by_b 45]).length), .ref ra, .long pz, .int kc, .ref rc, .ref rl, .ref rb, .int la, .int ca])), (ra, .inl (cB, 16400, .inl u_49)), (rk, .inl (cI, 16, .inl fk)), (rv, .inl (cL, 16, .inr (.inl fv)))]) [4, 5, 0, 1] rfl
              have hKc := hK.sub (tys' := [(cB, .byte), (cI, .int), (cL, .long)]) [0, 1, 2] rfl
              have hDc := hD.sub (ws' := [(mo, .inr (8, [.int th, .int fd, .ref rt, .int mn, .ref rk, .ref rv, .ref rw, .ref ro, .int md, .ref rr, .int (nI (([] : List Nat) ++ [by_b 45]).length), .ref ra, .long pz, .int kc, .ref rc, .ref rl, .ref rb, .int la, .int ca])), (ra, .inl (cB, 16400, .inl u_49)), (rk, .inl (cI, 16, .inl fk)), (rv, .inl (cL, 16, .inr (.inl fv)))]) [4, 5, 0, 1] (by decide) rfl
              have hFc := va_free (wc := [(mo, .inr (8, [.int th, .int fd, .ref rt, .int mn, .ref rk, .ref rv, .ref rw, .ref ro, .int md, .ref rr, .int (nI (([] : List Nat) ++ [by_b 45]).length), .ref ra, .long pz, .int kc, .ref rc, .ref rl, .ref rb, .int la, .int ca])), (ra, .inl (cB, 16400, .inl u_49)), (rk, .inl (cI, 16, .inl fk)), (rv, .inl (cL, 16, .inr (.inl fv)))]) hD hS hA [4, 5, 0, 1] rfl
              refine zz_callv (va_runV (As := [.int (nI j), .int (nI (mb_v v)), .int (by_z (decide (v = 88)))]) (rest := []) ⟨hx, hb, hml, hown, hg⟩ (c_Mo_sized l dC dI mo rt rk rv rw ro rr ra rc rl rb th fd mn md (nI (([] : List Nat) ++ [by_b 45]).length) pz kc la ca cB u_49 (([] : List Nat) ++ [by_b 45]) cI cL fk fv j (mb_v v) (decide (v = 88)) hL_51 (by (try simp only [List.length_append, List.length_cons, List.length_nil]); omega) hj (mb_s (n := 0) (by omega)).2.2.2.2.1 (mb_s (n := 0) (by omega)).2.2.2.2.2 H.size) (cwV 3 hg (gi_V kw_867 kw_869 sw_17 kw_9 kw_870) rfl rfl rfl (by decide +kernel) ⟨Nat.le_of_ble_eq_true rfl, Nat.le_of_ble_eq_true rfl⟩) (zz_preV hPc hKc hDc _ (q0 := 0) (ci := 8) rfl rfl) rfl rfl hl.1 rfl (lv_room (Nat.le_of_ble_eq_true rfl)) d_Mo_makes_142 ⟨Nat.le_of_ble_eq_true rfl, Nat.le_of_ble_eq_true rfl⟩) hS hFc (fun u H1 k9 p9 d9 => va_join (wr := [(rw, .inl (cI, 16, .inl fw)), (ro, .inl (cB, 65536, .inl fo))]) hP hD [4, 5, 0, 1] [2, 3] rfl rfl (by decide) (by decide) k9 hFc p9 d9) (fun u H locs hw hP hD hK1 hS => ?_)
              obtain ⟨u_58, rfl⟩ : ∃ z, z = u := ⟨_, rfl⟩
              try dsimp only at hw
              have hP : va_P (dC, dI) vwCl [(rw, .inl (cI, 16, .inl fw)), (ro, .inl (cB, 65536, .inl fo)), (mo, .inr (8, [.int th, .int fd, .ref rt, .int mn, .ref rk, .ref rv, .ref rw, .ref ro, .int md, .ref rr, .int (nI ((([] : List Nat) ++ [by_b 45]) ++ (nu_f (mb_v v) (dg_t (decide (v = 88))) 64 (ar_m (fk j) (fv j))).reverse).length), .ref ra, .long pz, .int kc, .ref rc, .ref rl, .ref rb, .int la, .int ca])), (ra, .inl (cB, 16400, .inl u_58)), (rk, .inl (cI, 16, .inl fk)), (rv, .inl (cL, 16, .inr (.inl fv)))] H := hP
              have hD : va_D A [(rw, .inl (cI, 16, .inl fw)), (ro, .inl (cB, 65536, .inl fo)), (mo, .inr (8, [.int th, .int fd, .ref rt, .int mn, .ref rk, .ref rv, .ref rw, .ref ro, .int md, .ref rr, .int (nI ((([] : List Nat) ++ [by_b 45]) ++ (nu_f (mb_v v) (dg_t (decide (v = 88))) 64 (ar_m (fk j) (fv j))).reverse).length), .ref ra, .long pz, .int kc, .ref rc, .ref rl, .ref rb, .int la, .int ca])), (ra, .inl (cB, 16400, .inl u_58)), (rk, .inl (cI, 16, .inl fk)), (rv, .inl (cL, 16, .inr (.inl fv)))] := hD
              have hL_60 := hw
              refine lv_goto (tgt := 358) hx hb d_Mo_makes_145 (by decide) ?_
              refine lv_iconst (v := 1) hx hb d_Mo_makes_358 (by decide) ?_
              have hmo : (mk_o v k x B bp) = some ((([] : List Nat) ++ [by_b 45]) ++ (nu_f (mb_v v) (dg_t (decide (v = 88))) 64 (ar_m (fk j) (fv j))).reverse) := (by rw [hk9, hmg.2.1]; exact mk_b1 hkn (by omega) hbb)
              have hP9 := hP.sub (ws' := [(mo, .inr (8, [.int th, .int fd, .ref rt, .int mn, .ref rk, .ref rv, .ref rw, .ref ro, .int md, .ref rr, .int (nI ((([] : List Nat) ++ [by_b 45]) ++ (nu_f (mb_v v) (dg_t (decide (v = 88))) 64 (ar_m (fk j) (fv j))).reverse).length), .ref ra, .long pz, .int kc, .ref rc, .ref rl, .ref rb, .int la, .int ca])), (ra, .inl (cB, 16400, .inl u_58)), (rk, .inl (cI, 16, .inl fk)), (rv, .inl (cL, 16, .inr (.inl fv))), (rw, .inl (cI, 16, .inl fw)), (ro, .inl (cB, 65536, .inl fo))]) [2, 3, 4, 5, 0, 1] rfl
              have hD9 := hD.sub (ws' := [(mo, .inr (8, [.int th, .int fd, .ref rt, .int mn, .ref rk, .ref rv, .ref rw, .ref ro, .int md, .ref rr, .int (nI ((([] : List Nat) ++ [by_b 45]) ++ (nu_f (mb_v v) (dg_t (decide (v = 88))) 64 (ar_m (fk j) (fv j))).reverse).length), .ref ra, .long pz, .int kc, .ref rc, .ref rl, .ref rb, .int la, .int ca])), (ra, .inl (cB, 16400, .inl u_58)), (rk, .inl (cI, 16, .inl fk)), (rv, .inl (cL, 16, .inr (.inl fv))), (rw, .inl (cI, 16, .inl fw)), (ro, .inl (cB, 65536, .inl fo))]) [2, 3, 4, 5, 0, 1] (by decide) rfl
              have hK9 := hK.sub (tys' := [(cB, .byte), (cI, .int), (cL, .long)]) [0, 1, 2] rfl
              rw [show nI ((([] : List Nat) ++ [by_b 45]) ++ (nu_f (mb_v v) (dg_t (decide (v = 88))) 64 (ar_m (fk j) (fv j))).reverse).length = nI ((mk_o v k x B bp).getD []).length by rw [hmo]; rfl] at hP9 hD9
              exact zz_zret hx hb hr hlocks d_Mo_makes_359 (by decide) hS (by first | exact Nat.le_refl _ | decide | omega | (dsimp only; omega)) (by first | exact Nat.le_refl _ | decide | omega | (dsimp only; omega)) (u_58, la, ca) ⟨by rw [hmo]; rfl, by rw [hmo]; exact hL_60⟩ hP9 hK9 hD9
      · skip
        have hcn : x.toInt32 = nI (ut_cn x.toInt) := ut_ct (by_z_t hr_5 c_69)
        refine lv_aload_n hx hb d_Mo_makes_72 rfl (lv_at hl 2 rfl) ?_
        refine va_get (D := (dC, dI)) (ci := 8) (v := .ref rv) (C := "TextForgeModel") (T := TX8) (N := 19) hx hb hg iwX8 hown hK hP 0 rfl rfl 5 (by decide) (hg _ kw_731) (fun _ h9 => h9) rfl d_Mo_makes_73 ?_
        refine lv_iload_n hx hb d_Mo_makes_76 rfl (lv_at hl 4 rfl) ?_
        refine va_lald hx hb hK hP 3 2 rfl rfl (vp_in_nI hj (by decide)) d_Mo_makes_77 ?_
        refine lv_topl (fun y_61 ey_61 => ?_)
        have ey_61 : y_61 = (x : Int64) := ey_61.trans (show (fv (nI j).toNatClampNeg) = x from (by rw [nI_clamp (show j < 2 ^ 31 by omega)]; exact hmg.2.1))
        rw [ey_61]
        refine lv_l2i hx hb d_Mo_makes_78 rfl ?_
        refine lv_goto (tgt := 84) hx hb d_Mo_makes_79 (by decide) ?_
        refine lv_topi (fun y_62 ey_62 => ?_)
        have ey_62 : y_62 = (nI (ut_cn x.toInt) : Int32) := ey_62.trans (show x.toInt32 = nI (ut_cn x.toInt) from hcn)
        subst ey_62
        refine lv_istore (lv' := [(6, .int (nI (ut_cn x.toInt))), (5, .int 0), (4, .int 1), (0, .ref mo), (1, .int (sb_b v)), (2, .int (nI j)), (3, .int (by_z bp))]) hx hb d_Mo_makes_84 hl (by decide) rfl (fun ls hl => ?_)
        refine lv_iload hx hb d_Mo_makes_86 (lv_at hl 2 rfl) ?_
        refine lv_if_eq (tgt := 148) hx hb d_Mo_makes_88 (by decide) (fun c9 => by first | exact absurd c9 (by decide) | exact absurd (by decide) c9) (fun _ => ?_)
        refine lv_iload_n hx hb d_Mo_makes_91 rfl (lv_at hl 4 rfl) ?_
        have hPc := hP.sub (ws' := []) [] rfl
        have hKc := hK.sub (tys' := []) [] rfl
        refine vp_callSi (W.runS (As := [.int (sb_b v)]) (rest := []) ⟨hx, hb, hml, hown, hg⟩ (c_Mo_baseOf l dC dI v hv) (va_cwS 1 hg (gi_S kw_856 kw_857 kw_9 kw_858) rfl rfl rfl (by decide +kernel) ⟨Nat.le_of_ble_eq_true rfl, Nat.le_of_ble_eq_true rfl⟩) (zz_prJS hPc hKc _) rfl rfl hl.1 rfl (lv_room (Nat.le_of_ble_eq_true rfl)) d_Mo_makes_92 ⟨Nat.le_of_ble_eq_true rfl, Nat.le_of_ble_eq_true rfl⟩) (fun r_63 hr_63 => ?_)
        subst hr_63
        refine lv_if_le (tgt := 148) hx hb d_Mo_makes_95 (by decide) (fun c_95 => ?_) (fun c_95 => ?_)
        · skip
          have f_95 : (mb_v v) ≤ 0 := (nI_leI (b := 0) (by have := mb_l v; omega) (by omega)).mp c_95
          refine lv_iload hx hb d_Mo_makes_148 (lv_at hl 1 rfl) ?_
          refine lv_if_eq (tgt := 220) hx hb d_Mo_makes_150 (by decide) (fun _ => ?_) (fun c9 => by first | exact absurd c9 rfl | exact absurd rfl c9)
          refine lv_iload hx hb d_Mo_makes_220 (lv_at hl 2 rfl) ?_
          refine lv_if_eq (tgt := 240) hx hb d_Mo_makes_222 (by decide) (fun c9 => by first | exact absurd c9 (by decide) | exact absurd (by decide) c9) (fun _ => ?_)
          refine lv_iload_n hx hb d_Mo_makes_225 rfl (lv_at hl 4 rfl) ?_
          refine lv_bipush (v := 99) hx hb d_Mo_makes_226 (by decide) ?_
          refine lv_icmp_ne (tgt := 240) hx hb d_Mo_makes_228 (by decide) (fun c_228 => ?_) (fun c_228 => ?_)
          · skip
            have f_228 : v ≠ 99 := sb_e2 (k := 99) hv (by decide) c_228
            refine lv_iload hx hb d_Mo_makes_240 (lv_at hl 2 rfl) ?_
            refine lv_if_eq (tgt := 274) hx hb d_Mo_makes_242 (by decide) (fun c9 => by first | exact absurd c9 (by decide) | exact absurd (by decide) c9) (fun _ => ?_)
            refine lv_iload_n hx hb d_Mo_makes_245 rfl (lv_at hl 4 rfl) ?_
            refine lv_bipush (v := 113) hx hb d_Mo_makes_246 (by decide) ?_
            refine lv_icmp_ne (tgt := 274) hx hb d_Mo_makes_248 (by decide) (fun c_248 => ?_) (fun c_248 => ?_)
            · skip
              have f_248 : v ≠ 113 := sb_e2 (k := 113) hv (by decide) c_248
              refine lv_iload hx hb d_Mo_makes_274 (lv_at hl 1 rfl) ?_
              refine lv_if_eq (tgt := 293) hx hb d_Mo_makes_276 (by decide) (fun _ => ?_) (fun c9 => by first | exact absurd c9 rfl | exact absurd rfl c9)
              refine lv_iload hx hb d_Mo_makes_293 (lv_at hl 1 rfl) ?_
              refine lv_if_eq (tgt := 326) hx hb d_Mo_makes_295 (by decide) (fun _ => ?_) (fun c9 => by first | exact absurd c9 rfl | exact absurd rfl c9)
              refine lv_iload_n hx hb d_Mo_makes_326 rfl (lv_at hl 4 rfl) ?_
              refine lv_bipush (v := 116) hx hb d_Mo_makes_327 (by decide) ?_
              refine lv_icmp_ne (tgt := 342) hx hb d_Mo_makes_329 (by decide) (fun c_329 => ?_) (fun c_329 => ?_)
              · skip
                have f_329 : v ≠ 116 := sb_e2 (k := 116) hv (by decide) c_329
                refine lv_iload_n hx hb d_Mo_makes_342 rfl (lv_at hl 4 rfl) ?_
                refine lv_bipush (v := 118) hx hb d_Mo_makes_343 (by decide) ?_
                refine lv_icmp_ne (tgt := 356) hx hb d_Mo_makes_345 (by decide) (fun c_345 => ?_) (fun c_345 => ?_)
                · skip
                  have f_345 : v ≠ 118 := sb_e2 (k := 118) hv (by decide) c_345
                  refine lv_iconst (v := 0) hx hb d_Mo_makes_356 (by decide) ?_
                  have hmo : (mk_o v k x B bp) = none := (mk_n0 hkn (by omega) f_228 f_248 f_345)
                  have hP9 := hP.sub (ws' := [(mo, .inr (8, [.int th, .int fd, .ref rt, .int mn, .ref rk, .ref rv, .ref rw, .ref ro, .int md, .ref rr, .int (nI ([] : List Nat).length), .ref ra, .long pz, .int kc, .ref rc, .ref rl, .ref rb, .int la, .int ca])), (ra, .inl (cB, 16400, .inl fa)), (rk, .inl (cI, 16, .inl fk)), (rv, .inl (cL, 16, .inr (.inl fv))), (rw, .inl (cI, 16, .inl fw)), (ro, .inl (cB, 65536, .inl fo))]) [0, 1, 2, 3, 4, 5] rfl
                  have hD9 := hD.sub (ws' := [(mo, .inr (8, [.int th, .int fd, .ref rt, .int mn, .ref rk, .ref rv, .ref rw, .ref ro, .int md, .ref rr, .int (nI ([] : List Nat).length), .ref ra, .long pz, .int kc, .ref rc, .ref rl, .ref rb, .int la, .int ca])), (ra, .inl (cB, 16400, .inl fa)), (rk, .inl (cI, 16, .inl fk)), (rv, .inl (cL, 16, .inr (.inl fv))), (rw, .inl (cI, 16, .inl fw)), (ro, .inl (cB, 65536, .inl fo))]) [0, 1, 2, 3, 4, 5] (by decide) rfl
                  have hK9 := hK.sub (tys' := [(cB, .byte), (cI, .int), (cL, .long)]) [0, 1, 2] rfl
                  rw [show nI ([] : List Nat).length = nI ((mk_o v k x B bp).getD []).length by rw [hmo]; rfl] at hP9 hD9
                  exact zz_zret hx hb hr hlocks d_Mo_makes_357 (by decide) hS (by first | exact Nat.le_refl _ | decide | omega | (dsimp only; omega)) (by first | exact Nat.le_refl _ | decide | omega | (dsimp only; omega)) (fa, la, ca) ⟨by rw [hmo]; rfl, by rw [hmo]; exact by_nil _⟩ hP9 hK9 hD9
                · skip
                  have f_345 : v = 118 := sb_e1 (k := 118) hv (by decide) c_345
                  refine lv_aload_n hx hb d_Mo_makes_348 rfl (lv_at hl 3 rfl) ?_
                  refine lv_iload_n hx hb d_Mo_makes_349 rfl (lv_at hl 5 rfl) ?_
                  have hPc := hP.sub (ws' := [(mo, .inr (8, [.int th, .int fd, .ref rt, .int mn, .ref rk, .ref rv, .ref rw, .ref ro, .int md, .ref rr, .int (nI ([] : List Nat).length), .ref ra, .long pz, .int kc, .ref rc, .ref rl, .ref rb, .int la, .int ca])), (ra, .inl (cB, 16400, .inl fa)), (rk, .inl (cI, 16, .inl fk)), (rv, .inl (cL, 16, .inr (.inl fv))), (rw, .inl (cI, 16, .inl fw)), (ro, .inl (cB, 65536, .inl fo))]) [0, 1, 2, 3, 4, 5] rfl
                  have hKc := hK.sub (tys' := [(cB, .byte), (cI, .int), (cL, .long)]) [0, 1, 2] rfl
                  have hDc := hD.sub (ws' := [(mo, .inr (8, [.int th, .int fd, .ref rt, .int mn, .ref rk, .ref rv, .ref rw, .ref ro, .int md, .ref rr, .int (nI ([] : List Nat).length), .ref ra, .long pz, .int kc, .ref rc, .ref rl, .ref rb, .int la, .int ca])), (ra, .inl (cB, 16400, .inl fa)), (rk, .inl (cI, 16, .inl fk)), (rv, .inl (cL, 16, .inr (.inl fv))), (rw, .inl (cI, 16, .inl fw)), (ro, .inl (cB, 65536, .inl fo))]) [0, 1, 2, 3, 4, 5] (by decide) rfl
                  have hFc := va_free (wc := [(mo, .inr (8, [.int th, .int fd, .ref rt, .int mn, .ref rk, .ref rv, .ref rw, .ref ro, .int md, .ref rr, .int (nI ([] : List Nat).length), .ref ra, .long pz, .int kc, .ref rc, .ref rl, .ref rb, .int la, .int ca])), (ra, .inl (cB, 16400, .inl fa)), (rk, .inl (cI, 16, .inl fk)), (rv, .inl (cL, 16, .inr (.inl fv))), (rw, .inl (cI, 16, .inl fw)), (ro, .inl (cB, 65536, .inl fo))]) hD hS hA [0, 1, 2, 3, 4, 5] rfl
                  refine zz_callv (va_runV (As := [.int (nI j)]) (rest := []) ⟨hx, hb, hml, hown, hg⟩ (c_Mo_plain l dC dI ad mo rt rk rv rw ro rr ra rc rl rb th fd mn md (nI ([] : List Nat).length) pz kc la ca cB fa ([] : List Nat) cI cL fk fv fw fo j k x B (by_nil _) (by (try simp only [List.length_append, List.length_cons, List.length_nil]); omega) hj hok9 hmg s.heap.size) (cwV 1 hg (gi_V kw_908 kw_910 sw_25 kw_9 kw_911) rfl rfl rfl (by decide +kernel) ⟨Nat.le_of_ble_eq_true rfl, Nat.le_of_ble_eq_true rfl⟩) (zy_preV hX hS hFc hPc hKc hDc _ (q0 := 0) (ci := 8) rfl rfl) rfl rfl hl.1 rfl (lv_room (Nat.le_of_ble_eq_true rfl)) d_Mo_makes_350 ⟨Nat.le_of_ble_eq_true rfl, Nat.le_of_ble_eq_true rfl⟩) hS hFc (fun u H1 k9 p9 d9 => va_join (wr := []) hP hD [0, 1, 2, 3, 4, 5] [] rfl rfl (by decide) (by decide) k9 hFc p9 d9) (fun u H locs hw hP hD hK1 hS => ?_)
                  obtain ⟨u_64, rfl⟩ : ∃ z, z = u := ⟨_, rfl⟩
                  try dsimp only at hw
                  have hP : va_P (dC, dI) vwCl [(mo, .inr (8, [.int th, .int fd, .ref rt, .int mn, .ref rk, .ref rv, .ref rw, .ref ro, .int md, .ref rr, .int (nI (([] : List Nat) ++ (mo_p k x B)).length), .ref ra, .long pz, .int kc, .ref rc, .ref rl, .ref rb, .int la, .int ca])), (ra, .inl (cB, 16400, .inl u_64)), (rk, .inl (cI, 16, .inl fk)), (rv, .inl (cL, 16, .inr (.inl fv))), (rw, .inl (cI, 16, .inl fw)), (ro, .inl (cB, 65536, .inl fo))] H := hP
                  have hD : va_D A [(mo, .inr (8, [.int th, .int fd, .ref rt, .int mn, .ref rk, .ref rv, .ref rw, .ref ro, .int md, .ref rr, .int (nI (([] : List Nat) ++ (mo_p k x B)).length), .ref ra, .long pz, .int kc, .ref rc, .ref rl, .ref rb, .int la, .int ca])), (ra, .inl (cB, 16400, .inl u_64)), (rk, .inl (cI, 16, .inl fk)), (rv, .inl (cL, 16, .inr (.inl fv))), (rw, .inl (cI, 16, .inl fw)), (ro, .inl (cB, 65536, .inl fo))] := hD
                  have hL_66 := hw
                  refine lv_goto (tgt := 358) hx hb d_Mo_makes_353 (by decide) ?_
                  refine lv_iconst (v := 1) hx hb d_Mo_makes_358 (by decide) ?_
                  have hmo : (mk_o v k x B bp) = some (([] : List Nat) ++ (mo_p k x B)) := (mk_np hok9 f_345)
                  have hP9 := hP.sub (ws' := [(mo, .inr (8, [.int th, .int fd, .ref rt, .int mn, .ref rk, .ref rv, .ref rw, .ref ro, .int md, .ref rr, .int (nI (([] : List Nat) ++ (mo_p k x B)).length), .ref ra, .long pz, .int kc, .ref rc, .ref rl, .ref rb, .int la, .int ca])), (ra, .inl (cB, 16400, .inl u_64)), (rk, .inl (cI, 16, .inl fk)), (rv, .inl (cL, 16, .inr (.inl fv))), (rw, .inl (cI, 16, .inl fw)), (ro, .inl (cB, 65536, .inl fo))]) [0, 1, 2, 3, 4, 5] rfl
                  have hD9 := hD.sub (ws' := [(mo, .inr (8, [.int th, .int fd, .ref rt, .int mn, .ref rk, .ref rv, .ref rw, .ref ro, .int md, .ref rr, .int (nI (([] : List Nat) ++ (mo_p k x B)).length), .ref ra, .long pz, .int kc, .ref rc, .ref rl, .ref rb, .int la, .int ca])), (ra, .inl (cB, 16400, .inl u_64)), (rk, .inl (cI, 16, .inl fk)), (rv, .inl (cL, 16, .inr (.inl fv))), (rw, .inl (cI, 16, .inl fw)), (ro, .inl (cB, 65536, .inl fo))]) [0, 1, 2, 3, 4, 5] (by decide) rfl
                  have hK9 := hK.sub (tys' := [(cB, .byte), (cI, .int), (cL, .long)]) [0, 1, 2] rfl
                  rw [show nI (([] : List Nat) ++ (mo_p k x B)).length = nI ((mk_o v k x B bp).getD []).length by rw [hmo]; rfl] at hP9 hD9
                  exact zz_zret hx hb hr hlocks d_Mo_makes_359 (by decide) hS (by first | exact Nat.le_refl _ | decide | omega | (dsimp only; omega)) (by first | exact Nat.le_refl _ | decide | omega | (dsimp only; omega)) (u_64, la, ca) ⟨by rw [hmo]; rfl, by rw [hmo]; exact hL_66⟩ hP9 hK9 hD9
              · skip
                have f_329 : v = 116 := sb_e1 (k := 116) hv (by decide) c_329
                refine lv_aload_n hx hb d_Mo_makes_332 rfl (lv_at hl 3 rfl) ?_
                refine va_get (D := (dC, dI)) (ci := 8) (v := .ref rk) (C := "TextForgeModel") (T := TX8) (N := 19) hx hb hg iwX8 hown hK hP 0 rfl rfl 4 (by decide) (hg _ kw_730) (fun _ h9 => h9) rfl d_Mo_makes_333 ?_
                refine lv_iload_n hx hb d_Mo_makes_336 rfl (lv_at hl 5 rfl) ?_
                refine va_iald hx hb hK hP 2 1 rfl rfl (vp_in_nI hj (by decide)) d_Mo_makes_337 ?_
                refine lv_topi (fun y_67 ey_67 => ?_)
                have ey_67 : y_67 = (nI k : Int32) := ey_67.trans (show (fk (nI j).toNatClampNeg) = nI k from (by rw [nI_clamp (show j < 2 ^ 31 by omega)]; exact hk9))
                subst ey_67
                refine lv_iconst (v := 2) hx hb d_Mo_makes_338 (by decide) ?_
                refine lv_icmp_eq (tgt := 348) hx hb d_Mo_makes_339 (by decide) (fun c9 => by first | exact absurd c9 (fun z => by have := nI_e1 (b := 2) z (by omega) (by decide); omega) | exact absurd (fun z => by have := nI_e1 (b := 2) z (by omega) (by decide); omega) c9) (fun _ => ?_)
                refine lv_iload_n hx hb d_Mo_makes_342 rfl (lv_at hl 4 rfl) ?_
                refine lv_bipush (v := 118) hx hb d_Mo_makes_343 (by decide) ?_
                refine lv_icmp_ne (tgt := 356) hx hb d_Mo_makes_345 (by decide) (fun c_345 => ?_) (fun c_345 => ?_)
                · skip
                  have f_345 : v ≠ 118 := sb_e2 (k := 118) hv (by decide) c_345
                  refine lv_iconst (v := 0) hx hb d_Mo_makes_356 (by decide) ?_
                  have hmo : (mk_o v k x B bp) = none := (mk_n0 hkn (by omega) f_228 f_248 f_345)
                  have hP9 := hP.sub (ws' := [(mo, .inr (8, [.int th, .int fd, .ref rt, .int mn, .ref rk, .ref rv, .ref rw, .ref ro, .int md, .ref rr, .int (nI ([] : List Nat).length), .ref ra, .long pz, .int kc, .ref rc, .ref rl, .ref rb, .int la, .int ca])), (ra, .inl (cB, 16400, .inl fa)), (rk, .inl (cI, 16, .inl fk)), (rv, .inl (cL, 16, .inr (.inl fv))), (rw, .inl (cI, 16, .inl fw)), (ro, .inl (cB, 65536, .inl fo))]) [0, 1, 2, 3, 4, 5] rfl
                  have hD9 := hD.sub (ws' := [(mo, .inr (8, [.int th, .int fd, .ref rt, .int mn, .ref rk, .ref rv, .ref rw, .ref ro, .int md, .ref rr, .int (nI ([] : List Nat).length), .ref ra, .long pz, .int kc, .ref rc, .ref rl, .ref rb, .int la, .int ca])), (ra, .inl (cB, 16400, .inl fa)), (rk, .inl (cI, 16, .inl fk)), (rv, .inl (cL, 16, .inr (.inl fv))), (rw, .inl (cI, 16, .inl fw)), (ro, .inl (cB, 65536, .inl fo))]) [0, 1, 2, 3, 4, 5] (by decide) rfl
                  have hK9 := hK.sub (tys' := [(cB, .byte), (cI, .int), (cL, .long)]) [0, 1, 2] rfl
                  rw [show nI ([] : List Nat).length = nI ((mk_o v k x B bp).getD []).length by rw [hmo]; rfl] at hP9 hD9
                  exact zz_zret hx hb hr hlocks d_Mo_makes_357 (by decide) hS (by first | exact Nat.le_refl _ | decide | omega | (dsimp only; omega)) (by first | exact Nat.le_refl _ | decide | omega | (dsimp only; omega)) (fa, la, ca) ⟨by rw [hmo]; rfl, by rw [hmo]; exact by_nil _⟩ hP9 hK9 hD9
                · skip
                  have f_345 : v = 118 := sb_e1 (k := 118) hv (by decide) c_345
                  refine lv_aload_n hx hb d_Mo_makes_348 rfl (lv_at hl 3 rfl) ?_
                  refine lv_iload_n hx hb d_Mo_makes_349 rfl (lv_at hl 5 rfl) ?_
                  have hPc := hP.sub (ws' := [(mo, .inr (8, [.int th, .int fd, .ref rt, .int mn, .ref rk, .ref rv, .ref rw, .ref ro, .int md, .ref rr, .int (nI ([] : List Nat).length), .ref ra, .long pz, .int kc, .ref rc, .ref rl, .ref rb, .int la, .int ca])), (ra, .inl (cB, 16400, .inl fa)), (rk, .inl (cI, 16, .inl fk)), (rv, .inl (cL, 16, .inr (.inl fv))), (rw, .inl (cI, 16, .inl fw)), (ro, .inl (cB, 65536, .inl fo))]) [0, 1, 2, 3, 4, 5] rfl
                  have hKc := hK.sub (tys' := [(cB, .byte), (cI, .int), (cL, .long)]) [0, 1, 2] rfl
                  have hDc := hD.sub (ws' := [(mo, .inr (8, [.int th, .int fd, .ref rt, .int mn, .ref rk, .ref rv, .ref rw, .ref ro, .int md, .ref rr, .int (nI ([] : List Nat).length), .ref ra, .long pz, .int kc, .ref rc, .ref rl, .ref rb, .int la, .int ca])), (ra, .inl (cB, 16400, .inl fa)), (rk, .inl (cI, 16, .inl fk)), (rv, .inl (cL, 16, .inr (.inl fv))), (rw, .inl (cI, 16, .inl fw)), (ro, .inl (cB, 65536, .inl fo))]) [0, 1, 2, 3, 4, 5] (by decide) rfl
                  have hFc := va_free (wc := [(mo, .inr (8, [.int th, .int fd, .ref rt, .int mn, .ref rk, .ref rv, .ref rw, .ref ro, .int md, .ref rr, .int (nI ([] : List Nat).length), .ref ra, .long pz, .int kc, .ref rc, .ref rl, .ref rb, .int la, .int ca])), (ra, .inl (cB, 16400, .inl fa)), (rk, .inl (cI, 16, .inl fk)), (rv, .inl (cL, 16, .inr (.inl fv))), (rw, .inl (cI, 16, .inl fw)), (ro, .inl (cB, 65536, .inl fo))]) hD hS hA [0, 1, 2, 3, 4, 5] rfl
                  refine zz_callv (va_runV (As := [.int (nI j)]) (rest := []) ⟨hx, hb, hml, hown, hg⟩ (c_Mo_plain l dC dI ad mo rt rk rv rw ro rr ra rc rl rb th fd mn md (nI ([] : List Nat).length) pz kc la ca cB fa ([] : List Nat) cI cL fk fv fw fo j k x B (by_nil _) (by (try simp only [List.length_append, List.length_cons, List.length_nil]); omega) hj hok9 hmg s.heap.size) (cwV 1 hg (gi_V kw_908 kw_910 sw_25 kw_9 kw_911) rfl rfl rfl (by decide +kernel) ⟨Nat.le_of_ble_eq_true rfl, Nat.le_of_ble_eq_true rfl⟩) (zy_preV hX hS hFc hPc hKc hDc _ (q0 := 0) (ci := 8) rfl rfl) rfl rfl hl.1 rfl (lv_room (Nat.le_of_ble_eq_true rfl)) d_Mo_makes_350 ⟨Nat.le_of_ble_eq_true rfl, Nat.le_of_ble_eq_true rfl⟩) hS hFc (fun u H1 k9 p9 d9 => va_join (wr := []) hP hD [0, 1, 2, 3, 4, 5] [] rfl rfl (by decide) (by decide) k9 hFc p9 d9) (fun u H locs hw hP hD hK1 hS => ?_)
                  obtain ⟨u_68, rfl⟩ : ∃ z, z = u := ⟨_, rfl⟩
                  try dsimp only at hw
                  have hP : va_P (dC, dI) vwCl [(mo, .inr (8, [.int th, .int fd, .ref rt, .int mn, .ref rk, .ref rv, .ref rw, .ref ro, .int md, .ref rr, .int (nI (([] : List Nat) ++ (mo_p k x B)).length), .ref ra, .long pz, .int kc, .ref rc, .ref rl, .ref rb, .int la, .int ca])), (ra, .inl (cB, 16400, .inl u_68)), (rk, .inl (cI, 16, .inl fk)), (rv, .inl (cL, 16, .inr (.inl fv))), (rw, .inl (cI, 16, .inl fw)), (ro, .inl (cB, 65536, .inl fo))] H := hP
                  have hD : va_D A [(mo, .inr (8, [.int th, .int fd, .ref rt, .int mn, .ref rk, .ref rv, .ref rw, .ref ro, .int md, .ref rr, .int (nI (([] : List Nat) ++ (mo_p k x B)).length), .ref ra, .long pz, .int kc, .ref rc, .ref rl, .ref rb, .int la, .int ca])), (ra, .inl (cB, 16400, .inl u_68)), (rk, .inl (cI, 16, .inl fk)), (rv, .inl (cL, 16, .inr (.inl fv))), (rw, .inl (cI, 16, .inl fw)), (ro, .inl (cB, 65536, .inl fo))] := hD
                  have hL_70 := hw
                  refine lv_goto (tgt := 358) hx hb d_Mo_makes_353 (by decide) ?_
                  refine lv_iconst (v := 1) hx hb d_Mo_makes_358 (by decide) ?_
                  have hmo : (mk_o v k x B bp) = some (([] : List Nat) ++ (mo_p k x B)) := (mk_np hok9 f_345)
                  have hP9 := hP.sub (ws' := [(mo, .inr (8, [.int th, .int fd, .ref rt, .int mn, .ref rk, .ref rv, .ref rw, .ref ro, .int md, .ref rr, .int (nI (([] : List Nat) ++ (mo_p k x B)).length), .ref ra, .long pz, .int kc, .ref rc, .ref rl, .ref rb, .int la, .int ca])), (ra, .inl (cB, 16400, .inl u_68)), (rk, .inl (cI, 16, .inl fk)), (rv, .inl (cL, 16, .inr (.inl fv))), (rw, .inl (cI, 16, .inl fw)), (ro, .inl (cB, 65536, .inl fo))]) [0, 1, 2, 3, 4, 5] rfl
                  have hD9 := hD.sub (ws' := [(mo, .inr (8, [.int th, .int fd, .ref rt, .int mn, .ref rk, .ref rv, .ref rw, .ref ro, .int md, .ref rr, .int (nI (([] : List Nat) ++ (mo_p k x B)).length), .ref ra, .long pz, .int kc, .ref rc, .ref rl, .ref rb, .int la, .int ca])), (ra, .inl (cB, 16400, .inl u_68)), (rk, .inl (cI, 16, .inl fk)), (rv, .inl (cL, 16, .inr (.inl fv))), (rw, .inl (cI, 16, .inl fw)), (ro, .inl (cB, 65536, .inl fo))]) [0, 1, 2, 3, 4, 5] (by decide) rfl
                  have hK9 := hK.sub (tys' := [(cB, .byte), (cI, .int), (cL, .long)]) [0, 1, 2] rfl
                  rw [show nI (([] : List Nat) ++ (mo_p k x B)).length = nI ((mk_o v k x B bp).getD []).length by rw [hmo]; rfl] at hP9 hD9
                  exact zz_zret hx hb hr hlocks d_Mo_makes_359 (by decide) hS (by first | exact Nat.le_refl _ | decide | omega | (dsimp only; omega)) (by first | exact Nat.le_refl _ | decide | omega | (dsimp only; omega)) (u_68, la, ca) ⟨by rw [hmo]; rfl, by rw [hmo]; exact hL_70⟩ hP9 hK9 hD9
            · skip
              have f_248 : v = 113 := sb_e1 (k := 113) hv (by decide) c_248
              refine lv_aload_n hx hb d_Mo_makes_251 rfl (lv_at hl 3 rfl) ?_
              refine lv_bipush (v := 39) hx hb d_Mo_makes_252 (by decide) ?_
              have hPc := hP.sub (ws' := [(mo, .inr (8, [.int th, .int fd, .ref rt, .int mn, .ref rk, .ref rv, .ref rw, .ref ro, .int md, .ref rr, .int (nI ([] : List Nat).length), .ref ra, .long pz, .int kc, .ref rc, .ref rl, .ref rb, .int la, .int ca])), (ra, .inl (cB, 16400, .inl fa))]) [0, 1] rfl
              have hKc := hK.sub (tys' := [(cB, .byte)]) [0] rfl
              have hDc := hD.sub (ws' := [(mo, .inr (8, [.int th, .int fd, .ref rt, .int mn, .ref rk, .ref rv, .ref rw, .ref ro, .int md, .ref rr, .int (nI ([] : List Nat).length), .ref ra, .long pz, .int kc, .ref rc, .ref rl, .ref rb, .int la, .int ca])), (ra, .inl (cB, 16400, .inl fa))]) [0, 1] (by decide) rfl
              have hFc := va_free (wc := [(mo, .inr (8, [.int th, .int fd, .ref rt, .int mn, .ref rk, .ref rv, .ref rw, .ref ro, .int md, .ref rr, .int (nI ([] : List Nat).length), .ref ra, .long pz, .int kc, .ref rc, .ref rl, .ref rb, .int la, .int ca])), (ra, .inl (cB, 16400, .inl fa))]) hD hS hA [0, 1] rfl
              refine zz_callv (va_runV (As := [.int 39]) (rest := []) ⟨hx, hb, hml, hown, hg⟩ (c_Mo_put l dC dI mo rt rk rv rw ro rr ra rc rl rb th fd mn md (nI ([] : List Nat).length) pz kc la ca cB fa ([] : List Nat) 39 (by_nil _) (by (try simp only [List.length_append, List.length_cons, List.length_nil]); omega) s.heap.size) (cwV 1 hg (gi_V kw_863 kw_865 sw_16 kw_9 kw_866) rfl rfl rfl (by decide +kernel) ⟨Nat.le_of_ble_eq_true rfl, Nat.le_of_ble_eq_true rfl⟩) (zz_preV hPc hKc hDc _ (q0 := 0) (ci := 8) rfl rfl) rfl rfl hl.1 rfl (lv_room (Nat.le_of_ble_eq_true rfl)) d_Mo_makes_254 ⟨Nat.le_of_ble_eq_true rfl, Nat.le_of_ble_eq_true rfl⟩) hS hFc (fun u H1 k9 p9 d9 => va_join (wr := [(rk, .inl (cI, 16, .inl fk)), (rv, .inl (cL, 16, .inr (.inl fv))), (rw, .inl (cI, 16, .inl fw)), (ro, .inl (cB, 65536, .inl fo))]) hP hD [0, 1] [2, 3, 4, 5] rfl rfl (by decide) (by decide) k9 hFc p9 d9) (fun u H locs hw hP hD hK1 hS => ?_)
              obtain ⟨u_71, rfl⟩ : ∃ z, z = u := ⟨_, rfl⟩
              try dsimp only at hw
              have hP : va_P (dC, dI) vwCl [(rk, .inl (cI, 16, .inl fk)), (rv, .inl (cL, 16, .inr (.inl fv))), (rw, .inl (cI, 16, .inl fw)), (ro, .inl (cB, 65536, .inl fo)), (mo, .inr (8, [.int th, .int fd, .ref rt, .int mn, .ref rk, .ref rv, .ref rw, .ref ro, .int md, .ref rr, .int (nI (([] : List Nat) ++ [by_b 39]).length), .ref ra, .long pz, .int kc, .ref rc, .ref rl, .ref rb, .int la, .int ca])), (ra, .inl (cB, 16400, .inl u_71))] H := hP
              have hD : va_D A [(rk, .inl (cI, 16, .inl fk)), (rv, .inl (cL, 16, .inr (.inl fv))), (rw, .inl (cI, 16, .inl fw)), (ro, .inl (cB, 65536, .inl fo)), (mo, .inr (8, [.int th, .int fd, .ref rt, .int mn, .ref rk, .ref rv, .ref rw, .ref ro, .int md, .ref rr, .int (nI (([] : List Nat) ++ [by_b 39]).length), .ref ra, .long pz, .int kc, .ref rc, .ref rl, .ref rb, .int la, .int ca])), (ra, .inl (cB, 16400, .inl u_71))] := hD
              have hL_73 := hw
              refine lv_aload_n hx hb d_Mo_makes_257 rfl (lv_at hl 3 rfl) ?_
              refine lv_iload hx hb d_Mo_makes_258 (lv_at hl 0 rfl) ?_
              refine lv_bipush (v := 39) hx hb d_Mo_makes_260 (by decide) ?_
              have hPc := hP.sub (ws' := [(mo, .inr (8, [.int th, .int fd, .ref rt, .int mn, .ref rk, .ref rv, .ref rw, .ref ro, .int md, .ref rr, .int (nI (([] : List Nat) ++ [by_b 39]).length), .ref ra, .long pz, .int kc, .ref rc, .ref rl, .ref rb, .int la, .int ca])), (ra, .inl (cB, 16400, .inl u_71))]) [4, 5] rfl
              have hKc := hK.sub (tys' := [(cB, .byte)]) [0] rfl
              have hDc := hD.sub (ws' := [(mo, .inr (8, [.int th, .int fd, .ref rt, .int mn, .ref rk, .ref rv, .ref rw, .ref ro, .int md, .ref rr, .int (nI (([] : List Nat) ++ [by_b 39]).length), .ref ra, .long pz, .int kc, .ref rc, .ref rl, .ref rb, .int la, .int ca])), (ra, .inl (cB, 16400, .inl u_71))]) [4, 5] (by decide) rfl
              have hFc := va_free (wc := [(mo, .inr (8, [.int th, .int fd, .ref rt, .int mn, .ref rk, .ref rv, .ref rw, .ref ro, .int md, .ref rr, .int (nI (([] : List Nat) ++ [by_b 39]).length), .ref ra, .long pz, .int kc, .ref rc, .ref rl, .ref rb, .int la, .int ca])), (ra, .inl (cB, 16400, .inl u_71))]) hD hS hA [4, 5] rfl
              refine zz_callv (va_runV (As := [.int (nI (ut_cn x.toInt)), .int 39]) (rest := []) ⟨hx, hb, hml, hown, hg⟩ (c_Mo_quoted l dC dI ad mo rt rk rv rw ro rr ra rc rl rb th fd mn md (nI (([] : List Nat) ++ [by_b 39]).length) pz kc la ca cB u_71 (([] : List Nat) ++ [by_b 39]) (ut_cn x.toInt) 39 hL_73 (by (try simp only [List.length_append, List.length_cons, List.length_nil]); omega) (pp_cn _) (by decide) H.size) (cwV 2 hg (gi_V kw_894 kw_896 sw_22 kw_9 kw_897) rfl rfl rfl (by decide +kernel) ⟨Nat.le_of_ble_eq_true rfl, Nat.le_of_ble_eq_true rfl⟩) (zy_preV hX hS hFc hPc hKc hDc _ (q0 := 0) (ci := 8) rfl rfl) rfl rfl hl.1 rfl (lv_room (Nat.le_of_ble_eq_true rfl)) d_Mo_makes_262 ⟨Nat.le_of_ble_eq_true rfl, Nat.le_of_ble_eq_true rfl⟩) hS hFc (fun u H1 k9 p9 d9 => va_join (wr := [(rk, .inl (cI, 16, .inl fk)), (rv, .inl (cL, 16, .inr (.inl fv))), (rw, .inl (cI, 16, .inl fw)), (ro, .inl (cB, 65536, .inl fo))]) hP hD [4, 5] [0, 1, 2, 3] rfl rfl (by decide) (by decide) k9 hFc p9 d9) (fun u H locs hw hP hD hK1 hS => ?_)
              obtain ⟨u_74, rfl⟩ : ∃ z, z = u := ⟨_, rfl⟩
              try dsimp only at hw
              have hP : va_P (dC, dI) vwCl [(rk, .inl (cI, 16, .inl fk)), (rv, .inl (cL, 16, .inr (.inl fv))), (rw, .inl (cI, 16, .inl fw)), (ro, .inl (cB, 65536, .inl fo)), (mo, .inr (8, [.int th, .int fd, .ref rt, .int mn, .ref rk, .ref rv, .ref rw, .ref ro, .int md, .ref rr, .int (nI ((([] : List Nat) ++ [by_b 39]) ++ (mq 39 (ut_cn x.toInt))).length), .ref ra, .long pz, .int kc, .ref rc, .ref rl, .ref rb, .int la, .int ca])), (ra, .inl (cB, 16400, .inl u_74))] H := hP
              have hD : va_D A [(rk, .inl (cI, 16, .inl fk)), (rv, .inl (cL, 16, .inr (.inl fv))), (rw, .inl (cI, 16, .inl fw)), (ro, .inl (cB, 65536, .inl fo)), (mo, .inr (8, [.int th, .int fd, .ref rt, .int mn, .ref rk, .ref rv, .ref rw, .ref ro, .int md, .ref rr, .int (nI ((([] : List Nat) ++ [by_b 39]) ++ (mq 39 (ut_cn x.toInt))).length), .ref ra, .long pz, .int kc, .ref rc, .ref rl, .ref rb, .int la, .int ca])), (ra, .inl (cB, 16400, .inl u_74))] := hD
              have hL_76 := hw
              have hq4 := mq_len 39 (ut_cn x.toInt)
              refine lv_aload_n hx hb d_Mo_makes_265 rfl (lv_at hl 3 rfl) ?_
              refine lv_bipush (v := 39) hx hb d_Mo_makes_266 (by decide) ?_
              have hPc := hP.sub (ws' := [(mo, .inr (8, [.int th, .int fd, .ref rt, .int mn, .ref rk, .ref rv, .ref rw, .ref ro, .int md, .ref rr, .int (nI ((([] : List Nat) ++ [by_b 39]) ++ (mq 39 (ut_cn x.toInt))).length), .ref ra, .long pz, .int kc, .ref rc, .ref rl, .ref rb, .int la, .int ca])), (ra, .inl (cB, 16400, .inl u_74))]) [4, 5] rfl
              have hKc := hK.sub (tys' := [(cB, .byte)]) [0] rfl
              have hDc := hD.sub (ws' := [(mo, .inr (8, [.int th, .int fd, .ref rt, .int mn, .ref rk, .ref rv, .ref rw, .ref ro, .int md, .ref rr, .int (nI ((([] : List Nat) ++ [by_b 39]) ++ (mq 39 (ut_cn x.toInt))).length), .ref ra, .long pz, .int kc, .ref rc, .ref rl, .ref rb, .int la, .int ca])), (ra, .inl (cB, 16400, .inl u_74))]) [4, 5] (by decide) rfl
              have hFc := va_free (wc := [(mo, .inr (8, [.int th, .int fd, .ref rt, .int mn, .ref rk, .ref rv, .ref rw, .ref ro, .int md, .ref rr, .int (nI ((([] : List Nat) ++ [by_b 39]) ++ (mq 39 (ut_cn x.toInt))).length), .ref ra, .long pz, .int kc, .ref rc, .ref rl, .ref rb, .int la, .int ca])), (ra, .inl (cB, 16400, .inl u_74))]) hD hS hA [4, 5] rfl
              refine zz_callv (va_runV (As := [.int 39]) (rest := []) ⟨hx, hb, hml, hown, hg⟩ (c_Mo_put l dC dI mo rt rk rv rw ro rr ra rc rl rb th fd mn md (nI ((([] : List Nat) ++ [by_b 39]) ++ (mq 39 (ut_cn x.toInt))).length) pz kc la ca cB u_74 ((([] : List Nat) ++ [by_b 39]) ++ (mq 39 (ut_cn x.toInt))) 39 hL_76 (by (try simp only [List.length_append, List.length_cons, List.length_nil]); omega) H.size) (cwV 1 hg (gi_V kw_863 kw_865 sw_16 kw_9 kw_866) rfl rfl rfl (by decide +kernel) ⟨Nat.le_of_ble_eq_true rfl, Nat.le_of_ble_eq_true rfl⟩) (zz_preV hPc hKc hDc _ (q0 := 0) (ci := 8) rfl rfl) rfl rfl hl.1 rfl (lv_room (Nat.le_of_ble_eq_true rfl)) d_Mo_makes_268 ⟨Nat.le_of_ble_eq_true rfl, Nat.le_of_ble_eq_true rfl⟩) hS hFc (fun u H1 k9 p9 d9 => va_join (wr := [(rk, .inl (cI, 16, .inl fk)), (rv, .inl (cL, 16, .inr (.inl fv))), (rw, .inl (cI, 16, .inl fw)), (ro, .inl (cB, 65536, .inl fo))]) hP hD [4, 5] [0, 1, 2, 3] rfl rfl (by decide) (by decide) k9 hFc p9 d9) (fun u H locs hw hP hD hK1 hS => ?_)
              obtain ⟨u_77, rfl⟩ : ∃ z, z = u := ⟨_, rfl⟩
              try dsimp only at hw
              have hP : va_P (dC, dI) vwCl [(rk, .inl (cI, 16, .inl fk)), (rv, .inl (cL, 16, .inr (.inl fv))), (rw, .inl (cI, 16, .inl fw)), (ro, .inl (cB, 65536, .inl fo)), (mo, .inr (8, [.int th, .int fd, .ref rt, .int mn, .ref rk, .ref rv, .ref rw, .ref ro, .int md, .ref rr, .int (nI (((([] : List Nat) ++ [by_b 39]) ++ (mq 39 (ut_cn x.toInt))) ++ [by_b 39]).length), .ref ra, .long pz, .int kc, .ref rc, .ref rl, .ref rb, .int la, .int ca])), (ra, .inl (cB, 16400, .inl u_77))] H := hP
              have hD : va_D A [(rk, .inl (cI, 16, .inl fk)), (rv, .inl (cL, 16, .inr (.inl fv))), (rw, .inl (cI, 16, .inl fw)), (ro, .inl (cB, 65536, .inl fo)), (mo, .inr (8, [.int th, .int fd, .ref rt, .int mn, .ref rk, .ref rv, .ref rw, .ref ro, .int md, .ref rr, .int (nI (((([] : List Nat) ++ [by_b 39]) ++ (mq 39 (ut_cn x.toInt))) ++ [by_b 39]).length), .ref ra, .long pz, .int kc, .ref rc, .ref rl, .ref rb, .int la, .int ca])), (ra, .inl (cB, 16400, .inl u_77))] := hD
              have hL_79 := hw
              refine lv_goto (tgt := 358) hx hb d_Mo_makes_271 (by decide) ?_
              refine lv_iconst (v := 1) hx hb d_Mo_makes_358 (by decide) ?_
              have hmo : (mk_o v k x B bp) = some (((([] : List Nat) ++ [by_b 39]) ++ (mq 39 (ut_cn x.toInt))) ++ [by_b 39]) := (mk_nq hkn f_248)
              have hP9 := hP.sub (ws' := [(mo, .inr (8, [.int th, .int fd, .ref rt, .int mn, .ref rk, .ref rv, .ref rw, .ref ro, .int md, .ref rr, .int (nI (((([] : List Nat) ++ [by_b 39]) ++ (mq 39 (ut_cn x.toInt))) ++ [by_b 39]).length), .ref ra, .long pz, .int kc, .ref rc, .ref rl, .ref rb, .int la, .int ca])), (ra, .inl (cB, 16400, .inl u_77)), (rk, .inl (cI, 16, .inl fk)), (rv, .inl (cL, 16, .inr (.inl fv))), (rw, .inl (cI, 16, .inl fw)), (ro, .inl (cB, 65536, .inl fo))]) [4, 5, 0, 1, 2, 3] rfl
              have hD9 := hD.sub (ws' := [(mo, .inr (8, [.int th, .int fd, .ref rt, .int mn, .ref rk, .ref rv, .ref rw, .ref ro, .int md, .ref rr, .int (nI (((([] : List Nat) ++ [by_b 39]) ++ (mq 39 (ut_cn x.toInt))) ++ [by_b 39]).length), .ref ra, .long pz, .int kc, .ref rc, .ref rl, .ref rb, .int la, .int ca])), (ra, .inl (cB, 16400, .inl u_77)), (rk, .inl (cI, 16, .inl fk)), (rv, .inl (cL, 16, .inr (.inl fv))), (rw, .inl (cI, 16, .inl fw)), (ro, .inl (cB, 65536, .inl fo))]) [4, 5, 0, 1, 2, 3] (by decide) rfl
              have hK9 := hK.sub (tys' := [(cB, .byte), (cI, .int), (cL, .long)]) [0, 1, 2] rfl
              rw [show nI (((([] : List Nat) ++ [by_b 39]) ++ (mq 39 (ut_cn x.toInt))) ++ [by_b 39]).length = nI ((mk_o v k x B bp).getD []).length by rw [hmo]; rfl] at hP9 hD9
              exact zz_zret hx hb hr hlocks d_Mo_makes_359 (by decide) hS (by first | exact Nat.le_refl _ | decide | omega | (dsimp only; omega)) (by first | exact Nat.le_refl _ | decide | omega | (dsimp only; omega)) (u_77, la, ca) ⟨by rw [hmo]; rfl, by rw [hmo]; exact hL_79⟩ hP9 hK9 hD9
          · skip
            have f_228 : v = 99 := sb_e1 (k := 99) hv (by decide) c_228
            refine lv_aload_n hx hb d_Mo_makes_231 rfl (lv_at hl 3 rfl) ?_
            refine lv_iload hx hb d_Mo_makes_232 (lv_at hl 0 rfl) ?_
            have hPc := hP.sub (ws' := [(mo, .inr (8, [.int th, .int fd, .ref rt, .int mn, .ref rk, .ref rv, .ref rw, .ref ro, .int md, .ref rr, .int (nI ([] : List Nat).length), .ref ra, .long pz, .int kc, .ref rc, .ref rl, .ref rb, .int la, .int ca])), (ra, .inl (cB, 16400, .inl fa))]) [0, 1] rfl
            have hKc := hK.sub (tys' := [(cB, .byte)]) [0] rfl
            have hDc := hD.sub (ws' := [(mo, .inr (8, [.int th, .int fd, .ref rt, .int mn, .ref rk, .ref rv, .ref rw, .ref ro, .int md, .ref rr, .int (nI ([] : List Nat).length), .ref ra, .long pz, .int kc, .ref rc, .ref rl, .ref rb, .int la, .int ca])), (ra, .inl (cB, 16400, .inl fa))]) [0, 1] (by decide) rfl
            have hFc := va_free (wc := [(mo, .inr (8, [.int th, .int fd, .ref rt, .int mn, .ref rk, .ref rv, .ref rw, .ref ro, .int md, .ref rr, .int (nI ([] : List Nat).length), .ref ra, .long pz, .int kc, .ref rc, .ref rl, .ref rb, .int la, .int ca])), (ra, .inl (cB, 16400, .inl fa))]) hD hS hA [0, 1] rfl
            refine zz_callv (va_runV (As := [.int (nI (ut_cn x.toInt))]) (rest := []) ⟨hx, hb, hml, hown, hg⟩ (c_Mo_utf l dC dI mo rt rk rv rw ro rr ra rc rl rb th fd mn md (nI ([] : List Nat).length) pz kc la ca cB fa ([] : List Nat) (ut_cn x.toInt) (by_nil _) (by (try simp only [List.length_append, List.length_cons, List.length_nil]); omega) (pp_cn _) s.heap.size) (cwV 1 hg (gi_V kw_890 kw_892 sw_21 kw_9 kw_893) rfl rfl rfl (by decide +kernel) ⟨Nat.le_of_ble_eq_true rfl, Nat.le_of_ble_eq_true rfl⟩) (zz_preV hPc hKc hDc _ (q0 := 0) (ci := 8) rfl rfl) rfl rfl hl.1 rfl (lv_room (Nat.le_of_ble_eq_true rfl)) d_Mo_makes_234 ⟨Nat.le_of_ble_eq_true rfl, Nat.le_of_ble_eq_true rfl⟩) hS hFc (fun u H1 k9 p9 d9 => va_join (wr := [(rk, .inl (cI, 16, .inl fk)), (rv, .inl (cL, 16, .inr (.inl fv))), (rw, .inl (cI, 16, .inl fw)), (ro, .inl (cB, 65536, .inl fo))]) hP hD [0, 1] [2, 3, 4, 5] rfl rfl (by decide) (by decide) k9 hFc p9 d9) (fun u H locs hw hP hD hK1 hS => ?_)
            obtain ⟨u_80, rfl⟩ : ∃ z, z = u := ⟨_, rfl⟩
            try dsimp only at hw
            have hP : va_P (dC, dI) vwCl [(rk, .inl (cI, 16, .inl fk)), (rv, .inl (cL, 16, .inr (.inl fv))), (rw, .inl (cI, 16, .inl fw)), (ro, .inl (cB, 65536, .inl fo)), (mo, .inr (8, [.int th, .int fd, .ref rt, .int mn, .ref rk, .ref rv, .ref rw, .ref ro, .int md, .ref rr, .int (nI (([] : List Nat) ++ (ut_8 (ut_cn x.toInt))).length), .ref ra, .long pz, .int kc, .ref rc, .ref rl, .ref rb, .int la, .int ca])), (ra, .inl (cB, 16400, .inl u_80))] H := hP
            have hD : va_D A [(rk, .inl (cI, 16, .inl fk)), (rv, .inl (cL, 16, .inr (.inl fv))), (rw, .inl (cI, 16, .inl fw)), (ro, .inl (cB, 65536, .inl fo)), (mo, .inr (8, [.int th, .int fd, .ref rt, .int mn, .ref rk, .ref rv, .ref rw, .ref ro, .int md, .ref rr, .int (nI (([] : List Nat) ++ (ut_8 (ut_cn x.toInt))).length), .ref ra, .long pz, .int kc, .ref rc, .ref rl, .ref rb, .int la, .int ca])), (ra, .inl (cB, 16400, .inl u_80))] := hD
            have hL_82 := hw
            refine lv_goto (tgt := 358) hx hb d_Mo_makes_237 (by decide) ?_
            refine lv_iconst (v := 1) hx hb d_Mo_makes_358 (by decide) ?_
            have hmo : (mk_o v k x B bp) = some (([] : List Nat) ++ (ut_8 (ut_cn x.toInt))) := (mk_nc hkn f_228)
            have hP9 := hP.sub (ws' := [(mo, .inr (8, [.int th, .int fd, .ref rt, .int mn, .ref rk, .ref rv, .ref rw, .ref ro, .int md, .ref rr, .int (nI (([] : List Nat) ++ (ut_8 (ut_cn x.toInt))).length), .ref ra, .long pz, .int kc, .ref rc, .ref rl, .ref rb, .int la, .int ca])), (ra, .inl (cB, 16400, .inl u_80)), (rk, .inl (cI, 16, .inl fk)), (rv, .inl (cL, 16, .inr (.inl fv))), (rw, .inl (cI, 16, .inl fw)), (ro, .inl (cB, 65536, .inl fo))]) [4, 5, 0, 1, 2, 3] rfl
            have hD9 := hD.sub (ws' := [(mo, .inr (8, [.int th, .int fd, .ref rt, .int mn, .ref rk, .ref rv, .ref rw, .ref ro, .int md, .ref rr, .int (nI (([] : List Nat) ++ (ut_8 (ut_cn x.toInt))).length), .ref ra, .long pz, .int kc, .ref rc, .ref rl, .ref rb, .int la, .int ca])), (ra, .inl (cB, 16400, .inl u_80)), (rk, .inl (cI, 16, .inl fk)), (rv, .inl (cL, 16, .inr (.inl fv))), (rw, .inl (cI, 16, .inl fw)), (ro, .inl (cB, 65536, .inl fo))]) [4, 5, 0, 1, 2, 3] (by decide) rfl
            have hK9 := hK.sub (tys' := [(cB, .byte), (cI, .int), (cL, .long)]) [0, 1, 2] rfl
            rw [show nI (([] : List Nat) ++ (ut_8 (ut_cn x.toInt))).length = nI ((mk_o v k x B bp).getD []).length by rw [hmo]; rfl] at hP9 hD9
            exact zz_zret hx hb hr hlocks d_Mo_makes_359 (by decide) hS (by first | exact Nat.le_refl _ | decide | omega | (dsimp only; omega)) (by first | exact Nat.le_refl _ | decide | omega | (dsimp only; omega)) (u_80, la, ca) ⟨by rw [hmo]; rfl, by rw [hmo]; exact hL_82⟩ hP9 hK9 hD9
        · skip
          have f_95 : 0 < (mb_v v) := Nat.lt_of_not_le (fun z => c_95 (nI_le (b := 0) z (by omega)))
          refine lv_aload_n hx hb d_Mo_makes_98 rfl (lv_at hl 3 rfl) ?_
          refine lv_iload_n hx hb d_Mo_makes_99 rfl (lv_at hl 5 rfl) ?_
          have hPc := hP.sub (ws' := [(mo, .inr (8, [.int th, .int fd, .ref rt, .int mn, .ref rk, .ref rv, .ref rw, .ref ro, .int md, .ref rr, .int (nI ([] : List Nat).length), .ref ra, .long pz, .int kc, .ref rc, .ref rl, .ref rb, .int la, .int ca])), (rk, .inl (cI, 16, .inl fk)), (rv, .inl (cL, 16, .inr (.inl fv)))]) [0, 2, 3] rfl
          have hKc := hK.sub (tys' := [(cI, .int), (cL, .long)]) [1, 2] rfl
          refine vp_callSi (W.runV (As := [.int (nI j)]) (rest := []) ⟨hx, hb, hml, hown, hg⟩ (c_Mo_isBelow l dC dI mo rt rk rv rw ro rr ra rc rl rb th fd mn md (nI ([] : List Nat).length) pz kc la ca cI cL fk fv j hj) (cwV 1 hg (gi_V kw_859 kw_861 sw_15 kw_9 kw_862) rfl rfl rfl (by decide +kernel) ⟨Nat.le_of_ble_eq_true rfl, Nat.le_of_ble_eq_true rfl⟩) (zz_prJV hPc hKc _ (q0 := 0) (ci := 8) rfl rfl) rfl rfl hl.1 rfl (lv_room (Nat.le_of_ble_eq_true rfl)) d_Mo_makes_100 ⟨Nat.le_of_ble_eq_true rfl, Nat.le_of_ble_eq_true rfl⟩) (fun r_83 hr_83 => ?_)
          rw [hk9, hmg.2.1] at hr_83
          refine lv_if_eq (tgt := 115) hx hb d_Mo_makes_103 (by decide) (fun c_103 => ?_) (fun c_103 => ?_)
          · skip
            have hbb : ar_b (nI k) x = false := by_z_f hr_83 c_103
            refine lv_iload_n hx hb d_Mo_makes_115 rfl (lv_at hl 6 rfl) ?_
            refine lv_if_eq (tgt := 125) hx hb d_Mo_makes_116 (by decide) (fun c_116 => ?_) (fun c_116 => ?_)
            · skip
              have hbq : bp = false := by_z_f rfl c_116
              refine lv_aload_n hx hb d_Mo_makes_125 rfl (lv_at hl 3 rfl) ?_
              refine lv_iload_n hx hb d_Mo_makes_126 rfl (lv_at hl 5 rfl) ?_
              refine lv_iload_n hx hb d_Mo_makes_127 rfl (lv_at hl 4 rfl) ?_
              have hPc := hP.sub (ws' := []) [] rfl
              have hKc := hK.sub (tys' := []) [] rfl
              refine vp_callSi (W.runS (As := [.int (sb_b v)]) (rest := [.int (nI j), .ref mo]) ⟨hx, hb, hml, hown, hg⟩ (c_Mo_baseOf l dC dI v hv) (va_cwS 1 hg (gi_S kw_856 kw_857 kw_9 kw_858) rfl rfl rfl (by decide +kernel) ⟨Nat.le_of_ble_eq_true rfl, Nat.le_of_ble_eq_true rfl⟩) (zz_prJS hPc hKc _) rfl rfl hl.1 rfl (lv_room (Nat.le_of_ble_eq_true rfl)) d_Mo_makes_128 ⟨Nat.le_of_ble_eq_true rfl, Nat.le_of_ble_eq_true rfl⟩) (fun r_84 hr_84 => ?_)
              subst hr_84
              refine lv_iload_n hx hb d_Mo_makes_131 rfl (lv_at hl 4 rfl) ?_
              refine lv_bipush (v := 88) hx hb d_Mo_makes_132 (by decide) ?_
              refine lv_icmp_ne (tgt := 141) hx hb d_Mo_makes_134 (by decide) (fun c_134 => ?_) (fun c_134 => ?_)
              · skip
                have f_134 : v ≠ 88 := sb_e2 (k := 88) hv (by decide) c_134
                refine lv_iconst (v := 0) hx hb d_Mo_makes_141 (by decide) ?_
                refine lv_topi (fun y_85 ey_85 => ?_)
                have ey_85 : y_85 = (by_z (decide (v = 88)) : Int32) := ey_85.trans (show 0 = by_z (decide (v = 88)) from (by rw [decide_eq_false f_134]; rfl))
                subst ey_85
                have hPc := hP.sub (ws' := [(mo, .inr (8, [.int th, .int fd, .ref rt, .int mn, .ref rk, .ref rv, .ref rw, .ref ro, .int md, .ref rr, .int (nI ([] : List Nat).length), .ref ra, .long pz, .int kc, .ref rc, .ref rl, .ref rb, .int la, .int ca])), (ra, .inl (cB, 16400, .inl fa)), (rk, .inl (cI, 16, .inl fk)), (rv, .inl (cL, 16, .inr (.inl fv)))]) [0, 1, 2, 3] rfl
                have hKc := hK.sub (tys' := [(cB, .byte), (cI, .int), (cL, .long)]) [0, 1, 2] rfl
                have hDc := hD.sub (ws' := [(mo, .inr (8, [.int th, .int fd, .ref rt, .int mn, .ref rk, .ref rv, .ref rw, .ref ro, .int md, .ref rr, .int (nI ([] : List Nat).length), .ref ra, .long pz, .int kc, .ref rc, .ref rl, .ref rb, .int la, .int ca])), (ra, .inl (cB, 16400, .inl fa)), (rk, .inl (cI, 16, .inl fk)), (rv, .inl (cL, 16, .inr (.inl fv)))]) [0, 1, 2, 3] (by decide) rfl
                have hFc := va_free (wc := [(mo, .inr (8, [.int th, .int fd, .ref rt, .int mn, .ref rk, .ref rv, .ref rw, .ref ro, .int md, .ref rr, .int (nI ([] : List Nat).length), .ref ra, .long pz, .int kc, .ref rc, .ref rl, .ref rb, .int la, .int ca])), (ra, .inl (cB, 16400, .inl fa)), (rk, .inl (cI, 16, .inl fk)), (rv, .inl (cL, 16, .inr (.inl fv)))]) hD hS hA [0, 1, 2, 3] rfl
                refine zz_callv (va_runV (As := [.int (nI j), .int (nI (mb_v v)), .int (by_z (decide (v = 88)))]) (rest := []) ⟨hx, hb, hml, hown, hg⟩ (c_Mo_sized l dC dI mo rt rk rv rw ro rr ra rc rl rb th fd mn md (nI ([] : List Nat).length) pz kc la ca cB fa ([] : List Nat) cI cL fk fv j (mb_v v) (decide (v = 88)) (by_nil _) (by (try simp only [List.length_append, List.length_cons, List.length_nil]); omega) hj (mb_s (n := 0) (by omega)).2.2.2.2.1 (mb_s (n := 0) (by omega)).2.2.2.2.2 s.heap.size) (cwV 3 hg (gi_V kw_867 kw_869 sw_17 kw_9 kw_870) rfl rfl rfl (by decide +kernel) ⟨Nat.le_of_ble_eq_true rfl, Nat.le_of_ble_eq_true rfl⟩) (zz_preV hPc hKc hDc _ (q0 := 0) (ci := 8) rfl rfl) rfl rfl hl.1 rfl (lv_room (Nat.le_of_ble_eq_true rfl)) d_Mo_makes_142 ⟨Nat.le_of_ble_eq_true rfl, Nat.le_of_ble_eq_true rfl⟩) hS hFc (fun u H1 k9 p9 d9 => va_join (wr := [(rw, .inl (cI, 16, .inl fw)), (ro, .inl (cB, 65536, .inl fo))]) hP hD [0, 1, 2, 3] [4, 5] rfl rfl (by decide) (by decide) k9 hFc p9 d9) (fun u H locs hw hP hD hK1 hS => ?_)
                obtain ⟨u_86, rfl⟩ : ∃ z, z = u := ⟨_, rfl⟩
                try dsimp only at hw
                have hP : va_P (dC, dI) vwCl [(rw, .inl (cI, 16, .inl fw)), (ro, .inl (cB, 65536, .inl fo)), (mo, .inr (8, [.int th, .int fd, .ref rt, .int mn, .ref rk, .ref rv, .ref rw, .ref ro, .int md, .ref rr, .int (nI (([] : List Nat) ++ (nu_f (mb_v v) (dg_t (decide (v = 88))) 64 (ar_m (fk j) (fv j))).reverse).length), .ref ra, .long pz, .int kc, .ref rc, .ref rl, .ref rb, .int la, .int ca])), (ra, .inl (cB, 16400, .inl u_86)), (rk, .inl (cI, 16, .inl fk)), (rv, .inl (cL, 16, .inr (.inl fv)))] H := hP
                have hD : va_D A [(rw, .inl (cI, 16, .inl fw)), (ro, .inl (cB, 65536, .inl fo)), (mo, .inr (8, [.int th, .int fd, .ref rt, .int mn, .ref rk, .ref rv, .ref rw, .ref ro, .int md, .ref rr, .int (nI (([] : List Nat) ++ (nu_f (mb_v v) (dg_t (decide (v = 88))) 64 (ar_m (fk j) (fv j))).reverse).length), .ref ra, .long pz, .int kc, .ref rc, .ref rl, .ref rb, .int la, .int ca])), (ra, .inl (cB, 16400, .inl u_86)), (rk, .inl (cI, 16, .inl fk)), (rv, .inl (cL, 16, .inr (.inl fv)))] := hD
                have hL_88 := hw
                refine lv_goto (tgt := 358) hx hb d_Mo_makes_145 (by decide) ?_
                refine lv_iconst (v := 1) hx hb d_Mo_makes_358 (by decide) ?_
                have hmo : (mk_o v k x B bp) = some (([] : List Nat) ++ (nu_f (mb_v v) (dg_t (decide (v = 88))) 64 (ar_m (fk j) (fv j))).reverse) := (by rw [hk9, hmg.2.1]; exact mk_b3 hkn (by omega) hbb hbq)
                have hP9 := hP.sub (ws' := [(mo, .inr (8, [.int th, .int fd, .ref rt, .int mn, .ref rk, .ref rv, .ref rw, .ref ro, .int md, .ref rr, .int (nI (([] : List Nat) ++ (nu_f (mb_v v) (dg_t (decide (v = 88))) 64 (ar_m (fk j) (fv j))).reverse).length), .ref ra, .long pz, .int kc, .ref rc, .ref rl, .ref rb, .int la, .int ca])), (ra, .inl (cB, 16400, .inl u_86)), (rk, .inl (cI, 16, .inl fk)), (rv, .inl (cL, 16, .inr (.inl fv))), (rw, .inl (cI, 16, .inl fw)), (ro, .inl (cB, 65536, .inl fo))]) [2, 3, 4, 5, 0, 1] rfl
                have hD9 := hD.sub (ws' := [(mo, .inr (8, [.int th, .int fd, .ref rt, .int mn, .ref rk, .ref rv, .ref rw, .ref ro, .int md, .ref rr, .int (nI (([] : List Nat) ++ (nu_f (mb_v v) (dg_t (decide (v = 88))) 64 (ar_m (fk j) (fv j))).reverse).length), .ref ra, .long pz, .int kc, .ref rc, .ref rl, .ref rb, .int la, .int ca])), (ra, .inl (cB, 16400, .inl u_86)), (rk, .inl (cI, 16, .inl fk)), (rv, .inl (cL, 16, .inr (.inl fv))), (rw, .inl (cI, 16, .inl fw)), (ro, .inl (cB, 65536, .inl fo))]) [2, 3, 4, 5, 0, 1] (by decide) rfl
                have hK9 := hK.sub (tys' := [(cB, .byte), (cI, .int), (cL, .long)]) [0, 1, 2] rfl
                rw [show nI (([] : List Nat) ++ (nu_f (mb_v v) (dg_t (decide (v = 88))) 64 (ar_m (fk j) (fv j))).reverse).length = nI ((mk_o v k x B bp).getD []).length by rw [hmo]; rfl] at hP9 hD9
                exact zz_zret hx hb hr hlocks d_Mo_makes_359 (by decide) hS (by first | exact Nat.le_refl _ | decide | omega | (dsimp only; omega)) (by first | exact Nat.le_refl _ | decide | omega | (dsimp only; omega)) (u_86, la, ca) ⟨by rw [hmo]; rfl, by rw [hmo]; exact hL_88⟩ hP9 hK9 hD9
              · skip
                have f_134 : v = 88 := sb_e1 (k := 88) hv (by decide) c_134
                refine lv_iconst (v := 1) hx hb d_Mo_makes_137 (by decide) ?_
                refine lv_goto (tgt := 142) hx hb d_Mo_makes_138 (by decide) ?_
                refine lv_topi (fun y_89 ey_89 => ?_)
                have ey_89 : y_89 = (by_z (decide (v = 88)) : Int32) := ey_89.trans (show 1 = by_z (decide (v = 88)) from (by rw [decide_eq_true f_134]; rfl))
                subst ey_89
                have hPc := hP.sub (ws' := [(mo, .inr (8, [.int th, .int fd, .ref rt, .int mn, .ref rk, .ref rv, .ref rw, .ref ro, .int md, .ref rr, .int (nI ([] : List Nat).length), .ref ra, .long pz, .int kc, .ref rc, .ref rl, .ref rb, .int la, .int ca])), (ra, .inl (cB, 16400, .inl fa)), (rk, .inl (cI, 16, .inl fk)), (rv, .inl (cL, 16, .inr (.inl fv)))]) [0, 1, 2, 3] rfl
                have hKc := hK.sub (tys' := [(cB, .byte), (cI, .int), (cL, .long)]) [0, 1, 2] rfl
                have hDc := hD.sub (ws' := [(mo, .inr (8, [.int th, .int fd, .ref rt, .int mn, .ref rk, .ref rv, .ref rw, .ref ro, .int md, .ref rr, .int (nI ([] : List Nat).length), .ref ra, .long pz, .int kc, .ref rc, .ref rl, .ref rb, .int la, .int ca])), (ra, .inl (cB, 16400, .inl fa)), (rk, .inl (cI, 16, .inl fk)), (rv, .inl (cL, 16, .inr (.inl fv)))]) [0, 1, 2, 3] (by decide) rfl
                have hFc := va_free (wc := [(mo, .inr (8, [.int th, .int fd, .ref rt, .int mn, .ref rk, .ref rv, .ref rw, .ref ro, .int md, .ref rr, .int (nI ([] : List Nat).length), .ref ra, .long pz, .int kc, .ref rc, .ref rl, .ref rb, .int la, .int ca])), (ra, .inl (cB, 16400, .inl fa)), (rk, .inl (cI, 16, .inl fk)), (rv, .inl (cL, 16, .inr (.inl fv)))]) hD hS hA [0, 1, 2, 3] rfl
                refine zz_callv (va_runV (As := [.int (nI j), .int (nI (mb_v v)), .int (by_z (decide (v = 88)))]) (rest := []) ⟨hx, hb, hml, hown, hg⟩ (c_Mo_sized l dC dI mo rt rk rv rw ro rr ra rc rl rb th fd mn md (nI ([] : List Nat).length) pz kc la ca cB fa ([] : List Nat) cI cL fk fv j (mb_v v) (decide (v = 88)) (by_nil _) (by (try simp only [List.length_append, List.length_cons, List.length_nil]); omega) hj (mb_s (n := 0) (by omega)).2.2.2.2.1 (mb_s (n := 0) (by omega)).2.2.2.2.2 s.heap.size) (cwV 3 hg (gi_V kw_867 kw_869 sw_17 kw_9 kw_870) rfl rfl rfl (by decide +kernel) ⟨Nat.le_of_ble_eq_true rfl, Nat.le_of_ble_eq_true rfl⟩) (zz_preV hPc hKc hDc _ (q0 := 0) (ci := 8) rfl rfl) rfl rfl hl.1 rfl (lv_room (Nat.le_of_ble_eq_true rfl)) d_Mo_makes_142 ⟨Nat.le_of_ble_eq_true rfl, Nat.le_of_ble_eq_true rfl⟩) hS hFc (fun u H1 k9 p9 d9 => va_join (wr := [(rw, .inl (cI, 16, .inl fw)), (ro, .inl (cB, 65536, .inl fo))]) hP hD [0, 1, 2, 3] [4, 5] rfl rfl (by decide) (by decide) k9 hFc p9 d9) (fun u H locs hw hP hD hK1 hS => ?_)
                obtain ⟨u_90, rfl⟩ : ∃ z, z = u := ⟨_, rfl⟩
                try dsimp only at hw
                have hP : va_P (dC, dI) vwCl [(rw, .inl (cI, 16, .inl fw)), (ro, .inl (cB, 65536, .inl fo)), (mo, .inr (8, [.int th, .int fd, .ref rt, .int mn, .ref rk, .ref rv, .ref rw, .ref ro, .int md, .ref rr, .int (nI (([] : List Nat) ++ (nu_f (mb_v v) (dg_t (decide (v = 88))) 64 (ar_m (fk j) (fv j))).reverse).length), .ref ra, .long pz, .int kc, .ref rc, .ref rl, .ref rb, .int la, .int ca])), (ra, .inl (cB, 16400, .inl u_90)), (rk, .inl (cI, 16, .inl fk)), (rv, .inl (cL, 16, .inr (.inl fv)))] H := hP
                have hD : va_D A [(rw, .inl (cI, 16, .inl fw)), (ro, .inl (cB, 65536, .inl fo)), (mo, .inr (8, [.int th, .int fd, .ref rt, .int mn, .ref rk, .ref rv, .ref rw, .ref ro, .int md, .ref rr, .int (nI (([] : List Nat) ++ (nu_f (mb_v v) (dg_t (decide (v = 88))) 64 (ar_m (fk j) (fv j))).reverse).length), .ref ra, .long pz, .int kc, .ref rc, .ref rl, .ref rb, .int la, .int ca])), (ra, .inl (cB, 16400, .inl u_90)), (rk, .inl (cI, 16, .inl fk)), (rv, .inl (cL, 16, .inr (.inl fv)))] := hD
                have hL_92 := hw
                refine lv_goto (tgt := 358) hx hb d_Mo_makes_145 (by decide) ?_
                refine lv_iconst (v := 1) hx hb d_Mo_makes_358 (by decide) ?_
                have hmo : (mk_o v k x B bp) = some (([] : List Nat) ++ (nu_f (mb_v v) (dg_t (decide (v = 88))) 64 (ar_m (fk j) (fv j))).reverse) := (by rw [hk9, hmg.2.1]; exact mk_b3 hkn (by omega) hbb hbq)
                have hP9 := hP.sub (ws' := [(mo, .inr (8, [.int th, .int fd, .ref rt, .int mn, .ref rk, .ref rv, .ref rw, .ref ro, .int md, .ref rr, .int (nI (([] : List Nat) ++ (nu_f (mb_v v) (dg_t (decide (v = 88))) 64 (ar_m (fk j) (fv j))).reverse).length), .ref ra, .long pz, .int kc, .ref rc, .ref rl, .ref rb, .int la, .int ca])), (ra, .inl (cB, 16400, .inl u_90)), (rk, .inl (cI, 16, .inl fk)), (rv, .inl (cL, 16, .inr (.inl fv))), (rw, .inl (cI, 16, .inl fw)), (ro, .inl (cB, 65536, .inl fo))]) [2, 3, 4, 5, 0, 1] rfl
                have hD9 := hD.sub (ws' := [(mo, .inr (8, [.int th, .int fd, .ref rt, .int mn, .ref rk, .ref rv, .ref rw, .ref ro, .int md, .ref rr, .int (nI (([] : List Nat) ++ (nu_f (mb_v v) (dg_t (decide (v = 88))) 64 (ar_m (fk j) (fv j))).reverse).length), .ref ra, .long pz, .int kc, .ref rc, .ref rl, .ref rb, .int la, .int ca])), (ra, .inl (cB, 16400, .inl u_90)), (rk, .inl (cI, 16, .inl fk)), (rv, .inl (cL, 16, .inr (.inl fv))), (rw, .inl (cI, 16, .inl fw)), (ro, .inl (cB, 65536, .inl fo))]) [2, 3, 4, 5, 0, 1] (by decide) rfl
                have hK9 := hK.sub (tys' := [(cB, .byte), (cI, .int), (cL, .long)]) [0, 1, 2] rfl
                rw [show nI (([] : List Nat) ++ (nu_f (mb_v v) (dg_t (decide (v = 88))) 64 (ar_m (fk j) (fv j))).reverse).length = nI ((mk_o v k x B bp).getD []).length by rw [hmo]; rfl] at hP9 hD9
                exact zz_zret hx hb hr hlocks d_Mo_makes_359 (by decide) hS (by first | exact Nat.le_refl _ | decide | omega | (dsimp only; omega)) (by first | exact Nat.le_refl _ | decide | omega | (dsimp only; omega)) (u_90, la, ca) ⟨by rw [hmo]; rfl, by rw [hmo]; exact hL_92⟩ hP9 hK9 hD9
            · skip
              have hbq : bp = true := by_z_t rfl c_116
              refine lv_aload_n hx hb d_Mo_makes_119 rfl (lv_at hl 3 rfl) ?_
              refine lv_bipush (v := 43) hx hb d_Mo_makes_120 (by decide) ?_
              have hPc := hP.sub (ws' := [(mo, .inr (8, [.int th, .int fd, .ref rt, .int mn, .ref rk, .ref rv, .ref rw, .ref ro, .int md, .ref rr, .int (nI ([] : List Nat).length), .ref ra, .long pz, .int kc, .ref rc, .ref rl, .ref rb, .int la, .int ca])), (ra, .inl (cB, 16400, .inl fa))]) [0, 1] rfl
              have hKc := hK.sub (tys' := [(cB, .byte)]) [0] rfl
              have hDc := hD.sub (ws' := [(mo, .inr (8, [.int th, .int fd, .ref rt, .int mn, .ref rk, .ref rv, .ref rw, .ref ro, .int md, .ref rr, .int (nI ([] : List Nat).length), .ref ra, .long pz, .int kc, .ref rc, .ref rl, .ref rb, .int la, .int ca])), (ra, .inl (cB, 16400, .inl fa))]) [0, 1] (by decide) rfl
              have hFc := va_free (wc := [(mo, .inr (8, [.int th, .int fd, .ref rt, .int mn, .ref rk, .ref rv, .ref rw, .ref ro, .int md, .ref rr, .int (nI ([] : List Nat).length), .ref ra, .long pz, .int kc, .ref rc, .ref rl, .ref rb, .int la, .int ca])), (ra, .inl (cB, 16400, .inl fa))]) hD hS hA [0, 1] rfl
              refine zz_callv (va_runV (As := [.int 43]) (rest := []) ⟨hx, hb, hml, hown, hg⟩ (c_Mo_put l dC dI mo rt rk rv rw ro rr ra rc rl rb th fd mn md (nI ([] : List Nat).length) pz kc la ca cB fa ([] : List Nat) 43 (by_nil _) (by (try simp only [List.length_append, List.length_cons, List.length_nil]); omega) s.heap.size) (cwV 1 hg (gi_V kw_863 kw_865 sw_16 kw_9 kw_866) rfl rfl rfl (by decide +kernel) ⟨Nat.le_of_ble_eq_true rfl, Nat.le_of_ble_eq_true rfl⟩) (zz_preV hPc hKc hDc _ (q0 := 0) (ci := 8) rfl rfl) rfl rfl hl.1 rfl (lv_room (Nat.le_of_ble_eq_true rfl)) d_Mo_makes_122 ⟨Nat.le_of_ble_eq_true rfl, Nat.le_of_ble_eq_true rfl⟩) hS hFc (fun u H1 k9 p9 d9 => va_join (wr := [(rk, .inl (cI, 16, .inl fk)), (rv, .inl (cL, 16, .inr (.inl fv))), (rw, .inl (cI, 16, .inl fw)), (ro, .inl (cB, 65536, .inl fo))]) hP hD [0, 1] [2, 3, 4, 5] rfl rfl (by decide) (by decide) k9 hFc p9 d9) (fun u H locs hw hP hD hK1 hS => ?_)
              obtain ⟨u_93, rfl⟩ : ∃ z, z = u := ⟨_, rfl⟩
              try dsimp only at hw
              have hP : va_P (dC, dI) vwCl [(rk, .inl (cI, 16, .inl fk)), (rv, .inl (cL, 16, .inr (.inl fv))), (rw, .inl (cI, 16, .inl fw)), (ro, .inl (cB, 65536, .inl fo)), (mo, .inr (8, [.int th, .int fd, .ref rt, .int mn, .ref rk, .ref rv, .ref rw, .ref ro, .int md, .ref rr, .int (nI (([] : List Nat) ++ [by_b 43]).length), .ref ra, .long pz, .int kc, .ref rc, .ref rl, .ref rb, .int la, .int ca])), (ra, .inl (cB, 16400, .inl u_93))] H := hP
              have hD : va_D A [(rk, .inl (cI, 16, .inl fk)), (rv, .inl (cL, 16, .inr (.inl fv))), (rw, .inl (cI, 16, .inl fw)), (ro, .inl (cB, 65536, .inl fo)), (mo, .inr (8, [.int th, .int fd, .ref rt, .int mn, .ref rk, .ref rv, .ref rw, .ref ro, .int md, .ref rr, .int (nI (([] : List Nat) ++ [by_b 43]).length), .ref ra, .long pz, .int kc, .ref rc, .ref rl, .ref rb, .int la, .int ca])), (ra, .inl (cB, 16400, .inl u_93))] := hD
              have hL_95 := hw
              refine lv_aload_n hx hb d_Mo_makes_125 rfl (lv_at hl 3 rfl) ?_
              refine lv_iload_n hx hb d_Mo_makes_126 rfl (lv_at hl 5 rfl) ?_
              refine lv_iload_n hx hb d_Mo_makes_127 rfl (lv_at hl 4 rfl) ?_
              have hPc := hP.sub (ws' := []) [] rfl
              have hKc := hK.sub (tys' := []) [] rfl
              refine vp_callSi (W.runS (As := [.int (sb_b v)]) (rest := [.int (nI j), .ref mo]) ⟨hx, hb, hml, hown, hg⟩ (c_Mo_baseOf l dC dI v hv) (va_cwS 1 hg (gi_S kw_856 kw_857 kw_9 kw_858) rfl rfl rfl (by decide +kernel) ⟨Nat.le_of_ble_eq_true rfl, Nat.le_of_ble_eq_true rfl⟩) (zz_prJS hPc hKc _) rfl rfl hl.1 rfl (lv_room (Nat.le_of_ble_eq_true rfl)) d_Mo_makes_128 ⟨Nat.le_of_ble_eq_true rfl, Nat.le_of_ble_eq_true rfl⟩) (fun r_96 hr_96 => ?_)
              subst hr_96
              refine lv_iload_n hx hb d_Mo_makes_131 rfl (lv_at hl 4 rfl) ?_
              refine lv_bipush (v := 88) hx hb d_Mo_makes_132 (by decide) ?_
              refine lv_icmp_ne (tgt := 141) hx hb d_Mo_makes_134 (by decide) (fun c_134 => ?_) (fun c_134 => ?_)
              · skip
                have f_134 : v ≠ 88 := sb_e2 (k := 88) hv (by decide) c_134
                refine lv_iconst (v := 0) hx hb d_Mo_makes_141 (by decide) ?_
                refine lv_topi (fun y_97 ey_97 => ?_)
                have ey_97 : y_97 = (by_z (decide (v = 88)) : Int32) := ey_97.trans (show 0 = by_z (decide (v = 88)) from (by rw [decide_eq_false f_134]; rfl))
                subst ey_97
                have hPc := hP.sub (ws' := [(mo, .inr (8, [.int th, .int fd, .ref rt, .int mn, .ref rk, .ref rv, .ref rw, .ref ro, .int md, .ref rr, .int (nI (([] : List Nat) ++ [by_b 43]).length), .ref ra, .long pz, .int kc, .ref rc, .ref rl, .ref rb, .int la, .int ca])), (ra, .inl (cB, 16400, .inl u_93)), (rk, .inl (cI, 16, .inl fk)), (rv, .inl (cL, 16, .inr (.inl fv)))]) [4, 5, 0, 1] rfl
                have hKc := hK.sub (tys' := [(cB, .byte), (cI, .int), (cL, .long)]) [0, 1, 2] rfl
                have hDc := hD.sub (ws' := [(mo, .inr (8, [.int th, .int fd, .ref rt, .int mn, .ref rk, .ref rv, .ref rw, .ref ro, .int md, .ref rr, .int (nI (([] : List Nat) ++ [by_b 43]).length), .ref ra, .long pz, .int kc, .ref rc, .ref rl, .ref rb, .int la, .int ca])), (ra, .inl (cB, 16400, .inl u_93)), (rk, .inl (cI, 16, .inl fk)), (rv, .inl (cL, 16, .inr (.inl fv)))]) [4, 5, 0, 1] (by decide) rfl
                have hFc := va_free (wc := [(mo, .inr (8, [.int th, .int fd, .ref rt, .int mn, .ref rk, .ref rv, .ref rw, .ref ro, .int md, .ref rr, .int (nI (([] : List Nat) ++ [by_b 43]).length), .ref ra, .long pz, .int kc, .ref rc, .ref rl, .ref rb, .int la, .int ca])), (ra, .inl (cB, 16400, .inl u_93)), (rk, .inl (cI, 16, .inl fk)), (rv, .inl (cL, 16, .inr (.inl fv)))]) hD hS hA [4, 5, 0, 1] rfl
                refine zz_callv (va_runV (As := [.int (nI j), .int (nI (mb_v v)), .int (by_z (decide (v = 88)))]) (rest := []) ⟨hx, hb, hml, hown, hg⟩ (c_Mo_sized l dC dI mo rt rk rv rw ro rr ra rc rl rb th fd mn md (nI (([] : List Nat) ++ [by_b 43]).length) pz kc la ca cB u_93 (([] : List Nat) ++ [by_b 43]) cI cL fk fv j (mb_v v) (decide (v = 88)) hL_95 (by (try simp only [List.length_append, List.length_cons, List.length_nil]); omega) hj (mb_s (n := 0) (by omega)).2.2.2.2.1 (mb_s (n := 0) (by omega)).2.2.2.2.2 H.size) (cwV 3 hg (gi_V kw_867 kw_869 sw_17 kw_9 kw_870) rfl rfl rfl (by decide +kernel) ⟨Nat.le_of_ble_eq_true rfl, Nat.le_of_ble_eq_true rfl⟩) (zz_preV hPc hKc hDc _ (q0 := 0) (ci := 8) rfl rfl) rfl rfl hl.1 rfl (lv_room (Nat.le_of_ble_eq_true rfl)) d_Mo_makes_142 ⟨Nat.le_of_ble_eq_true rfl, Nat.le_of_ble_eq_true rfl⟩) hS hFc (fun u H1 k9 p9 d9 => va_join (wr := [(rw, .inl (cI, 16, .inl fw)), (ro, .inl (cB, 65536, .inl fo))]) hP hD [4, 5, 0, 1] [2, 3] rfl rfl (by decide) (by decide) k9 hFc p9 d9) (fun u H locs hw hP hD hK1 hS => ?_)
                obtain ⟨u_98, rfl⟩ : ∃ z, z = u := ⟨_, rfl⟩
                try dsimp only at hw
                have hP : va_P (dC, dI) vwCl [(rw, .inl (cI, 16, .inl fw)), (ro, .inl (cB, 65536, .inl fo)), (mo, .inr (8, [.int th, .int fd, .ref rt, .int mn, .ref rk, .ref rv, .ref rw, .ref ro, .int md, .ref rr, .int (nI ((([] : List Nat) ++ [by_b 43]) ++ (nu_f (mb_v v) (dg_t (decide (v = 88))) 64 (ar_m (fk j) (fv j))).reverse).length), .ref ra, .long pz, .int kc, .ref rc, .ref rl, .ref rb, .int la, .int ca])), (ra, .inl (cB, 16400, .inl u_98)), (rk, .inl (cI, 16, .inl fk)), (rv, .inl (cL, 16, .inr (.inl fv)))] H := hP
                have hD : va_D A [(rw, .inl (cI, 16, .inl fw)), (ro, .inl (cB, 65536, .inl fo)), (mo, .inr (8, [.int th, .int fd, .ref rt, .int mn, .ref rk, .ref rv, .ref rw, .ref ro, .int md, .ref rr, .int (nI ((([] : List Nat) ++ [by_b 43]) ++ (nu_f (mb_v v) (dg_t (decide (v = 88))) 64 (ar_m (fk j) (fv j))).reverse).length), .ref ra, .long pz, .int kc, .ref rc, .ref rl, .ref rb, .int la, .int ca])), (ra, .inl (cB, 16400, .inl u_98)), (rk, .inl (cI, 16, .inl fk)), (rv, .inl (cL, 16, .inr (.inl fv)))] := hD
                have hL_100 := hw
                refine lv_goto (tgt := 358) hx hb d_Mo_makes_145 (by decide) ?_
                refine lv_iconst (v := 1) hx hb d_Mo_makes_358 (by decide) ?_
                have hmo : (mk_o v k x B bp) = some ((([] : List Nat) ++ [by_b 43]) ++ (nu_f (mb_v v) (dg_t (decide (v = 88))) 64 (ar_m (fk j) (fv j))).reverse) := (by rw [hk9, hmg.2.1]; exact mk_b2 hkn (by omega) hbb hbq)
                have hP9 := hP.sub (ws' := [(mo, .inr (8, [.int th, .int fd, .ref rt, .int mn, .ref rk, .ref rv, .ref rw, .ref ro, .int md, .ref rr, .int (nI ((([] : List Nat) ++ [by_b 43]) ++ (nu_f (mb_v v) (dg_t (decide (v = 88))) 64 (ar_m (fk j) (fv j))).reverse).length), .ref ra, .long pz, .int kc, .ref rc, .ref rl, .ref rb, .int la, .int ca])), (ra, .inl (cB, 16400, .inl u_98)), (rk, .inl (cI, 16, .inl fk)), (rv, .inl (cL, 16, .inr (.inl fv))), (rw, .inl (cI, 16, .inl fw)), (ro, .inl (cB, 65536, .inl fo))]) [2, 3, 4, 5, 0, 1] rfl
                have hD9 := hD.sub (ws' := [(mo, .inr (8, [.int th, .int fd, .ref rt, .int mn, .ref rk, .ref rv, .ref rw, .ref ro, .int md, .ref rr, .int (nI ((([] : List Nat) ++ [by_b 43]) ++ (nu_f (mb_v v) (dg_t (decide (v = 88))) 64 (ar_m (fk j) (fv j))).reverse).length), .ref ra, .long pz, .int kc, .ref rc, .ref rl, .ref rb, .int la, .int ca])), (ra, .inl (cB, 16400, .inl u_98)), (rk, .inl (cI, 16, .inl fk)), (rv, .inl (cL, 16, .inr (.inl fv))), (rw, .inl (cI, 16, .inl fw)), (ro, .inl (cB, 65536, .inl fo))]) [2, 3, 4, 5, 0, 1] (by decide) rfl
                have hK9 := hK.sub (tys' := [(cB, .byte), (cI, .int), (cL, .long)]) [0, 1, 2] rfl
                rw [show nI ((([] : List Nat) ++ [by_b 43]) ++ (nu_f (mb_v v) (dg_t (decide (v = 88))) 64 (ar_m (fk j) (fv j))).reverse).length = nI ((mk_o v k x B bp).getD []).length by rw [hmo]; rfl] at hP9 hD9
                exact zz_zret hx hb hr hlocks d_Mo_makes_359 (by decide) hS (by first | exact Nat.le_refl _ | decide | omega | (dsimp only; omega)) (by first | exact Nat.le_refl _ | decide | omega | (dsimp only; omega)) (u_98, la, ca) ⟨by rw [hmo]; rfl, by rw [hmo]; exact hL_100⟩ hP9 hK9 hD9
              · skip
                have f_134 : v = 88 := sb_e1 (k := 88) hv (by decide) c_134
                refine lv_iconst (v := 1) hx hb d_Mo_makes_137 (by decide) ?_
                refine lv_goto (tgt := 142) hx hb d_Mo_makes_138 (by decide) ?_
                refine lv_topi (fun y_101 ey_101 => ?_)
                have ey_101 : y_101 = (by_z (decide (v = 88)) : Int32) := ey_101.trans (show 1 = by_z (decide (v = 88)) from (by rw [decide_eq_true f_134]; rfl))
                subst ey_101
                have hPc := hP.sub (ws' := [(mo, .inr (8, [.int th, .int fd, .ref rt, .int mn, .ref rk, .ref rv, .ref rw, .ref ro, .int md, .ref rr, .int (nI (([] : List Nat) ++ [by_b 43]).length), .ref ra, .long pz, .int kc, .ref rc, .ref rl, .ref rb, .int la, .int ca])), (ra, .inl (cB, 16400, .inl u_93)), (rk, .inl (cI, 16, .inl fk)), (rv, .inl (cL, 16, .inr (.inl fv)))]) [4, 5, 0, 1] rfl
                have hKc := hK.sub (tys' := [(cB, .byte), (cI, .int), (cL, .long)]) [0, 1, 2] rfl
                have hDc := hD.sub (ws' := [(mo, .inr (8, [.int th, .int fd, .ref rt, .int mn, .ref rk, .ref rv, .ref rw, .ref ro, .int md, .ref rr, .int (nI (([] : List Nat) ++ [by_b 43]).length), .ref ra, .long pz, .int kc, .ref rc, .ref rl, .ref rb, .int la, .int ca])), (ra, .inl (cB, 16400, .inl u_93)), (rk, .inl (cI, 16, .inl fk)), (rv, .inl (cL, 16, .inr (.inl fv)))]) [4, 5, 0, 1] (by decide) rfl
                have hFc := va_free (wc := [(mo, .inr (8, [.int th, .int fd, .ref rt, .int mn, .ref rk, .ref rv, .ref rw, .ref ro, .int md, .ref rr, .int (nI (([] : List Nat) ++ [by_b 43]).length), .ref ra, .long pz, .int kc, .ref rc, .ref rl, .ref rb, .int la, .int ca])), (ra, .inl (cB, 16400, .inl u_93)), (rk, .inl (cI, 16, .inl fk)), (rv, .inl (cL, 16, .inr (.inl fv)))]) hD hS hA [4, 5, 0, 1] rfl
                refine zz_callv (va_runV (As := [.int (nI j), .int (nI (mb_v v)), .int (by_z (decide (v = 88)))]) (rest := []) ⟨hx, hb, hml, hown, hg⟩ (c_Mo_sized l dC dI mo rt rk rv rw ro rr ra rc rl rb th fd mn md (nI (([] : List Nat) ++ [by_b 43]).length) pz kc la ca cB u_93 (([] : List Nat) ++ [by_b 43]) cI cL fk fv j (mb_v v) (decide (v = 88)) hL_95 (by (try simp only [List.length_append, List.length_cons, List.length_nil]); omega) hj (mb_s (n := 0) (by omega)).2.2.2.2.1 (mb_s (n := 0) (by omega)).2.2.2.2.2 H.size) (cwV 3 hg (gi_V kw_867 kw_869 sw_17 kw_9 kw_870) rfl rfl rfl (by decide +kernel) ⟨Nat.le_of_ble_eq_true rfl, Nat.le_of_ble_eq_true rfl⟩) (zz_preV hPc hKc hDc _ (q0 := 0) (ci := 8) rfl rfl) rfl rfl hl.1 rfl (lv_room (Nat.le_of_ble_eq_true rfl)) d_Mo_makes_142 ⟨Nat.le_of_ble_eq_true rfl, Nat.le_of_ble_eq_true rfl⟩) hS hFc (fun u H1 k9 p9 d9 => va_join (wr := [(rw, .inl (cI, 16, .inl fw)), (ro, .inl (cB, 65536, .inl fo))]) hP hD [4, 5, 0, 1] [2, 3] rfl rfl (by decide) (by decide) k9 hFc p9 d9) (fun u H locs hw hP hD hK1 hS => ?_)
                obtain ⟨u_102, rfl⟩ : ∃ z, z = u := ⟨_, rfl⟩
                try dsimp only at hw
                have hP : va_P (dC, dI) vwCl [(rw, .inl (cI, 16, .inl fw)), (ro, .inl (cB, 65536, .inl fo)), (mo, .inr (8, [.int th, .int fd, .ref rt, .int mn, .ref rk, .ref rv, .ref rw, .ref ro, .int md, .ref rr, .int (nI ((([] : List Nat) ++ [by_b 43]) ++ (nu_f (mb_v v) (dg_t (decide (v = 88))) 64 (ar_m (fk j) (fv j))).reverse).length), .ref ra, .long pz, .int kc, .ref rc, .ref rl, .ref rb, .int la, .int ca])), (ra, .inl (cB, 16400, .inl u_102)), (rk, .inl (cI, 16, .inl fk)), (rv, .inl (cL, 16, .inr (.inl fv)))] H := hP
                have hD : va_D A [(rw, .inl (cI, 16, .inl fw)), (ro, .inl (cB, 65536, .inl fo)), (mo, .inr (8, [.int th, .int fd, .ref rt, .int mn, .ref rk, .ref rv, .ref rw, .ref ro, .int md, .ref rr, .int (nI ((([] : List Nat) ++ [by_b 43]) ++ (nu_f (mb_v v) (dg_t (decide (v = 88))) 64 (ar_m (fk j) (fv j))).reverse).length), .ref ra, .long pz, .int kc, .ref rc, .ref rl, .ref rb, .int la, .int ca])), (ra, .inl (cB, 16400, .inl u_102)), (rk, .inl (cI, 16, .inl fk)), (rv, .inl (cL, 16, .inr (.inl fv)))] := hD
                have hL_104 := hw
                refine lv_goto (tgt := 358) hx hb d_Mo_makes_145 (by decide) ?_
                refine lv_iconst (v := 1) hx hb d_Mo_makes_358 (by decide) ?_
                have hmo : (mk_o v k x B bp) = some ((([] : List Nat) ++ [by_b 43]) ++ (nu_f (mb_v v) (dg_t (decide (v = 88))) 64 (ar_m (fk j) (fv j))).reverse) := (by rw [hk9, hmg.2.1]; exact mk_b2 hkn (by omega) hbb hbq)
                have hP9 := hP.sub (ws' := [(mo, .inr (8, [.int th, .int fd, .ref rt, .int mn, .ref rk, .ref rv, .ref rw, .ref ro, .int md, .ref rr, .int (nI ((([] : List Nat) ++ [by_b 43]) ++ (nu_f (mb_v v) (dg_t (decide (v = 88))) 64 (ar_m (fk j) (fv j))).reverse).length), .ref ra, .long pz, .int kc, .ref rc, .ref rl, .ref rb, .int la, .int ca])), (ra, .inl (cB, 16400, .inl u_102)), (rk, .inl (cI, 16, .inl fk)), (rv, .inl (cL, 16, .inr (.inl fv))), (rw, .inl (cI, 16, .inl fw)), (ro, .inl (cB, 65536, .inl fo))]) [2, 3, 4, 5, 0, 1] rfl
                have hD9 := hD.sub (ws' := [(mo, .inr (8, [.int th, .int fd, .ref rt, .int mn, .ref rk, .ref rv, .ref rw, .ref ro, .int md, .ref rr, .int (nI ((([] : List Nat) ++ [by_b 43]) ++ (nu_f (mb_v v) (dg_t (decide (v = 88))) 64 (ar_m (fk j) (fv j))).reverse).length), .ref ra, .long pz, .int kc, .ref rc, .ref rl, .ref rb, .int la, .int ca])), (ra, .inl (cB, 16400, .inl u_102)), (rk, .inl (cI, 16, .inl fk)), (rv, .inl (cL, 16, .inr (.inl fv))), (rw, .inl (cI, 16, .inl fw)), (ro, .inl (cB, 65536, .inl fo))]) [2, 3, 4, 5, 0, 1] (by decide) rfl
                have hK9 := hK.sub (tys' := [(cB, .byte), (cI, .int), (cL, .long)]) [0, 1, 2] rfl
                rw [show nI ((([] : List Nat) ++ [by_b 43]) ++ (nu_f (mb_v v) (dg_t (decide (v = 88))) 64 (ar_m (fk j) (fv j))).reverse).length = nI ((mk_o v k x B bp).getD []).length by rw [hmo]; rfl] at hP9 hD9
                exact zz_zret hx hb hr hlocks d_Mo_makes_359 (by decide) hS (by first | exact Nat.le_refl _ | decide | omega | (dsimp only; omega)) (by first | exact Nat.le_refl _ | decide | omega | (dsimp only; omega)) (u_102, la, ca) ⟨by rw [hmo]; rfl, by rw [hmo]; exact hL_104⟩ hP9 hK9 hD9
          · skip
            have hbb : ar_b (nI k) x = true := by_z_t hr_83 c_103
            refine lv_aload_n hx hb d_Mo_makes_106 rfl (lv_at hl 3 rfl) ?_
            refine lv_bipush (v := 45) hx hb d_Mo_makes_107 (by decide) ?_
            have hPc := hP.sub (ws' := [(mo, .inr (8, [.int th, .int fd, .ref rt, .int mn, .ref rk, .ref rv, .ref rw, .ref ro, .int md, .ref rr, .int (nI ([] : List Nat).length), .ref ra, .long pz, .int kc, .ref rc, .ref rl, .ref rb, .int la, .int ca])), (ra, .inl (cB, 16400, .inl fa))]) [0, 1] rfl
            have hKc := hK.sub (tys' := [(cB, .byte)]) [0] rfl
            have hDc := hD.sub (ws' := [(mo, .inr (8, [.int th, .int fd, .ref rt, .int mn, .ref rk, .ref rv, .ref rw, .ref ro, .int md, .ref rr, .int (nI ([] : List Nat).length), .ref ra, .long pz, .int kc, .ref rc, .ref rl, .ref rb, .int la, .int ca])), (ra, .inl (cB, 16400, .inl fa))]) [0, 1] (by decide) rfl
            have hFc := va_free (wc := [(mo, .inr (8, [.int th, .int fd, .ref rt, .int mn, .ref rk, .ref rv, .ref rw, .ref ro, .int md, .ref rr, .int (nI ([] : List Nat).length), .ref ra, .long pz, .int kc, .ref rc, .ref rl, .ref rb, .int la, .int ca])), (ra, .inl (cB, 16400, .inl fa))]) hD hS hA [0, 1] rfl
            refine zz_callv (va_runV (As := [.int 45]) (rest := []) ⟨hx, hb, hml, hown, hg⟩ (c_Mo_put l dC dI mo rt rk rv rw ro rr ra rc rl rb th fd mn md (nI ([] : List Nat).length) pz kc la ca cB fa ([] : List Nat) 45 (by_nil _) (by (try simp only [List.length_append, List.length_cons, List.length_nil]); omega) s.heap.size) (cwV 1 hg (gi_V kw_863 kw_865 sw_16 kw_9 kw_866) rfl rfl rfl (by decide +kernel) ⟨Nat.le_of_ble_eq_true rfl, Nat.le_of_ble_eq_true rfl⟩) (zz_preV hPc hKc hDc _ (q0 := 0) (ci := 8) rfl rfl) rfl rfl hl.1 rfl (lv_room (Nat.le_of_ble_eq_true rfl)) d_Mo_makes_109 ⟨Nat.le_of_ble_eq_true rfl, Nat.le_of_ble_eq_true rfl⟩) hS hFc (fun u H1 k9 p9 d9 => va_join (wr := [(rk, .inl (cI, 16, .inl fk)), (rv, .inl (cL, 16, .inr (.inl fv))), (rw, .inl (cI, 16, .inl fw)), (ro, .inl (cB, 65536, .inl fo))]) hP hD [0, 1] [2, 3, 4, 5] rfl rfl (by decide) (by decide) k9 hFc p9 d9) (fun u H locs hw hP hD hK1 hS => ?_)
            obtain ⟨u_105, rfl⟩ : ∃ z, z = u := ⟨_, rfl⟩
            try dsimp only at hw
            have hP : va_P (dC, dI) vwCl [(rk, .inl (cI, 16, .inl fk)), (rv, .inl (cL, 16, .inr (.inl fv))), (rw, .inl (cI, 16, .inl fw)), (ro, .inl (cB, 65536, .inl fo)), (mo, .inr (8, [.int th, .int fd, .ref rt, .int mn, .ref rk, .ref rv, .ref rw, .ref ro, .int md, .ref rr, .int (nI (([] : List Nat) ++ [by_b 45]).length), .ref ra, .long pz, .int kc, .ref rc, .ref rl, .ref rb, .int la, .int ca])), (ra, .inl (cB, 16400, .inl u_105))] H := hP
            have hD : va_D A [(rk, .inl (cI, 16, .inl fk)), (rv, .inl (cL, 16, .inr (.inl fv))), (rw, .inl (cI, 16, .inl fw)), (ro, .inl (cB, 65536, .inl fo)), (mo, .inr (8, [.int th, .int fd, .ref rt, .int mn, .ref rk, .ref rv, .ref rw, .ref ro, .int md, .ref rr, .int (nI (([] : List Nat) ++ [by_b 45]).length), .ref ra, .long pz, .int kc, .ref rc, .ref rl, .ref rb, .int la, .int ca])), (ra, .inl (cB, 16400, .inl u_105))] := hD
            have hL_107 := hw
            refine lv_goto (tgt := 125) hx hb d_Mo_makes_112 (by decide) ?_
            refine lv_aload_n hx hb d_Mo_makes_125 rfl (lv_at hl 3 rfl) ?_
            refine lv_iload_n hx hb d_Mo_makes_126 rfl (lv_at hl 5 rfl) ?_
            refine lv_iload_n hx hb d_Mo_makes_127 rfl (lv_at hl 4 rfl) ?_
            have hPc := hP.sub (ws' := []) [] rfl
            have hKc := hK.sub (tys' := []) [] rfl
            refine vp_callSi (W.runS (As := [.int (sb_b v)]) (rest := [.int (nI j), .ref mo]) ⟨hx, hb, hml, hown, hg⟩ (c_Mo_baseOf l dC dI v hv) (va_cwS 1 hg (gi_S kw_856 kw_857 kw_9 kw_858) rfl rfl rfl (by decide +kernel) ⟨Nat.le_of_ble_eq_true rfl, Nat.le_of_ble_eq_true rfl⟩) (zz_prJS hPc hKc _) rfl rfl hl.1 rfl (lv_room (Nat.le_of_ble_eq_true rfl)) d_Mo_makes_128 ⟨Nat.le_of_ble_eq_true rfl, Nat.le_of_ble_eq_true rfl⟩) (fun r_108 hr_108 => ?_)
            subst hr_108
            refine lv_iload_n hx hb d_Mo_makes_131 rfl (lv_at hl 4 rfl) ?_
            refine lv_bipush (v := 88) hx hb d_Mo_makes_132 (by decide) ?_
            refine lv_icmp_ne (tgt := 141) hx hb d_Mo_makes_134 (by decide) (fun c_134 => ?_) (fun c_134 => ?_)
            · skip
              have f_134 : v ≠ 88 := sb_e2 (k := 88) hv (by decide) c_134
              refine lv_iconst (v := 0) hx hb d_Mo_makes_141 (by decide) ?_
              refine lv_topi (fun y_109 ey_109 => ?_)
              have ey_109 : y_109 = (by_z (decide (v = 88)) : Int32) := ey_109.trans (show 0 = by_z (decide (v = 88)) from (by rw [decide_eq_false f_134]; rfl))
              subst ey_109
              have hPc := hP.sub (ws' := [(mo, .inr (8, [.int th, .int fd, .ref rt, .int mn, .ref rk, .ref rv, .ref rw, .ref ro, .int md, .ref rr, .int (nI (([] : List Nat) ++ [by_b 45]).length), .ref ra, .long pz, .int kc, .ref rc, .ref rl, .ref rb, .int la, .int ca])), (ra, .inl (cB, 16400, .inl u_105)), (rk, .inl (cI, 16, .inl fk)), (rv, .inl (cL, 16, .inr (.inl fv)))]) [4, 5, 0, 1] rfl
              have hKc := hK.sub (tys' := [(cB, .byte), (cI, .int), (cL, .long)]) [0, 1, 2] rfl
              have hDc := hD.sub (ws' := [(mo, .inr (8, [.int th, .int fd, .ref rt, .int mn, .ref rk, .ref rv, .ref rw, .ref ro, .int md, .ref rr, .int (nI (([] : List Nat) ++ [by_b 45]).length), .ref ra, .long pz, .int kc, .ref rc, .ref rl, .ref rb, .int la, .int ca])), (ra, .inl (cB, 16400, .inl u_105)), (rk, .inl (cI, 16, .inl fk)), (rv, .inl (cL, 16, .inr (.inl fv)))]) [4, 5, 0, 1] (by decide) rfl
              have hFc := va_free (wc := [(mo, .inr (8, [.int th, .int fd, .ref rt, .int mn, .ref rk, .ref rv, .ref rw, .ref ro, .int md, .ref rr, .int (nI (([] : List Nat) ++ [by_b 45]).length), .ref ra, .long pz, .int kc, .ref rc, .ref rl, .ref rb, .int la, .int ca])), (ra, .inl (cB, 16400, .inl u_105)), (rk, .inl (cI, 16, .inl fk)), (rv, .inl (cL, 16, .inr (.inl fv)))]) hD hS hA [4, 5, 0, 1] rfl
              refine zz_callv (va_runV (As := [.int (nI j), .int (nI (mb_v v)), .int (by_z (decide (v = 88)))]) (rest := []) ⟨hx, hb, hml, hown, hg⟩ (c_Mo_sized l dC dI mo rt rk rv rw ro rr ra rc rl rb th fd mn md (nI (([] : List Nat) ++ [by_b 45]).length) pz kc la ca cB u_105 (([] : List Nat) ++ [by_b 45]) cI cL fk fv j (mb_v v) (decide (v = 88)) hL_107 (by (try simp only [List.length_append, List.length_cons, List.length_nil]); omega) hj (mb_s (n := 0) (by omega)).2.2.2.2.1 (mb_s (n := 0) (by omega)).2.2.2.2.2 H.size) (cwV 3 hg (gi_V kw_867 kw_869 sw_17 kw_9 kw_870) rfl rfl rfl (by decide +kernel) ⟨Nat.le_of_ble_eq_true rfl, Nat.le_of_ble_eq_true rfl⟩) (zz_preV hPc hKc hDc _ (q0 := 0) (ci := 8) rfl rfl) rfl rfl hl.1 rfl (lv_room (Nat.le_of_ble_eq_true rfl)) d_Mo_makes_142 ⟨Nat.le_of_ble_eq_true rfl, Nat.le_of_ble_eq_true rfl⟩) hS hFc (fun u H1 k9 p9 d9 => va_join (wr := [(rw, .inl (cI, 16, .inl fw)), (ro, .inl (cB, 65536, .inl fo))]) hP hD [4, 5, 0, 1] [2, 3] rfl rfl (by decide) (by decide) k9 hFc p9 d9) (fun u H locs hw hP hD hK1 hS => ?_)
              obtain ⟨u_110, rfl⟩ : ∃ z, z = u := ⟨_, rfl⟩
              try dsimp only at hw
              have hP : va_P (dC, dI) vwCl [(rw, .inl (cI, 16, .inl fw)), (ro, .inl (cB, 65536, .inl fo)), (mo, .inr (8, [.int th, .int fd, .ref rt, .int mn, .ref rk, .ref rv, .ref rw, .ref ro, .int md, .ref rr, .int (nI ((([] : List Nat) ++ [by_b 45]) ++ (nu_f (mb_v v) (dg_t (decide (v = 88))) 64 (ar_m (fk j) (fv j))).reverse).length), .ref ra, .long pz, .int kc, .ref rc, .ref rl, .ref rb, .int la, .int ca])), (ra, .inl (cB, 16400, .inl u_110)), (rk, .inl (cI, 16, .inl fk)), (rv, .inl (cL, 16, .inr (.inl fv)))] H := hP
              have hD : va_D A [(rw, .inl (cI, 16, .inl fw)), (ro, .inl (cB, 65536, .inl fo)), (mo, .inr (8, [.int th, .int fd, .ref rt, .int mn, .ref rk, .ref rv, .ref rw, .ref ro, .int md, .ref rr, .int (nI ((([] : List Nat) ++ [by_b 45]) ++ (nu_f (mb_v v) (dg_t (decide (v = 88))) 64 (ar_m (fk j) (fv j))).reverse).length), .ref ra, .long pz, .int kc, .ref rc, .ref rl, .ref rb, .int la, .int ca])), (ra, .inl (cB, 16400, .inl u_110)), (rk, .inl (cI, 16, .inl fk)), (rv, .inl (cL, 16, .inr (.inl fv)))] := hD
              have hL_112 := hw
              refine lv_goto (tgt := 358) hx hb d_Mo_makes_145 (by decide) ?_
              refine lv_iconst (v := 1) hx hb d_Mo_makes_358 (by decide) ?_
              have hmo : (mk_o v k x B bp) = some ((([] : List Nat) ++ [by_b 45]) ++ (nu_f (mb_v v) (dg_t (decide (v = 88))) 64 (ar_m (fk j) (fv j))).reverse) := (by rw [hk9, hmg.2.1]; exact mk_b1 hkn (by omega) hbb)
              have hP9 := hP.sub (ws' := [(mo, .inr (8, [.int th, .int fd, .ref rt, .int mn, .ref rk, .ref rv, .ref rw, .ref ro, .int md, .ref rr, .int (nI ((([] : List Nat) ++ [by_b 45]) ++ (nu_f (mb_v v) (dg_t (decide (v = 88))) 64 (ar_m (fk j) (fv j))).reverse).length), .ref ra, .long pz, .int kc, .ref rc, .ref rl, .ref rb, .int la, .int ca])), (ra, .inl (cB, 16400, .inl u_110)), (rk, .inl (cI, 16, .inl fk)), (rv, .inl (cL, 16, .inr (.inl fv))), (rw, .inl (cI, 16, .inl fw)), (ro, .inl (cB, 65536, .inl fo))]) [2, 3, 4, 5, 0, 1] rfl
              have hD9 := hD.sub (ws' := [(mo, .inr (8, [.int th, .int fd, .ref rt, .int mn, .ref rk, .ref rv, .ref rw, .ref ro, .int md, .ref rr, .int (nI ((([] : List Nat) ++ [by_b 45]) ++ (nu_f (mb_v v) (dg_t (decide (v = 88))) 64 (ar_m (fk j) (fv j))).reverse).length), .ref ra, .long pz, .int kc, .ref rc, .ref rl, .ref rb, .int la, .int ca])), (ra, .inl (cB, 16400, .inl u_110)), (rk, .inl (cI, 16, .inl fk)), (rv, .inl (cL, 16, .inr (.inl fv))), (rw, .inl (cI, 16, .inl fw)), (ro, .inl (cB, 65536, .inl fo))]) [2, 3, 4, 5, 0, 1] (by decide) rfl
              have hK9 := hK.sub (tys' := [(cB, .byte), (cI, .int), (cL, .long)]) [0, 1, 2] rfl
              rw [show nI ((([] : List Nat) ++ [by_b 45]) ++ (nu_f (mb_v v) (dg_t (decide (v = 88))) 64 (ar_m (fk j) (fv j))).reverse).length = nI ((mk_o v k x B bp).getD []).length by rw [hmo]; rfl] at hP9 hD9
              exact zz_zret hx hb hr hlocks d_Mo_makes_359 (by decide) hS (by first | exact Nat.le_refl _ | decide | omega | (dsimp only; omega)) (by first | exact Nat.le_refl _ | decide | omega | (dsimp only; omega)) (u_110, la, ca) ⟨by rw [hmo]; rfl, by rw [hmo]; exact hL_112⟩ hP9 hK9 hD9
            · skip
              have f_134 : v = 88 := sb_e1 (k := 88) hv (by decide) c_134
              refine lv_iconst (v := 1) hx hb d_Mo_makes_137 (by decide) ?_
              refine lv_goto (tgt := 142) hx hb d_Mo_makes_138 (by decide) ?_
              refine lv_topi (fun y_113 ey_113 => ?_)
              have ey_113 : y_113 = (by_z (decide (v = 88)) : Int32) := ey_113.trans (show 1 = by_z (decide (v = 88)) from (by rw [decide_eq_true f_134]; rfl))
              subst ey_113
              have hPc := hP.sub (ws' := [(mo, .inr (8, [.int th, .int fd, .ref rt, .int mn, .ref rk, .ref rv, .ref rw, .ref ro, .int md, .ref rr, .int (nI (([] : List Nat) ++ [by_b 45]).length), .ref ra, .long pz, .int kc, .ref rc, .ref rl, .ref rb, .int la, .int ca])), (ra, .inl (cB, 16400, .inl u_105)), (rk, .inl (cI, 16, .inl fk)), (rv, .inl (cL, 16, .inr (.inl fv)))]) [4, 5, 0, 1] rfl
              have hKc := hK.sub (tys' := [(cB, .byte), (cI, .int), (cL, .long)]) [0, 1, 2] rfl
              have hDc := hD.sub (ws' := [(mo, .inr (8, [.int th, .int fd, .ref rt, .int mn, .ref rk, .ref rv, .ref rw, .ref ro, .int md, .ref rr, .int (nI (([] : List Nat) ++ [by_b 45]).length), .ref ra, .long pz, .int kc, .ref rc, .ref rl, .ref rb, .int la, .int ca])), (ra, .inl (cB, 16400, .inl u_105)), (rk, .inl (cI, 16, .inl fk)), (rv, .inl (cL, 16, .inr (.inl fv)))]) [4, 5, 0, 1] (by decide) rfl
              have hFc := va_free (wc := [(mo, .inr (8, [.int th, .int fd, .ref rt, .int mn, .ref rk, .ref rv, .ref rw, .ref ro, .int md, .ref rr, .int (nI (([] : List Nat) ++ [by_b 45]).length), .ref ra, .long pz, .int kc, .ref rc, .ref rl, .ref rb, .int la, .int ca])), (ra, .inl (cB, 16400, .inl u_105)), (rk, .inl (cI, 16, .inl fk)), (rv, .inl (cL, 16, .inr (.inl fv)))]) hD hS hA [4, 5, 0, 1] rfl
              refine zz_callv (va_runV (As := [.int (nI j), .int (nI (mb_v v)), .int (by_z (decide (v = 88)))]) (rest := []) ⟨hx, hb, hml, hown, hg⟩ (c_Mo_sized l dC dI mo rt rk rv rw ro rr ra rc rl rb th fd mn md (nI (([] : List Nat) ++ [by_b 45]).length) pz kc la ca cB u_105 (([] : List Nat) ++ [by_b 45]) cI cL fk fv j (mb_v v) (decide (v = 88)) hL_107 (by (try simp only [List.length_append, List.length_cons, List.length_nil]); omega) hj (mb_s (n := 0) (by omega)).2.2.2.2.1 (mb_s (n := 0) (by omega)).2.2.2.2.2 H.size) (cwV 3 hg (gi_V kw_867 kw_869 sw_17 kw_9 kw_870) rfl rfl rfl (by decide +kernel) ⟨Nat.le_of_ble_eq_true rfl, Nat.le_of_ble_eq_true rfl⟩) (zz_preV hPc hKc hDc _ (q0 := 0) (ci := 8) rfl rfl) rfl rfl hl.1 rfl (lv_room (Nat.le_of_ble_eq_true rfl)) d_Mo_makes_142 ⟨Nat.le_of_ble_eq_true rfl, Nat.le_of_ble_eq_true rfl⟩) hS hFc (fun u H1 k9 p9 d9 => va_join (wr := [(rw, .inl (cI, 16, .inl fw)), (ro, .inl (cB, 65536, .inl fo))]) hP hD [4, 5, 0, 1] [2, 3] rfl rfl (by decide) (by decide) k9 hFc p9 d9) (fun u H locs hw hP hD hK1 hS => ?_)
              obtain ⟨u_114, rfl⟩ : ∃ z, z = u := ⟨_, rfl⟩
              try dsimp only at hw
              have hP : va_P (dC, dI) vwCl [(rw, .inl (cI, 16, .inl fw)), (ro, .inl (cB, 65536, .inl fo)), (mo, .inr (8, [.int th, .int fd, .ref rt, .int mn, .ref rk, .ref rv, .ref rw, .ref ro, .int md, .ref rr, .int (nI ((([] : List Nat) ++ [by_b 45]) ++ (nu_f (mb_v v) (dg_t (decide (v = 88))) 64 (ar_m (fk j) (fv j))).reverse).length), .ref ra, .long pz, .int kc, .ref rc, .ref rl, .ref rb, .int la, .int ca])), (ra, .inl (cB, 16400, .inl u_114)), (rk, .inl (cI, 16, .inl fk)), (rv, .inl (cL, 16, .inr (.inl fv)))] H := hP
              have hD : va_D A [(rw, .inl (cI, 16, .inl fw)), (ro, .inl (cB, 65536, .inl fo)), (mo, .inr (8, [.int th, .int fd, .ref rt, .int mn, .ref rk, .ref rv, .ref rw, .ref ro, .int md, .ref rr, .int (nI ((([] : List Nat) ++ [by_b 45]) ++ (nu_f (mb_v v) (dg_t (decide (v = 88))) 64 (ar_m (fk j) (fv j))).reverse).length), .ref ra, .long pz, .int kc, .ref rc, .ref rl, .ref rb, .int la, .int ca])), (ra, .inl (cB, 16400, .inl u_114)), (rk, .inl (cI, 16, .inl fk)), (rv, .inl (cL, 16, .inr (.inl fv)))] := hD
              have hL_116 := hw
              refine lv_goto (tgt := 358) hx hb d_Mo_makes_145 (by decide) ?_
              refine lv_iconst (v := 1) hx hb d_Mo_makes_358 (by decide) ?_
              have hmo : (mk_o v k x B bp) = some ((([] : List Nat) ++ [by_b 45]) ++ (nu_f (mb_v v) (dg_t (decide (v = 88))) 64 (ar_m (fk j) (fv j))).reverse) := (by rw [hk9, hmg.2.1]; exact mk_b1 hkn (by omega) hbb)
              have hP9 := hP.sub (ws' := [(mo, .inr (8, [.int th, .int fd, .ref rt, .int mn, .ref rk, .ref rv, .ref rw, .ref ro, .int md, .ref rr, .int (nI ((([] : List Nat) ++ [by_b 45]) ++ (nu_f (mb_v v) (dg_t (decide (v = 88))) 64 (ar_m (fk j) (fv j))).reverse).length), .ref ra, .long pz, .int kc, .ref rc, .ref rl, .ref rb, .int la, .int ca])), (ra, .inl (cB, 16400, .inl u_114)), (rk, .inl (cI, 16, .inl fk)), (rv, .inl (cL, 16, .inr (.inl fv))), (rw, .inl (cI, 16, .inl fw)), (ro, .inl (cB, 65536, .inl fo))]) [2, 3, 4, 5, 0, 1] rfl
              have hD9 := hD.sub (ws' := [(mo, .inr (8, [.int th, .int fd, .ref rt, .int mn, .ref rk, .ref rv, .ref rw, .ref ro, .int md, .ref rr, .int (nI ((([] : List Nat) ++ [by_b 45]) ++ (nu_f (mb_v v) (dg_t (decide (v = 88))) 64 (ar_m (fk j) (fv j))).reverse).length), .ref ra, .long pz, .int kc, .ref rc, .ref rl, .ref rb, .int la, .int ca])), (ra, .inl (cB, 16400, .inl u_114)), (rk, .inl (cI, 16, .inl fk)), (rv, .inl (cL, 16, .inr (.inl fv))), (rw, .inl (cI, 16, .inl fw)), (ro, .inl (cB, 65536, .inl fo))]) [2, 3, 4, 5, 0, 1] (by decide) rfl
              have hK9 := hK.sub (tys' := [(cB, .byte), (cI, .int), (cL, .long)]) [0, 1, 2] rfl
              rw [show nI ((([] : List Nat) ++ [by_b 45]) ++ (nu_f (mb_v v) (dg_t (decide (v = 88))) 64 (ar_m (fk j) (fv j))).reverse).length = nI ((mk_o v k x B bp).getD []).length by rw [hmo]; rfl] at hP9 hD9
              exact zz_zret hx hb hr hlocks d_Mo_makes_359 (by decide) hS (by first | exact Nat.le_refl _ | decide | omega | (dsimp only; omega)) (by first | exact Nat.le_refl _ | decide | omega | (dsimp only; omega)) (u_114, la, ca) ⟨by rw [hmo]; rfl, by rw [hmo]; exact hL_116⟩ hP9 hK9 hD9
    · skip
      have f_46 : k = 1 := nI_e1 (b := 1) c_46 (by omega) (by omega)
      refine lv_aload_n hx hb d_Mo_makes_49 rfl (lv_at hl 2 rfl) ?_
      refine va_get (D := (dC, dI)) (ci := 8) (v := .ref rv) (C := "TextForgeModel") (T := TX8) (N := 19) hx hb hg iwX8 hown hK hP 0 rfl rfl 5 (by decide) (hg _ kw_731) (fun _ h9 => h9) rfl d_Mo_makes_50 ?_
      refine lv_iload_n hx hb d_Mo_makes_53 rfl (lv_at hl 4 rfl) ?_
      refine va_lald hx hb hK hP 3 2 rfl rfl (vp_in_nI hj (by decide)) d_Mo_makes_54 ?_
      refine lv_topl (fun y_117 ey_117 => ?_)
      have ey_117 : y_117 = (x : Int64) := ey_117.trans (show (fv (nI j).toNatClampNeg) = x from (by rw [nI_clamp (show j < 2 ^ 31 by omega)]; exact hmg.2.1))
      rw [ey_117]
      refine lv_lconst (v := 0) hx hb d_Mo_makes_55 (by decide) ?_
      refine W.lcmp hx hb d_Mo_makes_56 ?_
      refine lv_if_lt (tgt := 82) hx hb d_Mo_makes_57 (by decide) (fun c_57 => ?_) (fun c_57 => ?_)
      · skip
        have hcn : 65533 = nI (ut_cn x.toInt) := ut_cf (mk_cf (ar_n2 (Int32.not_le.mpr c_57)))
        refine W.ldc (v := 65533) hx hb hown (hg _ kw_833) rfl d_Mo_makes_82 ?_
        refine W.eq (g2 := F0 m 84 ls [.int 65533]) rfl ?_
        refine lv_topi (fun y_118 ey_118 => ?_)
        have ey_118 : y_118 = (nI (ut_cn x.toInt) : Int32) := ey_118.trans (show 65533 = nI (ut_cn x.toInt) from hcn)
        subst ey_118
        refine lv_istore (lv' := [(6, .int (nI (ut_cn x.toInt))), (5, .int 0), (4, .int 1), (0, .ref mo), (1, .int (sb_b v)), (2, .int (nI j)), (3, .int (by_z bp))]) hx hb d_Mo_makes_84 hl (by decide) rfl (fun ls hl => ?_)
        refine lv_iload hx hb d_Mo_makes_86 (lv_at hl 2 rfl) ?_
        refine lv_if_eq (tgt := 148) hx hb d_Mo_makes_88 (by decide) (fun c9 => by first | exact absurd c9 (by decide) | exact absurd (by decide) c9) (fun _ => ?_)
        refine lv_iload_n hx hb d_Mo_makes_91 rfl (lv_at hl 4 rfl) ?_
        have hPc := hP.sub (ws' := []) [] rfl
        have hKc := hK.sub (tys' := []) [] rfl
        refine vp_callSi (W.runS (As := [.int (sb_b v)]) (rest := []) ⟨hx, hb, hml, hown, hg⟩ (c_Mo_baseOf l dC dI v hv) (va_cwS 1 hg (gi_S kw_856 kw_857 kw_9 kw_858) rfl rfl rfl (by decide +kernel) ⟨Nat.le_of_ble_eq_true rfl, Nat.le_of_ble_eq_true rfl⟩) (zz_prJS hPc hKc _) rfl rfl hl.1 rfl (lv_room (Nat.le_of_ble_eq_true rfl)) d_Mo_makes_92 ⟨Nat.le_of_ble_eq_true rfl, Nat.le_of_ble_eq_true rfl⟩) (fun r_119 hr_119 => ?_)
        subst hr_119
        refine lv_if_le (tgt := 148) hx hb d_Mo_makes_95 (by decide) (fun c_95 => ?_) (fun c_95 => ?_)
        · skip
          have f_95 : (mb_v v) ≤ 0 := (nI_leI (b := 0) (by have := mb_l v; omega) (by omega)).mp c_95
          refine lv_iload hx hb d_Mo_makes_148 (lv_at hl 1 rfl) ?_
          refine lv_if_eq (tgt := 220) hx hb d_Mo_makes_150 (by decide) (fun _ => ?_) (fun c9 => by first | exact absurd c9 rfl | exact absurd rfl c9)
          refine lv_iload hx hb d_Mo_makes_220 (lv_at hl 2 rfl) ?_
          refine lv_if_eq (tgt := 240) hx hb d_Mo_makes_222 (by decide) (fun c9 => by first | exact absurd c9 (by decide) | exact absurd (by decide) c9) (fun _ => ?_)
          refine lv_iload_n hx hb d_Mo_makes_225 rfl (lv_at hl 4 rfl) ?_
          refine lv_bipush (v := 99) hx hb d_Mo_makes_226 (by decide) ?_
          refine lv_icmp_ne (tgt := 240) hx hb d_Mo_makes_228 (by decide) (fun c_228 => ?_) (fun c_228 => ?_)
          · skip
            have f_228 : v ≠ 99 := sb_e2 (k := 99) hv (by decide) c_228
            refine lv_iload hx hb d_Mo_makes_240 (lv_at hl 2 rfl) ?_
            refine lv_if_eq (tgt := 274) hx hb d_Mo_makes_242 (by decide) (fun c9 => by first | exact absurd c9 (by decide) | exact absurd (by decide) c9) (fun _ => ?_)
            refine lv_iload_n hx hb d_Mo_makes_245 rfl (lv_at hl 4 rfl) ?_
            refine lv_bipush (v := 113) hx hb d_Mo_makes_246 (by decide) ?_
            refine lv_icmp_ne (tgt := 274) hx hb d_Mo_makes_248 (by decide) (fun c_248 => ?_) (fun c_248 => ?_)
            · skip
              have f_248 : v ≠ 113 := sb_e2 (k := 113) hv (by decide) c_248
              refine lv_iload hx hb d_Mo_makes_274 (lv_at hl 1 rfl) ?_
              refine lv_if_eq (tgt := 293) hx hb d_Mo_makes_276 (by decide) (fun _ => ?_) (fun c9 => by first | exact absurd c9 rfl | exact absurd rfl c9)
              refine lv_iload hx hb d_Mo_makes_293 (lv_at hl 1 rfl) ?_
              refine lv_if_eq (tgt := 326) hx hb d_Mo_makes_295 (by decide) (fun _ => ?_) (fun c9 => by first | exact absurd c9 rfl | exact absurd rfl c9)
              refine lv_iload_n hx hb d_Mo_makes_326 rfl (lv_at hl 4 rfl) ?_
              refine lv_bipush (v := 116) hx hb d_Mo_makes_327 (by decide) ?_
              refine lv_icmp_ne (tgt := 342) hx hb d_Mo_makes_329 (by decide) (fun c_329 => ?_) (fun c_329 => ?_)
              · skip
                have f_329 : v ≠ 116 := sb_e2 (k := 116) hv (by decide) c_329
                refine lv_iload_n hx hb d_Mo_makes_342 rfl (lv_at hl 4 rfl) ?_
                refine lv_bipush (v := 118) hx hb d_Mo_makes_343 (by decide) ?_
                refine lv_icmp_ne (tgt := 356) hx hb d_Mo_makes_345 (by decide) (fun c_345 => ?_) (fun c_345 => ?_)
                · skip
                  have f_345 : v ≠ 118 := sb_e2 (k := 118) hv (by decide) c_345
                  refine lv_iconst (v := 0) hx hb d_Mo_makes_356 (by decide) ?_
                  have hmo : (mk_o v k x B bp) = none := (mk_n0 hkn (by omega) f_228 f_248 f_345)
                  have hP9 := hP.sub (ws' := [(mo, .inr (8, [.int th, .int fd, .ref rt, .int mn, .ref rk, .ref rv, .ref rw, .ref ro, .int md, .ref rr, .int (nI ([] : List Nat).length), .ref ra, .long pz, .int kc, .ref rc, .ref rl, .ref rb, .int la, .int ca])), (ra, .inl (cB, 16400, .inl fa)), (rk, .inl (cI, 16, .inl fk)), (rv, .inl (cL, 16, .inr (.inl fv))), (rw, .inl (cI, 16, .inl fw)), (ro, .inl (cB, 65536, .inl fo))]) [0, 1, 2, 3, 4, 5] rfl
                  have hD9 := hD.sub (ws' := [(mo, .inr (8, [.int th, .int fd, .ref rt, .int mn, .ref rk, .ref rv, .ref rw, .ref ro, .int md, .ref rr, .int (nI ([] : List Nat).length), .ref ra, .long pz, .int kc, .ref rc, .ref rl, .ref rb, .int la, .int ca])), (ra, .inl (cB, 16400, .inl fa)), (rk, .inl (cI, 16, .inl fk)), (rv, .inl (cL, 16, .inr (.inl fv))), (rw, .inl (cI, 16, .inl fw)), (ro, .inl (cB, 65536, .inl fo))]) [0, 1, 2, 3, 4, 5] (by decide) rfl
                  have hK9 := hK.sub (tys' := [(cB, .byte), (cI, .int), (cL, .long)]) [0, 1, 2] rfl
                  rw [show nI ([] : List Nat).length = nI ((mk_o v k x B bp).getD []).length by rw [hmo]; rfl] at hP9 hD9
                  exact zz_zret hx hb hr hlocks d_Mo_makes_357 (by decide) hS (by first | exact Nat.le_refl _ | decide | omega | (dsimp only; omega)) (by first | exact Nat.le_refl _ | decide | omega | (dsimp only; omega)) (fa, la, ca) ⟨by rw [hmo]; rfl, by rw [hmo]; exact by_nil _⟩ hP9 hK9 hD9
                · skip
                  have f_345 : v = 118 := sb_e1 (k := 118) hv (by decide) c_345
                  refine lv_aload_n hx hb d_Mo_makes_348 rfl (lv_at hl 3 rfl) ?_
                  refine lv_iload_n hx hb d_Mo_makes_349 rfl (lv_at hl 5 rfl) ?_
                  have hPc := hP.sub (ws' := [(mo, .inr (8, [.int th, .int fd, .ref rt, .int mn, .ref rk, .ref rv, .ref rw, .ref ro, .int md, .ref rr, .int (nI ([] : List Nat).length), .ref ra, .long pz, .int kc, .ref rc, .ref rl, .ref rb, .int la, .int ca])), (ra, .inl (cB, 16400, .inl fa)), (rk, .inl (cI, 16, .inl fk)), (rv, .inl (cL, 16, .inr (.inl fv))), (rw, .inl (cI, 16, .inl fw)), (ro, .inl (cB, 65536, .inl fo))]) [0, 1, 2, 3, 4, 5] rfl
                  have hKc := hK.sub (tys' := [(cB, .byte), (cI, .int), (cL, .long)]) [0, 1, 2] rfl
                  have hDc := hD.sub (ws' := [(mo, .inr (8, [.int th, .int fd, .ref rt, .int mn, .ref rk, .ref rv, .ref rw, .ref ro, .int md, .ref rr, .int (nI ([] : List Nat).length), .ref ra, .long pz, .int kc, .ref rc, .ref rl, .ref rb, .int la, .int ca])), (ra, .inl (cB, 16400, .inl fa)), (rk, .inl (cI, 16, .inl fk)), (rv, .inl (cL, 16, .inr (.inl fv))), (rw, .inl (cI, 16, .inl fw)), (ro, .inl (cB, 65536, .inl fo))]) [0, 1, 2, 3, 4, 5] (by decide) rfl
                  have hFc := va_free (wc := [(mo, .inr (8, [.int th, .int fd, .ref rt, .int mn, .ref rk, .ref rv, .ref rw, .ref ro, .int md, .ref rr, .int (nI ([] : List Nat).length), .ref ra, .long pz, .int kc, .ref rc, .ref rl, .ref rb, .int la, .int ca])), (ra, .inl (cB, 16400, .inl fa)), (rk, .inl (cI, 16, .inl fk)), (rv, .inl (cL, 16, .inr (.inl fv))), (rw, .inl (cI, 16, .inl fw)), (ro, .inl (cB, 65536, .inl fo))]) hD hS hA [0, 1, 2, 3, 4, 5] rfl
                  refine zz_callv (va_runV (As := [.int (nI j)]) (rest := []) ⟨hx, hb, hml, hown, hg⟩ (c_Mo_plain l dC dI ad mo rt rk rv rw ro rr ra rc rl rb th fd mn md (nI ([] : List Nat).length) pz kc la ca cB fa ([] : List Nat) cI cL fk fv fw fo j k x B (by_nil _) (by (try simp only [List.length_append, List.length_cons, List.length_nil]); omega) hj hok9 hmg s.heap.size) (cwV 1 hg (gi_V kw_908 kw_910 sw_25 kw_9 kw_911) rfl rfl rfl (by decide +kernel) ⟨Nat.le_of_ble_eq_true rfl, Nat.le_of_ble_eq_true rfl⟩) (zy_preV hX hS hFc hPc hKc hDc _ (q0 := 0) (ci := 8) rfl rfl) rfl rfl hl.1 rfl (lv_room (Nat.le_of_ble_eq_true rfl)) d_Mo_makes_350 ⟨Nat.le_of_ble_eq_true rfl, Nat.le_of_ble_eq_true rfl⟩) hS hFc (fun u H1 k9 p9 d9 => va_join (wr := []) hP hD [0, 1, 2, 3, 4, 5] [] rfl rfl (by decide) (by decide) k9 hFc p9 d9) (fun u H locs hw hP hD hK1 hS => ?_)
                  obtain ⟨u_120, rfl⟩ : ∃ z, z = u := ⟨_, rfl⟩
                  try dsimp only at hw
                  have hP : va_P (dC, dI) vwCl [(mo, .inr (8, [.int th, .int fd, .ref rt, .int mn, .ref rk, .ref rv, .ref rw, .ref ro, .int md, .ref rr, .int (nI (([] : List Nat) ++ (mo_p k x B)).length), .ref ra, .long pz, .int kc, .ref rc, .ref rl, .ref rb, .int la, .int ca])), (ra, .inl (cB, 16400, .inl u_120)), (rk, .inl (cI, 16, .inl fk)), (rv, .inl (cL, 16, .inr (.inl fv))), (rw, .inl (cI, 16, .inl fw)), (ro, .inl (cB, 65536, .inl fo))] H := hP
                  have hD : va_D A [(mo, .inr (8, [.int th, .int fd, .ref rt, .int mn, .ref rk, .ref rv, .ref rw, .ref ro, .int md, .ref rr, .int (nI (([] : List Nat) ++ (mo_p k x B)).length), .ref ra, .long pz, .int kc, .ref rc, .ref rl, .ref rb, .int la, .int ca])), (ra, .inl (cB, 16400, .inl u_120)), (rk, .inl (cI, 16, .inl fk)), (rv, .inl (cL, 16, .inr (.inl fv))), (rw, .inl (cI, 16, .inl fw)), (ro, .inl (cB, 65536, .inl fo))] := hD
                  have hL_122 := hw
                  refine lv_goto (tgt := 358) hx hb d_Mo_makes_353 (by decide) ?_
                  refine lv_iconst (v := 1) hx hb d_Mo_makes_358 (by decide) ?_
                  have hmo : (mk_o v k x B bp) = some (([] : List Nat) ++ (mo_p k x B)) := (mk_np hok9 f_345)
                  have hP9 := hP.sub (ws' := [(mo, .inr (8, [.int th, .int fd, .ref rt, .int mn, .ref rk, .ref rv, .ref rw, .ref ro, .int md, .ref rr, .int (nI (([] : List Nat) ++ (mo_p k x B)).length), .ref ra, .long pz, .int kc, .ref rc, .ref rl, .ref rb, .int la, .int ca])), (ra, .inl (cB, 16400, .inl u_120)), (rk, .inl (cI, 16, .inl fk)), (rv, .inl (cL, 16, .inr (.inl fv))), (rw, .inl (cI, 16, .inl fw)), (ro, .inl (cB, 65536, .inl fo))]) [0, 1, 2, 3, 4, 5] rfl
                  have hD9 := hD.sub (ws' := [(mo, .inr (8, [.int th, .int fd, .ref rt, .int mn, .ref rk, .ref rv, .ref rw, .ref ro, .int md, .ref rr, .int (nI (([] : List Nat) ++ (mo_p k x B)).length), .ref ra, .long pz, .int kc, .ref rc, .ref rl, .ref rb, .int la, .int ca])), (ra, .inl (cB, 16400, .inl u_120)), (rk, .inl (cI, 16, .inl fk)), (rv, .inl (cL, 16, .inr (.inl fv))), (rw, .inl (cI, 16, .inl fw)), (ro, .inl (cB, 65536, .inl fo))]) [0, 1, 2, 3, 4, 5] (by decide) rfl
                  have hK9 := hK.sub (tys' := [(cB, .byte), (cI, .int), (cL, .long)]) [0, 1, 2] rfl
                  rw [show nI (([] : List Nat) ++ (mo_p k x B)).length = nI ((mk_o v k x B bp).getD []).length by rw [hmo]; rfl] at hP9 hD9
                  exact zz_zret hx hb hr hlocks d_Mo_makes_359 (by decide) hS (by first | exact Nat.le_refl _ | decide | omega | (dsimp only; omega)) (by first | exact Nat.le_refl _ | decide | omega | (dsimp only; omega)) (u_120, la, ca) ⟨by rw [hmo]; rfl, by rw [hmo]; exact hL_122⟩ hP9 hK9 hD9
              · skip
                have f_329 : v = 116 := sb_e1 (k := 116) hv (by decide) c_329
                refine lv_aload_n hx hb d_Mo_makes_332 rfl (lv_at hl 3 rfl) ?_
                refine va_get (D := (dC, dI)) (ci := 8) (v := .ref rk) (C := "TextForgeModel") (T := TX8) (N := 19) hx hb hg iwX8 hown hK hP 0 rfl rfl 4 (by decide) (hg _ kw_730) (fun _ h9 => h9) rfl d_Mo_makes_333 ?_
                refine lv_iload_n hx hb d_Mo_makes_336 rfl (lv_at hl 5 rfl) ?_
                refine va_iald hx hb hK hP 2 1 rfl rfl (vp_in_nI hj (by decide)) d_Mo_makes_337 ?_
                refine lv_topi (fun y_123 ey_123 => ?_)
                have ey_123 : y_123 = (nI k : Int32) := ey_123.trans (show (fk (nI j).toNatClampNeg) = nI k from (by rw [nI_clamp (show j < 2 ^ 31 by omega)]; exact hk9))
                subst ey_123
                refine lv_iconst (v := 2) hx hb d_Mo_makes_338 (by decide) ?_
                refine lv_icmp_eq (tgt := 348) hx hb d_Mo_makes_339 (by decide) (fun c9 => by first | exact absurd c9 (fun z => by have := nI_e1 (b := 2) z (by omega) (by decide); omega) | exact absurd (fun z => by have := nI_e1 (b := 2) z (by omega) (by decide); omega) c9) (fun _ => ?_)
                refine lv_iload_n hx hb d_Mo_makes_342 rfl (lv_at hl 4 rfl) ?_
                refine lv_bipush (v := 118) hx hb d_Mo_makes_343 (by decide) ?_
                refine lv_icmp_ne (tgt := 356) hx hb d_Mo_makes_345 (by decide) (fun c_345 => ?_) (fun c_345 => ?_)
                · skip
                  have f_345 : v ≠ 118 := sb_e2 (k := 118) hv (by decide) c_345
                  refine lv_iconst (v := 0) hx hb d_Mo_makes_356 (by decide) ?_
                  have hmo : (mk_o v k x B bp) = none := (mk_n0 hkn (by omega) f_228 f_248 f_345)
                  have hP9 := hP.sub (ws' := [(mo, .inr (8, [.int th, .int fd, .ref rt, .int mn, .ref rk, .ref rv, .ref rw, .ref ro, .int md, .ref rr, .int (nI ([] : List Nat).length), .ref ra, .long pz, .int kc, .ref rc, .ref rl, .ref rb, .int la, .int ca])), (ra, .inl (cB, 16400, .inl fa)), (rk, .inl (cI, 16, .inl fk)), (rv, .inl (cL, 16, .inr (.inl fv))), (rw, .inl (cI, 16, .inl fw)), (ro, .inl (cB, 65536, .inl fo))]) [0, 1, 2, 3, 4, 5] rfl
                  have hD9 := hD.sub (ws' := [(mo, .inr (8, [.int th, .int fd, .ref rt, .int mn, .ref rk, .ref rv, .ref rw, .ref ro, .int md, .ref rr, .int (nI ([] : List Nat).length), .ref ra, .long pz, .int kc, .ref rc, .ref rl, .ref rb, .int la, .int ca])), (ra, .inl (cB, 16400, .inl fa)), (rk, .inl (cI, 16, .inl fk)), (rv, .inl (cL, 16, .inr (.inl fv))), (rw, .inl (cI, 16, .inl fw)), (ro, .inl (cB, 65536, .inl fo))]) [0, 1, 2, 3, 4, 5] (by decide) rfl
                  have hK9 := hK.sub (tys' := [(cB, .byte), (cI, .int), (cL, .long)]) [0, 1, 2] rfl
                  rw [show nI ([] : List Nat).length = nI ((mk_o v k x B bp).getD []).length by rw [hmo]; rfl] at hP9 hD9
                  exact zz_zret hx hb hr hlocks d_Mo_makes_357 (by decide) hS (by first | exact Nat.le_refl _ | decide | omega | (dsimp only; omega)) (by first | exact Nat.le_refl _ | decide | omega | (dsimp only; omega)) (fa, la, ca) ⟨by rw [hmo]; rfl, by rw [hmo]; exact by_nil _⟩ hP9 hK9 hD9
                · skip
                  have f_345 : v = 118 := sb_e1 (k := 118) hv (by decide) c_345
                  refine lv_aload_n hx hb d_Mo_makes_348 rfl (lv_at hl 3 rfl) ?_
                  refine lv_iload_n hx hb d_Mo_makes_349 rfl (lv_at hl 5 rfl) ?_
                  have hPc := hP.sub (ws' := [(mo, .inr (8, [.int th, .int fd, .ref rt, .int mn, .ref rk, .ref rv, .ref rw, .ref ro, .int md, .ref rr, .int (nI ([] : List Nat).length), .ref ra, .long pz, .int kc, .ref rc, .ref rl, .ref rb, .int la, .int ca])), (ra, .inl (cB, 16400, .inl fa)), (rk, .inl (cI, 16, .inl fk)), (rv, .inl (cL, 16, .inr (.inl fv))), (rw, .inl (cI, 16, .inl fw)), (ro, .inl (cB, 65536, .inl fo))]) [0, 1, 2, 3, 4, 5] rfl
                  have hKc := hK.sub (tys' := [(cB, .byte), (cI, .int), (cL, .long)]) [0, 1, 2] rfl
                  have hDc := hD.sub (ws' := [(mo, .inr (8, [.int th, .int fd, .ref rt, .int mn, .ref rk, .ref rv, .ref rw, .ref ro, .int md, .ref rr, .int (nI ([] : List Nat).length), .ref ra, .long pz, .int kc, .ref rc, .ref rl, .ref rb, .int la, .int ca])), (ra, .inl (cB, 16400, .inl fa)), (rk, .inl (cI, 16, .inl fk)), (rv, .inl (cL, 16, .inr (.inl fv))), (rw, .inl (cI, 16, .inl fw)), (ro, .inl (cB, 65536, .inl fo))]) [0, 1, 2, 3, 4, 5] (by decide) rfl
                  have hFc := va_free (wc := [(mo, .inr (8, [.int th, .int fd, .ref rt, .int mn, .ref rk, .ref rv, .ref rw, .ref ro, .int md, .ref rr, .int (nI ([] : List Nat).length), .ref ra, .long pz, .int kc, .ref rc, .ref rl, .ref rb, .int la, .int ca])), (ra, .inl (cB, 16400, .inl fa)), (rk, .inl (cI, 16, .inl fk)), (rv, .inl (cL, 16, .inr (.inl fv))), (rw, .inl (cI, 16, .inl fw)), (ro, .inl (cB, 65536, .inl fo))]) hD hS hA [0, 1, 2, 3, 4, 5] rfl
                  refine zz_callv (va_runV (As := [.int (nI j)]) (rest := []) ⟨hx, hb, hml, hown, hg⟩ (c_Mo_plain l dC dI ad mo rt rk rv rw ro rr ra rc rl rb th fd mn md (nI ([] : List Nat).length) pz kc la ca cB fa ([] : List Nat) cI cL fk fv fw fo j k x B (by_nil _) (by (try simp only [List.length_append, List.length_cons, List.length_nil]); omega) hj hok9 hmg s.heap.size) (cwV 1 hg (gi_V kw_908 kw_910 sw_25 kw_9 kw_911) rfl rfl rfl (by decide +kernel) ⟨Nat.le_of_ble_eq_true rfl, Nat.le_of_ble_eq_true rfl⟩) (zy_preV hX hS hFc hPc hKc hDc _ (q0 := 0) (ci := 8) rfl rfl) rfl rfl hl.1 rfl (lv_room (Nat.le_of_ble_eq_true rfl)) d_Mo_makes_350 ⟨Nat.le_of_ble_eq_true rfl, Nat.le_of_ble_eq_true rfl⟩) hS hFc (fun u H1 k9 p9 d9 => va_join (wr := []) hP hD [0, 1, 2, 3, 4, 5] [] rfl rfl (by decide) (by decide) k9 hFc p9 d9) (fun u H locs hw hP hD hK1 hS => ?_)
                  obtain ⟨u_124, rfl⟩ : ∃ z, z = u := ⟨_, rfl⟩
                  try dsimp only at hw
                  have hP : va_P (dC, dI) vwCl [(mo, .inr (8, [.int th, .int fd, .ref rt, .int mn, .ref rk, .ref rv, .ref rw, .ref ro, .int md, .ref rr, .int (nI (([] : List Nat) ++ (mo_p k x B)).length), .ref ra, .long pz, .int kc, .ref rc, .ref rl, .ref rb, .int la, .int ca])), (ra, .inl (cB, 16400, .inl u_124)), (rk, .inl (cI, 16, .inl fk)), (rv, .inl (cL, 16, .inr (.inl fv))), (rw, .inl (cI, 16, .inl fw)), (ro, .inl (cB, 65536, .inl fo))] H := hP
                  have hD : va_D A [(mo, .inr (8, [.int th, .int fd, .ref rt, .int mn, .ref rk, .ref rv, .ref rw, .ref ro, .int md, .ref rr, .int (nI (([] : List Nat) ++ (mo_p k x B)).length), .ref ra, .long pz, .int kc, .ref rc, .ref rl, .ref rb, .int la, .int ca])), (ra, .inl (cB, 16400, .inl u_124)), (rk, .inl (cI, 16, .inl fk)), (rv, .inl (cL, 16, .inr (.inl fv))), (rw, .inl (cI, 16, .inl fw)), (ro, .inl (cB, 65536, .inl fo))] := hD
                  have hL_126 := hw
                  refine lv_goto (tgt := 358) hx hb d_Mo_makes_353 (by decide) ?_
                  refine lv_iconst (v := 1) hx hb d_Mo_makes_358 (by decide) ?_
                  have hmo : (mk_o v k x B bp) = some (([] : List Nat) ++ (mo_p k x B)) := (mk_np hok9 f_345)
                  have hP9 := hP.sub (ws' := [(mo, .inr (8, [.int th, .int fd, .ref rt, .int mn, .ref rk, .ref rv, .ref rw, .ref ro, .int md, .ref rr, .int (nI (([] : List Nat) ++ (mo_p k x B)).length), .ref ra, .long pz, .int kc, .ref rc, .ref rl, .ref rb, .int la, .int ca])), (ra, .inl (cB, 16400, .inl u_124)), (rk, .inl (cI, 16, .inl fk)), (rv, .inl (cL, 16, .inr (.inl fv))), (rw, .inl (cI, 16, .inl fw)), (ro, .inl (cB, 65536, .inl fo))]) [0, 1, 2, 3, 4, 5] rfl
                  have hD9 := hD.sub (ws' := [(mo, .inr (8, [.int th, .int fd, .ref rt, .int mn, .ref rk, .ref rv, .ref rw, .ref ro, .int md, .ref rr, .int (nI (([] : List Nat) ++ (mo_p k x B)).length), .ref ra, .long pz, .int kc, .ref rc, .ref rl, .ref rb, .int la, .int ca])), (ra, .inl (cB, 16400, .inl u_124)), (rk, .inl (cI, 16, .inl fk)), (rv, .inl (cL, 16, .inr (.inl fv))), (rw, .inl (cI, 16, .inl fw)), (ro, .inl (cB, 65536, .inl fo))]) [0, 1, 2, 3, 4, 5] (by decide) rfl
                  have hK9 := hK.sub (tys' := [(cB, .byte), (cI, .int), (cL, .long)]) [0, 1, 2] rfl
                  rw [show nI (([] : List Nat) ++ (mo_p k x B)).length = nI ((mk_o v k x B bp).getD []).length by rw [hmo]; rfl] at hP9 hD9
                  exact zz_zret hx hb hr hlocks d_Mo_makes_359 (by decide) hS (by first | exact Nat.le_refl _ | decide | omega | (dsimp only; omega)) (by first | exact Nat.le_refl _ | decide | omega | (dsimp only; omega)) (u_124, la, ca) ⟨by rw [hmo]; rfl, by rw [hmo]; exact hL_126⟩ hP9 hK9 hD9
            · skip
              have f_248 : v = 113 := sb_e1 (k := 113) hv (by decide) c_248
              refine lv_aload_n hx hb d_Mo_makes_251 rfl (lv_at hl 3 rfl) ?_
              refine lv_bipush (v := 39) hx hb d_Mo_makes_252 (by decide) ?_
              have hPc := hP.sub (ws' := [(mo, .inr (8, [.int th, .int fd, .ref rt, .int mn, .ref rk, .ref rv, .ref rw, .ref ro, .int md, .ref rr, .int (nI ([] : List Nat).length), .ref ra, .long pz, .int kc, .ref rc, .ref rl, .ref rb, .int la, .int ca])), (ra, .inl (cB, 16400, .inl fa))]) [0, 1] rfl
              have hKc := hK.sub (tys' := [(cB, .byte)]) [0] rfl
              have hDc := hD.sub (ws' := [(mo, .inr (8, [.int th, .int fd, .ref rt, .int mn, .ref rk, .ref rv, .ref rw, .ref ro, .int md, .ref rr, .int (nI ([] : List Nat).length), .ref ra, .long pz, .int kc, .ref rc, .ref rl, .ref rb, .int la, .int ca])), (ra, .inl (cB, 16400, .inl fa))]) [0, 1] (by decide) rfl
              have hFc := va_free (wc := [(mo, .inr (8, [.int th, .int fd, .ref rt, .int mn, .ref rk, .ref rv, .ref rw, .ref ro, .int md, .ref rr, .int (nI ([] : List Nat).length), .ref ra, .long pz, .int kc, .ref rc, .ref rl, .ref rb, .int la, .int ca])), (ra, .inl (cB, 16400, .inl fa))]) hD hS hA [0, 1] rfl
              refine zz_callv (va_runV (As := [.int 39]) (rest := []) ⟨hx, hb, hml, hown, hg⟩ (c_Mo_put l dC dI mo rt rk rv rw ro rr ra rc rl rb th fd mn md (nI ([] : List Nat).length) pz kc la ca cB fa ([] : List Nat) 39 (by_nil _) (by (try simp only [List.length_append, List.length_cons, List.length_nil]); omega) s.heap.size) (cwV 1 hg (gi_V kw_863 kw_865 sw_16 kw_9 kw_866) rfl rfl rfl (by decide +kernel) ⟨Nat.le_of_ble_eq_true rfl, Nat.le_of_ble_eq_true rfl⟩) (zz_preV hPc hKc hDc _ (q0 := 0) (ci := 8) rfl rfl) rfl rfl hl.1 rfl (lv_room (Nat.le_of_ble_eq_true rfl)) d_Mo_makes_254 ⟨Nat.le_of_ble_eq_true rfl, Nat.le_of_ble_eq_true rfl⟩) hS hFc (fun u H1 k9 p9 d9 => va_join (wr := [(rk, .inl (cI, 16, .inl fk)), (rv, .inl (cL, 16, .inr (.inl fv))), (rw, .inl (cI, 16, .inl fw)), (ro, .inl (cB, 65536, .inl fo))]) hP hD [0, 1] [2, 3, 4, 5] rfl rfl (by decide) (by decide) k9 hFc p9 d9) (fun u H locs hw hP hD hK1 hS => ?_)
              obtain ⟨u_127, rfl⟩ : ∃ z, z = u := ⟨_, rfl⟩
              try dsimp only at hw
              have hP : va_P (dC, dI) vwCl [(rk, .inl (cI, 16, .inl fk)), (rv, .inl (cL, 16, .inr (.inl fv))), (rw, .inl (cI, 16, .inl fw)), (ro, .inl (cB, 65536, .inl fo)), (mo, .inr (8, [.int th, .int fd, .ref rt, .int mn, .ref rk, .ref rv, .ref rw, .ref ro, .int md, .ref rr, .int (nI (([] : List Nat) ++ [by_b 39]).length), .ref ra, .long pz, .int kc, .ref rc, .ref rl, .ref rb, .int la, .int ca])), (ra, .inl (cB, 16400, .inl u_127))] H := hP
              have hD : va_D A [(rk, .inl (cI, 16, .inl fk)), (rv, .inl (cL, 16, .inr (.inl fv))), (rw, .inl (cI, 16, .inl fw)), (ro, .inl (cB, 65536, .inl fo)), (mo, .inr (8, [.int th, .int fd, .ref rt, .int mn, .ref rk, .ref rv, .ref rw, .ref ro, .int md, .ref rr, .int (nI (([] : List Nat) ++ [by_b 39]).length), .ref ra, .long pz, .int kc, .ref rc, .ref rl, .ref rb, .int la, .int ca])), (ra, .inl (cB, 16400, .inl u_127))] := hD
              have hL_129 := hw
              refine lv_aload_n hx hb d_Mo_makes_257 rfl (lv_at hl 3 rfl) ?_
              refine lv_iload hx hb d_Mo_makes_258 (lv_at hl 0 rfl) ?_
              refine lv_bipush (v := 39) hx hb d_Mo_makes_260 (by decide) ?_
              have hPc := hP.sub (ws' := [(mo, .inr (8, [.int th, .int fd, .ref rt, .int mn, .ref rk, .ref rv, .ref rw, .ref ro, .int md, .ref rr, .int (nI (([] : List Nat) ++ [by_b 39]).length), .ref ra, .long pz, .int kc, .ref rc, .ref rl, .ref rb, .int la, .int ca])), (ra, .inl (cB, 16400, .inl u_127))]) [4, 5] rfl
              have hKc := hK.sub (tys' := [(cB, .byte)]) [0] rfl
              have hDc := hD.sub (ws' := [(mo, .inr (8, [.int th, .int fd, .ref rt, .int mn, .ref rk, .ref rv, .ref rw, .ref ro, .int md, .ref rr, .int (nI (([] : List Nat) ++ [by_b 39]).length), .ref ra, .long pz, .int kc, .ref rc, .ref rl, .ref rb, .int la, .int ca])), (ra, .inl (cB, 16400, .inl u_127))]) [4, 5] (by decide) rfl
              have hFc := va_free (wc := [(mo, .inr (8, [.int th, .int fd, .ref rt, .int mn, .ref rk, .ref rv, .ref rw, .ref ro, .int md, .ref rr, .int (nI (([] : List Nat) ++ [by_b 39]).length), .ref ra, .long pz, .int kc, .ref rc, .ref rl, .ref rb, .int la, .int ca])), (ra, .inl (cB, 16400, .inl u_127))]) hD hS hA [4, 5] rfl
              refine zz_callv (va_runV (As := [.int (nI (ut_cn x.toInt)), .int 39]) (rest := []) ⟨hx, hb, hml, hown, hg⟩ (c_Mo_quoted l dC dI ad mo rt rk rv rw ro rr ra rc rl rb th fd mn md (nI (([] : List Nat) ++ [by_b 39]).length) pz kc la ca cB u_127 (([] : List Nat) ++ [by_b 39]) (ut_cn x.toInt) 39 hL_129 (by (try simp only [List.length_append, List.length_cons, List.length_nil]); omega) (pp_cn _) (by decide) H.size) (cwV 2 hg (gi_V kw_894 kw_896 sw_22 kw_9 kw_897) rfl rfl rfl (by decide +kernel) ⟨Nat.le_of_ble_eq_true rfl, Nat.le_of_ble_eq_true rfl⟩) (zy_preV hX hS hFc hPc hKc hDc _ (q0 := 0) (ci := 8) rfl rfl) rfl rfl hl.1 rfl (lv_room (Nat.le_of_ble_eq_true rfl)) d_Mo_makes_262 ⟨Nat.le_of_ble_eq_true rfl, Nat.le_of_ble_eq_true rfl⟩) hS hFc (fun u H1 k9 p9 d9 => va_join (wr := [(rk, .inl (cI, 16, .inl fk)), (rv, .inl (cL, 16, .inr (.inl fv))), (rw, .inl (cI, 16, .inl fw)), (ro, .inl (cB, 65536, .inl fo))]) hP hD [4, 5] [0, 1, 2, 3] rfl rfl (by decide) (by decide) k9 hFc p9 d9) (fun u H locs hw hP hD hK1 hS => ?_)
              obtain ⟨u_130, rfl⟩ : ∃ z, z = u := ⟨_, rfl⟩
              try dsimp only at hw
              have hP : va_P (dC, dI) vwCl [(rk, .inl (cI, 16, .inl fk)), (rv, .inl (cL, 16, .inr (.inl fv))), (rw, .inl (cI, 16, .inl fw)), (ro, .inl (cB, 65536, .inl fo)), (mo, .inr (8, [.int th, .int fd, .ref rt, .int mn, .ref rk, .ref rv, .ref rw, .ref ro, .int md, .ref rr, .int (nI ((([] : List Nat) ++ [by_b 39]) ++ (mq 39 (ut_cn x.toInt))).length), .ref ra, .long pz, .int kc, .ref rc, .ref rl, .ref rb, .int la, .int ca])), (ra, .inl (cB, 16400, .inl u_130))] H := hP
              have hD : va_D A [(rk, .inl (cI, 16, .inl fk)), (rv, .inl (cL, 16, .inr (.inl fv))), (rw, .inl (cI, 16, .inl fw)), (ro, .inl (cB, 65536, .inl fo)), (mo, .inr (8, [.int th, .int fd, .ref rt, .int mn, .ref rk, .ref rv, .ref rw, .ref ro, .int md, .ref rr, .int (nI ((([] : List Nat) ++ [by_b 39]) ++ (mq 39 (ut_cn x.toInt))).length), .ref ra, .long pz, .int kc, .ref rc, .ref rl, .ref rb, .int la, .int ca])), (ra, .inl (cB, 16400, .inl u_130))] := hD
              have hL_132 := hw
              have hq4 := mq_len 39 (ut_cn x.toInt)
              refine lv_aload_n hx hb d_Mo_makes_265 rfl (lv_at hl 3 rfl) ?_
              refine lv_bipush (v := 39) hx hb d_Mo_makes_266 (by decide) ?_
              have hPc := hP.sub (ws' := [(mo, .inr (8, [.int th, .int fd, .ref rt, .int mn, .ref rk, .ref rv, .ref rw, .ref ro, .int md, .ref rr, .int (nI ((([] : List Nat) ++ [by_b 39]) ++ (mq 39 (ut_cn x.toInt))).length), .ref ra, .long pz, .int kc, .ref rc, .ref rl, .ref rb, .int la, .int ca])), (ra, .inl (cB, 16400, .inl u_130))]) [4, 5] rfl
              have hKc := hK.sub (tys' := [(cB, .byte)]) [0] rfl
              have hDc := hD.sub (ws' := [(mo, .inr (8, [.int th, .int fd, .ref rt, .int mn, .ref rk, .ref rv, .ref rw, .ref ro, .int md, .ref rr, .int (nI ((([] : List Nat) ++ [by_b 39]) ++ (mq 39 (ut_cn x.toInt))).length), .ref ra, .long pz, .int kc, .ref rc, .ref rl, .ref rb, .int la, .int ca])), (ra, .inl (cB, 16400, .inl u_130))]) [4, 5] (by decide) rfl
              have hFc := va_free (wc := [(mo, .inr (8, [.int th, .int fd, .ref rt, .int mn, .ref rk, .ref rv, .ref rw, .ref ro, .int md, .ref rr, .int (nI ((([] : List Nat) ++ [by_b 39]) ++ (mq 39 (ut_cn x.toInt))).length), .ref ra, .long pz, .int kc, .ref rc, .ref rl, .ref rb, .int la, .int ca])), (ra, .inl (cB, 16400, .inl u_130))]) hD hS hA [4, 5] rfl
              refine zz_callv (va_runV (As := [.int 39]) (rest := []) ⟨hx, hb, hml, hown, hg⟩ (c_Mo_put l dC dI mo rt rk rv rw ro rr ra rc rl rb th fd mn md (nI ((([] : List Nat) ++ [by_b 39]) ++ (mq 39 (ut_cn x.toInt))).length) pz kc la ca cB u_130 ((([] : List Nat) ++ [by_b 39]) ++ (mq 39 (ut_cn x.toInt))) 39 hL_132 (by (try simp only [List.length_append, List.length_cons, List.length_nil]); omega) H.size) (cwV 1 hg (gi_V kw_863 kw_865 sw_16 kw_9 kw_866) rfl rfl rfl (by decide +kernel) ⟨Nat.le_of_ble_eq_true rfl, Nat.le_of_ble_eq_true rfl⟩) (zz_preV hPc hKc hDc _ (q0 := 0) (ci := 8) rfl rfl) rfl rfl hl.1 rfl (lv_room (Nat.le_of_ble_eq_true rfl)) d_Mo_makes_268 ⟨Nat.le_of_ble_eq_true rfl, Nat.le_of_ble_eq_true rfl⟩) hS hFc (fun u H1 k9 p9 d9 => va_join (wr := [(rk, .inl (cI, 16, .inl fk)), (rv, .inl (cL, 16, .inr (.inl fv))), (rw, .inl (cI, 16, .inl fw)), (ro, .inl (cB, 65536, .inl fo))]) hP hD [4, 5] [0, 1, 2, 3] rfl rfl (by decide) (by decide) k9 hFc p9 d9) (fun u H locs hw hP hD hK1 hS => ?_)
              obtain ⟨u_133, rfl⟩ : ∃ z, z = u := ⟨_, rfl⟩
              try dsimp only at hw
              have hP : va_P (dC, dI) vwCl [(rk, .inl (cI, 16, .inl fk)), (rv, .inl (cL, 16, .inr (.inl fv))), (rw, .inl (cI, 16, .inl fw)), (ro, .inl (cB, 65536, .inl fo)), (mo, .inr (8, [.int th, .int fd, .ref rt, .int mn, .ref rk, .ref rv, .ref rw, .ref ro, .int md, .ref rr, .int (nI (((([] : List Nat) ++ [by_b 39]) ++ (mq 39 (ut_cn x.toInt))) ++ [by_b 39]).length), .ref ra, .long pz, .int kc, .ref rc, .ref rl, .ref rb, .int la, .int ca])), (ra, .inl (cB, 16400, .inl u_133))] H := hP
              have hD : va_D A [(rk, .inl (cI, 16, .inl fk)), (rv, .inl (cL, 16, .inr (.inl fv))), (rw, .inl (cI, 16, .inl fw)), (ro, .inl (cB, 65536, .inl fo)), (mo, .inr (8, [.int th, .int fd, .ref rt, .int mn, .ref rk, .ref rv, .ref rw, .ref ro, .int md, .ref rr, .int (nI (((([] : List Nat) ++ [by_b 39]) ++ (mq 39 (ut_cn x.toInt))) ++ [by_b 39]).length), .ref ra, .long pz, .int kc, .ref rc, .ref rl, .ref rb, .int la, .int ca])), (ra, .inl (cB, 16400, .inl u_133))] := hD
              have hL_135 := hw
              refine lv_goto (tgt := 358) hx hb d_Mo_makes_271 (by decide) ?_
              refine lv_iconst (v := 1) hx hb d_Mo_makes_358 (by decide) ?_
              have hmo : (mk_o v k x B bp) = some (((([] : List Nat) ++ [by_b 39]) ++ (mq 39 (ut_cn x.toInt))) ++ [by_b 39]) := (mk_nq hkn f_248)
              have hP9 := hP.sub (ws' := [(mo, .inr (8, [.int th, .int fd, .ref rt, .int mn, .ref rk, .ref rv, .ref rw, .ref ro, .int md, .ref rr, .int (nI (((([] : List Nat) ++ [by_b 39]) ++ (mq 39 (ut_cn x.toInt))) ++ [by_b 39]).length), .ref ra, .long pz, .int kc, .ref rc, .ref rl, .ref rb, .int la, .int ca])), (ra, .inl (cB, 16400, .inl u_133)), (rk, .inl (cI, 16, .inl fk)), (rv, .inl (cL, 16, .inr (.inl fv))), (rw, .inl (cI, 16, .inl fw)), (ro, .inl (cB, 65536, .inl fo))]) [4, 5, 0, 1, 2, 3] rfl
              have hD9 := hD.sub (ws' := [(mo, .inr (8, [.int th, .int fd, .ref rt, .int mn, .ref rk, .ref rv, .ref rw, .ref ro, .int md, .ref rr, .int (nI (((([] : List Nat) ++ [by_b 39]) ++ (mq 39 (ut_cn x.toInt))) ++ [by_b 39]).length), .ref ra, .long pz, .int kc, .ref rc, .ref rl, .ref rb, .int la, .int ca])), (ra, .inl (cB, 16400, .inl u_133)), (rk, .inl (cI, 16, .inl fk)), (rv, .inl (cL, 16, .inr (.inl fv))), (rw, .inl (cI, 16, .inl fw)), (ro, .inl (cB, 65536, .inl fo))]) [4, 5, 0, 1, 2, 3] (by decide) rfl
              have hK9 := hK.sub (tys' := [(cB, .byte), (cI, .int), (cL, .long)]) [0, 1, 2] rfl
              rw [show nI (((([] : List Nat) ++ [by_b 39]) ++ (mq 39 (ut_cn x.toInt))) ++ [by_b 39]).length = nI ((mk_o v k x B bp).getD []).length by rw [hmo]; rfl] at hP9 hD9
              exact zz_zret hx hb hr hlocks d_Mo_makes_359 (by decide) hS (by first | exact Nat.le_refl _ | decide | omega | (dsimp only; omega)) (by first | exact Nat.le_refl _ | decide | omega | (dsimp only; omega)) (u_133, la, ca) ⟨by rw [hmo]; rfl, by rw [hmo]; exact hL_135⟩ hP9 hK9 hD9
          · skip
            have f_228 : v = 99 := sb_e1 (k := 99) hv (by decide) c_228
            refine lv_aload_n hx hb d_Mo_makes_231 rfl (lv_at hl 3 rfl) ?_
            refine lv_iload hx hb d_Mo_makes_232 (lv_at hl 0 rfl) ?_
            have hPc := hP.sub (ws' := [(mo, .inr (8, [.int th, .int fd, .ref rt, .int mn, .ref rk, .ref rv, .ref rw, .ref ro, .int md, .ref rr, .int (nI ([] : List Nat).length), .ref ra, .long pz, .int kc, .ref rc, .ref rl, .ref rb, .int la, .int ca])), (ra, .inl (cB, 16400, .inl fa))]) [0, 1] rfl
            have hKc := hK.sub (tys' := [(cB, .byte)]) [0] rfl
            have hDc := hD.sub (ws' := [(mo, .inr (8, [.int th, .int fd, .ref rt, .int mn, .ref rk, .ref rv, .ref rw, .ref ro, .int md, .ref rr, .int (nI ([] : List Nat).length), .ref ra, .long pz, .int kc, .ref rc, .ref rl, .ref rb, .int la, .int ca])), (ra, .inl (cB, 16400, .inl fa))]) [0, 1] (by decide) rfl
            have hFc := va_free (wc := [(mo, .inr (8, [.int th, .int fd, .ref rt, .int mn, .ref rk, .ref rv, .ref rw, .ref ro, .int md, .ref rr, .int (nI ([] : List Nat).length), .ref ra, .long pz, .int kc, .ref rc, .ref rl, .ref rb, .int la, .int ca])), (ra, .inl (cB, 16400, .inl fa))]) hD hS hA [0, 1] rfl
            refine zz_callv (va_runV (As := [.int (nI (ut_cn x.toInt))]) (rest := []) ⟨hx, hb, hml, hown, hg⟩ (c_Mo_utf l dC dI mo rt rk rv rw ro rr ra rc rl rb th fd mn md (nI ([] : List Nat).length) pz kc la ca cB fa ([] : List Nat) (ut_cn x.toInt) (by_nil _) (by (try simp only [List.length_append, List.length_cons, List.length_nil]); omega) (pp_cn _) s.heap.size) (cwV 1 hg (gi_V kw_890 kw_892 sw_21 kw_9 kw_893) rfl rfl rfl (by decide +kernel) ⟨Nat.le_of_ble_eq_true rfl, Nat.le_of_ble_eq_true rfl⟩) (zz_preV hPc hKc hDc _ (q0 := 0) (ci := 8) rfl rfl) rfl rfl hl.1 rfl (lv_room (Nat.le_of_ble_eq_true rfl)) d_Mo_makes_234 ⟨Nat.le_of_ble_eq_true rfl, Nat.le_of_ble_eq_true rfl⟩) hS hFc (fun u H1 k9 p9 d9 => va_join (wr := [(rk, .inl (cI, 16, .inl fk)), (rv, .inl (cL, 16, .inr (.inl fv))), (rw, .inl (cI, 16, .inl fw)), (ro, .inl (cB, 65536, .inl fo))]) hP hD [0, 1] [2, 3, 4, 5] rfl rfl (by decide) (by decide) k9 hFc p9 d9) (fun u H locs hw hP hD hK1 hS => ?_)
            obtain ⟨u_136, rfl⟩ : ∃ z, z = u := ⟨_, rfl⟩
            try dsimp only at hw
            have hP : va_P (dC, dI) vwCl [(rk, .inl (cI, 16, .inl fk)), (rv, .inl (cL, 16, .inr (.inl fv))), (rw, .inl (cI, 16, .inl fw)), (ro, .inl (cB, 65536, .inl fo)), (mo, .inr (8, [.int th, .int fd, .ref rt, .int mn, .ref rk, .ref rv, .ref rw, .ref ro, .int md, .ref rr, .int (nI (([] : List Nat) ++ (ut_8 (ut_cn x.toInt))).length), .ref ra, .long pz, .int kc, .ref rc, .ref rl, .ref rb, .int la, .int ca])), (ra, .inl (cB, 16400, .inl u_136))] H := hP
            have hD : va_D A [(rk, .inl (cI, 16, .inl fk)), (rv, .inl (cL, 16, .inr (.inl fv))), (rw, .inl (cI, 16, .inl fw)), (ro, .inl (cB, 65536, .inl fo)), (mo, .inr (8, [.int th, .int fd, .ref rt, .int mn, .ref rk, .ref rv, .ref rw, .ref ro, .int md, .ref rr, .int (nI (([] : List Nat) ++ (ut_8 (ut_cn x.toInt))).length), .ref ra, .long pz, .int kc, .ref rc, .ref rl, .ref rb, .int la, .int ca])), (ra, .inl (cB, 16400, .inl u_136))] := hD
            have hL_138 := hw
            refine lv_goto (tgt := 358) hx hb d_Mo_makes_237 (by decide) ?_
            refine lv_iconst (v := 1) hx hb d_Mo_makes_358 (by decide) ?_
            have hmo : (mk_o v k x B bp) = some (([] : List Nat) ++ (ut_8 (ut_cn x.toInt))) := (mk_nc hkn f_228)
            have hP9 := hP.sub (ws' := [(mo, .inr (8, [.int th, .int fd, .ref rt, .int mn, .ref rk, .ref rv, .ref rw, .ref ro, .int md, .ref rr, .int (nI (([] : List Nat) ++ (ut_8 (ut_cn x.toInt))).length), .ref ra, .long pz, .int kc, .ref rc, .ref rl, .ref rb, .int la, .int ca])), (ra, .inl (cB, 16400, .inl u_136)), (rk, .inl (cI, 16, .inl fk)), (rv, .inl (cL, 16, .inr (.inl fv))), (rw, .inl (cI, 16, .inl fw)), (ro, .inl (cB, 65536, .inl fo))]) [4, 5, 0, 1, 2, 3] rfl
            have hD9 := hD.sub (ws' := [(mo, .inr (8, [.int th, .int fd, .ref rt, .int mn, .ref rk, .ref rv, .ref rw, .ref ro, .int md, .ref rr, .int (nI (([] : List Nat) ++ (ut_8 (ut_cn x.toInt))).length), .ref ra, .long pz, .int kc, .ref rc, .ref rl, .ref rb, .int la, .int ca])), (ra, .inl (cB, 16400, .inl u_136)), (rk, .inl (cI, 16, .inl fk)), (rv, .inl (cL, 16, .inr (.inl fv))), (rw, .inl (cI, 16, .inl fw)), (ro, .inl (cB, 65536, .inl fo))]) [4, 5, 0, 1, 2, 3] (by decide) rfl
            have hK9 := hK.sub (tys' := [(cB, .byte), (cI, .int), (cL, .long)]) [0, 1, 2] rfl
            rw [show nI (([] : List Nat) ++ (ut_8 (ut_cn x.toInt))).length = nI ((mk_o v k x B bp).getD []).length by rw [hmo]; rfl] at hP9 hD9
            exact zz_zret hx hb hr hlocks d_Mo_makes_359 (by decide) hS (by first | exact Nat.le_refl _ | decide | omega | (dsimp only; omega)) (by first | exact Nat.le_refl _ | decide | omega | (dsimp only; omega)) (u_136, la, ca) ⟨by rw [hmo]; rfl, by rw [hmo]; exact hL_138⟩ hP9 hK9 hD9
        · skip
          have f_95 : 0 < (mb_v v) := Nat.lt_of_not_le (fun z => c_95 (nI_le (b := 0) z (by omega)))
          refine lv_aload_n hx hb d_Mo_makes_98 rfl (lv_at hl 3 rfl) ?_
          refine lv_iload_n hx hb d_Mo_makes_99 rfl (lv_at hl 5 rfl) ?_
          have hPc := hP.sub (ws' := [(mo, .inr (8, [.int th, .int fd, .ref rt, .int mn, .ref rk, .ref rv, .ref rw, .ref ro, .int md, .ref rr, .int (nI ([] : List Nat).length), .ref ra, .long pz, .int kc, .ref rc, .ref rl, .ref rb, .int la, .int ca])), (rk, .inl (cI, 16, .inl fk)), (rv, .inl (cL, 16, .inr (.inl fv)))]) [0, 2, 3] rfl
          have hKc := hK.sub (tys' := [(cI, .int), (cL, .long)]) [1, 2] rfl
          refine vp_callSi (W.runV (As := [.int (nI j)]) (rest := []) ⟨hx, hb, hml, hown, hg⟩ (c_Mo_isBelow l dC dI mo rt rk rv rw ro rr ra rc rl rb th fd mn md (nI ([] : List Nat).length) pz kc la ca cI cL fk fv j hj) (cwV 1 hg (gi_V kw_859 kw_861 sw_15 kw_9 kw_862) rfl rfl rfl (by decide +kernel) ⟨Nat.le_of_ble_eq_true rfl, Nat.le_of_ble_eq_true rfl⟩) (zz_prJV hPc hKc _ (q0 := 0) (ci := 8) rfl rfl) rfl rfl hl.1 rfl (lv_room (Nat.le_of_ble_eq_true rfl)) d_Mo_makes_100 ⟨Nat.le_of_ble_eq_true rfl, Nat.le_of_ble_eq_true rfl⟩) (fun r_139 hr_139 => ?_)
          rw [hk9, hmg.2.1] at hr_139
          refine lv_if_eq (tgt := 115) hx hb d_Mo_makes_103 (by decide) (fun c_103 => ?_) (fun c_103 => ?_)
          · skip
            have hbb : ar_b (nI k) x = false := by_z_f hr_139 c_103
            refine lv_iload_n hx hb d_Mo_makes_115 rfl (lv_at hl 6 rfl) ?_
            refine lv_if_eq (tgt := 125) hx hb d_Mo_makes_116 (by decide) (fun c_116 => ?_) (fun c_116 => ?_)
            · skip
              have hbq : bp = false := by_z_f rfl c_116
              refine lv_aload_n hx hb d_Mo_makes_125 rfl (lv_at hl 3 rfl) ?_
              refine lv_iload_n hx hb d_Mo_makes_126 rfl (lv_at hl 5 rfl) ?_
              refine lv_iload_n hx hb d_Mo_makes_127 rfl (lv_at hl 4 rfl) ?_
              have hPc := hP.sub (ws' := []) [] rfl
              have hKc := hK.sub (tys' := []) [] rfl
              refine vp_callSi (W.runS (As := [.int (sb_b v)]) (rest := [.int (nI j), .ref mo]) ⟨hx, hb, hml, hown, hg⟩ (c_Mo_baseOf l dC dI v hv) (va_cwS 1 hg (gi_S kw_856 kw_857 kw_9 kw_858) rfl rfl rfl (by decide +kernel) ⟨Nat.le_of_ble_eq_true rfl, Nat.le_of_ble_eq_true rfl⟩) (zz_prJS hPc hKc _) rfl rfl hl.1 rfl (lv_room (Nat.le_of_ble_eq_true rfl)) d_Mo_makes_128 ⟨Nat.le_of_ble_eq_true rfl, Nat.le_of_ble_eq_true rfl⟩) (fun r_140 hr_140 => ?_)
              subst hr_140
              refine lv_iload_n hx hb d_Mo_makes_131 rfl (lv_at hl 4 rfl) ?_
              refine lv_bipush (v := 88) hx hb d_Mo_makes_132 (by decide) ?_
              refine lv_icmp_ne (tgt := 141) hx hb d_Mo_makes_134 (by decide) (fun c_134 => ?_) (fun c_134 => ?_)
              · skip
                have f_134 : v ≠ 88 := sb_e2 (k := 88) hv (by decide) c_134
                refine lv_iconst (v := 0) hx hb d_Mo_makes_141 (by decide) ?_
                refine lv_topi (fun y_141 ey_141 => ?_)
                have ey_141 : y_141 = (by_z (decide (v = 88)) : Int32) := ey_141.trans (show 0 = by_z (decide (v = 88)) from (by rw [decide_eq_false f_134]; rfl))
                subst ey_141
                have hPc := hP.sub (ws' := [(mo, .inr (8, [.int th, .int fd, .ref rt, .int mn, .ref rk, .ref rv, .ref rw, .ref ro, .int md, .ref rr, .int (nI ([] : List Nat).length), .ref ra, .long pz, .int kc, .ref rc, .ref rl, .ref rb, .int la, .int ca])), (ra, .inl (cB, 16400, .inl fa)), (rk, .inl (cI, 16, .inl fk)), (rv, .inl (cL, 16, .inr (.inl fv)))]) [0, 1, 2, 3] rfl
                have hKc := hK.sub (tys' := [(cB, .byte), (cI, .int), (cL, .long)]) [0, 1, 2] rfl
                have hDc := hD.sub (ws' := [(mo, .inr (8, [.int th, .int fd, .ref rt, .int mn, .ref rk, .ref rv, .ref rw, .ref ro, .int md, .ref rr, .int (nI ([] : List Nat).length), .ref ra, .long pz, .int kc, .ref rc, .ref rl, .ref rb, .int la, .int ca])), (ra, .inl (cB, 16400, .inl fa)), (rk, .inl (cI, 16, .inl fk)), (rv, .inl (cL, 16, .inr (.inl fv)))]) [0, 1, 2, 3] (by decide) rfl
                have hFc := va_free (wc := [(mo, .inr (8, [.int th, .int fd, .ref rt, .int mn, .ref rk, .ref rv, .ref rw, .ref ro, .int md, .ref rr, .int (nI ([] : List Nat).length), .ref ra, .long pz, .int kc, .ref rc, .ref rl, .ref rb, .int la, .int ca])), (ra, .inl (cB, 16400, .inl fa)), (rk, .inl (cI, 16, .inl fk)), (rv, .inl (cL, 16, .inr (.inl fv)))]) hD hS hA [0, 1, 2, 3] rfl
                refine zz_callv (va_runV (As := [.int (nI j), .int (nI (mb_v v)), .int (by_z (decide (v = 88)))]) (rest := []) ⟨hx, hb, hml, hown, hg⟩ (c_Mo_sized l dC dI mo rt rk rv rw ro rr ra rc rl rb th fd mn md (nI ([] : List Nat).length) pz kc la ca cB fa ([] : List Nat) cI cL fk fv j (mb_v v) (decide (v = 88)) (by_nil _) (by (try simp only [List.length_append, List.length_cons, List.length_nil]); omega) hj (mb_s (n := 0) (by omega)).2.2.2.2.1 (mb_s (n := 0) (by omega)).2.2.2.2.2 s.heap.size) (cwV 3 hg (gi_V kw_867 kw_869 sw_17 kw_9 kw_870) rfl rfl rfl (by decide +kernel) ⟨Nat.le_of_ble_eq_true rfl, Nat.le_of_ble_eq_true rfl⟩) (zz_preV hPc hKc hDc _ (q0 := 0) (ci := 8) rfl rfl) rfl rfl hl.1 rfl (lv_room (Nat.le_of_ble_eq_true rfl)) d_Mo_makes_142 ⟨Nat.le_of_ble_eq_true rfl, Nat.le_of_ble_eq_true rfl⟩) hS hFc (fun u H1 k9 p9 d9 => va_join (wr := [(rw, .inl (cI, 16, .inl fw)), (ro, .inl (cB, 65536, .inl fo))]) hP hD [0, 1, 2, 3] [4, 5] rfl rfl (by decide) (by decide) k9 hFc p9 d9) (fun u H locs hw hP hD hK1 hS => ?_)
                obtain ⟨u_142, rfl⟩ : ∃ z, z = u := ⟨_, rfl⟩
                try dsimp only at hw
                have hP : va_P (dC, dI) vwCl [(rw, .inl (cI, 16, .inl fw)), (ro, .inl (cB, 65536, .inl fo)), (mo, .inr (8, [.int th, .int fd, .ref rt, .int mn, .ref rk, .ref rv, .ref rw, .ref ro, .int md, .ref rr, .int (nI (([] : List Nat) ++ (nu_f (mb_v v) (dg_t (decide (v = 88))) 64 (ar_m (fk j) (fv j))).reverse).length), .ref ra, .long pz, .int kc, .ref rc, .ref rl, .ref rb, .int la, .int ca])), (ra, .inl (cB, 16400, .inl u_142)), (rk, .inl (cI, 16, .inl fk)), (rv, .inl (cL, 16, .inr (.inl fv)))] H := hP
                have hD : va_D A [(rw, .inl (cI, 16, .inl fw)), (ro, .inl (cB, 65536, .inl fo)), (mo, .inr (8, [.int th, .int fd, .ref rt, .int mn, .ref rk, .ref rv, .ref rw, .ref ro, .int md, .ref rr, .int (nI (([] : List Nat) ++ (nu_f (mb_v v) (dg_t (decide (v = 88))) 64 (ar_m (fk j) (fv j))).reverse).length), .ref ra, .long pz, .int kc, .ref rc, .ref rl, .ref rb, .int la, .int ca])), (ra, .inl (cB, 16400, .inl u_142)), (rk, .inl (cI, 16, .inl fk)), (rv, .inl (cL, 16, .inr (.inl fv)))] := hD
                have hL_144 := hw
                refine lv_goto (tgt := 358) hx hb d_Mo_makes_145 (by decide) ?_
                refine lv_iconst (v := 1) hx hb d_Mo_makes_358 (by decide) ?_
                have hmo : (mk_o v k x B bp) = some (([] : List Nat) ++ (nu_f (mb_v v) (dg_t (decide (v = 88))) 64 (ar_m (fk j) (fv j))).reverse) := (by rw [hk9, hmg.2.1]; exact mk_b3 hkn (by omega) hbb hbq)
                have hP9 := hP.sub (ws' := [(mo, .inr (8, [.int th, .int fd, .ref rt, .int mn, .ref rk, .ref rv, .ref rw, .ref ro, .int md, .ref rr, .int (nI (([] : List Nat) ++ (nu_f (mb_v v) (dg_t (decide (v = 88))) 64 (ar_m (fk j) (fv j))).reverse).length), .ref ra, .long pz, .int kc, .ref rc, .ref rl, .ref rb, .int la, .int ca])), (ra, .inl (cB, 16400, .inl u_142)), (rk, .inl (cI, 16, .inl fk)), (rv, .inl (cL, 16, .inr (.inl fv))), (rw, .inl (cI, 16, .inl fw)), (ro, .inl (cB, 65536, .inl fo))]) [2, 3, 4, 5, 0, 1] rfl
                have hD9 := hD.sub (ws' := [(mo, .inr (8, [.int th, .int fd, .ref rt, .int mn, .ref rk, .ref rv, .ref rw, .ref ro, .int md, .ref rr, .int (nI (([] : List Nat) ++ (nu_f (mb_v v) (dg_t (decide (v = 88))) 64 (ar_m (fk j) (fv j))).reverse).length), .ref ra, .long pz, .int kc, .ref rc, .ref rl, .ref rb, .int la, .int ca])), (ra, .inl (cB, 16400, .inl u_142)), (rk, .inl (cI, 16, .inl fk)), (rv, .inl (cL, 16, .inr (.inl fv))), (rw, .inl (cI, 16, .inl fw)), (ro, .inl (cB, 65536, .inl fo))]) [2, 3, 4, 5, 0, 1] (by decide) rfl
                have hK9 := hK.sub (tys' := [(cB, .byte), (cI, .int), (cL, .long)]) [0, 1, 2] rfl
                rw [show nI (([] : List Nat) ++ (nu_f (mb_v v) (dg_t (decide (v = 88))) 64 (ar_m (fk j) (fv j))).reverse).length = nI ((mk_o v k x B bp).getD []).length by rw [hmo]; rfl] at hP9 hD9
                exact zz_zret hx hb hr hlocks d_Mo_makes_359 (by decide) hS (by first | exact Nat.le_refl _ | decide | omega | (dsimp only; omega)) (by first | exact Nat.le_refl _ | decide | omega | (dsimp only; omega)) (u_142, la, ca) ⟨by rw [hmo]; rfl, by rw [hmo]; exact hL_144⟩ hP9 hK9 hD9
              · skip
                have f_134 : v = 88 := sb_e1 (k := 88) hv (by decide) c_134
                refine lv_iconst (v := 1) hx hb d_Mo_makes_137 (by decide) ?_
                refine lv_goto (tgt := 142) hx hb d_Mo_makes_138 (by decide) ?_
                refine lv_topi (fun y_145 ey_145 => ?_)
                have ey_145 : y_145 = (by_z (decide (v = 88)) : Int32) := ey_145.trans (show 1 = by_z (decide (v = 88)) from (by rw [decide_eq_true f_134]; rfl))
                subst ey_145
                have hPc := hP.sub (ws' := [(mo, .inr (8, [.int th, .int fd, .ref rt, .int mn, .ref rk, .ref rv, .ref rw, .ref ro, .int md, .ref rr, .int (nI ([] : List Nat).length), .ref ra, .long pz, .int kc, .ref rc, .ref rl, .ref rb, .int la, .int ca])), (ra, .inl (cB, 16400, .inl fa)), (rk, .inl (cI, 16, .inl fk)), (rv, .inl (cL, 16, .inr (.inl fv)))]) [0, 1, 2, 3] rfl
                have hKc := hK.sub (tys' := [(cB, .byte), (cI, .int), (cL, .long)]) [0, 1, 2] rfl
                have hDc := hD.sub (ws' := [(mo, .inr (8, [.int th, .int fd, .ref rt, .int mn, .ref rk, .ref rv, .ref rw, .ref ro, .int md, .ref rr, .int (nI ([] : List Nat).length), .ref ra, .long pz, .int kc, .ref rc, .ref rl, .ref rb, .int la, .int ca])), (ra, .inl (cB, 16400, .inl fa)), (rk, .inl (cI, 16, .inl fk)), (rv, .inl (cL, 16, .inr (.inl fv)))]) [0, 1, 2, 3] (by decide) rfl
                have hFc := va_free (wc := [(mo, .inr (8, [.int th, .int fd, .ref rt, .int mn, .ref rk, .ref rv, .ref rw, .ref ro, .int md, .ref rr, .int (nI ([] : List Nat).length), .ref ra, .long pz, .int kc, .ref rc, .ref rl, .ref rb, .int la, .int ca])), (ra, .inl (cB, 16400, .inl fa)), (rk, .inl (cI, 16, .inl fk)), (rv, .inl (cL, 16, .inr (.inl fv)))]) hD hS hA [0, 1, 2, 3] rfl
                refine zz_callv (va_runV (As := [.int (nI j), .int (nI (mb_v v)), .int (by_z (decide (v = 88)))]) (rest := []) ⟨hx, hb, hml, hown, hg⟩ (c_Mo_sized l dC dI mo rt rk rv rw ro rr ra rc rl rb th fd mn md (nI ([] : List Nat).length) pz kc la ca cB fa ([] : List Nat) cI cL fk fv j (mb_v v) (decide (v = 88)) (by_nil _) (by (try simp only [List.length_append, List.length_cons, List.length_nil]); omega) hj (mb_s (n := 0) (by omega)).2.2.2.2.1 (mb_s (n := 0) (by omega)).2.2.2.2.2 s.heap.size) (cwV 3 hg (gi_V kw_867 kw_869 sw_17 kw_9 kw_870) rfl rfl rfl (by decide +kernel) ⟨Nat.le_of_ble_eq_true rfl, Nat.le_of_ble_eq_true rfl⟩) (zz_preV hPc hKc hDc _ (q0 := 0) (ci := 8) rfl rfl) rfl rfl hl.1 rfl (lv_room (Nat.le_of_ble_eq_true rfl)) d_Mo_makes_142 ⟨Nat.le_of_ble_eq_true rfl, Nat.le_of_ble_eq_true rfl⟩) hS hFc (fun u H1 k9 p9 d9 => va_join (wr := [(rw, .inl (cI, 16, .inl fw)), (ro, .inl (cB, 65536, .inl fo))]) hP hD [0, 1, 2, 3] [4, 5] rfl rfl (by decide) (by decide) k9 hFc p9 d9) (fun u H locs hw hP hD hK1 hS => ?_)
                obtain ⟨u_146, rfl⟩ : ∃ z, z = u := ⟨_, rfl⟩
                try dsimp only at hw
                have hP : va_P (dC, dI) vwCl [(rw, .inl (cI, 16, .inl fw)), (ro, .inl (cB, 65536, .inl fo)), (mo, .inr (8, [.int th, .int fd, .ref rt, .int mn, .ref rk, .ref rv, .ref rw, .ref ro, .int md, .ref rr, .int (nI (([] : List Nat) ++ (nu_f (mb_v v) (dg_t (decide (v = 88))) 64 (ar_m (fk j) (fv j))).reverse).length), .ref ra, .long pz, .int kc, .ref rc, .ref rl, .ref rb, .int la, .int ca])), (ra, .inl (cB, 16400, .inl u_146)), (rk, .inl (cI, 16, .inl fk)), (rv, .inl (cL, 16, .inr (.inl fv)))] H := hP
                have hD : va_D A [(rw, .inl (cI, 16, .inl fw)), (ro, .inl (cB, 65536, .inl fo)), (mo, .inr (8, [.int th, .int fd, .ref rt, .int mn, .ref rk, .ref rv, .ref rw, .ref ro, .int md, .ref rr, .int (nI (([] : List Nat) ++ (nu_f (mb_v v) (dg_t (decide (v = 88))) 64 (ar_m (fk j) (fv j))).reverse).length), .ref ra, .long pz, .int kc, .ref rc, .ref rl, .ref rb, .int la, .int ca])), (ra, .inl (cB, 16400, .inl u_146)), (rk, .inl (cI, 16, .inl fk)), (rv, .inl (cL, 16, .inr (.inl fv)))] := hD
                have hL_148 := hw
                refine lv_goto (tgt := 358) hx hb d_Mo_makes_145 (by decide) ?_
                refine lv_iconst (v := 1) hx hb d_Mo_makes_358 (by decide) ?_
                have hmo : (mk_o v k x B bp) = some (([] : List Nat) ++ (nu_f (mb_v v) (dg_t (decide (v = 88))) 64 (ar_m (fk j) (fv j))).reverse) := (by rw [hk9, hmg.2.1]; exact mk_b3 hkn (by omega) hbb hbq)
                have hP9 := hP.sub (ws' := [(mo, .inr (8, [.int th, .int fd, .ref rt, .int mn, .ref rk, .ref rv, .ref rw, .ref ro, .int md, .ref rr, .int (nI (([] : List Nat) ++ (nu_f (mb_v v) (dg_t (decide (v = 88))) 64 (ar_m (fk j) (fv j))).reverse).length), .ref ra, .long pz, .int kc, .ref rc, .ref rl, .ref rb, .int la, .int ca])), (ra, .inl (cB, 16400, .inl u_146)), (rk, .inl (cI, 16, .inl fk)), (rv, .inl (cL, 16, .inr (.inl fv))), (rw, .inl (cI, 16, .inl fw)), (ro, .inl (cB, 65536, .inl fo))]) [2, 3, 4, 5, 0, 1] rfl
                have hD9 := hD.sub (ws' := [(mo, .inr (8, [.int th, .int fd, .ref rt, .int mn, .ref rk, .ref rv, .ref rw, .ref ro, .int md, .ref rr, .int (nI (([] : List Nat) ++ (nu_f (mb_v v) (dg_t (decide (v = 88))) 64 (ar_m (fk j) (fv j))).reverse).length), .ref ra, .long pz, .int kc, .ref rc, .ref rl, .ref rb, .int la, .int ca])), (ra, .inl (cB, 16400, .inl u_146)), (rk, .inl (cI, 16, .inl fk)), (rv, .inl (cL, 16, .inr (.inl fv))), (rw, .inl (cI, 16, .inl fw)), (ro, .inl (cB, 65536, .inl fo))]) [2, 3, 4, 5, 0, 1] (by decide) rfl
                have hK9 := hK.sub (tys' := [(cB, .byte), (cI, .int), (cL, .long)]) [0, 1, 2] rfl
                rw [show nI (([] : List Nat) ++ (nu_f (mb_v v) (dg_t (decide (v = 88))) 64 (ar_m (fk j) (fv j))).reverse).length = nI ((mk_o v k x B bp).getD []).length by rw [hmo]; rfl] at hP9 hD9
                exact zz_zret hx hb hr hlocks d_Mo_makes_359 (by decide) hS (by first | exact Nat.le_refl _ | decide | omega | (dsimp only; omega)) (by first | exact Nat.le_refl _ | decide | omega | (dsimp only; omega)) (u_146, la, ca) ⟨by rw [hmo]; rfl, by rw [hmo]; exact hL_148⟩ hP9 hK9 hD9
            · skip
              have hbq : bp = true := by_z_t rfl c_116
              refine lv_aload_n hx hb d_Mo_makes_119 rfl (lv_at hl 3 rfl) ?_
              refine lv_bipush (v := 43) hx hb d_Mo_makes_120 (by decide) ?_
              have hPc := hP.sub (ws' := [(mo, .inr (8, [.int th, .int fd, .ref rt, .int mn, .ref rk, .ref rv, .ref rw, .ref ro, .int md, .ref rr, .int (nI ([] : List Nat).length), .ref ra, .long pz, .int kc, .ref rc, .ref rl, .ref rb, .int la, .int ca])), (ra, .inl (cB, 16400, .inl fa))]) [0, 1] rfl
              have hKc := hK.sub (tys' := [(cB, .byte)]) [0] rfl
              have hDc := hD.sub (ws' := [(mo, .inr (8, [.int th, .int fd, .ref rt, .int mn, .ref rk, .ref rv, .ref rw, .ref ro, .int md, .ref rr, .int (nI ([] : List Nat).length), .ref ra, .long pz, .int kc, .ref rc, .ref rl, .ref rb, .int la, .int ca])), (ra, .inl (cB, 16400, .inl fa))]) [0, 1] (by decide) rfl
              have hFc := va_free (wc := [(mo, .inr (8, [.int th, .int fd, .ref rt, .int mn, .ref rk, .ref rv, .ref rw, .ref ro, .int md, .ref rr, .int (nI ([] : List Nat).length), .ref ra, .long pz, .int kc, .ref rc, .ref rl, .ref rb, .int la, .int ca])), (ra, .inl (cB, 16400, .inl fa))]) hD hS hA [0, 1] rfl
              refine zz_callv (va_runV (As := [.int 43]) (rest := []) ⟨hx, hb, hml, hown, hg⟩ (c_Mo_put l dC dI mo rt rk rv rw ro rr ra rc rl rb th fd mn md (nI ([] : List Nat).length) pz kc la ca cB fa ([] : List Nat) 43 (by_nil _) (by (try simp only [List.length_append, List.length_cons, List.length_nil]); omega) s.heap.size) (cwV 1 hg (gi_V kw_863 kw_865 sw_16 kw_9 kw_866) rfl rfl rfl (by decide +kernel) ⟨Nat.le_of_ble_eq_true rfl, Nat.le_of_ble_eq_true rfl⟩) (zz_preV hPc hKc hDc _ (q0 := 0) (ci := 8) rfl rfl) rfl rfl hl.1 rfl (lv_room (Nat.le_of_ble_eq_true rfl)) d_Mo_makes_122 ⟨Nat.le_of_ble_eq_true rfl, Nat.le_of_ble_eq_true rfl⟩) hS hFc (fun u H1 k9 p9 d9 => va_join (wr := [(rk, .inl (cI, 16, .inl fk)), (rv, .inl (cL, 16, .inr (.inl fv))), (rw, .inl (cI, 16, .inl fw)), (ro, .inl (cB, 65536, .inl fo))]) hP hD [0, 1] [2, 3, 4, 5] rfl rfl (by decide) (by decide) k9 hFc p9 d9) (fun u H locs hw hP hD hK1 hS => ?_)
              obtain ⟨u_149, rfl⟩ : ∃ z, z = u := ⟨_, rfl⟩
              try dsimp only at hw
              have hP : va_P (dC, dI) vwCl [(rk, .inl (cI, 16, .inl fk)), (rv, .inl (cL, 16, .inr (.inl fv))), (rw, .inl (cI, 16, .inl fw)), (ro, .inl (cB, 65536, .inl fo)), (mo, .inr (8, [.int th, .int fd, .ref rt, .int mn, .ref rk, .ref rv, .ref rw, .ref ro, .int md, .ref rr, .int (nI (([] : List Nat) ++ [by_b 43]).length), .ref ra, .long pz, .int kc, .ref rc, .ref rl, .ref rb, .int la, .int ca])), (ra, .inl (cB, 16400, .inl u_149))] H := hP
              have hD : va_D A [(rk, .inl (cI, 16, .inl fk)), (rv, .inl (cL, 16, .inr (.inl fv))), (rw, .inl (cI, 16, .inl fw)), (ro, .inl (cB, 65536, .inl fo)), (mo, .inr (8, [.int th, .int fd, .ref rt, .int mn, .ref rk, .ref rv, .ref rw, .ref ro, .int md, .ref rr, .int (nI (([] : List Nat) ++ [by_b 43]).length), .ref ra, .long pz, .int kc, .ref rc, .ref rl, .ref rb, .int la, .int ca])), (ra, .inl (cB, 16400, .inl u_149))] := hD
              have hL_151 := hw
              refine lv_aload_n hx hb d_Mo_makes_125 rfl (lv_at hl 3 rfl) ?_
              refine lv_iload_n hx hb d_Mo_makes_126 rfl (lv_at hl 5 rfl) ?_
              refine lv_iload_n hx hb d_Mo_makes_127 rfl (lv_at hl 4 rfl) ?_
              have hPc := hP.sub (ws' := []) [] rfl
              have hKc := hK.sub (tys' := []) [] rfl
              refine vp_callSi (W.runS (As := [.int (sb_b v)]) (rest := [.int (nI j), .ref mo]) ⟨hx, hb, hml, hown, hg⟩ (c_Mo_baseOf l dC dI v hv) (va_cwS 1 hg (gi_S kw_856 kw_857 kw_9 kw_858) rfl rfl rfl (by decide +kernel) ⟨Nat.le_of_ble_eq_true rfl, Nat.le_of_ble_eq_true rfl⟩) (zz_prJS hPc hKc _) rfl rfl hl.1 rfl (lv_room (Nat.le_of_ble_eq_true rfl)) d_Mo_makes_128 ⟨Nat.le_of_ble_eq_true rfl, Nat.le_of_ble_eq_true rfl⟩) (fun r_152 hr_152 => ?_)
              subst hr_152
              refine lv_iload_n hx hb d_Mo_makes_131 rfl (lv_at hl 4 rfl) ?_
              refine lv_bipush (v := 88) hx hb d_Mo_makes_132 (by decide) ?_
              refine lv_icmp_ne (tgt := 141) hx hb d_Mo_makes_134 (by decide) (fun c_134 => ?_) (fun c_134 => ?_)
              · skip
                have f_134 : v ≠ 88 := sb_e2 (k := 88) hv (by decide) c_134
                refine lv_iconst (v := 0) hx hb d_Mo_makes_141 (by decide) ?_
                refine lv_topi (fun y_153 ey_153 => ?_)
                have ey_153 : y_153 = (by_z (decide (v = 88)) : Int32) := ey_153.trans (show 0 = by_z (decide (v = 88)) from (by rw [decide_eq_false f_134]; rfl))
                subst ey_153
                have hPc := hP.sub (ws' := [(mo, .inr (8, [.int th, .int fd, .ref rt, .int mn, .ref rk, .ref rv, .ref rw, .ref ro, .int md, .ref rr, .int (nI (([] : List Nat) ++ [by_b 43]).length), .ref ra, .long pz, .int kc, .ref rc, .ref rl, .ref rb, .int la, .int ca])), (ra, .inl (cB, 16400, .inl u_149)), (rk, .inl (cI, 16, .inl fk)), (rv, .inl (cL, 16, .inr (.inl fv)))]) [4, 5, 0, 1] rfl
                have hKc := hK.sub (tys' := [(cB, .byte), (cI, .int), (cL, .long)]) [0, 1, 2] rfl
                have hDc := hD.sub (ws' := [(mo, .inr (8, [.int th, .int fd, .ref rt, .int mn, .ref rk, .ref rv, .ref rw, .ref ro, .int md, .ref rr, .int (nI (([] : List Nat) ++ [by_b 43]).length), .ref ra, .long pz, .int kc, .ref rc, .ref rl, .ref rb, .int la, .int ca])), (ra, .inl (cB, 16400, .inl u_149)), (rk, .inl (cI, 16, .inl fk)), (rv, .inl (cL, 16, .inr (.inl fv)))]) [4, 5, 0, 1] (by decide) rfl
                have hFc := va_free (wc := [(mo, .inr (8, [.int th, .int fd, .ref rt, .int mn, .ref rk, .ref rv, .ref rw, .ref ro, .int md, .ref rr, .int (nI (([] : List Nat) ++ [by_b 43]).length), .ref ra, .long pz, .int kc, .ref rc, .ref rl, .ref rb, .int la, .int ca])), (ra, .inl (cB, 16400, .inl u_149)), (rk, .inl (cI, 16, .inl fk)), (rv, .inl (cL, 16, .inr (.inl fv)))]) hD hS hA [4, 5, 0, 1] rfl
                refine zz_callv (va_runV (As := [.int (nI j), .int (nI (mb_v v)), .int (by_z (decide (v = 88)))]) (rest := []) ⟨hx, hb, hml, hown, hg⟩ (c_Mo_sized l dC dI mo rt rk rv rw ro rr ra rc rl rb th fd mn md (nI (([] : List Nat) ++ [by_b 43]).length) pz kc la ca cB u_149 (([] : List Nat) ++ [by_b 43]) cI cL fk fv j (mb_v v) (decide (v = 88)) hL_151 (by (try simp only [List.length_append, List.length_cons, List.length_nil]); omega) hj (mb_s (n := 0) (by omega)).2.2.2.2.1 (mb_s (n := 0) (by omega)).2.2.2.2.2 H.size) (cwV 3 hg (gi_V kw_867 kw_869 sw_17 kw_9 kw_870) rfl rfl rfl (by decide +kernel) ⟨Nat.le_of_ble_eq_true rfl, Nat.le_of_ble_eq_true rfl⟩) (zz_preV hPc hKc hDc _ (q0 := 0) (ci := 8) rfl rfl) rfl rfl hl.1 rfl (lv_room (Nat.le_of_ble_eq_true rfl)) d_Mo_makes_142 ⟨Nat.le_of_ble_eq_true rfl, Nat.le_of_ble_eq_true rfl⟩) hS hFc (fun u H1 k9 p9 d9 => va_join (wr := [(rw, .inl (cI, 16, .inl fw)), (ro, .inl (cB, 65536, .inl fo))]) hP hD [4, 5, 0, 1] [2, 3] rfl rfl (by decide) (by decide) k9 hFc p9 d9) (fun u H locs hw hP hD hK1 hS => ?_)
                obtain ⟨u_154, rfl⟩ : ∃ z, z = u := ⟨_, rfl⟩
                try dsimp only at hw
                have hP : va_P (dC, dI) vwCl [(rw, .inl (cI, 16, .inl fw)), (ro, .inl (cB, 65536, .inl fo)), (mo, .inr (8, [.int th, .int fd, .ref rt, .int mn, .ref rk, .ref rv, .ref rw, .ref ro, .int md, .ref rr, .int (nI ((([] : List Nat) ++ [by_b 43]) ++ (nu_f (mb_v v) (dg_t (decide (v = 88))) 64 (ar_m (fk j) (fv j))).reverse).length), .ref ra, .long pz, .int kc, .ref rc, .ref rl, .ref rb, .int la, .int ca])), (ra, .inl (cB, 16400, .inl u_154)), (rk, .inl (cI, 16, .inl fk)), (rv, .inl (cL, 16, .inr (.inl fv)))] H := hP
                have hD : va_D A [(rw, .inl (cI, 16, .inl fw)), (ro, .inl (cB, 65536, .inl fo)), (mo, .inr (8, [.int th, .int fd, .ref rt, .int mn, .ref rk, .ref rv, .ref rw, .ref ro, .int md, .ref rr, .int (nI ((([] : List Nat) ++ [by_b 43]) ++ (nu_f (mb_v v) (dg_t (decide (v = 88))) 64 (ar_m (fk j) (fv j))).reverse).length), .ref ra, .long pz, .int kc, .ref rc, .ref rl, .ref rb, .int la, .int ca])), (ra, .inl (cB, 16400, .inl u_154)), (rk, .inl (cI, 16, .inl fk)), (rv, .inl (cL, 16, .inr (.inl fv)))] := hD
                have hL_156 := hw
                refine lv_goto (tgt := 358) hx hb d_Mo_makes_145 (by decide) ?_
                refine lv_iconst (v := 1) hx hb d_Mo_makes_358 (by decide) ?_
                have hmo : (mk_o v k x B bp) = some ((([] : List Nat) ++ [by_b 43]) ++ (nu_f (mb_v v) (dg_t (decide (v = 88))) 64 (ar_m (fk j) (fv j))).reverse) := (by rw [hk9, hmg.2.1]; exact mk_b2 hkn (by omega) hbb hbq)
                have hP9 := hP.sub (ws' := [(mo, .inr (8, [.int th, .int fd, .ref rt, .int mn, .ref rk, .ref rv, .ref rw, .ref ro, .int md, .ref rr, .int (nI ((([] : List Nat) ++ [by_b 43]) ++ (nu_f (mb_v v) (dg_t (decide (v = 88))) 64 (ar_m (fk j) (fv j))).reverse).length), .ref ra, .long pz, .int kc, .ref rc, .ref rl, .ref rb, .int la, .int ca])), (ra, .inl (cB, 16400, .inl u_154)), (rk, .inl (cI, 16, .inl fk)), (rv, .inl (cL, 16, .inr (.inl fv))), (rw, .inl (cI, 16, .inl fw)), (ro, .inl (cB, 65536, .inl fo))]) [2, 3, 4, 5, 0, 1] rfl
                have hD9 := hD.sub (ws' := [(mo, .inr (8, [.int th, .int fd, .ref rt, .int mn, .ref rk, .ref rv, .ref rw, .ref ro, .int md, .ref rr, .int (nI ((([] : List Nat) ++ [by_b 43]) ++ (nu_f (mb_v v) (dg_t (decide (v = 88))) 64 (ar_m (fk j) (fv j))).reverse).length), .ref ra, .long pz, .int kc, .ref rc, .ref rl, .ref rb, .int la, .int ca])), (ra, .inl (cB, 16400, .inl u_154)), (rk, .inl (cI, 16, .inl fk)), (rv, .inl (cL, 16, .inr (.inl fv))), (rw, .inl (cI, 16, .inl fw)), (ro, .inl (cB, 65536, .inl fo))]) [2, 3, 4, 5, 0, 1] (by decide) rfl
                have hK9 := hK.sub (tys' := [(cB, .byte), (cI, .int), (cL, .long)]) [0, 1, 2] rfl
                rw [show nI ((([] : List Nat) ++ [by_b 43]) ++ (nu_f (mb_v v) (dg_t (decide (v = 88))) 64 (ar_m (fk j) (fv j))).reverse).length = nI ((mk_o v k x B bp).getD []).length by rw [hmo]; rfl] at hP9 hD9
                exact zz_zret hx hb hr hlocks d_Mo_makes_359 (by decide) hS (by first | exact Nat.le_refl _ | decide | omega | (dsimp only; omega)) (by first | exact Nat.le_refl _ | decide | omega | (dsimp only; omega)) (u_154, la, ca) ⟨by rw [hmo]; rfl, by rw [hmo]; exact hL_156⟩ hP9 hK9 hD9
              · skip
                have f_134 : v = 88 := sb_e1 (k := 88) hv (by decide) c_134
                refine lv_iconst (v := 1) hx hb d_Mo_makes_137 (by decide) ?_
                refine lv_goto (tgt := 142) hx hb d_Mo_makes_138 (by decide) ?_
                refine lv_topi (fun y_157 ey_157 => ?_)
                have ey_157 : y_157 = (by_z (decide (v = 88)) : Int32) := ey_157.trans (show 1 = by_z (decide (v = 88)) from (by rw [decide_eq_true f_134]; rfl))
                subst ey_157
                have hPc := hP.sub (ws' := [(mo, .inr (8, [.int th, .int fd, .ref rt, .int mn, .ref rk, .ref rv, .ref rw, .ref ro, .int md, .ref rr, .int (nI (([] : List Nat) ++ [by_b 43]).length), .ref ra, .long pz, .int kc, .ref rc, .ref rl, .ref rb, .int la, .int ca])), (ra, .inl (cB, 16400, .inl u_149)), (rk, .inl (cI, 16, .inl fk)), (rv, .inl (cL, 16, .inr (.inl fv)))]) [4, 5, 0, 1] rfl
                have hKc := hK.sub (tys' := [(cB, .byte), (cI, .int), (cL, .long)]) [0, 1, 2] rfl
                have hDc := hD.sub (ws' := [(mo, .inr (8, [.int th, .int fd, .ref rt, .int mn, .ref rk, .ref rv, .ref rw, .ref ro, .int md, .ref rr, .int (nI (([] : List Nat) ++ [by_b 43]).length), .ref ra, .long pz, .int kc, .ref rc, .ref rl, .ref rb, .int la, .int ca])), (ra, .inl (cB, 16400, .inl u_149)), (rk, .inl (cI, 16, .inl fk)), (rv, .inl (cL, 16, .inr (.inl fv)))]) [4, 5, 0, 1] (by decide) rfl
                have hFc := va_free (wc := [(mo, .inr (8, [.int th, .int fd, .ref rt, .int mn, .ref rk, .ref rv, .ref rw, .ref ro, .int md, .ref rr, .int (nI (([] : List Nat) ++ [by_b 43]).length), .ref ra, .long pz, .int kc, .ref rc, .ref rl, .ref rb, .int la, .int ca])), (ra, .inl (cB, 16400, .inl u_149)), (rk, .inl (cI, 16, .inl fk)), (rv, .inl (cL, 16, .inr (.inl fv)))]) hD hS hA [4, 5, 0, 1] rfl
                refine zz_callv (va_runV (As := [.int (nI j), .int (nI (mb_v v)), .int (by_z (decide (v = 88)))]) (rest := []) ⟨hx, hb, hml, hown, hg⟩ (c_Mo_sized l dC dI mo rt rk rv rw ro rr ra rc rl rb th fd mn md (nI (([] : List Nat) ++ [by_b 43]).length) pz kc la ca cB u_149 (([] : List Nat) ++ [by_b 43]) cI cL fk fv j (mb_v v) (decide (v = 88)) hL_151 (by (try simp only [List.length_append, List.length_cons, List.length_nil]); omega) hj (mb_s (n := 0) (by omega)).2.2.2.2.1 (mb_s (n := 0) (by omega)).2.2.2.2.2 H.size) (cwV 3 hg (gi_V kw_867 kw_869 sw_17 kw_9 kw_870) rfl rfl rfl (by decide +kernel) ⟨Nat.le_of_ble_eq_true rfl, Nat.le_of_ble_eq_true rfl⟩) (zz_preV hPc hKc hDc _ (q0 := 0) (ci := 8) rfl rfl) rfl rfl hl.1 rfl (lv_room (Nat.le_of_ble_eq_true rfl)) d_Mo_makes_142 ⟨Nat.le_of_ble_eq_true rfl, Nat.le_of_ble_eq_true rfl⟩) hS hFc (fun u H1 k9 p9 d9 => va_join (wr := [(rw, .inl (cI, 16, .inl fw)), (ro, .inl (cB, 65536, .inl fo))]) hP hD [4, 5, 0, 1] [2, 3] rfl rfl (by decide) (by decide) k9 hFc p9 d9) (fun u H locs hw hP hD hK1 hS => ?_)
                obtain ⟨u_158, rfl⟩ : ∃ z, z = u := ⟨_, rfl⟩
                try dsimp only at hw
                have hP : va_P (dC, dI) vwCl [(rw, .inl (cI, 16, .inl fw)), (ro, .inl (cB, 65536, .inl fo)), (mo, .inr (8, [.int th, .int fd, .ref rt, .int mn, .ref rk, .ref rv, .ref rw, .ref ro, .int md, .ref rr, .int (nI ((([] : List Nat) ++ [by_b 43]) ++ (nu_f (mb_v v) (dg_t (decide (v = 88))) 64 (ar_m (fk j) (fv j))).reverse).length), .ref ra, .long pz, .int kc, .ref rc, .ref rl, .ref rb, .int la, .int ca])), (ra, .inl (cB, 16400, .inl u_158)), (rk, .inl (cI, 16, .inl fk)), (rv, .inl (cL, 16, .inr (.inl fv)))] H := hP
                have hD : va_D A [(rw, .inl (cI, 16, .inl fw)), (ro, .inl (cB, 65536, .inl fo)), (mo, .inr (8, [.int th, .int fd, .ref rt, .int mn, .ref rk, .ref rv, .ref rw, .ref ro, .int md, .ref rr, .int (nI ((([] : List Nat) ++ [by_b 43]) ++ (nu_f (mb_v v) (dg_t (decide (v = 88))) 64 (ar_m (fk j) (fv j))).reverse).length), .ref ra, .long pz, .int kc, .ref rc, .ref rl, .ref rb, .int la, .int ca])), (ra, .inl (cB, 16400, .inl u_158)), (rk, .inl (cI, 16, .inl fk)), (rv, .inl (cL, 16, .inr (.inl fv)))] := hD
                have hL_160 := hw
                refine lv_goto (tgt := 358) hx hb d_Mo_makes_145 (by decide) ?_
                refine lv_iconst (v := 1) hx hb d_Mo_makes_358 (by decide) ?_
                have hmo : (mk_o v k x B bp) = some ((([] : List Nat) ++ [by_b 43]) ++ (nu_f (mb_v v) (dg_t (decide (v = 88))) 64 (ar_m (fk j) (fv j))).reverse) := (by rw [hk9, hmg.2.1]; exact mk_b2 hkn (by omega) hbb hbq)
                have hP9 := hP.sub (ws' := [(mo, .inr (8, [.int th, .int fd, .ref rt, .int mn, .ref rk, .ref rv, .ref rw, .ref ro, .int md, .ref rr, .int (nI ((([] : List Nat) ++ [by_b 43]) ++ (nu_f (mb_v v) (dg_t (decide (v = 88))) 64 (ar_m (fk j) (fv j))).reverse).length), .ref ra, .long pz, .int kc, .ref rc, .ref rl, .ref rb, .int la, .int ca])), (ra, .inl (cB, 16400, .inl u_158)), (rk, .inl (cI, 16, .inl fk)), (rv, .inl (cL, 16, .inr (.inl fv))), (rw, .inl (cI, 16, .inl fw)), (ro, .inl (cB, 65536, .inl fo))]) [2, 3, 4, 5, 0, 1] rfl
                have hD9 := hD.sub (ws' := [(mo, .inr (8, [.int th, .int fd, .ref rt, .int mn, .ref rk, .ref rv, .ref rw, .ref ro, .int md, .ref rr, .int (nI ((([] : List Nat) ++ [by_b 43]) ++ (nu_f (mb_v v) (dg_t (decide (v = 88))) 64 (ar_m (fk j) (fv j))).reverse).length), .ref ra, .long pz, .int kc, .ref rc, .ref rl, .ref rb, .int la, .int ca])), (ra, .inl (cB, 16400, .inl u_158)), (rk, .inl (cI, 16, .inl fk)), (rv, .inl (cL, 16, .inr (.inl fv))), (rw, .inl (cI, 16, .inl fw)), (ro, .inl (cB, 65536, .inl fo))]) [2, 3, 4, 5, 0, 1] (by decide) rfl
                have hK9 := hK.sub (tys' := [(cB, .byte), (cI, .int), (cL, .long)]) [0, 1, 2] rfl
                rw [show nI ((([] : List Nat) ++ [by_b 43]) ++ (nu_f (mb_v v) (dg_t (decide (v = 88))) 64 (ar_m (fk j) (fv j))).reverse).length = nI ((mk_o v k x B bp).getD []).length by rw [hmo]; rfl] at hP9 hD9
                exact zz_zret hx hb hr hlocks d_Mo_makes_359 (by decide) hS (by first | exact Nat.le_refl _ | decide | omega | (dsimp only; omega)) (by first | exact Nat.le_refl _ | decide | omega | (dsimp only; omega)) (u_158, la, ca) ⟨by rw [hmo]; rfl, by rw [hmo]; exact hL_160⟩ hP9 hK9 hD9
          · skip
            have hbb : ar_b (nI k) x = true := by_z_t hr_139 c_103
            refine lv_aload_n hx hb d_Mo_makes_106 rfl (lv_at hl 3 rfl) ?_
            refine lv_bipush (v := 45) hx hb d_Mo_makes_107 (by decide) ?_
            have hPc := hP.sub (ws' := [(mo, .inr (8, [.int th, .int fd, .ref rt, .int mn, .ref rk, .ref rv, .ref rw, .ref ro, .int md, .ref rr, .int (nI ([] : List Nat).length), .ref ra, .long pz, .int kc, .ref rc, .ref rl, .ref rb, .int la, .int ca])), (ra, .inl (cB, 16400, .inl fa))]) [0, 1] rfl
            have hKc := hK.sub (tys' := [(cB, .byte)]) [0] rfl
            have hDc := hD.sub (ws' := [(mo, .inr (8, [.int th, .int fd, .ref rt, .int mn, .ref rk, .ref rv, .ref rw, .ref ro, .int md, .ref rr, .int (nI ([] : List Nat).length), .ref ra, .long pz, .int kc, .ref rc, .ref rl, .ref rb, .int la, .int ca])), (ra, .inl (cB, 16400, .inl fa))]) [0, 1] (by decide) rfl
            have hFc := va_free (wc := [(mo, .inr (8, [.int th, .int fd, .ref rt, .int mn, .ref rk, .ref rv, .ref rw, .ref ro, .int md, .ref rr, .int (nI ([] : List Nat).length), .ref ra, .long pz, .int kc, .ref rc, .ref rl, .ref rb, .int la, .int ca])), (ra, .inl (cB, 16400, .inl fa))]) hD hS hA [0, 1] rfl
            refine zz_callv (va_runV (As := [.int 45]) (rest := []) ⟨hx, hb, hml, hown, hg⟩ (c_Mo_put l dC dI mo rt rk rv rw ro rr ra rc rl rb th fd mn md (nI ([] : List Nat).length) pz kc la ca cB fa ([] : List Nat) 45 (by_nil _) (by (try simp only [List.length_append, List.length_cons, List.length_nil]); omega) s.heap.size) (cwV 1 hg (gi_V kw_863 kw_865 sw_16 kw_9 kw_866) rfl rfl rfl (by decide +kernel) ⟨Nat.le_of_ble_eq_true rfl, Nat.le_of_ble_eq_true rfl⟩) (zz_preV hPc hKc hDc _ (q0 := 0) (ci := 8) rfl rfl) rfl rfl hl.1 rfl (lv_room (Nat.le_of_ble_eq_true rfl)) d_Mo_makes_109 ⟨Nat.le_of_ble_eq_true rfl, Nat.le_of_ble_eq_true rfl⟩) hS hFc (fun u H1 k9 p9 d9 => va_join (wr := [(rk, .inl (cI, 16, .inl fk)), (rv, .inl (cL, 16, .inr (.inl fv))), (rw, .inl (cI, 16, .inl fw)), (ro, .inl (cB, 65536, .inl fo))]) hP hD [0, 1] [2, 3, 4, 5] rfl rfl (by decide) (by decide) k9 hFc p9 d9) (fun u H locs hw hP hD hK1 hS => ?_)
            obtain ⟨u_161, rfl⟩ : ∃ z, z = u := ⟨_, rfl⟩
            try dsimp only at hw
            have hP : va_P (dC, dI) vwCl [(rk, .inl (cI, 16, .inl fk)), (rv, .inl (cL, 16, .inr (.inl fv))), (rw, .inl (cI, 16, .inl fw)), (ro, .inl (cB, 65536, .inl fo)), (mo, .inr (8, [.int th, .int fd, .ref rt, .int mn, .ref rk, .ref rv, .ref rw, .ref ro, .int md, .ref rr, .int (nI (([] : List Nat) ++ [by_b 45]).length), .ref ra, .long pz, .int kc, .ref rc, .ref rl, .ref rb, .int la, .int ca])), (ra, .inl (cB, 16400, .inl u_161))] H := hP
            have hD : va_D A [(rk, .inl (cI, 16, .inl fk)), (rv, .inl (cL, 16, .inr (.inl fv))), (rw, .inl (cI, 16, .inl fw)), (ro, .inl (cB, 65536, .inl fo)), (mo, .inr (8, [.int th, .int fd, .ref rt, .int mn, .ref rk, .ref rv, .ref rw, .ref ro, .int md, .ref rr, .int (nI (([] : List Nat) ++ [by_b 45]).length), .ref ra, .long pz, .int kc, .ref rc, .ref rl, .ref rb, .int la, .int ca])), (ra, .inl (cB, 16400, .inl u_161))] := hD
            have hL_163 := hw
            refine lv_goto (tgt := 125) hx hb d_Mo_makes_112 (by decide) ?_
            refine lv_aload_n hx hb d_Mo_makes_125 rfl (lv_at hl 3 rfl) ?_
            refine lv_iload_n hx hb d_Mo_makes_126 rfl (lv_at hl 5 rfl) ?_
            refine lv_iload_n hx hb d_Mo_makes_127 rfl (lv_at hl 4 rfl) ?_
            have hPc := hP.sub (ws' := []) [] rfl
            have hKc := hK.sub (tys' := []) [] rfl
            refine vp_callSi (W.runS (As := [.int (sb_b v)]) (rest := [.int (nI j), .ref mo]) ⟨hx, hb, hml, hown, hg⟩ (c_Mo_baseOf l dC dI v hv) (va_cwS 1 hg (gi_S kw_856 kw_857 kw_9 kw_858) rfl rfl rfl (by decide +kernel) ⟨Nat.le_of_ble_eq_true rfl, Nat.le_of_ble_eq_true rfl⟩) (zz_prJS hPc hKc _) rfl rfl hl.1 rfl (lv_room (Nat.le_of_ble_eq_true rfl)) d_Mo_makes_128 ⟨Nat.le_of_ble_eq_true rfl, Nat.le_of_ble_eq_true rfl⟩) (fun r_164 hr_164 => ?_)
            subst hr_164
            refine lv_iload_n hx hb d_Mo_makes_131 rfl (lv_at hl 4 rfl) ?_
            refine lv_bipush (v := 88) hx hb d_Mo_makes_132 (by decide) ?_
            refine lv_icmp_ne (tgt := 141) hx hb d_Mo_makes_134 (by decide) (fun c_134 => ?_) (fun c_134 => ?_)
            · skip
              have f_134 : v ≠ 88 := sb_e2 (k := 88) hv (by decide) c_134
              refine lv_iconst (v := 0) hx hb d_Mo_makes_141 (by decide) ?_
              refine lv_topi (fun y_165 ey_165 => ?_)
              have ey_165 : y_165 = (by_z (decide (v = 88)) : Int32) := ey_165.trans (show 0 = by_z (decide (v = 88)) from (by rw [decide_eq_false f_134]; rfl))
              subst ey_165
              have hPc := hP.sub (ws' := [(mo, .inr (8, [.int th, .int fd, .ref rt, .int mn, .ref rk, .ref rv, .ref rw, .ref ro, .int md, .ref rr, .int (nI (([] : List Nat) ++ [by_b 45]).length), .ref ra, .long pz, .int kc, .ref rc, .ref rl, .ref rb, .int la, .int ca])), (ra, .inl (cB, 16400, .inl u_161)), (rk, .inl (cI, 16, .inl fk)), (rv, .inl (cL, 16, .inr (.inl fv)))]) [4, 5, 0, 1] rfl
              have hKc := hK.sub (tys' := [(cB, .byte), (cI, .int), (cL, .long)]) [0, 1, 2] rfl
              have hDc := hD.sub (ws' := [(mo, .inr (8, [.int th, .int fd, .ref rt, .int mn, .ref rk, .ref rv, .ref rw, .ref ro, .int md, .ref rr, .int (nI (([] : List Nat) ++ [by_b 45]).length), .ref ra, .long pz, .int kc, .ref rc, .ref rl, .ref rb, .int la, .int ca])), (ra, .inl (cB, 16400, .inl u_161)), (rk, .inl (cI, 16, .inl fk)), (rv, .inl (cL, 16, .inr (.inl fv)))]) [4, 5, 0, 1] (by decide) rfl
              have hFc := va_free (wc := [(mo, .inr (8, [.int th, .int fd, .ref rt, .int mn, .ref rk, .ref rv, .ref rw, .ref ro, .int md, .ref rr, .int (nI (([] : List Nat) ++ [by_b 45]).length), .ref ra, .long pz, .int kc, .ref rc, .ref rl, .ref rb, .int la, .int ca])), (ra, .inl (cB, 16400, .inl u_161)), (rk, .inl (cI, 16, .inl fk)), (rv, .inl (cL, 16, .inr (.inl fv)))]) hD hS hA [4, 5, 0, 1] rfl
              refine zz_callv (va_runV (As := [.int (nI j), .int (nI (mb_v v)), .int (by_z (decide (v = 88)))]) (rest := []) ⟨hx, hb, hml, hown, hg⟩ (c_Mo_sized l dC dI mo rt rk rv rw ro rr ra rc rl rb th fd mn md (nI (([] : List Nat) ++ [by_b 45]).length) pz kc la ca cB u_161 (([] : List Nat) ++ [by_b 45]) cI cL fk fv j (mb_v v) (decide (v = 88)) hL_163 (by (try simp only [List.length_append, List.length_cons, List.length_nil]); omega) hj (mb_s (n := 0) (by omega)).2.2.2.2.1 (mb_s (n := 0) (by omega)).2.2.2.2.2 H.size) (cwV 3 hg (gi_V kw_867 kw_869 sw_17 kw_9 kw_870) rfl rfl rfl (by decide +kernel) ⟨Nat.le_of_ble_eq_true rfl, Nat.le_of_ble_eq_true rfl⟩) (zz_preV hPc hKc hDc _ (q0 := 0) (ci := 8) rfl rfl) rfl rfl hl.1 rfl (lv_room (Nat.le_of_ble_eq_true rfl)) d_Mo_makes_142 ⟨Nat.le_of_ble_eq_true rfl, Nat.le_of_ble_eq_true rfl⟩) hS hFc (fun u H1 k9 p9 d9 => va_join (wr := [(rw, .inl (cI, 16, .inl fw)), (ro, .inl (cB, 65536, .inl fo))]) hP hD [4, 5, 0, 1] [2, 3] rfl rfl (by decide) (by decide) k9 hFc p9 d9) (fun u H locs hw hP hD hK1 hS => ?_)
              obtain ⟨u_166, rfl⟩ : ∃ z, z = u := ⟨_, rfl⟩
              try dsimp only at hw
              have hP : va_P (dC, dI) vwCl [(rw, .inl (cI, 16, .inl fw)), (ro, .inl (cB, 65536, .inl fo)), (mo, .inr (8, [.int th, .int fd, .ref rt, .int mn, .ref rk, .ref rv, .ref rw, .ref ro, .int md, .ref rr, .int (nI ((([] : List Nat) ++ [by_b 45]) ++ (nu_f (mb_v v) (dg_t (decide (v = 88))) 64 (ar_m (fk j) (fv j))).reverse).length), .ref ra, .long pz, .int kc, .ref rc, .ref rl, .ref rb, .int la, .int ca])), (ra, .inl (cB, 16400, .inl u_166)), (rk, .inl (cI, 16, .inl fk)), (rv, .inl (cL, 16, .inr (.inl fv)))] H := hP
              have hD : va_D A [(rw, .inl (cI, 16, .inl fw)), (ro, .inl (cB, 65536, .inl fo)), (mo, .inr (8, [.int th, .int fd, .ref rt, .int mn, .ref rk, .ref rv, .ref rw, .ref ro, .int md, .ref rr, .int (nI ((([] : List Nat) ++ [by_b 45]) ++ (nu_f (mb_v v) (dg_t (decide (v = 88))) 64 (ar_m (fk j) (fv j))).reverse).length), .ref ra, .long pz, .int kc, .ref rc, .ref rl, .ref rb, .int la, .int ca])), (ra, .inl (cB, 16400, .inl u_166)), (rk, .inl (cI, 16, .inl fk)), (rv, .inl (cL, 16, .inr (.inl fv)))] := hD
              have hL_168 := hw
              refine lv_goto (tgt := 358) hx hb d_Mo_makes_145 (by decide) ?_
              refine lv_iconst (v := 1) hx hb d_Mo_makes_358 (by decide) ?_
              have hmo : (mk_o v k x B bp) = some ((([] : List Nat) ++ [by_b 45]) ++ (nu_f (mb_v v) (dg_t (decide (v = 88))) 64 (ar_m (fk j) (fv j))).reverse) := (by rw [hk9, hmg.2.1]; exact mk_b1 hkn (by omega) hbb)
              have hP9 := hP.sub (ws' := [(mo, .inr (8, [.int th, .int fd, .ref rt, .int mn, .ref rk, .ref rv, .ref rw, .ref ro, .int md, .ref rr, .int (nI ((([] : List Nat) ++ [by_b 45]) ++ (nu_f (mb_v v) (dg_t (decide (v = 88))) 64 (ar_m (fk j) (fv j))).reverse).length), .ref ra, .long pz, .int kc, .ref rc, .ref rl, .ref rb, .int la, .int ca])), (ra, .inl (cB, 16400, .inl u_166)), (rk, .inl (cI, 16, .inl fk)), (rv, .inl (cL, 16, .inr (.inl fv))), (rw, .inl (cI, 16, .inl fw)), (ro, .inl (cB, 65536, .inl fo))]) [2, 3, 4, 5, 0, 1] rfl
              have hD9 := hD.sub (ws' := [(mo, .inr (8, [.int th, .int fd, .ref rt, .int mn, .ref rk, .ref rv, .ref rw, .ref ro, .int md, .ref rr, .int (nI ((([] : List Nat) ++ [by_b 45]) ++ (nu_f (mb_v v) (dg_t (decide (v = 88))) 64 (ar_m (fk j) (fv j))).reverse).length), .ref ra, .long pz, .int kc, .ref rc, .ref rl, .ref rb, .int la, .int ca])), (ra, .inl (cB, 16400, .inl u_166)), (rk, .inl (cI, 16, .inl fk)), (rv, .inl (cL, 16, .inr (.inl fv))), (rw, .inl (cI, 16, .inl fw)), (ro, .inl (cB, 65536, .inl fo))]) [2, 3, 4, 5, 0, 1] (by decide) rfl
              have hK9 := hK.sub (tys' := [(cB, .byte), (cI, .int), (cL, .long)]) [0, 1, 2] rfl
              rw [show nI ((([] : List Nat) ++ [by_b 45]) ++ (nu_f (mb_v v) (dg_t (decide (v = 88))) 64 (ar_m (fk j) (fv j))).reverse).length = nI ((mk_o v k x B bp).getD []).length by rw [hmo]; rfl] at hP9 hD9
              exact zz_zret hx hb hr hlocks d_Mo_makes_359 (by decide) hS (by first | exact Nat.le_refl _ | decide | omega | (dsimp only; omega)) (by first | exact Nat.le_refl _ | decide | omega | (dsimp only; omega)) (u_166, la, ca) ⟨by rw [hmo]; rfl, by rw [hmo]; exact hL_168⟩ hP9 hK9 hD9
            · skip
              have f_134 : v = 88 := sb_e1 (k := 88) hv (by decide) c_134
              refine lv_iconst (v := 1) hx hb d_Mo_makes_137 (by decide) ?_
              refine lv_goto (tgt := 142) hx hb d_Mo_makes_138 (by decide) ?_
              refine lv_topi (fun y_169 ey_169 => ?_)
              have ey_169 : y_169 = (by_z (decide (v = 88)) : Int32) := ey_169.trans (show 1 = by_z (decide (v = 88)) from (by rw [decide_eq_true f_134]; rfl))
              subst ey_169
              have hPc := hP.sub (ws' := [(mo, .inr (8, [.int th, .int fd, .ref rt, .int mn, .ref rk, .ref rv, .ref rw, .ref ro, .int md, .ref rr, .int (nI (([] : List Nat) ++ [by_b 45]).length), .ref ra, .long pz, .int kc, .ref rc, .ref rl, .ref rb, .int la, .int ca])), (ra, .inl (cB, 16400, .inl u_161)), (rk, .inl (cI, 16, .inl fk)), (rv, .inl (cL, 16, .inr (.inl fv)))]) [4, 5, 0, 1] rfl
              have hKc := hK.sub (tys' := [(cB, .byte), (cI, .int), (cL, .long)]) [0, 1, 2] rfl
              have hDc := hD.sub (ws' := [(mo, .inr (8, [.int th, .int fd, .ref rt, .int mn, .ref rk, .ref rv, .ref rw, .ref ro, .int md, .ref rr, .int (nI (([] : List Nat) ++ [by_b 45]).length), .ref ra, .long pz, .int kc, .ref rc, .ref rl, .ref rb, .int la, .int ca])), (ra, .inl (cB, 16400, .inl u_161)), (rk, .inl (cI, 16, .inl fk)), (rv, .inl (cL, 16, .inr (.inl fv)))]) [4, 5, 0, 1] (by decide) rfl
              have hFc := va_free (wc := [(mo, .inr (8, [.int th, .int fd, .ref rt, .int mn, .ref rk, .ref rv, .ref rw, .ref ro, .int md, .ref rr, .int (nI (([] : List Nat) ++ [by_b 45]).length), .ref ra, .long pz, .int kc, .ref rc, .ref rl, .ref rb, .int la, .int ca])), (ra, .inl (cB, 16400, .inl u_161)), (rk, .inl (cI, 16, .inl fk)), (rv, .inl (cL, 16, .inr (.inl fv)))]) hD hS hA [4, 5, 0, 1] rfl
              refine zz_callv (va_runV (As := [.int (nI j), .int (nI (mb_v v)), .int (by_z (decide (v = 88)))]) (rest := []) ⟨hx, hb, hml, hown, hg⟩ (c_Mo_sized l dC dI mo rt rk rv rw ro rr ra rc rl rb th fd mn md (nI (([] : List Nat) ++ [by_b 45]).length) pz kc la ca cB u_161 (([] : List Nat) ++ [by_b 45]) cI cL fk fv j (mb_v v) (decide (v = 88)) hL_163 (by (try simp only [List.length_append, List.length_cons, List.length_nil]); omega) hj (mb_s (n := 0) (by omega)).2.2.2.2.1 (mb_s (n := 0) (by omega)).2.2.2.2.2 H.size) (cwV 3 hg (gi_V kw_867 kw_869 sw_17 kw_9 kw_870) rfl rfl rfl (by decide +kernel) ⟨Nat.le_of_ble_eq_true rfl, Nat.le_of_ble_eq_true rfl⟩) (zz_preV hPc hKc hDc _ (q0 := 0) (ci := 8) rfl rfl) rfl rfl hl.1 rfl (lv_room (Nat.le_of_ble_eq_true rfl)) d_Mo_makes_142 ⟨Nat.le_of_ble_eq_true rfl, Nat.le_of_ble_eq_true rfl⟩) hS hFc (fun u H1 k9 p9 d9 => va_join (wr := [(rw, .inl (cI, 16, .inl fw)), (ro, .inl (cB, 65536, .inl fo))]) hP hD [4, 5, 0, 1] [2, 3] rfl rfl (by decide) (by decide) k9 hFc p9 d9) (fun u H locs hw hP hD hK1 hS => ?_)
              obtain ⟨u_170, rfl⟩ : ∃ z, z = u := ⟨_, rfl⟩
              try dsimp only at hw
              have hP : va_P (dC, dI) vwCl [(rw, .inl (cI, 16, .inl fw)), (ro, .inl (cB, 65536, .inl fo)), (mo, .inr (8, [.int th, .int fd, .ref rt, .int mn, .ref rk, .ref rv, .ref rw, .ref ro, .int md, .ref rr, .int (nI ((([] : List Nat) ++ [by_b 45]) ++ (nu_f (mb_v v) (dg_t (decide (v = 88))) 64 (ar_m (fk j) (fv j))).reverse).length), .ref ra, .long pz, .int kc, .ref rc, .ref rl, .ref rb, .int la, .int ca])), (ra, .inl (cB, 16400, .inl u_170)), (rk, .inl (cI, 16, .inl fk)), (rv, .inl (cL, 16, .inr (.inl fv)))] H := hP
              have hD : va_D A [(rw, .inl (cI, 16, .inl fw)), (ro, .inl (cB, 65536, .inl fo)), (mo, .inr (8, [.int th, .int fd, .ref rt, .int mn, .ref rk, .ref rv, .ref rw, .ref ro, .int md, .ref rr, .int (nI ((([] : List Nat) ++ [by_b 45]) ++ (nu_f (mb_v v) (dg_t (decide (v = 88))) 64 (ar_m (fk j) (fv j))).reverse).length), .ref ra, .long pz, .int kc, .ref rc, .ref rl, .ref rb, .int la, .int ca])), (ra, .inl (cB, 16400, .inl u_170)), (rk, .inl (cI, 16, .inl fk)), (rv, .inl (cL, 16, .inr (.inl fv)))] := hD
              have hL_172 := hw
              refine lv_goto (tgt := 358) hx hb d_Mo_makes_145 (by decide) ?_
              refine lv_iconst (v := 1) hx hb d_Mo_makes_358 (by decide) ?_
              have hmo : (mk_o v k x B bp) = some ((([] : List Nat) ++ [by_b 45]) ++ (nu_f (mb_v v) (dg_t (decide (v = 88))) 64 (ar_m (fk j) (fv j))).reverse) := (by rw [hk9, hmg.2.1]; exact mk_b1 hkn (by omega) hbb)
              have hP9 := hP.sub (ws' := [(mo, .inr (8, [.int th, .int fd, .ref rt, .int mn, .ref rk, .ref rv, .ref rw, .ref ro, .int md, .ref rr, .int (nI ((([] : List Nat) ++ [by_b 45]) ++ (nu_f (mb_v v) (dg_t (decide (v = 88))) 64 (ar_m (fk j) (fv j))).reverse).length), .ref ra, .long pz, .int kc, .ref rc, .ref rl, .ref rb, .int la, .int ca])), (ra, .inl (cB, 16400, .inl u_170)), (rk, .inl (cI, 16, .inl fk)), (rv, .inl (cL, 16, .inr (.inl fv))), (rw, .inl (cI, 16, .inl fw)), (ro, .inl (cB, 65536, .inl fo))]) [2, 3, 4, 5, 0, 1] rfl
              have hD9 := hD.sub (ws' := [(mo, .inr (8, [.int th, .int fd, .ref rt, .int mn, .ref rk, .ref rv, .ref rw, .ref ro, .int md, .ref rr, .int (nI ((([] : List Nat) ++ [by_b 45]) ++ (nu_f (mb_v v) (dg_t (decide (v = 88))) 64 (ar_m (fk j) (fv j))).reverse).length), .ref ra, .long pz, .int kc, .ref rc, .ref rl, .ref rb, .int la, .int ca])), (ra, .inl (cB, 16400, .inl u_170)), (rk, .inl (cI, 16, .inl fk)), (rv, .inl (cL, 16, .inr (.inl fv))), (rw, .inl (cI, 16, .inl fw)), (ro, .inl (cB, 65536, .inl fo))]) [2, 3, 4, 5, 0, 1] (by decide) rfl
              have hK9 := hK.sub (tys' := [(cB, .byte), (cI, .int), (cL, .long)]) [0, 1, 2] rfl
              rw [show nI ((([] : List Nat) ++ [by_b 45]) ++ (nu_f (mb_v v) (dg_t (decide (v = 88))) 64 (ar_m (fk j) (fv j))).reverse).length = nI ((mk_o v k x B bp).getD []).length by rw [hmo]; rfl] at hP9 hD9
              exact zz_zret hx hb hr hlocks d_Mo_makes_359 (by decide) hS (by first | exact Nat.le_refl _ | decide | omega | (dsimp only; omega)) (by first | exact Nat.le_refl _ | decide | omega | (dsimp only; omega)) (u_170, la, ca) ⟨by rw [hmo]; rfl, by rw [hmo]; exact hL_172⟩ hP9 hK9 hD9
      · skip
        refine lv_aload_n hx hb d_Mo_makes_60 rfl (lv_at hl 2 rfl) ?_
        refine va_get (D := (dC, dI)) (ci := 8) (v := .ref rv) (C := "TextForgeModel") (T := TX8) (N := 19) hx hb hg iwX8 hown hK hP 0 rfl rfl 5 (by decide) (hg _ kw_731) (fun _ h9 => h9) rfl d_Mo_makes_61 ?_
        refine lv_iload_n hx hb d_Mo_makes_64 rfl (lv_at hl 4 rfl) ?_
        refine va_lald hx hb hK hP 3 2 rfl rfl (vp_in_nI hj (by decide)) d_Mo_makes_65 ?_
        refine lv_topl (fun y_173 ey_173 => ?_)
        have ey_173 : y_173 = (x : Int64) := ey_173.trans (show (fv (nI j).toNatClampNeg) = x from (by rw [nI_clamp (show j < 2 ^ 31 by omega)]; exact hmg.2.1))
        rw [ey_173]
        have hPc := hP.sub (ws' := []) [] rfl
        have hKc := hK.sub (tys' := []) [] rfl
        refine vp_callSi (W.runS (As := [.long x]) (rest := []) ⟨hx, hb, hml, hown, hg⟩ (c_Mo_isCode l dC dI x ) (va_cwS 1 hg (gi_S kw_834 kw_835 kw_9 kw_836) rfl rfl rfl (by decide +kernel) ⟨Nat.le_of_ble_eq_true rfl, Nat.le_of_ble_eq_true rfl⟩) (zz_prJS hPc hKc _) rfl rfl hl.1 rfl (lv_room (Nat.le_of_ble_eq_true rfl)) d_Mo_makes_66 ⟨Nat.le_of_ble_eq_true rfl, Nat.le_of_ble_eq_true rfl⟩) (fun r_174 hr_174 => ?_)
        refine lv_if_eq (tgt := 82) hx hb d_Mo_makes_69 (by decide) (fun c_69 => ?_) (fun c_69 => ?_)
        · skip
          have hcn : 65533 = nI (ut_cn x.toInt) := ut_cf (by_z_f hr_174 c_69)
          refine W.ldc (v := 65533) hx hb hown (hg _ kw_833) rfl d_Mo_makes_82 ?_
          refine W.eq (g2 := F0 m 84 ls [.int 65533]) rfl ?_
          refine lv_topi (fun y_175 ey_175 => ?_)
          have ey_175 : y_175 = (nI (ut_cn x.toInt) : Int32) := ey_175.trans (show 65533 = nI (ut_cn x.toInt) from hcn)
          subst ey_175
          refine lv_istore (lv' := [(6, .int (nI (ut_cn x.toInt))), (5, .int 0), (4, .int 1), (0, .ref mo), (1, .int (sb_b v)), (2, .int (nI j)), (3, .int (by_z bp))]) hx hb d_Mo_makes_84 hl (by decide) rfl (fun ls hl => ?_)
          refine lv_iload hx hb d_Mo_makes_86 (lv_at hl 2 rfl) ?_
          refine lv_if_eq (tgt := 148) hx hb d_Mo_makes_88 (by decide) (fun c9 => by first | exact absurd c9 (by decide) | exact absurd (by decide) c9) (fun _ => ?_)
          refine lv_iload_n hx hb d_Mo_makes_91 rfl (lv_at hl 4 rfl) ?_
          have hPc := hP.sub (ws' := []) [] rfl
          have hKc := hK.sub (tys' := []) [] rfl
          refine vp_callSi (W.runS (As := [.int (sb_b v)]) (rest := []) ⟨hx, hb, hml, hown, hg⟩ (c_Mo_baseOf l dC dI v hv) (va_cwS 1 hg (gi_S kw_856 kw_857 kw_9 kw_858) rfl rfl rfl (by decide +kernel) ⟨Nat.le_of_ble_eq_true rfl, Nat.le_of_ble_eq_true rfl⟩) (zz_prJS hPc hKc _) rfl rfl hl.1 rfl (lv_room (Nat.le_of_ble_eq_true rfl)) d_Mo_makes_92 ⟨Nat.le_of_ble_eq_true rfl, Nat.le_of_ble_eq_true rfl⟩) (fun r_176 hr_176 => ?_)
          subst hr_176
          refine lv_if_le (tgt := 148) hx hb d_Mo_makes_95 (by decide) (fun c_95 => ?_) (fun c_95 => ?_)
          · skip
            have f_95 : (mb_v v) ≤ 0 := (nI_leI (b := 0) (by have := mb_l v; omega) (by omega)).mp c_95
            refine lv_iload hx hb d_Mo_makes_148 (lv_at hl 1 rfl) ?_
            refine lv_if_eq (tgt := 220) hx hb d_Mo_makes_150 (by decide) (fun _ => ?_) (fun c9 => by first | exact absurd c9 rfl | exact absurd rfl c9)
            refine lv_iload hx hb d_Mo_makes_220 (lv_at hl 2 rfl) ?_
            refine lv_if_eq (tgt := 240) hx hb d_Mo_makes_222 (by decide) (fun c9 => by first | exact absurd c9 (by decide) | exact absurd (by decide) c9) (fun _ => ?_)
            refine lv_iload_n hx hb d_Mo_makes_225 rfl (lv_at hl 4 rfl) ?_
            refine lv_bipush (v := 99) hx hb d_Mo_makes_226 (by decide) ?_
            refine lv_icmp_ne (tgt := 240) hx hb d_Mo_makes_228 (by decide) (fun c_228 => ?_) (fun c_228 => ?_)
            · skip
              have f_228 : v ≠ 99 := sb_e2 (k := 99) hv (by decide) c_228
              refine lv_iload hx hb d_Mo_makes_240 (lv_at hl 2 rfl) ?_
              refine lv_if_eq (tgt := 274) hx hb d_Mo_makes_242 (by decide) (fun c9 => by first | exact absurd c9 (by decide) | exact absurd (by decide) c9) (fun _ => ?_)
              refine lv_iload_n hx hb d_Mo_makes_245 rfl (lv_at hl 4 rfl) ?_
              refine lv_bipush (v := 113) hx hb d_Mo_makes_246 (by decide) ?_
              refine lv_icmp_ne (tgt := 274) hx hb d_Mo_makes_248 (by decide) (fun c_248 => ?_) (fun c_248 => ?_)
              · skip
                have f_248 : v ≠ 113 := sb_e2 (k := 113) hv (by decide) c_248
                refine lv_iload hx hb d_Mo_makes_274 (lv_at hl 1 rfl) ?_
                refine lv_if_eq (tgt := 293) hx hb d_Mo_makes_276 (by decide) (fun _ => ?_) (fun c9 => by first | exact absurd c9 rfl | exact absurd rfl c9)
                refine lv_iload hx hb d_Mo_makes_293 (lv_at hl 1 rfl) ?_
                refine lv_if_eq (tgt := 326) hx hb d_Mo_makes_295 (by decide) (fun _ => ?_) (fun c9 => by first | exact absurd c9 rfl | exact absurd rfl c9)
                refine lv_iload_n hx hb d_Mo_makes_326 rfl (lv_at hl 4 rfl) ?_
                refine lv_bipush (v := 116) hx hb d_Mo_makes_327 (by decide) ?_
                refine lv_icmp_ne (tgt := 342) hx hb d_Mo_makes_329 (by decide) (fun c_329 => ?_) (fun c_329 => ?_)
                · skip
                  have f_329 : v ≠ 116 := sb_e2 (k := 116) hv (by decide) c_329
                  refine lv_iload_n hx hb d_Mo_makes_342 rfl (lv_at hl 4 rfl) ?_
                  refine lv_bipush (v := 118) hx hb d_Mo_makes_343 (by decide) ?_
                  refine lv_icmp_ne (tgt := 356) hx hb d_Mo_makes_345 (by decide) (fun c_345 => ?_) (fun c_345 => ?_)
                  · skip
                    have f_345 : v ≠ 118 := sb_e2 (k := 118) hv (by decide) c_345
                    refine lv_iconst (v := 0) hx hb d_Mo_makes_356 (by decide) ?_
                    have hmo : (mk_o v k x B bp) = none := (mk_n0 hkn (by omega) f_228 f_248 f_345)
                    have hP9 := hP.sub (ws' := [(mo, .inr (8, [.int th, .int fd, .ref rt, .int mn, .ref rk, .ref rv, .ref rw, .ref ro, .int md, .ref rr, .int (nI ([] : List Nat).length), .ref ra, .long pz, .int kc, .ref rc, .ref rl, .ref rb, .int la, .int ca])), (ra, .inl (cB, 16400, .inl fa)), (rk, .inl (cI, 16, .inl fk)), (rv, .inl (cL, 16, .inr (.inl fv))), (rw, .inl (cI, 16, .inl fw)), (ro, .inl (cB, 65536, .inl fo))]) [0, 1, 2, 3, 4, 5] rfl
                    have hD9 := hD.sub (ws' := [(mo, .inr (8, [.int th, .int fd, .ref rt, .int mn, .ref rk, .ref rv, .ref rw, .ref ro, .int md, .ref rr, .int (nI ([] : List Nat).length), .ref ra, .long pz, .int kc, .ref rc, .ref rl, .ref rb, .int la, .int ca])), (ra, .inl (cB, 16400, .inl fa)), (rk, .inl (cI, 16, .inl fk)), (rv, .inl (cL, 16, .inr (.inl fv))), (rw, .inl (cI, 16, .inl fw)), (ro, .inl (cB, 65536, .inl fo))]) [0, 1, 2, 3, 4, 5] (by decide) rfl
                    have hK9 := hK.sub (tys' := [(cB, .byte), (cI, .int), (cL, .long)]) [0, 1, 2] rfl
                    rw [show nI ([] : List Nat).length = nI ((mk_o v k x B bp).getD []).length by rw [hmo]; rfl] at hP9 hD9
                    exact zz_zret hx hb hr hlocks d_Mo_makes_357 (by decide) hS (by first | exact Nat.le_refl _ | decide | omega | (dsimp only; omega)) (by first | exact Nat.le_refl _ | decide | omega | (dsimp only; omega)) (fa, la, ca) ⟨by rw [hmo]; rfl, by rw [hmo]; exact by_nil _⟩ hP9 hK9 hD9
                  · skip
                    have f_345 : v = 118 := sb_e1 (k := 118) hv (by decide) c_345
                    refine lv_aload_n hx hb d_Mo_makes_348 rfl (lv_at hl 3 rfl) ?_
                    refine lv_iload_n hx hb d_Mo_makes_349 rfl (lv_at hl 5 rfl) ?_
                    have hPc := hP.sub (ws' := [(mo, .inr (8, [.int th, .int fd, .ref rt, .int mn, .ref rk, .ref rv, .ref rw, .ref ro, .int md, .ref rr, .int (nI ([] : List Nat).length), .ref ra, .long pz, .int kc, .ref rc, .ref rl, .ref rb, .int la, .int ca])), (ra, .inl (cB, 16400, .inl fa)), (rk, .inl (cI, 16, .inl fk)), (rv, .inl (cL, 16, .inr (.inl fv))), (rw, .inl (cI, 16, .inl fw)), (ro, .inl (cB, 65536, .inl fo))]) [0, 1, 2, 3, 4, 5] rfl
                    have hKc := hK.sub (tys' := [(cB, .byte), (cI, .int), (cL, .long)]) [0, 1, 2] rfl
                    have hDc := hD.sub (ws' := [(mo, .inr (8, [.int th, .int fd, .ref rt, .int mn, .ref rk, .ref rv, .ref rw, .ref ro, .int md, .ref rr, .int (nI ([] : List Nat).length), .ref ra, .long pz, .int kc, .ref rc, .ref rl, .ref rb, .int la, .int ca])), (ra, .inl (cB, 16400, .inl fa)), (rk, .inl (cI, 16, .inl fk)), (rv, .inl (cL, 16, .inr (.inl fv))), (rw, .inl (cI, 16, .inl fw)), (ro, .inl (cB, 65536, .inl fo))]) [0, 1, 2, 3, 4, 5] (by decide) rfl
                    have hFc := va_free (wc := [(mo, .inr (8, [.int th, .int fd, .ref rt, .int mn, .ref rk, .ref rv, .ref rw, .ref ro, .int md, .ref rr, .int (nI ([] : List Nat).length), .ref ra, .long pz, .int kc, .ref rc, .ref rl, .ref rb, .int la, .int ca])), (ra, .inl (cB, 16400, .inl fa)), (rk, .inl (cI, 16, .inl fk)), (rv, .inl (cL, 16, .inr (.inl fv))), (rw, .inl (cI, 16, .inl fw)), (ro, .inl (cB, 65536, .inl fo))]) hD hS hA [0, 1, 2, 3, 4, 5] rfl
                    refine zz_callv (va_runV (As := [.int (nI j)]) (rest := []) ⟨hx, hb, hml, hown, hg⟩ (c_Mo_plain l dC dI ad mo rt rk rv rw ro rr ra rc rl rb th fd mn md (nI ([] : List Nat).length) pz kc la ca cB fa ([] : List Nat) cI cL fk fv fw fo j k x B (by_nil _) (by (try simp only [List.length_append, List.length_cons, List.length_nil]); omega) hj hok9 hmg s.heap.size) (cwV 1 hg (gi_V kw_908 kw_910 sw_25 kw_9 kw_911) rfl rfl rfl (by decide +kernel) ⟨Nat.le_of_ble_eq_true rfl, Nat.le_of_ble_eq_true rfl⟩) (zy_preV hX hS hFc hPc hKc hDc _ (q0 := 0) (ci := 8) rfl rfl) rfl rfl hl.1 rfl (lv_room (Nat.le_of_ble_eq_true rfl)) d_Mo_makes_350 ⟨Nat.le_of_ble_eq_true rfl, Nat.le_of_ble_eq_true rfl⟩) hS hFc (fun u H1 k9 p9 d9 => va_join (wr := []) hP hD [0, 1, 2, 3, 4, 5] [] rfl rfl (by decide) (by decide) k9 hFc p9 d9) (fun u H locs hw hP hD hK1 hS => ?_)
                    obtain ⟨u_177, rfl⟩ : ∃ z, z = u := ⟨_, rfl⟩
                    try dsimp only at hw
                    have hP : va_P (dC, dI) vwCl [(mo, .inr (8, [.int th, .int fd, .ref rt, .int mn, .ref rk, .ref rv, .ref rw, .ref ro, .int md, .ref rr, .int (nI (([] : List Nat) ++ (mo_p k x B)).length), .ref ra, .long pz, .int kc, .ref rc, .ref rl, .ref rb, .int la, .int ca])), (ra, .inl (cB, 16400, .inl u_177)), (rk, .inl (cI, 16, .inl fk)), (rv, .inl (cL, 16, .inr (.inl fv))), (rw, .inl (cI, 16, .inl fw)), (ro, .inl (cB, 65536, .inl fo))] H := hP
                    have hD : va_D A [(mo, .inr (8, [.int th, .int fd, .ref rt, .int mn, .ref rk, .ref rv, .ref rw, .ref ro, .int md, .ref rr, .int (nI (([] : List Nat) ++ (mo_p k x B)).length), .ref ra, .long pz, .int kc, .ref rc, .ref rl, .ref rb, .int la, .int ca])), (ra, .inl (cB, 16400, .inl u_177)), (rk, .inl (cI, 16, .inl fk)), (rv, .inl (cL, 16, .inr (.inl fv))), (rw, .inl (cI, 16, .inl fw)), (ro, .inl (cB, 65536, .inl fo))] := hD
                    have hL_179 := hw
                    refine lv_goto (tgt := 358) hx hb d_Mo_makes_353 (by decide) ?_
                    refine lv_iconst (v := 1) hx hb d_Mo_makes_358 (by decide) ?_
                    have hmo : (mk_o v k x B bp) = some (([] : List Nat) ++ (mo_p k x B)) := (mk_np hok9 f_345)
                    have hP9 := hP.sub (ws' := [(mo, .inr (8, [.int th, .int fd, .ref rt, .int mn, .ref rk, .ref rv, .ref rw, .ref ro, .int md, .ref rr, .int (nI (([] : List Nat) ++ (mo_p k x B)).length), .ref ra, .long pz, .int kc, .ref rc, .ref rl, .ref rb, .int la, .int ca])), (ra, .inl (cB, 16400, .inl u_177)), (rk, .inl (cI, 16, .inl fk)), (rv, .inl (cL, 16, .inr (.inl fv))), (rw, .inl (cI, 16, .inl fw)), (ro, .inl (cB, 65536, .inl fo))]) [0, 1, 2, 3, 4, 5] rfl
                    have hD9 := hD.sub (ws' := [(mo, .inr (8, [.int th, .int fd, .ref rt, .int mn, .ref rk, .ref rv, .ref rw, .ref ro, .int md, .ref rr, .int (nI (([] : List Nat) ++ (mo_p k x B)).length), .ref ra, .long pz, .int kc, .ref rc, .ref rl, .ref rb, .int la, .int ca])), (ra, .inl (cB, 16400, .inl u_177)), (rk, .inl (cI, 16, .inl fk)), (rv, .inl (cL, 16, .inr (.inl fv))), (rw, .inl (cI, 16, .inl fw)), (ro, .inl (cB, 65536, .inl fo))]) [0, 1, 2, 3, 4, 5] (by decide) rfl
                    have hK9 := hK.sub (tys' := [(cB, .byte), (cI, .int), (cL, .long)]) [0, 1, 2] rfl
                    rw [show nI (([] : List Nat) ++ (mo_p k x B)).length = nI ((mk_o v k x B bp).getD []).length by rw [hmo]; rfl] at hP9 hD9
                    exact zz_zret hx hb hr hlocks d_Mo_makes_359 (by decide) hS (by first | exact Nat.le_refl _ | decide | omega | (dsimp only; omega)) (by first | exact Nat.le_refl _ | decide | omega | (dsimp only; omega)) (u_177, la, ca) ⟨by rw [hmo]; rfl, by rw [hmo]; exact hL_179⟩ hP9 hK9 hD9
                · skip
                  have f_329 : v = 116 := sb_e1 (k := 116) hv (by decide) c_329
                  refine lv_aload_n hx hb d_Mo_makes_332 rfl (lv_at hl 3 rfl) ?_
                  refine va_get (D := (dC, dI)) (ci := 8) (v := .ref rk) (C := "TextForgeModel") (T := TX8) (N := 19) hx hb hg iwX8 hown hK hP 0 rfl rfl 4 (by decide) (hg _ kw_730) (fun _ h9 => h9) rfl d_Mo_makes_333 ?_
                  refine lv_iload_n hx hb d_Mo_makes_336 rfl (lv_at hl 5 rfl) ?_
                  refine va_iald hx hb hK hP 2 1 rfl rfl (vp_in_nI hj (by decide)) d_Mo_makes_337 ?_
                  refine lv_topi (fun y_180 ey_180 => ?_)
                  have ey_180 : y_180 = (nI k : Int32) := ey_180.trans (show (fk (nI j).toNatClampNeg) = nI k from (by rw [nI_clamp (show j < 2 ^ 31 by omega)]; exact hk9))
                  subst ey_180
                  refine lv_iconst (v := 2) hx hb d_Mo_makes_338 (by decide) ?_
                  refine lv_icmp_eq (tgt := 348) hx hb d_Mo_makes_339 (by decide) (fun c9 => by first | exact absurd c9 (fun z => by have := nI_e1 (b := 2) z (by omega) (by decide); omega) | exact absurd (fun z => by have := nI_e1 (b := 2) z (by omega) (by decide); omega) c9) (fun _ => ?_)
                  refine lv_iload_n hx hb d_Mo_makes_342 rfl (lv_at hl 4 rfl) ?_
                  refine lv_bipush (v := 118) hx hb d_Mo_makes_343 (by decide) ?_
                  refine lv_icmp_ne (tgt := 356) hx hb d_Mo_makes_345 (by decide) (fun c_345 => ?_) (fun c_345 => ?_)
                  · skip
                    have f_345 : v ≠ 118 := sb_e2 (k := 118) hv (by decide) c_345
                    refine lv_iconst (v := 0) hx hb d_Mo_makes_356 (by decide) ?_
                    have hmo : (mk_o v k x B bp) = none := (mk_n0 hkn (by omega) f_228 f_248 f_345)
                    have hP9 := hP.sub (ws' := [(mo, .inr (8, [.int th, .int fd, .ref rt, .int mn, .ref rk, .ref rv, .ref rw, .ref ro, .int md, .ref rr, .int (nI ([] : List Nat).length), .ref ra, .long pz, .int kc, .ref rc, .ref rl, .ref rb, .int la, .int ca])), (ra, .inl (cB, 16400, .inl fa)), (rk, .inl (cI, 16, .inl fk)), (rv, .inl (cL, 16, .inr (.inl fv))), (rw, .inl (cI, 16, .inl fw)), (ro, .inl (cB, 65536, .inl fo))]) [0, 1, 2, 3, 4, 5] rfl
                    have hD9 := hD.sub (ws' := [(mo, .inr (8, [.int th, .int fd, .ref rt, .int mn, .ref rk, .ref rv, .ref rw, .ref ro, .int md, .ref rr, .int (nI ([] : List Nat).length), .ref ra, .long pz, .int kc, .ref rc, .ref rl, .ref rb, .int la, .int ca])), (ra, .inl (cB, 16400, .inl fa)), (rk, .inl (cI, 16, .inl fk)), (rv, .inl (cL, 16, .inr (.inl fv))), (rw, .inl (cI, 16, .inl fw)), (ro, .inl (cB, 65536, .inl fo))]) [0, 1, 2, 3, 4, 5] (by decide) rfl
                    have hK9 := hK.sub (tys' := [(cB, .byte), (cI, .int), (cL, .long)]) [0, 1, 2] rfl
                    rw [show nI ([] : List Nat).length = nI ((mk_o v k x B bp).getD []).length by rw [hmo]; rfl] at hP9 hD9
                    exact zz_zret hx hb hr hlocks d_Mo_makes_357 (by decide) hS (by first | exact Nat.le_refl _ | decide | omega | (dsimp only; omega)) (by first | exact Nat.le_refl _ | decide | omega | (dsimp only; omega)) (fa, la, ca) ⟨by rw [hmo]; rfl, by rw [hmo]; exact by_nil _⟩ hP9 hK9 hD9
                  · skip
                    have f_345 : v = 118 := sb_e1 (k := 118) hv (by decide) c_345
                    refine lv_aload_n hx hb d_Mo_makes_348 rfl (lv_at hl 3 rfl) ?_
                    refine lv_iload_n hx hb d_Mo_makes_349 rfl (lv_at hl 5 rfl) ?_
                    have hPc := hP.sub (ws' := [(mo, .inr (8, [.int th, .int fd, .ref rt, .int mn, .ref rk, .ref rv, .ref rw, .ref ro, .int md, .ref rr, .int (nI ([] : List Nat).length), .ref ra, .long pz, .int kc, .ref rc, .ref rl, .ref rb, .int la, .int ca])), (ra, .inl (cB, 16400, .inl fa)), (rk, .inl (cI, 16, .inl fk)), (rv, .inl (cL, 16, .inr (.inl fv))), (rw, .inl (cI, 16, .inl fw)), (ro, .inl (cB, 65536, .inl fo))]) [0, 1, 2, 3, 4, 5] rfl
                    have hKc := hK.sub (tys' := [(cB, .byte), (cI, .int), (cL, .long)]) [0, 1, 2] rfl
                    have hDc := hD.sub (ws' := [(mo, .inr (8, [.int th, .int fd, .ref rt, .int mn, .ref rk, .ref rv, .ref rw, .ref ro, .int md, .ref rr, .int (nI ([] : List Nat).length), .ref ra, .long pz, .int kc, .ref rc, .ref rl, .ref rb, .int la, .int ca])), (ra, .inl (cB, 16400, .inl fa)), (rk, .inl (cI, 16, .inl fk)), (rv, .inl (cL, 16, .inr (.inl fv))), (rw, .inl (cI, 16, .inl fw)), (ro, .inl (cB, 65536, .inl fo))]) [0, 1, 2, 3, 4, 5] (by decide) rfl
                    have hFc := va_free (wc := [(mo, .inr (8, [.int th, .int fd, .ref rt, .int mn, .ref rk, .ref rv, .ref rw, .ref ro, .int md, .ref rr, .int (nI ([] : List Nat).length), .ref ra, .long pz, .int kc, .ref rc, .ref rl, .ref rb, .int la, .int ca])), (ra, .inl (cB, 16400, .inl fa)), (rk, .inl (cI, 16, .inl fk)), (rv, .inl (cL, 16, .inr (.inl fv))), (rw, .inl (cI, 16, .inl fw)), (ro, .inl (cB, 65536, .inl fo))]) hD hS hA [0, 1, 2, 3, 4, 5] rfl
                    refine zz_callv (va_runV (As := [.int (nI j)]) (rest := []) ⟨hx, hb, hml, hown, hg⟩ (c_Mo_plain l dC dI ad mo rt rk rv rw ro rr ra rc rl rb th fd mn md (nI ([] : List Nat).length) pz kc la ca cB fa ([] : List Nat) cI cL fk fv fw fo j k x B (by_nil _) (by (try simp only [List.length_append, List.length_cons, List.length_nil]); omega) hj hok9 hmg s.heap.size) (cwV 1 hg (gi_V kw_908 kw_910 sw_25 kw_9 kw_911) rfl rfl rfl (by decide +kernel) ⟨Nat.le_of_ble_eq_true rfl, Nat.le_of_ble_eq_true rfl⟩) (zy_preV hX hS hFc hPc hKc hDc _ (q0 := 0) (ci := 8) rfl rfl) rfl rfl hl.1 rfl (lv_room (Nat.le_of_ble_eq_true rfl)) d_Mo_makes_350 ⟨Nat.le_of_ble_eq_true rfl, Nat.le_of_ble_eq_true rfl⟩) hS hFc (fun u H1 k9 p9 d9 => va_join (wr := []) hP hD [0, 1, 2, 3, 4, 5] [] rfl rfl (by decide) (by decide) k9 hFc p9 d9) (fun u H locs hw hP hD hK1 hS => ?_)
                    obtain ⟨u_181, rfl⟩ : ∃ z, z = u := ⟨_, rfl⟩
                    try dsimp only at hw
                    have hP : va_P (dC, dI) vwCl [(mo, .inr (8, [.int th, .int fd, .ref rt, .int mn, .ref rk, .ref rv, .ref rw, .ref ro, .int md, .ref rr, .int (nI (([] : List Nat) ++ (mo_p k x B)).length), .ref ra, .long pz, .int kc, .ref rc, .ref rl, .ref rb, .int la, .int ca])), (ra, .inl (cB, 16400, .inl u_181)), (rk, .inl (cI, 16, .inl fk)), (rv, .inl (cL, 16, .inr (.inl fv))), (rw, .inl (cI, 16, .inl fw)), (ro, .inl (cB, 65536, .inl fo))] H := hP
                    have hD : va_D A [(mo, .inr (8, [.int th, .int fd, .ref rt, .int mn, .ref rk, .ref rv, .ref rw, .ref ro, .int md, .ref rr, .int (nI (([] : List Nat) ++ (mo_p k x B)).length), .ref ra, .long pz, .int kc, .ref rc, .ref rl, .ref rb, .int la, .int ca])), (ra, .inl (cB, 16400, .inl u_181)), (rk, .inl (cI, 16, .inl fk)), (rv, .inl (cL, 16, .inr (.inl fv))), (rw, .inl (cI, 16, .inl fw)), (ro, .inl (cB, 65536, .inl fo))] := hD
                    have hL_183 := hw
                    refine lv_goto (tgt := 358) hx hb d_Mo_makes_353 (by decide) ?_
                    refine lv_iconst (v := 1) hx hb d_Mo_makes_358 (by decide) ?_
                    have hmo : (mk_o v k x B bp) = some (([] : List Nat) ++ (mo_p k x B)) := (mk_np hok9 f_345)
                    have hP9 := hP.sub (ws' := [(mo, .inr (8, [.int th, .int fd, .ref rt, .int mn, .ref rk, .ref rv, .ref rw, .ref ro, .int md, .ref rr, .int (nI (([] : List Nat) ++ (mo_p k x B)).length), .ref ra, .long pz, .int kc, .ref rc, .ref rl, .ref rb, .int la, .int ca])), (ra, .inl (cB, 16400, .inl u_181)), (rk, .inl (cI, 16, .inl fk)), (rv, .inl (cL, 16, .inr (.inl fv))), (rw, .inl (cI, 16, .inl fw)), (ro, .inl (cB, 65536, .inl fo))]) [0, 1, 2, 3, 4, 5] rfl
                    have hD9 := hD.sub (ws' := [(mo, .inr (8, [.int th, .int fd, .ref rt, .int mn, .ref rk, .ref rv, .ref rw, .ref ro, .int md, .ref rr, .int (nI (([] : List Nat) ++ (mo_p k x B)).length), .ref ra, .long pz, .int kc, .ref rc, .ref rl, .ref rb, .int la, .int ca])), (ra, .inl (cB, 16400, .inl u_181)), (rk, .inl (cI, 16, .inl fk)), (rv, .inl (cL, 16, .inr (.inl fv))), (rw, .inl (cI, 16, .inl fw)), (ro, .inl (cB, 65536, .inl fo))]) [0, 1, 2, 3, 4, 5] (by decide) rfl
                    have hK9 := hK.sub (tys' := [(cB, .byte), (cI, .int), (cL, .long)]) [0, 1, 2] rfl
                    rw [show nI (([] : List Nat) ++ (mo_p k x B)).length = nI ((mk_o v k x B bp).getD []).length by rw [hmo]; rfl] at hP9 hD9
                    exact zz_zret hx hb hr hlocks d_Mo_makes_359 (by decide) hS (by first | exact Nat.le_refl _ | decide | omega | (dsimp only; omega)) (by first | exact Nat.le_refl _ | decide | omega | (dsimp only; omega)) (u_181, la, ca) ⟨by rw [hmo]; rfl, by rw [hmo]; exact hL_183⟩ hP9 hK9 hD9
              · skip
                have f_248 : v = 113 := sb_e1 (k := 113) hv (by decide) c_248
                refine lv_aload_n hx hb d_Mo_makes_251 rfl (lv_at hl 3 rfl) ?_
                refine lv_bipush (v := 39) hx hb d_Mo_makes_252 (by decide) ?_
                have hPc := hP.sub (ws' := [(mo, .inr (8, [.int th, .int fd, .ref rt, .int mn, .ref rk, .ref rv, .ref rw, .ref ro, .int md, .ref rr, .int (nI ([] : List Nat).length), .ref ra, .long pz, .int kc, .ref rc, .ref rl, .ref rb, .int la, .int ca])), (ra, .inl (cB, 16400, .inl fa))]) [0, 1] rfl
                have hKc := hK.sub (tys' := [(cB, .byte)]) [0] rfl
                have hDc := hD.sub (ws' := [(mo, .inr (8, [.int th, .int fd, .ref rt, .int mn, .ref rk, .ref rv, .ref rw, .ref ro, .int md, .ref rr, .int (nI ([] : List Nat).length), .ref ra, .long pz, .int kc, .ref rc, .ref rl, .ref rb, .int la, .int ca])), (ra, .inl (cB, 16400, .inl fa))]) [0, 1] (by decide) rfl
                have hFc := va_free (wc := [(mo, .inr (8, [.int th, .int fd, .ref rt, .int mn, .ref rk, .ref rv, .ref rw, .ref ro, .int md, .ref rr, .int (nI ([] : List Nat).length), .ref ra, .long pz, .int kc, .ref rc, .ref rl, .ref rb, .int la, .int ca])), (ra, .inl (cB, 16400, .inl fa))]) hD hS hA [0, 1] rfl
                refine zz_callv (va_runV (As := [.int 39]) (rest := []) ⟨hx, hb, hml, hown, hg⟩ (c_Mo_put l dC dI mo rt rk rv rw ro rr ra rc rl rb th fd mn md (nI ([] : List Nat).length) pz kc la ca cB fa ([] : List Nat) 39 (by_nil _) (by (try simp only [List.length_append, List.length_cons, List.length_nil]); omega) s.heap.size) (cwV 1 hg (gi_V kw_863 kw_865 sw_16 kw_9 kw_866) rfl rfl rfl (by decide +kernel) ⟨Nat.le_of_ble_eq_true rfl, Nat.le_of_ble_eq_true rfl⟩) (zz_preV hPc hKc hDc _ (q0 := 0) (ci := 8) rfl rfl) rfl rfl hl.1 rfl (lv_room (Nat.le_of_ble_eq_true rfl)) d_Mo_makes_254 ⟨Nat.le_of_ble_eq_true rfl, Nat.le_of_ble_eq_true rfl⟩) hS hFc (fun u H1 k9 p9 d9 => va_join (wr := [(rk, .inl (cI, 16, .inl fk)), (rv, .inl (cL, 16, .inr (.inl fv))), (rw, .inl (cI, 16, .inl fw)), (ro, .inl (cB, 65536, .inl fo))]) hP hD [0, 1] [2, 3, 4, 5] rfl rfl (by decide) (by decide) k9 hFc p9 d9) (fun u H locs hw hP hD hK1 hS => ?_)
                obtain ⟨u_184, rfl⟩ : ∃ z, z = u := ⟨_, rfl⟩
                try dsimp only at hw
                have hP : va_P (dC, dI) vwCl [(rk, .inl (cI, 16, .inl fk)), (rv, .inl (cL, 16, .inr (.inl fv))), (rw, .inl (cI, 16, .inl fw)), (ro, .inl (cB, 65536, .inl fo)), (mo, .inr (8, [.int th, .int fd, .ref rt, .int mn, .ref rk, .ref rv, .ref rw, .ref ro, .int md, .ref rr, .int (nI (([] : List Nat) ++ [by_b 39]).length), .ref ra, .long pz, .int kc, .ref rc, .ref rl, .ref rb, .int la, .int ca])), (ra, .inl (cB, 16400, .inl u_184))] H := hP
                have hD : va_D A [(rk, .inl (cI, 16, .inl fk)), (rv, .inl (cL, 16, .inr (.inl fv))), (rw, .inl (cI, 16, .inl fw)), (ro, .inl (cB, 65536, .inl fo)), (mo, .inr (8, [.int th, .int fd, .ref rt, .int mn, .ref rk, .ref rv, .ref rw, .ref ro, .int md, .ref rr, .int (nI (([] : List Nat) ++ [by_b 39]).length), .ref ra, .long pz, .int kc, .ref rc, .ref rl, .ref rb, .int la, .int ca])), (ra, .inl (cB, 16400, .inl u_184))] := hD
                have hL_186 := hw
                refine lv_aload_n hx hb d_Mo_makes_257 rfl (lv_at hl 3 rfl) ?_
                refine lv_iload hx hb d_Mo_makes_258 (lv_at hl 0 rfl) ?_
                refine lv_bipush (v := 39) hx hb d_Mo_makes_260 (by decide) ?_
                have hPc := hP.sub (ws' := [(mo, .inr (8, [.int th, .int fd, .ref rt, .int mn, .ref rk, .ref rv, .ref rw, .ref ro, .int md, .ref rr, .int (nI (([] : List Nat) ++ [by_b 39]).length), .ref ra, .long pz, .int kc, .ref rc, .ref rl, .ref rb, .int la, .int ca])), (ra, .inl (cB, 16400, .inl u_184))]) [4, 5] rfl
                have hKc := hK.sub (tys' := [(cB, .byte)]) [0] rfl
                have hDc := hD.sub (ws' := [(mo, .inr (8, [.int th, .int fd, .ref rt, .int mn, .ref rk, .ref rv, .ref rw, .ref ro, .int md, .ref rr, .int (nI (([] : List Nat) ++ [by_b 39]).length), .ref ra, .long pz, .int kc, .ref rc, .ref rl, .ref rb, .int la, .int ca])), (ra, .inl (cB, 16400, .inl u_184))]) [4, 5] (by decide) rfl
                have hFc := va_free (wc := [(mo, .inr (8, [.int th, .int fd, .ref rt, .int mn, .ref rk, .ref rv, .ref rw, .ref ro, .int md, .ref rr, .int (nI (([] : List Nat) ++ [by_b 39]).length), .ref ra, .long pz, .int kc, .ref rc, .ref rl, .ref rb, .int la, .int ca])), (ra, .inl (cB, 16400, .inl u_184))]) hD hS hA [4, 5] rfl
                refine zz_callv (va_runV (As := [.int (nI (ut_cn x.toInt)), .int 39]) (rest := []) ⟨hx, hb, hml, hown, hg⟩ (c_Mo_quoted l dC dI ad mo rt rk rv rw ro rr ra rc rl rb th fd mn md (nI (([] : List Nat) ++ [by_b 39]).length) pz kc la ca cB u_184 (([] : List Nat) ++ [by_b 39]) (ut_cn x.toInt) 39 hL_186 (by (try simp only [List.length_append, List.length_cons, List.length_nil]); omega) (pp_cn _) (by decide) H.size) (cwV 2 hg (gi_V kw_894 kw_896 sw_22 kw_9 kw_897) rfl rfl rfl (by decide +kernel) ⟨Nat.le_of_ble_eq_true rfl, Nat.le_of_ble_eq_true rfl⟩) (zy_preV hX hS hFc hPc hKc hDc _ (q0 := 0) (ci := 8) rfl rfl) rfl rfl hl.1 rfl (lv_room (Nat.le_of_ble_eq_true rfl)) d_Mo_makes_262 ⟨Nat.le_of_ble_eq_true rfl, Nat.le_of_ble_eq_true rfl⟩) hS hFc (fun u H1 k9 p9 d9 => va_join (wr := [(rk, .inl (cI, 16, .inl fk)), (rv, .inl (cL, 16, .inr (.inl fv))), (rw, .inl (cI, 16, .inl fw)), (ro, .inl (cB, 65536, .inl fo))]) hP hD [4, 5] [0, 1, 2, 3] rfl rfl (by decide) (by decide) k9 hFc p9 d9) (fun u H locs hw hP hD hK1 hS => ?_)
                obtain ⟨u_187, rfl⟩ : ∃ z, z = u := ⟨_, rfl⟩
                try dsimp only at hw
                have hP : va_P (dC, dI) vwCl [(rk, .inl (cI, 16, .inl fk)), (rv, .inl (cL, 16, .inr (.inl fv))), (rw, .inl (cI, 16, .inl fw)), (ro, .inl (cB, 65536, .inl fo)), (mo, .inr (8, [.int th, .int fd, .ref rt, .int mn, .ref rk, .ref rv, .ref rw, .ref ro, .int md, .ref rr, .int (nI ((([] : List Nat) ++ [by_b 39]) ++ (mq 39 (ut_cn x.toInt))).length), .ref ra, .long pz, .int kc, .ref rc, .ref rl, .ref rb, .int la, .int ca])), (ra, .inl (cB, 16400, .inl u_187))] H := hP
                have hD : va_D A [(rk, .inl (cI, 16, .inl fk)), (rv, .inl (cL, 16, .inr (.inl fv))), (rw, .inl (cI, 16, .inl fw)), (ro, .inl (cB, 65536, .inl fo)), (mo, .inr (8, [.int th, .int fd, .ref rt, .int mn, .ref rk, .ref rv, .ref rw, .ref ro, .int md, .ref rr, .int (nI ((([] : List Nat) ++ [by_b 39]) ++ (mq 39 (ut_cn x.toInt))).length), .ref ra, .long pz, .int kc, .ref rc, .ref rl, .ref rb, .int la, .int ca])), (ra, .inl (cB, 16400, .inl u_187))] := hD
                have hL_189 := hw
                have hq4 := mq_len 39 (ut_cn x.toInt)
                refine lv_aload_n hx hb d_Mo_makes_265 rfl (lv_at hl 3 rfl) ?_
                refine lv_bipush (v := 39) hx hb d_Mo_makes_266 (by decide) ?_
                have hPc := hP.sub (ws' := [(mo, .inr (8, [.int th, .int fd, .ref rt, .int mn, .ref rk, .ref rv, .ref rw, .ref ro, .int md, .ref rr, .int (nI ((([] : List Nat) ++ [by_b 39]) ++ (mq 39 (ut_cn x.toInt))).length), .ref ra, .long pz, .int kc, .ref rc, .ref rl, .ref rb, .int la, .int ca])), (ra, .inl (cB, 16400, .inl u_187))]) [4, 5] rfl
                have hKc := hK.sub (tys' := [(cB, .byte)]) [0] rfl
                have hDc := hD.sub (ws' := [(mo, .inr (8, [.int th, .int fd, .ref rt, .int mn, .ref rk, .ref rv, .ref rw, .ref ro, .int md, .ref rr, .int (nI ((([] : List Nat) ++ [by_b 39]) ++ (mq 39 (ut_cn x.toInt))).length), .ref ra, .long pz, .int kc, .ref rc, .ref rl, .ref rb, .int la, .int ca])), (ra, .inl (cB, 16400, .inl u_187))]) [4, 5] (by decide) rfl
                have hFc := va_free (wc := [(mo, .inr (8, [.int th, .int fd, .ref rt, .int mn, .ref rk, .ref rv, .ref rw, .ref ro, .int md, .ref rr, .int (nI ((([] : List Nat) ++ [by_b 39]) ++ (mq 39 (ut_cn x.toInt))).length), .ref ra, .long pz, .int kc, .ref rc, .ref rl, .ref rb, .int la, .int ca])), (ra, .inl (cB, 16400, .inl u_187))]) hD hS hA [4, 5] rfl
                refine zz_callv (va_runV (As := [.int 39]) (rest := []) ⟨hx, hb, hml, hown, hg⟩ (c_Mo_put l dC dI mo rt rk rv rw ro rr ra rc rl rb th fd mn md (nI ((([] : List Nat) ++ [by_b 39]) ++ (mq 39 (ut_cn x.toInt))).length) pz kc la ca cB u_187 ((([] : List Nat) ++ [by_b 39]) ++ (mq 39 (ut_cn x.toInt))) 39 hL_189 (by (try simp only [List.length_append, List.length_cons, List.length_nil]); omega) H.size) (cwV 1 hg (gi_V kw_863 kw_865 sw_16 kw_9 kw_866) rfl rfl rfl (by decide +kernel) ⟨Nat.le_of_ble_eq_true rfl, Nat.le_of_ble_eq_true rfl⟩) (zz_preV hPc hKc hDc _ (q0 := 0) (ci := 8) rfl rfl) rfl rfl hl.1 rfl (lv_room (Nat.le_of_ble_eq_true rfl)) d_Mo_makes_268 ⟨Nat.le_of_ble_eq_true rfl, Nat.le_of_ble_eq_true rfl⟩) hS hFc (fun u H1 k9 p9 d9 => va_join (wr := [(rk, .inl (cI, 16, .inl fk)), (rv, .inl (cL, 16, .inr (.inl fv))), (rw, .inl (cI, 16, .inl fw)), (ro, .inl (cB, 65536, .inl fo))]) hP hD [4, 5] [0, 1, 2, 3] rfl rfl (by decide) (by decide) k9 hFc p9 d9) (fun u H locs hw hP hD hK1 hS => ?_)
                obtain ⟨u_190, rfl⟩ : ∃ z, z = u := ⟨_, rfl⟩
                try dsimp only at hw
                have hP : va_P (dC, dI) vwCl [(rk, .inl (cI, 16, .inl fk)), (rv, .inl (cL, 16, .inr (.inl fv))), (rw, .inl (cI, 16, .inl fw)), (ro, .inl (cB, 65536, .inl fo)), (mo, .inr (8, [.int th, .int fd, .ref rt, .int mn, .ref rk, .ref rv, .ref rw, .ref ro, .int md, .ref rr, .int (nI (((([] : List Nat) ++ [by_b 39]) ++ (mq 39 (ut_cn x.toInt))) ++ [by_b 39]).length), .ref ra, .long pz, .int kc, .ref rc, .ref rl, .ref rb, .int la, .int ca])), (ra, .inl (cB, 16400, .inl u_190))] H := hP
                have hD : va_D A [(rk, .inl (cI, 16, .inl fk)), (rv, .inl (cL, 16, .inr (.inl fv))), (rw, .inl (cI, 16, .inl fw)), (ro, .inl (cB, 65536, .inl fo)), (mo, .inr (8, [.int th, .int fd, .ref rt, .int mn, .ref rk, .ref rv, .ref rw, .ref ro, .int md, .ref rr, .int (nI (((([] : List Nat) ++ [by_b 39]) ++ (mq 39 (ut_cn x.toInt))) ++ [by_b 39]).length), .ref ra, .long pz, .int kc, .ref rc, .ref rl, .ref rb, .int la, .int ca])), (ra, .inl (cB, 16400, .inl u_190))] := hD
                have hL_192 := hw
                refine lv_goto (tgt := 358) hx hb d_Mo_makes_271 (by decide) ?_
                refine lv_iconst (v := 1) hx hb d_Mo_makes_358 (by decide) ?_
                have hmo : (mk_o v k x B bp) = some (((([] : List Nat) ++ [by_b 39]) ++ (mq 39 (ut_cn x.toInt))) ++ [by_b 39]) := (mk_nq hkn f_248)
                have hP9 := hP.sub (ws' := [(mo, .inr (8, [.int th, .int fd, .ref rt, .int mn, .ref rk, .ref rv, .ref rw, .ref ro, .int md, .ref rr, .int (nI (((([] : List Nat) ++ [by_b 39]) ++ (mq 39 (ut_cn x.toInt))) ++ [by_b 39]).length), .ref ra, .long pz, .int kc, .ref rc, .ref rl, .ref rb, .int la, .int ca])), (ra, .inl (cB, 16400, .inl u_190)), (rk, .inl (cI, 16, .inl fk)), (rv, .inl (cL, 16, .inr (.inl fv))), (rw, .inl (cI, 16, .inl fw)), (ro, .inl (cB, 65536, .inl fo))]) [4, 5, 0, 1, 2, 3] rfl
                have hD9 := hD.sub (ws' := [(mo, .inr (8, [.int th, .int fd, .ref rt, .int mn, .ref rk, .ref rv, .ref rw, .ref ro, .int md, .ref rr, .int (nI (((([] : List Nat) ++ [by_b 39]) ++ (mq 39 (ut_cn x.toInt))) ++ [by_b 39]).length), .ref ra, .long pz, .int kc, .ref rc, .ref rl, .ref rb, .int la, .int ca])), (ra, .inl (cB, 16400, .inl u_190)), (rk, .inl (cI, 16, .inl fk)), (rv, .inl (cL, 16, .inr (.inl fv))), (rw, .inl (cI, 16, .inl fw)), (ro, .inl (cB, 65536, .inl fo))]) [4, 5, 0, 1, 2, 3] (by decide) rfl
                have hK9 := hK.sub (tys' := [(cB, .byte), (cI, .int), (cL, .long)]) [0, 1, 2] rfl
                rw [show nI (((([] : List Nat) ++ [by_b 39]) ++ (mq 39 (ut_cn x.toInt))) ++ [by_b 39]).length = nI ((mk_o v k x B bp).getD []).length by rw [hmo]; rfl] at hP9 hD9
                exact zz_zret hx hb hr hlocks d_Mo_makes_359 (by decide) hS (by first | exact Nat.le_refl _ | decide | omega | (dsimp only; omega)) (by first | exact Nat.le_refl _ | decide | omega | (dsimp only; omega)) (u_190, la, ca) ⟨by rw [hmo]; rfl, by rw [hmo]; exact hL_192⟩ hP9 hK9 hD9
            · skip
              have f_228 : v = 99 := sb_e1 (k := 99) hv (by decide) c_228
              refine lv_aload_n hx hb d_Mo_makes_231 rfl (lv_at hl 3 rfl) ?_
              refine lv_iload hx hb d_Mo_makes_232 (lv_at hl 0 rfl) ?_
              have hPc := hP.sub (ws' := [(mo, .inr (8, [.int th, .int fd, .ref rt, .int mn, .ref rk, .ref rv, .ref rw, .ref ro, .int md, .ref rr, .int (nI ([] : List Nat).length), .ref ra, .long pz, .int kc, .ref rc, .ref rl, .ref rb, .int la, .int ca])), (ra, .inl (cB, 16400, .inl fa))]) [0, 1] rfl
              have hKc := hK.sub (tys' := [(cB, .byte)]) [0] rfl
              have hDc := hD.sub (ws' := [(mo, .inr (8, [.int th, .int fd, .ref rt, .int mn, .ref rk, .ref rv, .ref rw, .ref ro, .int md, .ref rr, .int (nI ([] : List Nat).length), .ref ra, .long pz, .int kc, .ref rc, .ref rl, .ref rb, .int la, .int ca])), (ra, .inl (cB, 16400, .inl fa))]) [0, 1] (by decide) rfl
              have hFc := va_free (wc := [(mo, .inr (8, [.int th, .int fd, .ref rt, .int mn, .ref rk, .ref rv, .ref rw, .ref ro, .int md, .ref rr, .int (nI ([] : List Nat).length), .ref ra, .long pz, .int kc, .ref rc, .ref rl, .ref rb, .int la, .int ca])), (ra, .inl (cB, 16400, .inl fa))]) hD hS hA [0, 1] rfl
              refine zz_callv (va_runV (As := [.int (nI (ut_cn x.toInt))]) (rest := []) ⟨hx, hb, hml, hown, hg⟩ (c_Mo_utf l dC dI mo rt rk rv rw ro rr ra rc rl rb th fd mn md (nI ([] : List Nat).length) pz kc la ca cB fa ([] : List Nat) (ut_cn x.toInt) (by_nil _) (by (try simp only [List.length_append, List.length_cons, List.length_nil]); omega) (pp_cn _) s.heap.size) (cwV 1 hg (gi_V kw_890 kw_892 sw_21 kw_9 kw_893) rfl rfl rfl (by decide +kernel) ⟨Nat.le_of_ble_eq_true rfl, Nat.le_of_ble_eq_true rfl⟩) (zz_preV hPc hKc hDc _ (q0 := 0) (ci := 8) rfl rfl) rfl rfl hl.1 rfl (lv_room (Nat.le_of_ble_eq_true rfl)) d_Mo_makes_234 ⟨Nat.le_of_ble_eq_true rfl, Nat.le_of_ble_eq_true rfl⟩) hS hFc (fun u H1 k9 p9 d9 => va_join (wr := [(rk, .inl (cI, 16, .inl fk)), (rv, .inl (cL, 16, .inr (.inl fv))), (rw, .inl (cI, 16, .inl fw)), (ro, .inl (cB, 65536, .inl fo))]) hP hD [0, 1] [2, 3, 4, 5] rfl rfl (by decide) (by decide) k9 hFc p9 d9) (fun u H locs hw hP hD hK1 hS => ?_)
              obtain ⟨u_193, rfl⟩ : ∃ z, z = u := ⟨_, rfl⟩
              try dsimp only at hw
              have hP : va_P (dC, dI) vwCl [(rk, .inl (cI, 16, .inl fk)), (rv, .inl (cL, 16, .inr (.inl fv))), (rw, .inl (cI, 16, .inl fw)), (ro, .inl (cB, 65536, .inl fo)), (mo, .inr (8, [.int th, .int fd, .ref rt, .int mn, .ref rk, .ref rv, .ref rw, .ref ro, .int md, .ref rr, .int (nI (([] : List Nat) ++ (ut_8 (ut_cn x.toInt))).length), .ref ra, .long pz, .int kc, .ref rc, .ref rl, .ref rb, .int la, .int ca])), (ra, .inl (cB, 16400, .inl u_193))] H := hP
              have hD : va_D A [(rk, .inl (cI, 16, .inl fk)), (rv, .inl (cL, 16, .inr (.inl fv))), (rw, .inl (cI, 16, .inl fw)), (ro, .inl (cB, 65536, .inl fo)), (mo, .inr (8, [.int th, .int fd, .ref rt, .int mn, .ref rk, .ref rv, .ref rw, .ref ro, .int md, .ref rr, .int (nI (([] : List Nat) ++ (ut_8 (ut_cn x.toInt))).length), .ref ra, .long pz, .int kc, .ref rc, .ref rl, .ref rb, .int la, .int ca])), (ra, .inl (cB, 16400, .inl u_193))] := hD
              have hL_195 := hw
              refine lv_goto (tgt := 358) hx hb d_Mo_makes_237 (by decide) ?_
              refine lv_iconst (v := 1) hx hb d_Mo_makes_358 (by decide) ?_
              have hmo : (mk_o v k x B bp) = some (([] : List Nat) ++ (ut_8 (ut_cn x.toInt))) := (mk_nc hkn f_228)
              have hP9 := hP.sub (ws' := [(mo, .inr (8, [.int th, .int fd, .ref rt, .int mn, .ref rk, .ref rv, .ref rw, .ref ro, .int md, .ref rr, .int (nI (([] : List Nat) ++ (ut_8 (ut_cn x.toInt))).length), .ref ra, .long pz, .int kc, .ref rc, .ref rl, .ref rb, .int la, .int ca])), (ra, .inl (cB, 16400, .inl u_193)), (rk, .inl (cI, 16, .inl fk)), (rv, .inl (cL, 16, .inr (.inl fv))), (rw, .inl (cI, 16, .inl fw)), (ro, .inl (cB, 65536, .inl fo))]) [4, 5, 0, 1, 2, 3] rfl
              have hD9 := hD.sub (ws' := [(mo, .inr (8, [.int th, .int fd, .ref rt, .int mn, .ref rk, .ref rv, .ref rw, .ref ro, .int md, .ref rr, .int (nI (([] : List Nat) ++ (ut_8 (ut_cn x.toInt))).length), .ref ra, .long pz, .int kc, .ref rc, .ref rl, .ref rb, .int la, .int ca])), (ra, .inl (cB, 16400, .inl u_193)), (rk, .inl (cI, 16, .inl fk)), (rv, .inl (cL, 16, .inr (.inl fv))), (rw, .inl (cI, 16, .inl fw)), (ro, .inl (cB, 65536, .inl fo))]) [4, 5, 0, 1, 2, 3] (by decide) rfl
              have hK9 := hK.sub (tys' := [(cB, .byte), (cI, .int), (cL, .long)]) [0, 1, 2] rfl
              rw [show nI (([] : List Nat) ++ (ut_8 (ut_cn x.toInt))).length = nI ((mk_o v k x B bp).getD []).length by rw [hmo]; rfl] at hP9 hD9
              exact zz_zret hx hb hr hlocks d_Mo_makes_359 (by decide) hS (by first | exact Nat.le_refl _ | decide | omega | (dsimp only; omega)) (by first | exact Nat.le_refl _ | decide | omega | (dsimp only; omega)) (u_193, la, ca) ⟨by rw [hmo]; rfl, by rw [hmo]; exact hL_195⟩ hP9 hK9 hD9
          · skip
            have f_95 : 0 < (mb_v v) := Nat.lt_of_not_le (fun z => c_95 (nI_le (b := 0) z (by omega)))
            refine lv_aload_n hx hb d_Mo_makes_98 rfl (lv_at hl 3 rfl) ?_
            refine lv_iload_n hx hb d_Mo_makes_99 rfl (lv_at hl 5 rfl) ?_
            have hPc := hP.sub (ws' := [(mo, .inr (8, [.int th, .int fd, .ref rt, .int mn, .ref rk, .ref rv, .ref rw, .ref ro, .int md, .ref rr, .int (nI ([] : List Nat).length), .ref ra, .long pz, .int kc, .ref rc, .ref rl, .ref rb, .int la, .int ca])), (rk, .inl (cI, 16, .inl fk)), (rv, .inl (cL, 16, .inr (.inl fv)))]) [0, 2, 3] rfl
            have hKc := hK.sub (tys' := [(cI, .int), (cL, .long)]) [1, 2] rfl
            refine vp_callSi (W.runV (As := [.int (nI j)]) (rest := []) ⟨hx, hb, hml, hown, hg⟩ (c_Mo_isBelow l dC dI mo rt rk rv rw ro rr ra rc rl rb th fd mn md (nI ([] : List Nat).length) pz kc la ca cI cL fk fv j hj) (cwV 1 hg (gi_V kw_859 kw_861 sw_15 kw_9 kw_862) rfl rfl rfl (by decide +kernel) ⟨Nat.le_of_ble_eq_true rfl, Nat.le_of_ble_eq_true rfl⟩) (zz_prJV hPc hKc _ (q0 := 0) (ci := 8) rfl rfl) rfl rfl hl.1 rfl (lv_room (Nat.le_of_ble_eq_true rfl)) d_Mo_makes_100 ⟨Nat.le_of_ble_eq_true rfl, Nat.le_of_ble_eq_true rfl⟩) (fun r_196 hr_196 => ?_)
            rw [hk9, hmg.2.1] at hr_196
            refine lv_if_eq (tgt := 115) hx hb d_Mo_makes_103 (by decide) (fun c_103 => ?_) (fun c_103 => ?_)
            · skip
              have hbb : ar_b (nI k) x = false := by_z_f hr_196 c_103
              refine lv_iload_n hx hb d_Mo_makes_115 rfl (lv_at hl 6 rfl) ?_
              refine lv_if_eq (tgt := 125) hx hb d_Mo_makes_116 (by decide) (fun c_116 => ?_) (fun c_116 => ?_)
              · skip
                have hbq : bp = false := by_z_f rfl c_116
                refine lv_aload_n hx hb d_Mo_makes_125 rfl (lv_at hl 3 rfl) ?_
                refine lv_iload_n hx hb d_Mo_makes_126 rfl (lv_at hl 5 rfl) ?_
                refine lv_iload_n hx hb d_Mo_makes_127 rfl (lv_at hl 4 rfl) ?_
                have hPc := hP.sub (ws' := []) [] rfl
                have hKc := hK.sub (tys' := []) [] rfl
                refine vp_callSi (W.runS (As := [.int (sb_b v)]) (rest := [.int (nI j), .ref mo]) ⟨hx, hb, hml, hown, hg⟩ (c_Mo_baseOf l dC dI v hv) (va_cwS 1 hg (gi_S kw_856 kw_857 kw_9 kw_858) rfl rfl rfl (by decide +kernel) ⟨Nat.le_of_ble_eq_true rfl, Nat.le_of_ble_eq_true rfl⟩) (zz_prJS hPc hKc _) rfl rfl hl.1 rfl (lv_room (Nat.le_of_ble_eq_true rfl)) d_Mo_makes_128 ⟨Nat.le_of_ble_eq_true rfl, Nat.le_of_ble_eq_true rfl⟩) (fun r_197 hr_197 => ?_)
                subst hr_197
                refine lv_iload_n hx hb d_Mo_makes_131 rfl (lv_at hl 4 rfl) ?_
                refine lv_bipush (v := 88) hx hb d_Mo_makes_132 (by decide) ?_
                refine lv_icmp_ne (tgt := 141) hx hb d_Mo_makes_134 (by decide) (fun c_134 => ?_) (fun c_134 => ?_)
                · skip
                  have f_134 : v ≠ 88 := sb_e2 (k := 88) hv (by decide) c_134
                  refine lv_iconst (v := 0) hx hb d_Mo_makes_141 (by decide) ?_
                  refine lv_topi (fun y_198 ey_198 => ?_)
                  have ey_198 : y_198 = (by_z (decide (v = 88)) : Int32) := ey_198.trans (show 0 = by_z (decide (v = 88)) from (by rw [decide_eq_false f_134]; rfl))
                  subst ey_198
                  have hPc := hP.sub (ws' := [(mo, .inr (8, [.int th, .int fd, .ref rt, .int mn, .ref rk, .ref rv, .ref rw, .ref ro, .int md, .ref rr, .int (nI ([] : List Nat).length), .ref ra, .long pz, .int kc, .ref rc, .ref rl, .ref rb, .int la, .int ca])), (ra, .inl (cB, 16400, .inl fa)), (rk, .inl (cI, 16, .inl fk)), (rv, .inl (cL, 16, .inr (.inl fv)))]) [0, 1, 2, 3] rfl
                  have hKc := hK.sub (tys' := [(cB, .byte), (cI, .int), (cL, .long)]) [0, 1, 2] rfl
                  have hDc := hD.sub (ws' := [(mo, .inr (8, [.int th, .int fd, .ref rt, .int mn, .ref rk, .ref rv, .ref rw, .ref ro, .int md, .ref rr, .int (nI ([] : List Nat).length), .ref ra, .long pz, .int kc, .ref rc, .ref rl, .ref rb, .int la, .int ca])), (ra, .inl (cB, 16400, .inl fa)), (rk, .inl (cI, 16, .inl fk)), (rv, .inl (cL, 16, .inr (.inl fv)))]) [0, 1, 2, 3] (by decide) rfl
                  have hFc := va_free (wc := [(mo, .inr (8, [.int th, .int fd, .ref rt, .int mn, .ref rk, .ref rv, .ref rw, .ref ro, .int md, .ref rr, .int (nI ([] : List Nat).length), .ref ra, .long pz, .int kc, .ref rc, .ref rl, .ref rb, .int la, .int ca])), (ra, .inl (cB, 16400, .inl fa)), (rk, .inl (cI, 16, .inl fk)), (rv, .inl (cL, 16, .inr (.inl fv)))]) hD hS hA [0, 1, 2, 3] rfl
                  refine zz_callv (va_runV (As := [.int (nI j), .int (nI (mb_v v)), .int (by_z (decide (v = 88)))]) (rest := []) ⟨hx, hb, hml, hown, hg⟩ (c_Mo_sized l dC dI mo rt rk rv rw ro rr ra rc rl rb th fd mn md (nI ([] : List Nat).length) pz kc la ca cB fa ([] : List Nat) cI cL fk fv j (mb_v v) (decide (v = 88)) (by_nil _) (by (try simp only [List.length_append, List.length_cons, List.length_nil]); omega) hj (mb_s (n := 0) (by omega)).2.2.2.2.1 (mb_s (n := 0) (by omega)).2.2.2.2.2 s.heap.size) (cwV 3 hg (gi_V kw_867 kw_869 sw_17 kw_9 kw_870) rfl rfl rfl (by decide +kernel) ⟨Nat.le_of_ble_eq_true rfl, Nat.le_of_ble_eq_true rfl⟩) (zz_preV hPc hKc hDc _ (q0 := 0) (ci := 8) rfl rfl) rfl rfl hl.1 rfl (lv_room (Nat.le_of_ble_eq_true rfl)) d_Mo_makes_142 ⟨Nat.le_of_ble_eq_true rfl, Nat.le_of_ble_eq_true rfl⟩) hS hFc (fun u H1 k9 p9 d9 => va_join (wr := [(rw, .inl (cI, 16, .inl fw)), (ro, .inl (cB, 65536, .inl fo))]) hP hD [0, 1, 2, 3] [4, 5] rfl rfl (by decide) (by decide) k9 hFc p9 d9) (fun u H locs hw hP hD hK1 hS => ?_)
                  obtain ⟨u_199, rfl⟩ : ∃ z, z = u := ⟨_, rfl⟩
                  try dsimp only at hw
                  have hP : va_P (dC, dI) vwCl [(rw, .inl (cI, 16, .inl fw)), (ro, .inl (cB, 65536, .inl fo)), (mo, .inr (8, [.int th, .int fd, .ref rt, .int mn, .ref rk, .ref rv, .ref rw, .ref ro, .int md, .ref rr, .int (nI (([] : List Nat) ++ (nu_f (mb_v v) (dg_t (decide (v = 88))) 64 (ar_m (fk j) (fv j))).reverse).length), .ref ra, .long pz, .int kc, .ref rc, .ref rl, .ref rb, .int la, .int ca])), (ra, .inl (cB, 16400, .inl u_199)), (rk, .inl (cI, 16, .inl fk)), (rv, .inl (cL, 16, .inr (.inl fv)))] H := hP
                  have hD : va_D A [(rw, .inl (cI, 16, .inl fw)), (ro, .inl (cB, 65536, .inl fo)), (mo, .inr (8, [.int th, .int fd, .ref rt, .int mn, .ref rk, .ref rv, .ref rw, .ref ro, .int md, .ref rr, .int (nI (([] : List Nat) ++ (nu_f (mb_v v) (dg_t (decide (v = 88))) 64 (ar_m (fk j) (fv j))).reverse).length), .ref ra, .long pz, .int kc, .ref rc, .ref rl, .ref rb, .int la, .int ca])), (ra, .inl (cB, 16400, .inl u_199)), (rk, .inl (cI, 16, .inl fk)), (rv, .inl (cL, 16, .inr (.inl fv)))] := hD
                  have hL_201 := hw
                  refine lv_goto (tgt := 358) hx hb d_Mo_makes_145 (by decide) ?_
                  refine lv_iconst (v := 1) hx hb d_Mo_makes_358 (by decide) ?_
                  have hmo : (mk_o v k x B bp) = some (([] : List Nat) ++ (nu_f (mb_v v) (dg_t (decide (v = 88))) 64 (ar_m (fk j) (fv j))).reverse) := (by rw [hk9, hmg.2.1]; exact mk_b3 hkn (by omega) hbb hbq)
                  have hP9 := hP.sub (ws' := [(mo, .inr (8, [.int th, .int fd, .ref rt, .int mn, .ref rk, .ref rv, .ref rw, .ref ro, .int md, .ref rr, .int (nI (([] : List Nat) ++ (nu_f (mb_v v) (dg_t (decide (v = 88))) 64 (ar_m (fk j) (fv j))).reverse).length), .ref ra, .long pz, .int kc, .ref rc, .ref rl, .ref rb, .int la, .int ca])), (ra, .inl (cB, 16400, .inl u_199)), (rk, .inl (cI, 16, .inl fk)), (rv, .inl (cL, 16, .inr (.inl fv))), (rw, .inl (cI, 16, .inl fw)), (ro, .inl (cB, 65536, .inl fo))]) [2, 3, 4, 5, 0, 1] rfl
                  have hD9 := hD.sub (ws' := [(mo, .inr (8, [.int th, .int fd, .ref rt, .int mn, .ref rk, .ref rv, .ref rw, .ref ro, .int md, .ref rr, .int (nI (([] : List Nat) ++ (nu_f (mb_v v) (dg_t (decide (v = 88))) 64 (ar_m (fk j) (fv j))).reverse).length), .ref ra, .long pz, .int kc, .ref rc, .ref rl, .ref rb, .int la, .int ca])), (ra, .inl (cB, 16400, .inl u_199)), (rk, .inl (cI, 16, .inl fk)), (rv, .inl (cL, 16, .inr (.inl fv))), (rw, .inl (cI, 16, .inl fw)), (ro, .inl (cB, 65536, .inl fo))]) [2, 3, 4, 5, 0, 1] (by decide) rfl
                  have hK9 := hK.sub (tys' := [(cB, .byte), (cI, .int), (cL, .long)]) [0, 1, 2] rfl
                  rw [show nI (([] : List Nat) ++ (nu_f (mb_v v) (dg_t (decide (v = 88))) 64 (ar_m (fk j) (fv j))).reverse).length = nI ((mk_o v k x B bp).getD []).length by rw [hmo]; rfl] at hP9 hD9
                  exact zz_zret hx hb hr hlocks d_Mo_makes_359 (by decide) hS (by first | exact Nat.le_refl _ | decide | omega | (dsimp only; omega)) (by first | exact Nat.le_refl _ | decide | omega | (dsimp only; omega)) (u_199, la, ca) ⟨by rw [hmo]; rfl, by rw [hmo]; exact hL_201⟩ hP9 hK9 hD9
                · skip
                  have f_134 : v = 88 := sb_e1 (k := 88) hv (by decide) c_134
                  refine lv_iconst (v := 1) hx hb d_Mo_makes_137 (by decide) ?_
                  refine lv_goto (tgt := 142) hx hb d_Mo_makes_138 (by decide) ?_
                  refine lv_topi (fun y_202 ey_202 => ?_)
                  have ey_202 : y_202 = (by_z (decide (v = 88)) : Int32) := ey_202.trans (show 1 = by_z (decide (v = 88)) from (by rw [decide_eq_true f_134]; rfl))
                  subst ey_202
                  have hPc := hP.sub (ws' := [(mo, .inr (8, [.int th, .int fd, .ref rt, .int mn, .ref rk, .ref rv, .ref rw, .ref ro, .int md, .ref rr, .int (nI ([] : List Nat).length), .ref ra, .long pz, .int kc, .ref rc, .ref rl, .ref rb, .int la, .int ca])), (ra, .inl (cB, 16400, .inl fa)), (rk, .inl (cI, 16, .inl fk)), (rv, .inl (cL, 16, .inr (.inl fv)))]) [0, 1, 2, 3] rfl
                  have hKc := hK.sub (tys' := [(cB, .byte), (cI, .int), (cL, .long)]) [0, 1, 2] rfl
                  have hDc := hD.sub (ws' := [(mo, .inr (8, [.int th, .int fd, .ref rt, .int mn, .ref rk, .ref rv, .ref rw, .ref ro, .int md, .ref rr, .int (nI ([] : List Nat).length), .ref ra, .long pz, .int kc, .ref rc, .ref rl, .ref rb, .int la, .int ca])), (ra, .inl (cB, 16400, .inl fa)), (rk, .inl (cI, 16, .inl fk)), (rv, .inl (cL, 16, .inr (.inl fv)))]) [0, 1, 2, 3] (by decide) rfl
                  have hFc := va_free (wc := [(mo, .inr (8, [.int th, .int fd, .ref rt, .int mn, .ref rk, .ref rv, .ref rw, .ref ro, .int md, .ref rr, .int (nI ([] : List Nat).length), .ref ra, .long pz, .int kc, .ref rc, .ref rl, .ref rb, .int la, .int ca])), (ra, .inl (cB, 16400, .inl fa)), (rk, .inl (cI, 16, .inl fk)), (rv, .inl (cL, 16, .inr (.inl fv)))]) hD hS hA [0, 1, 2, 3] rfl
                  refine zz_callv (va_runV (As := [.int (nI j), .int (nI (mb_v v)), .int (by_z (decide (v = 88)))]) (rest := []) ⟨hx, hb, hml, hown, hg⟩ (c_Mo_sized l dC dI mo rt rk rv rw ro rr ra rc rl rb th fd mn md (nI ([] : List Nat).length) pz kc la ca cB fa ([] : List Nat) cI cL fk fv j (mb_v v) (decide (v = 88)) (by_nil _) (by (try simp only [List.length_append, List.length_cons, List.length_nil]); omega) hj (mb_s (n := 0) (by omega)).2.2.2.2.1 (mb_s (n := 0) (by omega)).2.2.2.2.2 s.heap.size) (cwV 3 hg (gi_V kw_867 kw_869 sw_17 kw_9 kw_870) rfl rfl rfl (by decide +kernel) ⟨Nat.le_of_ble_eq_true rfl, Nat.le_of_ble_eq_true rfl⟩) (zz_preV hPc hKc hDc _ (q0 := 0) (ci := 8) rfl rfl) rfl rfl hl.1 rfl (lv_room (Nat.le_of_ble_eq_true rfl)) d_Mo_makes_142 ⟨Nat.le_of_ble_eq_true rfl, Nat.le_of_ble_eq_true rfl⟩) hS hFc (fun u H1 k9 p9 d9 => va_join (wr := [(rw, .inl (cI, 16, .inl fw)), (ro, .inl (cB, 65536, .inl fo))]) hP hD [0, 1, 2, 3] [4, 5] rfl rfl (by decide) (by decide) k9 hFc p9 d9) (fun u H locs hw hP hD hK1 hS => ?_)
                  obtain ⟨u_203, rfl⟩ : ∃ z, z = u := ⟨_, rfl⟩
                  try dsimp only at hw
                  have hP : va_P (dC, dI) vwCl [(rw, .inl (cI, 16, .inl fw)), (ro, .inl (cB, 65536, .inl fo)), (mo, .inr (8, [.int th, .int fd, .ref rt, .int mn, .ref rk, .ref rv, .ref rw, .ref ro, .int md, .ref rr, .int (nI (([] : List Nat) ++ (nu_f (mb_v v) (dg_t (decide (v = 88))) 64 (ar_m (fk j) (fv j))).reverse).length), .ref ra, .long pz, .int kc, .ref rc, .ref rl, .ref rb, .int la, .int ca])), (ra, .inl (cB, 16400, .inl u_203)), (rk, .inl (cI, 16, .inl fk)), (rv, .inl (cL, 16, .inr (.inl fv)))] H := hP
                  have hD : va_D A [(rw, .inl (cI, 16, .inl fw)), (ro, .inl (cB, 65536, .inl fo)), (mo, .inr (8, [.int th, .int fd, .ref rt, .int mn, .ref rk, .ref rv, .ref rw, .ref ro, .int md, .ref rr, .int (nI (([] : List Nat) ++ (nu_f (mb_v v) (dg_t (decide (v = 88))) 64 (ar_m (fk j) (fv j))).reverse).length), .ref ra, .long pz, .int kc, .ref rc, .ref rl, .ref rb, .int la, .int ca])), (ra, .inl (cB, 16400, .inl u_203)), (rk, .inl (cI, 16, .inl fk)), (rv, .inl (cL, 16, .inr (.inl fv)))] := hD
                  have hL_205 := hw
                  refine lv_goto (tgt := 358) hx hb d_Mo_makes_145 (by decide) ?_
                  refine lv_iconst (v := 1) hx hb d_Mo_makes_358 (by decide) ?_
                  have hmo : (mk_o v k x B bp) = some (([] : List Nat) ++ (nu_f (mb_v v) (dg_t (decide (v = 88))) 64 (ar_m (fk j) (fv j))).reverse) := (by rw [hk9, hmg.2.1]; exact mk_b3 hkn (by omega) hbb hbq)
                  have hP9 := hP.sub (ws' := [(mo, .inr (8, [.int th, .int fd, .ref rt, .int mn, .ref rk, .ref rv, .ref rw, .ref ro, .int md, .ref rr, .int (nI (([] : List Nat) ++ (nu_f (mb_v v) (dg_t (decide (v = 88))) 64 (ar_m (fk j) (fv j))).reverse).length), .ref ra, .long pz, .int kc, .ref rc, .ref rl, .ref rb, .int la, .int ca])), (ra, .inl (cB, 16400, .inl u_203)), (rk, .inl (cI, 16, .inl fk)), (rv, .inl (cL, 16, .inr (.inl fv))), (rw, .inl (cI, 16, .inl fw)), (ro, .inl (cB, 65536, .inl fo))]) [2, 3, 4, 5, 0, 1] rfl
                  have hD9 := hD.sub (ws' := [(mo, .inr (8, [.int th, .int fd, .ref rt, .int mn, .ref rk, .ref rv, .ref rw, .ref ro, .int md, .ref rr, .int (nI (([] : List Nat) ++ (nu_f (mb_v v) (dg_t (decide (v = 88))) 64 (ar_m (fk j) (fv j))).reverse).length), .ref ra, .long pz, .int kc, .ref rc, .ref rl, .ref rb, .int la, .int ca])), (ra, .inl (cB, 16400, .inl u_203)), (rk, .inl (cI, 16, .inl fk)), (rv, .inl (cL, 16, .inr (.inl fv))), (rw, .inl (cI, 16, .inl fw)), (ro, .inl (cB, 65536, .inl fo))]) [2, 3, 4, 5, 0, 1] (by decide) rfl
                  have hK9 := hK.sub (tys' := [(cB, .byte), (cI, .int), (cL, .long)]) [0, 1, 2] rfl
                  rw [show nI (([] : List Nat) ++ (nu_f (mb_v v) (dg_t (decide (v = 88))) 64 (ar_m (fk j) (fv j))).reverse).length = nI ((mk_o v k x B bp).getD []).length by rw [hmo]; rfl] at hP9 hD9
                  exact zz_zret hx hb hr hlocks d_Mo_makes_359 (by decide) hS (by first | exact Nat.le_refl _ | decide | omega | (dsimp only; omega)) (by first | exact Nat.le_refl _ | decide | omega | (dsimp only; omega)) (u_203, la, ca) ⟨by rw [hmo]; rfl, by rw [hmo]; exact hL_205⟩ hP9 hK9 hD9
              · skip
                have hbq : bp = true := by_z_t rfl c_116
                refine lv_aload_n hx hb d_Mo_makes_119 rfl (lv_at hl 3 rfl) ?_
                refine lv_bipush (v := 43) hx hb d_Mo_makes_120 (by decide) ?_
                have hPc := hP.sub (ws' := [(mo, .inr (8, [.int th, .int fd, .ref rt, .int mn, .ref rk, .ref rv, .ref rw, .ref ro, .int md, .ref rr, .int (nI ([] : List Nat).length), .ref ra, .long pz, .int kc, .ref rc, .ref rl, .ref rb, .int la, .int ca])), (ra, .inl (cB, 16400, .inl fa))]) [0, 1] rfl
                have hKc := hK.sub (tys' := [(cB, .byte)]) [0] rfl
                have hDc := hD.sub (ws' := [(mo, .inr (8, [.int th, .int fd, .ref rt, .int mn, .ref rk, .ref rv, .ref rw, .ref ro, .int md, .ref rr, .int (nI ([] : List Nat).length), .ref ra, .long pz, .int kc, .ref rc, .ref rl, .ref rb, .int la, .int ca])), (ra, .inl (cB, 16400, .inl fa))]) [0, 1] (by decide) rfl
                have hFc := va_free (wc := [(mo, .inr (8, [.int th, .int fd, .ref rt, .int mn, .ref rk, .ref rv, .ref rw, .ref ro, .int md, .ref rr, .int (nI ([] : List Nat).length), .ref ra, .long pz, .int kc, .ref rc, .ref rl, .ref rb, .int la, .int ca])), (ra, .inl (cB, 16400, .inl fa))]) hD hS hA [0, 1] rfl
                refine zz_callv (va_runV (As := [.int 43]) (rest := []) ⟨hx, hb, hml, hown, hg⟩ (c_Mo_put l dC dI mo rt rk rv rw ro rr ra rc rl rb th fd mn md (nI ([] : List Nat).length) pz kc la ca cB fa ([] : List Nat) 43 (by_nil _) (by (try simp only [List.length_append, List.length_cons, List.length_nil]); omega) s.heap.size) (cwV 1 hg (gi_V kw_863 kw_865 sw_16 kw_9 kw_866) rfl rfl rfl (by decide +kernel) ⟨Nat.le_of_ble_eq_true rfl, Nat.le_of_ble_eq_true rfl⟩) (zz_preV hPc hKc hDc _ (q0 := 0) (ci := 8) rfl rfl) rfl rfl hl.1 rfl (lv_room (Nat.le_of_ble_eq_true rfl)) d_Mo_makes_122 ⟨Nat.le_of_ble_eq_true rfl, Nat.le_of_ble_eq_true rfl⟩) hS hFc (fun u H1 k9 p9 d9 => va_join (wr := [(rk, .inl (cI, 16, .inl fk)), (rv, .inl (cL, 16, .inr (.inl fv))), (rw, .inl (cI, 16, .inl fw)), (ro, .inl (cB, 65536, .inl fo))]) hP hD [0, 1] [2, 3, 4, 5] rfl rfl (by decide) (by decide) k9 hFc p9 d9) (fun u H locs hw hP hD hK1 hS => ?_)
                obtain ⟨u_206, rfl⟩ : ∃ z, z = u := ⟨_, rfl⟩
                try dsimp only at hw
                have hP : va_P (dC, dI) vwCl [(rk, .inl (cI, 16, .inl fk)), (rv, .inl (cL, 16, .inr (.inl fv))), (rw, .inl (cI, 16, .inl fw)), (ro, .inl (cB, 65536, .inl fo)), (mo, .inr (8, [.int th, .int fd, .ref rt, .int mn, .ref rk, .ref rv, .ref rw, .ref ro, .int md, .ref rr, .int (nI (([] : List Nat) ++ [by_b 43]).length), .ref ra, .long pz, .int kc, .ref rc, .ref rl, .ref rb, .int la, .int ca])), (ra, .inl (cB, 16400, .inl u_206))] H := hP
                have hD : va_D A [(rk, .inl (cI, 16, .inl fk)), (rv, .inl (cL, 16, .inr (.inl fv))), (rw, .inl (cI, 16, .inl fw)), (ro, .inl (cB, 65536, .inl fo)), (mo, .inr (8, [.int th, .int fd, .ref rt, .int mn, .ref rk, .ref rv, .ref rw, .ref ro, .int md, .ref rr, .int (nI (([] : List Nat) ++ [by_b 43]).length), .ref ra, .long pz, .int kc, .ref rc, .ref rl, .ref rb, .int la, .int ca])), (ra, .inl (cB, 16400, .inl u_206))] := hD
                have hL_208 := hw
                refine lv_aload_n hx hb d_Mo_makes_125 rfl (lv_at hl 3 rfl) ?_
                refine lv_iload_n hx hb d_Mo_makes_126 rfl (lv_at hl 5 rfl) ?_
                refine lv_iload_n hx hb d_Mo_makes_127 rfl (lv_at hl 4 rfl) ?_
                have hPc := hP.sub (ws' := []) [] rfl
                have hKc := hK.sub (tys' := []) [] rfl
                refine vp_callSi (W.runS (As := [.int (sb_b v)]) (rest := [.int (nI j), .ref mo]) ⟨hx, hb, hml, hown, hg⟩ (c_Mo_baseOf l dC dI v hv) (va_cwS 1 hg (gi_S kw_856 kw_857 kw_9 kw_858) rfl rfl rfl (by decide +kernel) ⟨Nat.le_of_ble_eq_true rfl, Nat.le_of_ble_eq_true rfl⟩) (zz_prJS hPc hKc _) rfl rfl hl.1 rfl (lv_room (Nat.le_of_ble_eq_true rfl)) d_Mo_makes_128 ⟨Nat.le_of_ble_eq_true rfl, Nat.le_of_ble_eq_true rfl⟩) (fun r_209 hr_209 => ?_)
                subst hr_209
                refine lv_iload_n hx hb d_Mo_makes_131 rfl (lv_at hl 4 rfl) ?_
                refine lv_bipush (v := 88) hx hb d_Mo_makes_132 (by decide) ?_
                refine lv_icmp_ne (tgt := 141) hx hb d_Mo_makes_134 (by decide) (fun c_134 => ?_) (fun c_134 => ?_)
                · skip
                  have f_134 : v ≠ 88 := sb_e2 (k := 88) hv (by decide) c_134
                  refine lv_iconst (v := 0) hx hb d_Mo_makes_141 (by decide) ?_
                  refine lv_topi (fun y_210 ey_210 => ?_)
                  have ey_210 : y_210 = (by_z (decide (v = 88)) : Int32) := ey_210.trans (show 0 = by_z (decide (v = 88)) from (by rw [decide_eq_false f_134]; rfl))
                  subst ey_210
                  have hPc := hP.sub (ws' := [(mo, .inr (8, [.int th, .int fd, .ref rt, .int mn, .ref rk, .ref rv, .ref rw, .ref ro, .int md, .ref rr, .int (nI (([] : List Nat) ++ [by_b 43]).length), .ref ra, .long pz, .int kc, .ref rc, .ref rl, .ref rb, .int la, .int ca])), (ra, .inl (cB, 16400, .inl u_206)), (rk, .inl (cI, 16, .inl fk)), (rv, .inl (cL, 16, .inr (.inl fv)))]) [4, 5, 0, 1] rfl
                  have hKc := hK.sub (tys' := [(cB, .byte), (cI, .int), (cL, .long)]) [0, 1, 2] rfl
                  have hDc := hD.sub (ws' := [(mo, .inr (8, [.int th, .int fd, .ref rt, .int mn, .ref rk, .ref rv, .ref rw, .ref ro, .int md, .ref rr, .int (nI (([] : List Nat) ++ [by_b 43]).length), .ref ra, .long pz, .int kc, .ref rc, .ref rl, .ref rb, .int la, .int ca])), (ra, .inl (cB, 16400, .inl u_206)), (rk, .inl (cI, 16, .inl fk)), (rv, .inl (cL, 16, .inr (.inl fv)))]) [4, 5, 0, 1] (by decide) rfl
                  have hFc := va_free (wc := [(mo, .inr (8, [.int th, .int fd, .ref rt, .int mn, .ref rk, .ref rv, .ref rw, .ref ro, .int md, .ref rr, .int (nI (([] : List Nat) ++ [by_b 43]).length), .ref ra, .long pz, .int kc, .ref rc, .ref rl, .ref rb, .int la, .int ca])), (ra, .inl (cB, 16400, .inl u_206)), (rk, .inl (cI, 16, .inl fk)), (rv, .inl (cL, 16, .inr (.inl fv)))]) hD hS hA [4, 5, 0, 1] rfl
                  refine zz_callv (va_runV (As := [.int (nI j), .int (nI (mb_v v)), .int (by_z (decide (v = 88)))]) (rest := []) ⟨hx, hb, hml, hown, hg⟩ (c_Mo_sized l dC dI mo rt rk rv rw ro rr ra rc rl rb th fd mn md (nI (([] : List Nat) ++ [by_b 43]).length) pz kc la ca cB u_206 (([] : List Nat) ++ [by_b 43]) cI cL fk fv j (mb_v v) (decide (v = 88)) hL_208 (by (try simp only [List.length_append, List.length_cons, List.length_nil]); omega) hj (mb_s (n := 0) (by omega)).2.2.2.2.1 (mb_s (n := 0) (by omega)).2.2.2.2.2 H.size) (cwV 3 hg (gi_V kw_867 kw_869 sw_17 kw_9 kw_870) rfl rfl rfl (by decide +kernel) ⟨Nat.le_of_ble_eq_true rfl, Nat.le_of_ble_eq_true rfl⟩) (zz_preV hPc hKc hDc _ (q0 := 0) (ci := 8) rfl rfl) rfl rfl hl.1 rfl (lv_room (Nat.le_of_ble_eq_true rfl)) d_Mo_makes_142 ⟨Nat.le_of_ble_eq_true rfl, Nat.le_of_ble_eq_true rfl⟩) hS hFc (fun u H1 k9 p9 d9 => va_join (wr := [(rw, .inl (cI, 16, .inl fw)), (ro, .inl (cB, 65536, .inl fo))]) hP hD [4, 5, 0, 1] [2, 3] rfl rfl (by decide) (by decide) k9 hFc p9 d9) (fun u H locs hw hP hD hK1 hS => ?_)
                  obtain ⟨u_211, rfl⟩ : ∃ z, z = u := ⟨_, rfl⟩
                  try dsimp only at hw
                  have hP : va_P (dC, dI) vwCl [(rw, .inl (cI, 16, .inl fw)), (ro, .inl (cB, 65536, .inl fo)), (mo, .inr (8, [.int th, .int fd, .ref rt, .int mn, .ref rk, .ref rv, .ref rw, .ref ro, .int md, .ref rr, .int (nI ((([] : List Nat) ++ [by_b 43]) ++ (nu_f (mb_v v) (dg_t (decide (v = 88))) 64 (ar_m (fk j) (fv j))).reverse).length), .ref ra, .long pz, .int kc, .ref rc, .ref rl, .ref rb, .int la, .int ca])), (ra, .inl (cB, 16400, .inl u_211)), (rk, .inl (cI, 16, .inl fk)), (rv, .inl (cL, 16, .inr (.inl fv)))] H := hP
                  have hD : va_D A [(rw, .inl (cI, 16, .inl fw)), (ro, .inl (cB, 65536, .inl fo)), (mo, .inr (8, [.int th, .int fd, .ref rt, .int mn, .ref rk, .ref rv, .ref rw, .ref ro, .int md, .ref rr, .int (nI ((([] : List Nat) ++ [by_b 43]) ++ (nu_f (mb_v v) (dg_t (decide (v = 88))) 64 (ar_m (fk j) (fv j))).reverse).length), .ref ra, .long pz, .int kc, .ref rc, .ref rl, .ref rb, .int la, .int ca])), (ra, .inl (cB, 16400, .inl u_211)), (rk, .inl (cI, 16, .inl fk)), (rv, .inl (cL, 16, .inr (.inl fv)))] := hD
                  have hL_213 := hw
                  refine lv_goto (tgt := 358) hx hb d_Mo_makes_145 (by decide) ?_
                  refine lv_iconst (v := 1) hx hb d_Mo_makes_358 (by decide) ?_
                  have hmo : (mk_o v k x B bp) = some ((([] : List Nat) ++ [by_b 43]) ++ (nu_f (mb_v v) (dg_t (decide (v = 88))) 64 (ar_m (fk j) (fv j))).reverse) := (by rw [hk9, hmg.2.1]; exact mk_b2 hkn (by omega) hbb hbq)
                  have hP9 := hP.sub (ws' := [(mo, .inr (8, [.int th, .int fd, .ref rt, .int mn, .ref rk, .ref rv, .ref rw, .ref ro, .int md, .ref rr, .int (nI ((([] : List Nat) ++ [by_b 43]) ++ (nu_f (mb_v v) (dg_t (decide (v = 88))) 64 (ar_m (fk j) (fv j))).reverse).length), .ref ra, .long pz, .int kc, .ref rc, .ref rl, .ref rb, .int la, .int ca])), (ra, .inl (cB, 16400, .inl u_211)), (rk, .inl (cI, 16, .inl fk)), (rv, .inl (cL, 16, .inr (.inl fv))), (rw, .inl (cI, 16, .inl fw)), (ro, .inl (cB, 65536, .inl fo))]) [2, 3, 4, 5, 0, 1] rfl
                  have hD9 := hD.sub (ws' := [(mo, .inr (8, [.int th, .int fd, .ref rt, .int mn, .ref rk, .ref rv, .ref rw, .ref ro, .int md, .ref rr, .int (nI ((([] : List Nat) ++ [by_b 43]) ++ (nu_f (mb_v v) (dg_t (decide (v = 88))) 64 (ar_m (fk j) (fv j))).reverse).length), .ref ra, .long pz, .int kc, .ref rc, .ref rl, .ref rb, .int la, .int ca])), (ra, .inl (cB, 16400, .inl u_211)), (rk, .inl (cI, 16, .inl fk)), (rv, .inl (cL, 16, .inr (.inl fv))), (rw, .inl (cI, 16, .inl fw)), (ro, .inl (cB, 65536, .inl fo))]) [2, 3, 4, 5, 0, 1] (by decide) rfl
                  have hK9 := hK.sub (tys' := [(cB, .byte), (cI, .int), (cL, .long)]) [0, 1, 2] rfl
                  rw [show nI ((([] : List Nat) ++ [by_b 43]) ++ (nu_f (mb_v v) (dg_t (decide (v = 88))) 64 (ar_m (fk j) (fv j))).reverse).length = nI ((mk_o v k x B bp).getD []).length by rw [hmo]; rfl] at hP9 hD9
                  exact zz_zret hx hb hr hlocks d_Mo_makes_359 (by decide) hS (by first | exact Nat.le_refl _ | decide | omega | (dsimp only; omega)) (by first | exact Nat.le_refl _ | decide | omega | (dsimp only; omega)) (u_211, la, ca) ⟨by rw [hmo]; rfl, by rw [hmo]; exact hL_213⟩ hP9 hK9 hD9
                · skip
                  have f_134 : v = 88 := sb_e1 (k := 88) hv (by decide) c_134
                  refine lv_iconst (v := 1) hx hb d_Mo_makes_137 (by decide) ?_
                  refine lv_goto (tgt := 142) hx hb d_Mo_makes_138 (by decide) ?_
                  refine lv_topi (fun y_214 ey_214 => ?_)
                  have ey_214 : y_214 = (by_z (decide (v = 88)) : Int32) := ey_214.trans (show 1 = by_z (decide (v = 88)) from (by rw [decide_eq_true f_134]; rfl))
                  subst ey_214
                  have hPc := hP.sub (ws' := [(mo, .inr (8, [.int th, .int fd, .ref rt, .int mn, .ref rk, .ref rv, .ref rw, .ref ro, .int md, .ref rr, .int (nI (([] : List Nat) ++ [by_b 43]).length), .ref ra, .long pz, .int kc, .ref rc, .ref rl, .ref rb, .int la, .int ca])), (ra, .inl (cB, 16400, .inl u_206)), (rk, .inl (cI, 16, .inl fk)), (rv, .inl (cL, 16, .inr (.inl fv)))]) [4, 5, 0, 1] rfl
                  have hKc := hK.sub (tys' := [(cB, .byte), (cI, .int), (cL, .long)]) [0, 1, 2] rfl
                  have hDc := hD.sub (ws' := [(mo, .inr (8, [.int th, .int fd, .ref rt, .int mn, .ref rk, .ref rv, .ref rw, .ref ro, .int md, .ref rr, .int (nI (([] : List Nat) ++ [by_b 43]).length), .ref ra, .long pz, .int kc, .ref rc, .ref rl, .ref rb, .int la, .int ca])), (ra, .inl (cB, 16400, .inl u_206)), (rk, .inl (cI, 16, .inl fk)), (rv, .inl (cL, 16, .inr (.inl fv)))]) [4, 5, 0, 1] (by decide) rfl
                  have hFc := va_free (wc := [(mo, .inr (8, [.int th, .int fd, .ref rt, .int mn, .ref rk, .ref rv, .ref rw, .ref ro, .int md, .ref rr, .int (nI (([] : List Nat) ++ [by_b 43]).length), .ref ra, .long pz, .int kc, .ref rc, .ref rl, .ref rb, .int la, .int ca])), (ra, .inl (cB, 16400, .inl u_206)), (rk, .inl (cI, 16, .inl fk)), (rv, .inl (cL, 16, .inr (.inl fv)))]) hD hS hA [4, 5, 0, 1] rfl
                  refine zz_callv (va_runV (As := [.int (nI j), .int (nI (mb_v v)), .int (by_z (decide (v = 88)))]) (rest := []) ⟨hx, hb, hml, hown, hg⟩ (c_Mo_sized l dC dI mo rt rk rv rw ro rr ra rc rl rb th fd mn md (nI (([] : List Nat) ++ [by_b 43]).length) pz kc la ca cB u_206 (([] : List Nat) ++ [by_b 43]) cI cL fk fv j (mb_v v) (decide (v = 88)) hL_208 (by (try simp only [List.length_append, List.length_cons, List.length_nil]); omega) hj (mb_s (n := 0) (by omega)).2.2.2.2.1 (mb_s (n := 0) (by omega)).2.2.2.2.2 H.size) (cwV 3 hg (gi_V kw_867 kw_869 sw_17 kw_9 kw_870) rfl rfl rfl (by decide +kernel) ⟨Nat.le_of_ble_eq_true rfl, Nat.le_of_ble_eq_true rfl⟩) (zz_preV hPc hKc hDc _ (q0 := 0) (ci := 8) rfl rfl) rfl rfl hl.1 rfl (lv_room (Nat.le_of_ble_eq_true rfl)) d_Mo_makes_142 ⟨Nat.le_of_ble_eq_true rfl, Nat.le_of_ble_eq_true rfl⟩) hS hFc (fun u H1 k9 p9 d9 => va_join (wr := [(rw, .inl (cI, 16, .inl fw)), (ro, .inl (cB, 65536, .inl fo))]) hP hD [4, 5, 0, 1] [2, 3] rfl rfl (by decide) (by decide) k9 hFc p9 d9) (fun u H locs hw hP hD hK1 hS => ?_)
                  obtain ⟨u_215, rfl⟩ : ∃ z, z = u := ⟨_, rfl⟩
                  try dsimp only at hw
                  have hP : va_P (dC, dI) vwCl [(rw, .inl (cI, 16, .inl fw)), (ro, .inl (cB, 65536, .inl fo)), (mo, .inr (8, [.int th, .int fd, .ref rt, .int mn, .ref rk, .ref rv, .ref rw, .ref ro, .int md, .ref rr, .int (nI ((([] : List Nat) ++ [by_b 43]) ++ (nu_f (mb_v v) (dg_t (decide (v = 88))) 64 (ar_m (fk j) (fv j))).reverse).length), .ref ra, .long pz, .int kc, .ref rc, .ref rl, .ref rb, .int la, .int ca])), (ra, .inl (cB, 16400, .inl u_215)), (rk, .inl (cI, 16, .inl fk)), (rv, .inl (cL, 16, .inr (.inl fv)))] H := hP
                  have hD : va_D A [(rw, .inl (cI, 16, .inl fw)), (ro, .inl (cB, 65536, .inl fo)), (mo, .inr (8, [.int th, .int fd, .ref rt, .int mn, .ref rk, .ref rv, .ref rw, .ref ro, .int md, .ref rr, .int (nI ((([] : List Nat) ++ [by_b 43]) ++ (nu_f (mb_v v) (dg_t (decide (v = 88))) 64 (ar_m (fk j) (fv j))).reverse).length), .ref ra, .long pz, .int kc, .ref rc, .ref rl, .ref rb, .int la, .int ca])), (ra, .inl (cB, 16400, .inl u_215)), (rk, .inl (cI, 16, .inl fk)), (rv, .inl (cL, 16, .inr (.inl fv)))] := hD
                  have hL_217 := hw
                  refine lv_goto (tgt := 358) hx hb d_Mo_makes_145 (by decide) ?_
                  refine lv_iconst (v := 1) hx hb d_Mo_makes_358 (by decide) ?_
                  have hmo : (mk_o v k x B bp) = some ((([] : List Nat) ++ [by_b 43]) ++ (nu_f (mb_v v) (dg_t (decide (v = 88))) 64 (ar_m (fk j) (fv j))).reverse) := (by rw [hk9, hmg.2.1]; exact mk_b2 hkn (by omega) hbb hbq)
                  have hP9 := hP.sub (ws' := [(mo, .inr (8, [.int th, .int fd, .ref rt, .int mn, .ref rk, .ref rv, .ref rw, .ref ro, .int md, .ref rr, .int (nI ((([] : List Nat) ++ [by_b 43]) ++ (nu_f (mb_v v) (dg_t (decide (v = 88))) 64 (ar_m (fk j) (fv j))).reverse).length), .ref ra, .long pz, .int kc, .ref rc, .ref rl, .ref rb, .int la, .int ca])), (ra, .inl (cB, 16400, .inl u_215)), (rk, .inl (cI, 16, .inl fk)), (rv, .inl (cL, 16, .inr (.inl fv))), (rw, .inl (cI, 16, .inl fw)), (ro, .inl (cB, 65536, .inl fo))]) [2, 3, 4, 5, 0, 1] rfl
                  have hD9 := hD.sub (ws' := [(mo, .inr (8, [.int th, .int fd, .ref rt, .int mn, .ref rk, .ref rv, .ref rw, .ref ro, .int md, .ref rr, .int (nI ((([] : List Nat) ++ [by_b 43]) ++ (nu_f (mb_v v) (dg_t (decide (v = 88))) 64 (ar_m (fk j) (fv j))).reverse).length), .ref ra, .long pz, .int kc, .ref rc, .ref rl, .ref rb, .int la, .int ca])), (ra, .inl (cB, 16400, .inl u_215)), (rk, .inl (cI, 16, .inl fk)), (rv, .inl (cL, 16, .inr (.inl fv))), (rw, .inl (cI, 16, .inl fw)), (ro, .inl (cB, 65536, .inl fo))]) [2, 3, 4, 5, 0, 1] (by decide) rfl
                  have hK9 := hK.sub (tys' := [(cB, .byte), (cI, .int), (cL, .long)]) [0, 1, 2] rfl
                  rw [show nI ((([] : List Nat) ++ [by_b 43]) ++ (nu_f (mb_v v) (dg_t (decide (v = 88))) 64 (ar_m (fk j) (fv j))).reverse).length = nI ((mk_o v k x B bp).getD []).length by rw [hmo]; rfl] at hP9 hD9
                  exact zz_zret hx hb hr hlocks d_Mo_makes_359 (by decide) hS (by first | exact Nat.le_refl _ | decide | omega | (dsimp only; omega)) (by first | exact Nat.le_refl _ | decide | omega | (dsimp only; omega)) (u_215, la, ca) ⟨by rw [hmo]; rfl, by rw [hmo]; exact hL_217⟩ hP9 hK9 hD9
            · skip
              have hbb : ar_b (nI k) x = true := by_z_t hr_196 c_103
              refine lv_aload_n hx hb d_Mo_makes_106 rfl (lv_at hl 3 rfl) ?_
              refine lv_bipush (v := 45) hx hb d_Mo_makes_107 (by decide) ?_
              have hPc := hP.sub (ws' := [(mo, .inr (8, [.int th, .int fd, .ref rt, .int mn, .ref rk, .ref rv, .ref rw, .ref ro, .int md, .ref rr, .int (nI ([] : List Nat).length), .ref ra, .long pz, .int kc, .ref rc, .ref rl, .ref rb, .int la, .int ca])), (ra, .inl (cB, 16400, .inl fa))]) [0, 1] rfl
              have hKc := hK.sub (tys' := [(cB, .byte)]) [0] rfl
              have hDc := hD.sub (ws' := [(mo, .inr (8, [.int th, .int fd, .ref rt, .int mn, .ref rk, .ref rv, .ref rw, .ref ro, .int md, .ref rr, .int (nI ([] : List Nat).length), .ref ra, .long pz, .int kc, .ref rc, .ref rl, .ref rb, .int la, .int ca])), (ra, .inl (cB, 16400, .inl fa))]) [0, 1] (by decide) rfl
              have hFc := va_free (wc := [(mo, .inr (8, [.int th, .int fd, .ref rt, .int mn, .ref rk, .ref rv, .ref rw, .ref ro, .int md, .ref rr, .int (nI ([] : List Nat).length), .ref ra, .long pz, .int kc, .ref rc, .ref rl, .ref rb, .int la, .int ca])), (ra, .inl (cB, 16400, .inl fa))]) hD hS hA [0, 1] rfl
              refine zz_callv (va_runV (As := [.int 45]) (rest := []) ⟨hx, hb, hml, hown, hg⟩ (c_Mo_put l dC dI mo rt rk rv rw ro rr ra rc rl rb th fd mn md (nI ([] : List Nat).length) pz kc la ca cB fa ([] : List Nat) 45 (by_nil _) (by (try simp only [List.length_append, List.length_cons, List.length_nil]); omega) s.heap.size) (cwV 1 hg (gi_V kw_863 kw_865 sw_16 kw_9 kw_866) rfl rfl rfl (by decide +kernel) ⟨Nat.le_of_ble_eq_true rfl, Nat.le_of_ble_eq_true rfl⟩) (zz_preV hPc hKc hDc _ (q0 := 0) (ci := 8) rfl rfl) rfl rfl hl.1 rfl (lv_room (Nat.le_of_ble_eq_true rfl)) d_Mo_makes_109 ⟨Nat.le_of_ble_eq_true rfl, Nat.le_of_ble_eq_true rfl⟩) hS hFc (fun u H1 k9 p9 d9 => va_join (wr := [(rk, .inl (cI, 16, .inl fk)), (rv, .inl (cL, 16, .inr (.inl fv))), (rw, .inl (cI, 16, .inl fw)), (ro, .inl (cB, 65536, .inl fo))]) hP hD [0, 1] [2, 3, 4, 5] rfl rfl (by decide) (by decide) k9 hFc p9 d9) (fun u H locs hw hP hD hK1 hS => ?_)
              obtain ⟨u_218, rfl⟩ : ∃ z, z = u := ⟨_, rfl⟩
              try dsimp only at hw
              have hP : va_P (dC, dI) vwCl [(rk, .inl (cI, 16, .inl fk)), (rv, .inl (cL, 16, .inr (.inl fv))), (rw, .inl (cI, 16, .inl fw)), (ro, .inl (cB, 65536, .inl fo)), (mo, .inr (8, [.int th, .int fd, .ref rt, .int mn, .ref rk, .ref rv, .ref rw, .ref ro, .int md, .ref rr, .int (nI (([] : List Nat) ++ [by_b 45]).length), .ref ra, .long pz, .int kc, .ref rc, .ref rl, .ref rb, .int la, .int ca])), (ra, .inl (cB, 16400, .inl u_218))] H := hP
              have hD : va_D A [(rk, .inl (cI, 16, .inl fk)), (rv, .inl (cL, 16, .inr (.inl fv))), (rw, .inl (cI, 16, .inl fw)), (ro, .inl (cB, 65536, .inl fo)), (mo, .inr (8, [.int th, .int fd, .ref rt, .int mn, .ref rk, .ref rv, .ref rw, .ref ro, .int md, .ref rr, .int (nI (([] : List Nat) ++ [by_b 45]).length), .ref ra, .long pz, .int kc, .ref rc, .ref rl, .ref rb, .int la, .int ca])), (ra, .inl (cB, 16400, .inl u_218))] := hD
              have hL_220 := hw
              refine lv_goto (tgt := 125) hx hb d_Mo_makes_112 (by decide) ?_
              refine lv_aload_n hx hb d_Mo_makes_125 rfl (lv_at hl 3 rfl) ?_
              refine lv_iload_n hx hb d_Mo_makes_126 rfl (lv_at hl 5 rfl) ?_
              refine lv_iload_n hx hb d_Mo_makes_127 rfl (lv_at hl 4 rfl) ?_
              have hPc := hP.sub (ws' := []) [] rfl
              have hKc := hK.sub (tys' := []) [] rfl
              refine vp_callSi (W.runS (As := [.int (sb_b v)]) (rest := [.int (nI j), .ref mo]) ⟨hx, hb, hml, hown, hg⟩ (c_Mo_baseOf l dC dI v hv) (va_cwS 1 hg (gi_S kw_856 kw_857 kw_9 kw_858) rfl rfl rfl (by decide +kernel) ⟨Nat.le_of_ble_eq_true rfl, Nat.le_of_ble_eq_true rfl⟩) (zz_prJS hPc hKc _) rfl rfl hl.1 rfl (lv_room (Nat.le_of_ble_eq_true rfl)) d_Mo_makes_128 ⟨Nat.le_of_ble_eq_true rfl, Nat.le_of_ble_eq_true rfl⟩) (fun r_221 hr_221 => ?_)
              subst hr_221
              refine lv_iload_n hx hb d_Mo_makes_131 rfl (lv_at hl 4 rfl) ?_
              refine lv_bipush (v := 88) hx hb d_Mo_makes_132 (by decide) ?_
              refine lv_icmp_ne (tgt := 141) hx hb d_Mo_makes_134 (by decide) (fun c_134 => ?_) (fun c_134 => ?_)
              · skip
                have f_134 : v ≠ 88 := sb_e2 (k := 88) hv (by decide) c_134
                refine lv_iconst (v := 0) hx hb d_Mo_makes_141 (by decide) ?_
                refine lv_topi (fun y_222 ey_222 => ?_)
                have ey_222 : y_222 = (by_z (decide (v = 88)) : Int32) := ey_222.trans (show 0 = by_z (decide (v = 88)) from (by rw [decide_eq_false f_134]; rfl))
                subst ey_222
                have hPc := hP.sub (ws' := [(mo, .inr (8, [.int th, .int fd, .ref rt, .int mn, .ref rk, .ref rv, .ref rw, .ref ro, .int md, .ref rr, .int (nI (([] : List Nat) ++ [by_b 45]).length), .ref ra, .long pz, .int kc, .ref rc, .ref rl, .ref rb, .int la, .int ca])), (ra, .inl (cB, 16400, .inl u_218)), (rk, .inl (cI, 16, .inl fk)), (rv, .inl (cL, 16, .inr (.inl fv)))]) [4, 5, 0, 1] rfl
                have hKc := hK.sub (tys' := [(cB, .byte), (cI, .int), (cL, .long)]) [0, 1, 2] rfl
                have hDc := hD.sub (ws' := [(mo, .inr (8, [.int th, .int fd, .ref rt, .int mn, .ref rk, .ref rv, .ref rw, .ref ro, .int md, .ref rr, .int (nI (([] : List Nat) ++ [by_b 45]).length), .ref ra, .long pz, .int kc, .ref rc, .ref rl, .ref rb, .int la, .int ca])), (ra, .inl (cB, 16400, .inl u_218)), (rk, .inl (cI, 16, .inl fk)), (rv, .inl (cL, 16, .inr (.inl fv)))]) [4, 5, 0, 1] (by decide) rfl
                have hFc := va_free (wc := [(mo, .inr (8, [.int th, .int fd, .ref rt, .int mn, .ref rk, .ref rv, .ref rw, .ref ro, .int md, .ref rr, .int (nI (([] : List Nat) ++ [by_b 45]).length), .ref ra, .long pz, .int kc, .ref rc, .ref rl, .ref rb, .int la, .int ca])), (ra, .inl (cB, 16400, .inl u_218)), (rk, .inl (cI, 16, .inl fk)), (rv, .inl (cL, 16, .inr (.inl fv)))]) hD hS hA [4, 5, 0, 1] rfl
                refine zz_callv (va_runV (As := [.int (nI j), .int (nI (mb_v v)), .int (by_z (decide (v = 88)))]) (rest := []) ⟨hx, hb, hml, hown, hg⟩ (c_Mo_sized l dC dI mo rt rk rv rw ro rr ra rc rl rb th fd mn md (nI (([] : List Nat) ++ [by_b 45]).length) pz kc la ca cB u_218 (([] : List Nat) ++ [by_b 45]) cI cL fk fv j (mb_v v) (decide (v = 88)) hL_220 (by (try simp only [List.length_append, List.length_cons, List.length_nil]); omega) hj (mb_s (n := 0) (by omega)).2.2.2.2.1 (mb_s (n := 0) (by omega)).2.2.2.2.2 H.size) (cwV 3 hg (gi_V kw_867 kw_869 sw_17 kw_9 kw_870) rfl rfl rfl (by decide +kernel) ⟨Nat.le_of_ble_eq_true rfl, Nat.le_of_ble_eq_true rfl⟩) (zz_preV hPc hKc hDc _ (q0 := 0) (ci := 8) rfl rfl) rfl rfl hl.1 rfl (lv_room (Nat.le_of_ble_eq_true rfl)) d_Mo_makes_142 ⟨Nat.le_of_ble_eq_true rfl, Nat.le_of_ble_eq_true rfl⟩) hS hFc (fun u H1 k9 p9 d9 => va_join (wr := [(rw, .inl (cI, 16, .inl fw)), (ro, .inl (cB, 65536, .inl fo))]) hP hD [4, 5, 0, 1] [2, 3] rfl rfl (by decide) (by decide) k9 hFc p9 d9) (fun u H locs hw hP hD hK1 hS => ?_)
                obtain ⟨u_223, rfl⟩ : ∃ z, z = u := ⟨_, rfl⟩
                try dsimp only at hw
                have hP : va_P (dC, dI) vwCl [(rw, .inl (cI, 16, .inl fw)), (ro, .inl (cB, 65536, .inl fo)), (mo, .inr (8, [.int th, .int fd, .ref rt, .int mn, .ref rk, .ref rv, .ref rw, .ref ro, .int md, .ref rr, .int (nI ((([] : List Nat) ++ [by_b 45]) ++ (nu_f (mb_v v) (dg_t (decide (v = 88))) 64 (ar_m (fk j) (fv j))).reverse).length), .ref ra, .long pz, .int kc, .ref rc, .ref rl, .ref rb, .int la, .int ca])), (ra, .inl (cB, 16400, .inl u_223)), (rk, .inl (cI, 16, .inl fk)), (rv, .inl (cL, 16, .inr (.inl fv)))] H := hP
                have hD : va_D A [(rw, .inl (cI, 16, .inl fw)), (ro, .inl (cB, 65536, .inl fo)), (mo, .inr (8, [.int th, .int fd, .ref rt, .int mn, .ref rk, .ref rv, .ref rw, .ref ro, .int md, .ref rr, .int (nI ((([] : List Nat) ++ [by_b 45]) ++ (nu_f (mb_v v) (dg_t (decide (v = 88))) 64 (ar_m (fk j) (fv j))).reverse).length), .ref ra, .long pz, .int kc, .ref rc, .ref rl, .ref rb, .int la, .int ca])), (ra, .inl (cB, 16400, .inl u_223)), (rk, .inl (cI, 16, .inl fk)), (rv, .inl (cL, 16, .inr (.inl fv)))] := hD
                have hL_225 := hw
                refine lv_goto (tgt := 358) hx hb d_Mo_makes_145 (by decide) ?_
                refine lv_iconst (v := 1) hx hb d_Mo_makes_358 (by decide) ?_
                have hmo : (mk_o v k x B bp) = some ((([] : List Nat) ++ [by_b 45]) ++ (nu_f (mb_v v) (dg_t (decide (v = 88))) 64 (ar_m (fk j) (fv j))).reverse) := (by rw [hk9, hmg.2.1]; exact mk_b1 hkn (by omega) hbb)
                have hP9 := hP.sub (ws' := [(mo, .inr (8, [.int th, .int fd, .ref rt, .int mn, .ref rk, .ref rv, .ref rw, .ref ro, .int md, .ref rr, .int (nI ((([] : List Nat) ++ [by_b 45]) ++ (nu_f (mb_v v) (dg_t (decide (v = 88))) 64 (ar_m (fk j) (fv j))).reverse).length), .ref ra, .long pz, .int kc, .ref rc, .ref rl, .ref rb, .int la, .int ca])), (ra, .inl (cB, 16400, .inl u_223)), (rk, .inl (cI, 16, .inl fk)), (rv, .inl (cL, 16, .inr (.inl fv))), (rw, .inl (cI, 16, .inl fw)), (ro, .inl (cB, 65536, .inl fo))]) [2, 3, 4, 5, 0, 1] rfl
                have hD9 := hD.sub (ws' := [(mo, .inr (8, [.int th, .int fd, .ref rt, .int mn, .ref rk, .ref rv, .ref rw, .ref ro, .int md, .ref rr, .int (nI ((([] : List Nat) ++ [by_b 45]) ++ (nu_f (mb_v v) (dg_t (decide (v = 88))) 64 (ar_m (fk j) (fv j))).reverse).length), .ref ra, .long pz, .int kc, .ref rc, .ref rl, .ref rb, .int la, .int ca])), (ra, .inl (cB, 16400, .inl u_223)), (rk, .inl (cI, 16, .inl fk)), (rv, .inl (cL, 16, .inr (.inl fv))), (rw, .inl (cI, 16, .inl fw)), (ro, .inl (cB, 65536, .inl fo))]) [2, 3, 4, 5, 0, 1] (by decide) rfl
                have hK9 := hK.sub (tys' := [(cB, .byte), (cI, .int), (cL, .long)]) [0, 1, 2] rfl
                rw [show nI ((([] : List Nat) ++ [by_b 45]) ++ (nu_f (mb_v v) (dg_t (decide (v = 88))) 64 (ar_m (fk j) (fv j))).reverse).length = nI ((mk_o v k x B bp).getD []).length by rw [hmo]; rfl] at hP9 hD9
                exact zz_zret hx hb hr hlocks d_Mo_makes_359 (by decide) hS (by first | exact Nat.le_refl _ | decide | omega | (dsimp only; omega)) (by first | exact Nat.le_refl _ | decide | omega | (dsimp only; omega)) (u_223, la, ca) ⟨by rw [hmo]; rfl, by rw [hmo]; exact hL_225⟩ hP9 hK9 hD9
              · skip
                have f_134 : v = 88 := sb_e1 (k := 88) hv (by decide) c_134
                refine lv_iconst (v := 1) hx hb d_Mo_makes_137 (by decide) ?_
                refine lv_goto (tgt := 142) hx hb d_Mo_makes_138 (by decide) ?_
                refine lv_topi (fun y_226 ey_226 => ?_)
                have ey_226 : y_226 = (by_z (decide (v = 88)) : Int32) := ey_226.trans (show 1 = by_z (decide (v = 88)) from (by rw [decide_eq_true f_134]; rfl))
                subst ey_226
                have hPc := hP.sub (ws' := [(mo, .inr (8, [.int th, .int fd, .ref rt, .int mn, .ref rk, .ref rv, .ref rw, .ref ro, .int md, .ref rr, .int (nI (([] : List Nat) ++ [by_b 45]).length), .ref ra, .long pz, .int kc, .ref rc, .ref rl, .ref rb, .int la, .int ca])), (ra, .inl (cB, 16400, .inl u_218)), (rk, .inl (cI, 16, .inl fk)), (rv, .inl (cL, 16, .inr (.inl fv)))]) [4, 5, 0, 1] rfl
                have hKc := hK.sub (tys' := [(cB, .byte), (cI, .int), (cL, .long)]) [0, 1, 2] rfl
                have hDc := hD.sub (ws' := [(mo, .inr (8, [.int th, .int fd, .ref rt, .int mn, .ref rk, .ref rv, .ref rw, .ref ro, .int md, .ref rr, .int (nI (([] : List Nat) ++ [by_b 45]).length), .ref ra, .long pz, .int kc, .ref rc, .ref rl, .ref rb, .int la, .int ca])), (ra, .inl (cB, 16400, .inl u_218)), (rk, .inl (cI, 16, .inl fk)), (rv, .inl (cL, 16, .inr (.inl fv)))]) [4, 5, 0, 1] (by decide) rfl
                have hFc := va_free (wc := [(mo, .inr (8, [.int th, .int fd, .ref rt, .int mn, .ref rk, .ref rv, .ref rw, .ref ro, .int md, .ref rr, .int (nI (([] : List Nat) ++ [by_b 45]).length), .ref ra, .long pz, .int kc, .ref rc, .ref rl, .ref rb, .int la, .int ca])), (ra, .inl (cB, 16400, .inl u_218)), (rk, .inl (cI, 16, .inl fk)), (rv, .inl (cL, 16, .inr (.inl fv)))]) hD hS hA [4, 5, 0, 1] rfl
                refine zz_callv (va_runV (As := [.int (nI j), .int (nI (mb_v v)), .int (by_z (decide (v = 88)))]) (rest := []) ⟨hx, hb, hml, hown, hg⟩ (c_Mo_sized l dC dI mo rt rk rv rw ro rr ra rc rl rb th fd mn md (nI (([] : List Nat) ++ [by_b 45]).length) pz kc la ca cB u_218 (([] : List Nat) ++ [by_b 45]) cI cL fk fv j (mb_v v) (decide (v = 88)) hL_220 (by (try simp only [List.length_append, List.length_cons, List.length_nil]); omega) hj (mb_s (n := 0) (by omega)).2.2.2.2.1 (mb_s (n := 0) (by omega)).2.2.2.2.2 H.size) (cwV 3 hg (gi_V kw_867 kw_869 sw_17 kw_9 kw_870) rfl rfl rfl (by decide +kernel) ⟨Nat.le_of_ble_eq_true rfl, Nat.le_of_ble_eq_true rfl⟩) (zz_preV hPc hKc hDc _ (q0 := 0) (ci := 8) rfl rfl) rfl rfl hl.1 rfl (lv_room (Nat.le_of_ble_eq_true rfl)) d_Mo_makes_142 ⟨Nat.le_of_ble_eq_true rfl, Nat.le_of_ble_eq_true rfl⟩) hS hFc (fun u H1 k9 p9 d9 => va_join (wr := [(rw, .inl (cI, 16, .inl fw)), (ro, .inl (cB, 65536, .inl fo))]) hP hD [4, 5, 0, 1] [2, 3] rfl rfl (by decide) (by decide) k9 hFc p9 d9) (fun u H locs hw hP hD hK1 hS => ?_)
                obtain ⟨u_227, rfl⟩ : ∃ z, z = u := ⟨_, rfl⟩
                try dsimp only at hw
                have hP : va_P (dC, dI) vwCl [(rw, .inl (cI, 16, .inl fw)), (ro, .inl (cB, 65536, .inl fo)), (mo, .inr (8, [.int th, .int fd, .ref rt, .int mn, .ref rk, .ref rv, .ref rw, .ref ro, .int md, .ref rr, .int (nI ((([] : List Nat) ++ [by_b 45]) ++ (nu_f (mb_v v) (dg_t (decide (v = 88))) 64 (ar_m (fk j) (fv j))).reverse).length), .ref ra, .long pz, .int kc, .ref rc, .ref rl, .ref rb, .int la, .int ca])), (ra, .inl (cB, 16400, .inl u_227)), (rk, .inl (cI, 16, .inl fk)), (rv, .inl (cL, 16, .inr (.inl fv)))] H := hP
                have hD : va_D A [(rw, .inl (cI, 16, .inl fw)), (ro, .inl (cB, 65536, .inl fo)), (mo, .inr (8, [.int th, .int fd, .ref rt, .int mn, .ref rk, .ref rv, .ref rw, .ref ro, .int md, .ref rr, .int (nI ((([] : List Nat) ++ [by_b 45]) ++ (nu_f (mb_v v) (dg_t (decide (v = 88))) 64 (ar_m (fk j) (fv j))).reverse).length), .ref ra, .long pz, .int kc, .ref rc, .ref rl, .ref rb, .int la, .int ca])), (ra, .inl (cB, 16400, .inl u_227)), (rk, .inl (cI, 16, .inl fk)), (rv, .inl (cL, 16, .inr (.inl fv)))] := hD
                have hL_229 := hw
                refine lv_goto (tgt := 358) hx hb d_Mo_makes_145 (by decide) ?_
                refine lv_iconst (v := 1) hx hb d_Mo_makes_358 (by decide) ?_
                have hmo : (mk_o v k x B bp) = some ((([] : List Nat) ++ [by_b 45]) ++ (nu_f (mb_v v) (dg_t (decide (v = 88))) 64 (ar_m (fk j) (fv j))).reverse) := (by rw [hk9, hmg.2.1]; exact mk_b1 hkn (by omega) hbb)
                have hP9 := hP.sub (ws' := [(mo, .inr (8, [.int th, .int fd, .ref rt, .int mn, .ref rk, .ref rv, .ref rw, .ref ro, .int md, .ref rr, .int (nI ((([] : List Nat) ++ [by_b 45]) ++ (nu_f (mb_v v) (dg_t (decide (v = 88))) 64 (ar_m (fk j) (fv j))).reverse).length), .ref ra, .long pz, .int kc, .ref rc, .ref rl, .ref rb, .int la, .int ca])), (ra, .inl (cB, 16400, .inl u_227)), (rk, .inl (cI, 16, .inl fk)), (rv, .inl (cL, 16, .inr (.inl fv))), (rw, .inl (cI, 16, .inl fw)), (ro, .inl (cB, 65536, .inl fo))]) [2, 3, 4, 5, 0, 1] rfl
                have hD9 := hD.sub (ws' := [(mo, .inr (8, [.int th, .int fd, .ref rt, .int mn, .ref rk, .ref rv, .ref rw, .ref ro, .int md, .ref rr, .int (nI ((([] : List Nat) ++ [by_b 45]) ++ (nu_f (mb_v v) (dg_t (decide (v = 88))) 64 (ar_m (fk j) (fv j))).reverse).length), .ref ra, .long pz, .int kc, .ref rc, .ref rl, .ref rb, .int la, .int ca])), (ra, .inl (cB, 16400, .inl u_227)), (rk, .inl (cI, 16, .inl fk)), (rv, .inl (cL, 16, .inr (.inl fv))), (rw, .inl (cI, 16, .inl fw)), (ro, .inl (cB, 65536, .inl fo))]) [2, 3, 4, 5, 0, 1] (by decide) rfl
                have hK9 := hK.sub (tys' := [(cB, .byte), (cI, .int), (cL, .long)]) [0, 1, 2] rfl
                rw [show nI ((([] : List Nat) ++ [by_b 45]) ++ (nu_f (mb_v v) (dg_t (decide (v = 88))) 64 (ar_m (fk j) (fv j))).reverse).length = nI ((mk_o v k x B bp).getD []).length by rw [hmo]; rfl] at hP9 hD9
                exact zz_zret hx hb hr hlocks d_Mo_makes_359 (by decide) hS (by first | exact Nat.le_refl _ | decide | omega | (dsimp only; omega)) (by first | exact Nat.le_refl _ | decide | omega | (dsimp only; omega)) (u_227, la, ca) ⟨by rw [hmo]; rfl, by rw [hmo]; exact hL_229⟩ hP9 hK9 hD9
        · skip
          have hcn : x.toInt32 = nI (ut_cn x.toInt) := ut_ct (by_z_t hr_174 c_69)
          refine lv_aload_n hx hb d_Mo_makes_72 rfl (lv_at hl 2 rfl) ?_
          refine va_get (D := (dC, dI)) (ci := 8) (v := .ref rv) (C := "TextForgeModel") (T := TX8) (N := 19) hx hb hg iwX8 hown hK hP 0 rfl rfl 5 (by decide) (hg _ kw_731) (fun _ h9 => h9) rfl d_Mo_makes_73 ?_
          refine lv_iload_n hx hb d_Mo_makes_76 rfl (lv_at hl 4 rfl) ?_
          refine va_lald hx hb hK hP 3 2 rfl rfl (vp_in_nI hj (by decide)) d_Mo_makes_77 ?_
          refine lv_topl (fun y_230 ey_230 => ?_)
          have ey_230 : y_230 = (x : Int64) := ey_230.trans (show (fv (nI j).toNatClampNeg) = x from (by rw [nI_clamp (show j < 2 ^ 31 by omega)]; exact hmg.2.1))
          rw [ey_230]
          refine lv_l2i hx hb d_Mo_makes_78 rfl ?_
          refine lv_goto (tgt := 84) hx hb d_Mo_makes_79 (by decide) ?_
          refine lv_topi (fun y_231 ey_231 => ?_)
          have ey_231 : y_231 = (nI (ut_cn x.toInt) : Int32) := ey_231.trans (show x.toInt32 = nI (ut_cn x.toInt) from hcn)
          subst ey_231
          refine lv_istore (lv' := [(6, .int (nI (ut_cn x.toInt))), (5, .int 0), (4, .int 1), (0, .ref mo), (1, .int (sb_b v)), (2, .int (nI j)), (3, .int (by_z bp))]) hx hb d_Mo_makes_84 hl (by decide) rfl (fun ls hl => ?_)
          refine lv_iload hx hb d_Mo_makes_86 (lv_at hl 2 rfl) ?_
          refine lv_if_eq (tgt := 148) hx hb d_Mo_makes_88 (by decide) (fun c9 => by first | exact absurd c9 (by decide) | exact absurd (by decide) c9) (fun _ => ?_)
          refine lv_iload_n hx hb d_Mo_makes_91 rfl (lv_at hl 4 rfl) ?_
          have hPc := hP.sub (ws' := []) [] rfl
          have hKc := hK.sub (tys' := []) [] rfl
          refine vp_callSi (W.runS (As := [.int (sb_b v)]) (rest := []) ⟨hx, hb, hml, hown, hg⟩ (c_Mo_baseOf l dC dI v hv) (va_cwS 1 hg (gi_S kw_856 kw_857 kw_9 kw_858) rfl rfl rfl (by decide +kernel) ⟨Nat.le_of_ble_eq_true rfl, Nat.le_of_ble_eq_true rfl⟩) (zz_prJS hPc hKc _) rfl rfl hl.1 rfl (lv_room (Nat.le_of_ble_eq_true rfl)) d_Mo_makes_92 ⟨Nat.le_of_ble_eq_true rfl, Nat.le_of_ble_eq_true rfl⟩) (fun r_232 hr_232 => ?_)
          subst hr_232
          refine lv_if_le (tgt := 148) hx hb d_Mo_makes_95 (by decide) (fun c_95 => ?_) (fun c_95 => ?_)
          · skip
            have f_95 : (mb_v v) ≤ 0 := (nI_leI (b := 0) (by have := mb_l v; omega) (by omega)).mp c_95
            refine lv_iload hx hb d_Mo_makes_148 (lv_at hl 1 rfl) ?_
            refine lv_if_eq (tgt := 220) hx hb d_Mo_makes_150 (by decide) (fun _ => ?_) (fun c9 => by first | exact absurd c9 rfl | exact absurd rfl c9)
            refine lv_iload hx hb d_Mo_makes_220 (lv_at hl 2 rfl) ?_
            refine lv_if_eq (tgt := 240) hx hb d_Mo_makes_222 (by decide) (fun c9 => by first | exact absurd c9 (by decide) | exact absurd (by decide) c9) (fun _ => ?_)
            refine lv_iload_n hx hb d_Mo_makes_225 rfl (lv_at hl 4 rfl) ?_
            refine lv_bipush (v := 99) hx hb d_Mo_makes_226 (by decide) ?_
            refine lv_icmp_ne (tgt := 240) hx hb d_Mo_makes_228 (by decide) (fun c_228 => ?_) (fun c_228 => ?_)
            · skip
              have f_228 : v ≠ 99 := sb_e2 (k := 99) hv (by decide) c_228
              refine lv_iload hx hb d_Mo_makes_240 (lv_at hl 2 rfl) ?_
              refine lv_if_eq (tgt := 274) hx hb d_Mo_makes_242 (by decide) (fun c9 => by first | exact absurd c9 (by decide) | exact absurd (by decide) c9) (fun _ => ?_)
              refine lv_iload_n hx hb d_Mo_makes_245 rfl (lv_at hl 4 rfl) ?_
              refine lv_bipush (v := 113) hx hb d_Mo_makes_246 (by decide) ?_
              refine lv_icmp_ne (tgt := 274) hx hb d_Mo_makes_248 (by decide) (fun c_248 => ?_) (fun c_248 => ?_)
              · skip
                have f_248 : v ≠ 113 := sb_e2 (k := 113) hv (by decide) c_248
                refine lv_iload hx hb d_Mo_makes_274 (lv_at hl 1 rfl) ?_
                refine lv_if_eq (tgt := 293) hx hb d_Mo_makes_276 (by decide) (fun _ => ?_) (fun c9 => by first | exact absurd c9 rfl | exact absurd rfl c9)
                refine lv_iload hx hb d_Mo_makes_293 (lv_at hl 1 rfl) ?_
                refine lv_if_eq (tgt := 326) hx hb d_Mo_makes_295 (by decide) (fun _ => ?_) (fun c9 => by first | exact absurd c9 rfl | exact absurd rfl c9)
                refine lv_iload_n hx hb d_Mo_makes_326 rfl (lv_at hl 4 rfl) ?_
                refine lv_bipush (v := 116) hx hb d_Mo_makes_327 (by decide) ?_
                refine lv_icmp_ne (tgt := 342) hx hb d_Mo_makes_329 (by decide) (fun c_329 => ?_) (fun c_329 => ?_)
                · skip
                  have f_329 : v ≠ 116 := sb_e2 (k := 116) hv (by decide) c_329
                  refine lv_iload_n hx hb d_Mo_makes_342 rfl (lv_at hl 4 rfl) ?_
                  refine lv_bipush (v := 118) hx hb d_Mo_makes_343 (by decide) ?_
                  refine lv_icmp_ne (tgt := 356) hx hb d_Mo_makes_345 (by decide) (fun c_345 => ?_) (fun c_345 => ?_)
                  · skip
                    have f_345 : v ≠ 118 := sb_e2 (k := 118) hv (by decide) c_345
                    refine lv_iconst (v := 0) hx hb d_Mo_makes_356 (by decide) ?_
                    have hmo : (mk_o v k x B bp) = none := (mk_n0 hkn (by omega) f_228 f_248 f_345)
                    have hP9 := hP.sub (ws' := [(mo, .inr (8, [.int th, .int fd, .ref rt, .int mn, .ref rk, .ref rv, .ref rw, .ref ro, .int md, .ref rr, .int (nI ([] : List Nat).length), .ref ra, .long pz, .int kc, .ref rc, .ref rl, .ref rb, .int la, .int ca])), (ra, .inl (cB, 16400, .inl fa)), (rk, .inl (cI, 16, .inl fk)), (rv, .inl (cL, 16, .inr (.inl fv))), (rw, .inl (cI, 16, .inl fw)), (ro, .inl (cB, 65536, .inl fo))]) [0, 1, 2, 3, 4, 5] rfl
                    have hD9 := hD.sub (ws' := [(mo, .inr (8, [.int th, .int fd, .ref rt, .int mn, .ref rk, .ref rv, .ref rw, .ref ro, .int md, .ref rr, .int (nI ([] : List Nat).length), .ref ra, .long pz, .int kc, .ref rc, .ref rl, .ref rb, .int la, .int ca])), (ra, .inl (cB, 16400, .inl fa)), (rk, .inl (cI, 16, .inl fk)), (rv, .inl (cL, 16, .inr (.inl fv))), (rw, .inl (cI, 16, .inl fw)), (ro, .inl (cB, 65536, .inl fo))]) [0, 1, 2, 3, 4, 5] (by decide) rfl
                    have hK9 := hK.sub (tys' := [(cB, .byte), (cI, .int), (cL, .long)]) [0, 1, 2] rfl
                    rw [show nI ([] : List Nat).length = nI ((mk_o v k x B bp).getD []).length by rw [hmo]; rfl] at hP9 hD9
                    exact zz_zret hx hb hr hlocks d_Mo_makes_357 (by decide) hS (by first | exact Nat.le_refl _ | decide | omega | (dsimp only; omega)) (by first | exact Nat.le_refl _ | decide | omega | (dsimp only; omega)) (fa, la, ca) ⟨by rw [hmo]; rfl, by rw [hmo]; exact by_nil _⟩ hP9 hK9 hD9
                  · skip
                    have f_345 : v = 118 := sb_e1 (k := 118) hv (by decide) c_345
                    refine lv_aload_n hx hb d_Mo_makes_348 rfl (lv_at hl 3 rfl) ?_
                    refine lv_iload_n hx hb d_Mo_makes_349 rfl (lv_at hl 5 rfl) ?_
                    have hPc := hP.sub (ws' := [(mo, .inr (8, [.int th, .int fd, .ref rt, .int mn, .ref rk, .ref rv, .ref rw, .ref ro, .int md, .ref rr, .int (nI ([] : List Nat).length), .ref ra, .long pz, .int kc, .ref rc, .ref rl, .ref rb, .int la, .int ca])), (ra, .inl (cB, 16400, .inl fa)), (rk, .inl (cI, 16, .inl fk)), (rv, .inl (cL, 16, .inr (.inl fv))), (rw, .inl (cI, 16, .inl fw)), (ro, .inl (cB, 65536, .inl fo))]) [0, 1, 2, 3, 4, 5] rfl
                    have hKc := hK.sub (tys' := [(cB, .byte), (cI, .int), (cL, .long)]) [0, 1, 2] rfl
                    have hDc := hD.sub (ws' := [(mo, .inr (8, [.int th, .int fd, .ref rt, .int mn, .ref rk, .ref rv, .ref rw, .ref ro, .int md, .ref rr, .int (nI ([] : List Nat).length), .ref ra, .long pz, .int kc, .ref rc, .ref rl, .ref rb, .int la, .int ca])), (ra, .inl (cB, 16400, .inl fa)), (rk, .inl (cI, 16, .inl fk)), (rv, .inl (cL, 16, .inr (.inl fv))), (rw, .inl (cI, 16, .inl fw)), (ro, .inl (cB, 65536, .inl fo))]) [0, 1, 2, 3, 4, 5] (by decide) rfl
                    have hFc := va_free (wc := [(mo, .inr (8, [.int th, .int fd, .ref rt, .int mn, .ref rk, .ref rv, .ref rw, .ref ro, .int md, .ref rr, .int (nI ([] : List Nat).length), .ref ra, .long pz, .int kc, .ref rc, .ref rl, .ref rb, .int la, .int ca])), (ra, .inl (cB, 16400, .inl fa)), (rk, .inl (cI, 16, .inl fk)), (rv, .inl (cL, 16, .inr (.inl fv))), (rw, .inl (cI, 16, .inl fw)), (ro, .inl (cB, 65536, .inl fo))]) hD hS hA [0, 1, 2, 3, 4, 5] rfl
                    refine zz_callv (va_runV (As := [.int (nI j)]) (rest := []) ⟨hx, hb, hml, hown, hg⟩ (c_Mo_plain l dC dI ad mo rt rk rv rw ro rr ra rc rl rb th fd mn md (nI ([] : List Nat).length) pz kc la ca cB fa ([] : List Nat) cI cL fk fv fw fo j k x B (by_nil _) (by (try simp only [List.length_append, List.length_cons, List.length_nil]); omega) hj hok9 hmg s.heap.size) (cwV 1 hg (gi_V kw_908 kw_910 sw_25 kw_9 kw_911) rfl rfl rfl (by decide +kernel) ⟨Nat.le_of_ble_eq_true rfl, Nat.le_of_ble_eq_true rfl⟩) (zy_preV hX hS hFc hPc hKc hDc _ (q0 := 0) (ci := 8) rfl rfl) rfl rfl hl.1 rfl (lv_room (Nat.le_of_ble_eq_true rfl)) d_Mo_makes_350 ⟨Nat.le_of_ble_eq_true rfl, Nat.le_of_ble_eq_true rfl⟩) hS hFc (fun u H1 k9 p9 d9 => va_join (wr := []) hP hD [0, 1, 2, 3, 4, 5] [] rfl rfl (by decide) (by decide) k9 hFc p9 d9) (fun u H locs hw hP hD hK1 hS => ?_)
                    obtain ⟨u_233, rfl⟩ : ∃ z, z = u := ⟨_, rfl⟩
                    try dsimp only at hw
                    have hP : va_P (dC, dI) vwCl [(mo, .inr (8, [.int th, .int fd, .ref rt, .int mn, .ref rk, .ref rv, .ref rw, .ref ro, .int md, .ref rr, .int (nI (([] : List Nat) ++ (mo_p k x B)).length), .ref ra, .long pz, .int kc, .ref rc, .ref rl, .ref rb, .int la, .int ca])), (ra, .inl (cB, 16400, .inl u_233)), (rk, .inl (cI, 16, .inl fk)), (rv, .inl (cL, 16, .inr (.inl fv))), (rw, .inl (cI, 16, .inl fw)), (ro, .inl (cB, 65536, .inl fo))] H := hP
                    have hD : va_D A [(mo, .inr (8, [.int th, .int fd, .ref rt, .int mn, .ref rk, .ref rv, .ref rw, .ref ro, .int md, .ref rr, .int (nI (([] : List Nat) ++ (mo_p k x B)).length), .ref ra, .long pz, .int kc, .ref rc, .ref rl, .ref rb, .int la, .int ca])), (ra, .inl (cB, 16400, .inl u_233)), (rk, .inl (cI, 16, .inl fk)), (rv, .inl (cL, 16, .inr (.inl fv))), (rw, .inl (cI, 16, .inl fw)), (ro, .inl (cB, 65536, .inl fo))] := hD
                    have hL_235 := hw
                    refine lv_goto (tgt := 358) hx hb d_Mo_makes_353 (by decide) ?_
                    refine lv_iconst (v := 1) hx hb d_Mo_makes_358 (by decide) ?_
                    have hmo : (mk_o v k x B bp) = some (([] : List Nat) ++ (mo_p k x B)) := (mk_np hok9 f_345)
                    have hP9 := hP.sub (ws' := [(mo, .inr (8, [.int th, .int fd, .ref rt, .int mn, .ref rk, .ref rv, .ref rw, .ref ro, .int md, .ref rr, .int (nI (([] : List Nat) ++ (mo_p k x B)).length), .ref ra, .long pz, .int kc, .ref rc, .ref rl, .ref rb, .int la, .int ca])), (ra, .inl (cB, 16400, .inl u_233)), (rk, .inl (cI, 16, .inl fk)), (rv, .inl (cL, 16, .inr (.inl fv))), (rw, .inl (cI, 16, .inl fw)), (ro, .inl (cB, 65536, .inl fo))]) [0, 1, 2, 3, 4, 5] rfl
                    have hD9 := hD.sub (ws' := [(mo, .inr (8, [.int th, .int fd, .ref rt, .int mn, .ref rk, .ref rv, .ref rw, .ref ro, .int md, .ref rr, .int (nI (([] : List Nat) ++ (mo_p k x B)).length), .ref ra, .long pz, .int kc, .ref rc, .ref rl, .ref rb, .int la, .int ca])), (ra, .inl (cB, 16400, .inl u_233)), (rk, .inl (cI, 16, .inl fk)), (rv, .inl (cL, 16, .inr (.inl fv))), (rw, .inl (cI, 16, .inl fw)), (ro, .inl (cB, 65536, .inl fo))]) [0, 1, 2, 3, 4, 5] (by decide) rfl
                    have hK9 := hK.sub (tys' := [(cB, .byte), (cI, .int), (cL, .long)]) [0, 1, 2] rfl
                    rw [show nI (([] : List Nat) ++ (mo_p k x B)).length = nI ((mk_o v k x B bp).getD []).length by rw [hmo]; rfl] at hP9 hD9
                    exact zz_zret hx hb hr hlocks d_Mo_makes_359 (by decide) hS (by first | exact Nat.le_refl _ | decide | omega | (dsimp only; omega)) (by first | exact Nat.le_refl _ | decide | omega | (dsimp only; omega)) (u_233, la, ca) ⟨by rw [hmo]; rfl, by rw [hmo]; exact hL_235⟩ hP9 hK9 hD9
                · skip
                  have f_329 : v = 116 := sb_e1 (k := 116) hv (by decide) c_329
                  refine lv_aload_n hx hb d_Mo_makes_332 rfl (lv_at hl 3 rfl) ?_
                  refine va_get (D := (dC, dI)) (ci := 8) (v := .ref rk) (C := "TextForgeModel") (T := TX8) (N := 19) hx hb hg iwX8 hown hK hP 0 rfl rfl 4 (by decide) (hg _ kw_730) (fun _ h9 => h9) rfl d_Mo_makes_333 ?_
                  refine lv_iload_n hx hb d_Mo_makes_336 rfl (lv_at hl 5 rfl) ?_
                  refine va_iald hx hb hK hP 2 1 rfl rfl (vp_in_nI hj (by decide)) d_Mo_makes_337 ?_
                  refine lv_topi (fun y_236 ey_236 => ?_)
                  have ey_236 : y_236 = (nI k : Int32) := ey_236.trans (show (fk (nI j).toNatClampNeg) = nI k from (by rw [nI_clamp (show j < 2 ^ 31 by omega)]; exact hk9))
                  subst ey_236
                  refine lv_iconst (v := 2) hx hb d_Mo_makes_338 (by decide) ?_
                  refine lv_icmp_eq (tgt := 348) hx hb d_Mo_makes_339 (by decide) (fun c9 => by first | exact absurd c9 (fun z => by have := nI_e1 (b := 2) z (by omega) (by decide); omega) | exact absurd (fun z => by have := nI_e1 (b := 2) z (by omega) (by decide); omega) c9) (fun _ => ?_)
                  refine lv_iload_n hx hb d_Mo_makes_342 rfl (lv_at hl 4 rfl) ?_
                  refine lv_bipush (v := 118) hx hb d_Mo_makes_343 (by decide) ?_
                  refine lv_icmp_ne (tgt := 356) hx hb d_Mo_makes_345 (by decide) (fun c_345 => ?_) (fun c_345 => ?_)
                  · skip
                    have f_345 : v ≠ 118 := sb_e2 (k := 118) hv (by decide) c_345
                    refine lv_iconst (v := 0) hx hb d_Mo_makes_356 (by decide) ?_
                    have hmo : (mk_o v k x B bp) = none := (mk_n0 hkn (by omega) f_228 f_248 f_345)
                    have hP9 := hP.sub (ws' := [(mo, .inr (8, [.int th, .int fd, .ref rt, .int mn, .ref rk, .ref rv, .ref rw, .ref ro, .int md, .ref rr, .int (nI ([] : List Nat).length), .ref ra, .long pz, .int kc, .ref rc, .ref rl, .ref rb, .int la, .int ca])), (ra, .inl (cB, 16400, .inl fa)), (rk, .inl (cI, 16, .inl fk)), (rv, .inl (cL, 16, .inr (.inl fv))), (rw, .inl (cI, 16, .inl fw)), (ro, .inl (cB, 65536, .inl fo))]) [0, 1, 2, 3, 4, 5] rfl
                    have hD9 := hD.sub (ws' := [(mo, .inr (8, [.int th, .int fd, .ref rt, .int mn, .ref rk, .ref rv, .ref rw, .ref ro, .int md, .ref rr, .int (nI ([] : List Nat).length), .ref ra, .long pz, .int kc, .ref rc, .ref rl, .ref rb, .int la, .int ca])), (ra, .inl (cB, 16400, .inl fa)), (rk, .inl (cI, 16, .inl fk)), (rv, .inl (cL, 16, .inr (.inl fv))), (rw, .inl (cI, 16, .inl fw)), (ro, .inl (cB, 65536, .inl fo))]) [0, 1, 2, 3, 4, 5] (by decide) rfl
                    have hK9 := hK.sub (tys' := [(cB, .byte), (cI, .int), (cL, .long)]) [0, 1, 2] rfl
                    rw [show nI ([] : List Nat).length = nI ((mk_o v k x B bp).getD []).length by rw [hmo]; rfl] at hP9 hD9
                    exact zz_zret hx hb hr hlocks d_Mo_makes_357 (by decide) hS (by first | exact Nat.le_refl _ | decide | omega | (dsimp only; omega)) (by first | exact Nat.le_refl _ | decide | omega | (dsimp only; omega)) (fa, la, ca) ⟨by rw [hmo]; rfl, by rw [hmo]; exact by_nil _⟩ hP9 hK9 hD9
                  · skip
                    have f_345 : v = 118 := sb_e1 (k := 118) hv (by decide) c_345
                    refine lv_aload_n hx hb d_Mo_makes_348 rfl (lv_at hl 3 rfl) ?_
                    refine lv_iload_n hx hb d_Mo_makes_349 rfl (lv_at hl 5 rfl) ?_
                    have hPc := hP.sub (ws' := [(mo, .inr (8, [.int th, .int fd, .ref rt, .int mn, .ref rk, .ref rv, .ref rw, .ref ro, .int md, .ref rr, .int (nI ([] : List Nat).length), .ref ra, .long pz, .int kc, .ref rc, .ref rl, .ref rb, .int la, .int ca])), (ra, .inl (cB, 16400, .inl fa)), (rk, .inl (cI, 16, .inl fk)), (rv, .inl (cL, 16, .inr (.inl fv))), (rw, .inl (cI, 16, .inl fw)), (ro, .inl (cB, 65536, .inl fo))]) [0, 1, 2, 3, 4, 5] rfl
                    have hKc := hK.sub (tys' := [(cB, .byte), (cI, .int), (cL, .long)]) [0, 1, 2] rfl
                    have hDc := hD.sub (ws' := [(mo, .inr (8, [.int th, .int fd, .ref rt, .int mn, .ref rk, .ref rv, .ref rw, .ref ro, .int md, .ref rr, .int (nI ([] : List Nat).length), .ref ra, .long pz, .int kc, .ref rc, .ref rl, .ref rb, .int la, .int ca])), (ra, .inl (cB, 16400, .inl fa)), (rk, .inl (cI, 16, .inl fk)), (rv, .inl (cL, 16, .inr (.inl fv))), (rw, .inl (cI, 16, .inl fw)), (ro, .inl (cB, 65536, .inl fo))]) [0, 1, 2, 3, 4, 5] (by decide) rfl
                    have hFc := va_free (wc := [(mo, .inr (8, [.int th, .int fd, .ref rt, .int mn, .ref rk, .ref rv, .ref rw, .ref ro, .int md, .ref rr, .int (nI ([] : List Nat).length), .ref ra, .long pz, .int kc, .ref rc, .ref rl, .ref rb, .int la, .int ca])), (ra, .inl (cB, 16400, .inl fa)), (rk, .inl (cI, 16, .inl fk)), (rv, .inl (cL, 16, .inr (.inl fv))), (rw, .inl (cI, 16, .inl fw)), (ro, .inl (cB, 65536, .inl fo))]) hD hS hA [0, 1, 2, 3, 4, 5] rfl
                    refine zz_callv (va_runV (As := [.int (nI j)]) (rest := []) ⟨hx, hb, hml, hown, hg⟩ (c_Mo_plain l dC dI ad mo rt rk rv rw ro rr ra rc rl rb th fd mn md (nI ([] : List Nat).length) pz kc la ca cB fa ([] : List Nat) cI cL fk fv fw fo j k x B (by_nil _) (by (try simp only [List.length_append, List.length_cons, List.length_nil]); omega) hj hok9 hmg s.heap.size) (cwV 1 hg (gi_V kw_908 kw_910 sw_25 kw_9 kw_911) rfl rfl rfl (by decide +kernel) ⟨Nat.le_of_ble_eq_true rfl, Nat.le_of_ble_eq_true rfl⟩) (zy_preV hX hS hFc hPc hKc hDc _ (q0 := 0) (ci := 8) rfl rfl) rfl rfl hl.1 rfl (lv_room (Nat.le_of_ble_eq_true rfl)) d_Mo_makes_350 ⟨Nat.le_of_ble_eq_true rfl, Nat.le_of_ble_eq_true rfl⟩) hS hFc (fun u H1 k9 p9 d9 => va_join (wr := []) hP hD [0, 1, 2, 3, 4, 5] [] rfl rfl (by decide) (by decide) k9 hFc p9 d9) (fun u H locs hw hP hD hK1 hS => ?_)
                    obtain ⟨u_237, rfl⟩ : ∃ z, z = u := ⟨_, rfl⟩
                    try dsimp only at hw
                    have hP : va_P (dC, dI) vwCl [(mo, .inr (8, [.int th, .int fd, .ref rt, .int mn, .ref rk, .ref rv, .ref rw, .ref ro, .int md, .ref rr, .int (nI (([] : List Nat) ++ (mo_p k x B)).length), .ref ra, .long pz, .int kc, .ref rc, .ref rl, .ref rb, .int la, .int ca])), (ra, .inl (cB, 16400, .inl u_237)), (rk, .inl (cI, 16, .inl fk)), (rv, .inl (cL, 16, .inr (.inl fv))), (rw, .inl (cI, 16, .inl fw)), (ro, .inl (cB, 65536, .inl fo))] H := hP
                    have hD : va_D A [(mo, .inr (8, [.int th, .int fd, .ref rt, .int mn, .ref rk, .ref rv, .ref rw, .ref ro, .int md, .ref rr, .int (nI (([] : List Nat) ++ (mo_p k x B)).length), .ref ra, .long pz, .int kc, .ref rc, .ref rl, .ref rb, .int la, .int ca])), (ra, .inl (cB, 16400, .inl u_237)), (rk, .inl (cI, 16, .inl fk)), (rv, .inl (cL, 16, .inr (.inl fv))), (rw, .inl (cI, 16, .inl fw)), (ro, .inl (cB, 65536, .inl fo))] := hD
                    have hL_239 := hw
                    refine lv_goto (tgt := 358) hx hb d_Mo_makes_353 (by decide) ?_
                    refine lv_iconst (v := 1) hx hb d_Mo_makes_358 (by decide) ?_
                    have hmo : (mk_o v k x B bp) = some (([] : List Nat) ++ (mo_p k x B)) := (mk_np hok9 f_345)
                    have hP9 := hP.sub (ws' := [(mo, .inr (8, [.int th, .int fd, .ref rt, .int mn, .ref rk, .ref rv, .ref rw, .ref ro, .int md, .ref rr, .int (nI (([] : List Nat) ++ (mo_p k x B)).length), .ref ra, .long pz, .int kc, .ref rc, .ref rl, .ref rb, .int la, .int ca])), (ra, .inl (cB, 16400, .inl u_237)), (rk, .inl (cI, 16, .inl fk)), (rv, .inl (cL, 16, .inr (.inl fv))), (rw, .inl (cI, 16, .inl fw)), (ro, .inl (cB, 65536, .inl fo))]) [0, 1, 2, 3, 4, 5] rfl
                    have hD9 := hD.sub (ws' := [(mo, .inr (8, [.int th, .int fd, .ref rt, .int mn, .ref rk, .ref rv, .ref rw, .ref ro, .int md, .ref rr, .int (nI (([] : List Nat) ++ (mo_p k x B)).length), .ref ra, .long pz, .int kc, .ref rc, .ref rl, .ref rb, .int la, .int ca])), (ra, .inl (cB, 16400, .inl u_237)), (rk, .inl (cI, 16, .inl fk)), (rv, .inl (cL, 16, .inr (.inl fv))), (rw, .inl (cI, 16, .inl fw)), (ro, .inl (cB, 65536, .inl fo))]) [0, 1, 2, 3, 4, 5] (by decide) rfl
                    have hK9 := hK.sub (tys' := [(cB, .byte), (cI, .int), (cL, .long)]) [0, 1, 2] rfl
                    rw [show nI (([] : List Nat) ++ (mo_p k x B)).length = nI ((mk_o v k x B bp).getD []).length by rw [hmo]; rfl] at hP9 hD9
                    exact zz_zret hx hb hr hlocks d_Mo_makes_359 (by decide) hS (by first | exact Nat.le_refl _ | decide | omega | (dsimp only; omega)) (by first | exact Nat.le_refl _ | decide | omega | (dsimp only; omega)) (u_237, la, ca) ⟨by rw [hmo]; rfl, by rw [hmo]; exact hL_239⟩ hP9 hK9 hD9
              · skip
                have f_248 : v = 113 := sb_e1 (k := 113) hv (by decide) c_248
                refine lv_aload_n hx hb d_Mo_makes_251 rfl (lv_at hl 3 rfl) ?_
                refine lv_bipush (v := 39) hx hb d_Mo_makes_252 (by decide) ?_
                have hPc := hP.sub (ws' := [(mo, .inr (8, [.int th, .int fd, .ref rt, .int mn, .ref rk, .ref rv, .ref rw, .ref ro, .int md, .ref rr, .int (nI ([] : List Nat).length), .ref ra, .long pz, .int kc, .ref rc, .ref rl, .ref rb, .int la, .int ca])), (ra, .inl (cB, 16400, .inl fa))]) [0, 1] rfl
                have hKc := hK.sub (tys' := [(cB, .byte)]) [0] rfl
                have hDc := hD.sub (ws' := [(mo, .inr (8, [.int th, .int fd, .ref rt, .int mn, .ref rk, .ref rv, .ref rw, .ref ro, .int md, .ref rr, .int (nI ([] : List Nat).length), .ref ra, .long pz, .int kc, .ref rc, .ref rl, .ref rb, .int la, .int ca])), (ra, .inl (cB, 16400, .inl fa))]) [0, 1] (by decide) rfl
                have hFc := va_free (wc := [(mo, .inr (8, [.int th, .int fd, .ref rt, .int mn, .ref rk, .ref rv, .ref rw, .ref ro, .int md, .ref rr, .int (nI ([] : List Nat).length), .ref ra, .long pz, .int kc, .ref rc, .ref rl, .ref rb, .int la, .int ca])), (ra, .inl (cB, 16400, .inl fa))]) hD hS hA [0, 1] rfl
                refine zz_callv (va_runV (As := [.int 39]) (rest := []) ⟨hx, hb, hml, hown, hg⟩ (c_Mo_put l dC dI mo rt rk rv rw ro rr ra rc rl rb th fd mn md (nI ([] : List Nat).length) pz kc la ca cB fa ([] : List Nat) 39 (by_nil _) (by (try simp only [List.length_append, List.length_cons, List.length_nil]); omega) s.heap.size) (cwV 1 hg (gi_V kw_863 kw_865 sw_16 kw_9 kw_866) rfl rfl rfl (by decide +kernel) ⟨Nat.le_of_ble_eq_true rfl, Nat.le_of_ble_eq_true rfl⟩) (zz_preV hPc hKc hDc _ (q0 := 0) (ci := 8) rfl rfl) rfl rfl hl.1 rfl (lv_room (Nat.le_of_ble_eq_true rfl)) d_Mo_makes_254 ⟨Nat.le_of_ble_eq_true rfl, Nat.le_of_ble_eq_true rfl⟩) hS hFc (fun u H1 k9 p9 d9 => va_join (wr := [(rk, .inl (cI, 16, .inl fk)), (rv, .inl (cL, 16, .inr (.inl fv))), (rw, .inl (cI, 16, .inl fw)), (ro, .inl (cB, 65536, .inl fo))]) hP hD [0, 1] [2, 3, 4, 5] rfl rfl (by decide) (by decide) k9 hFc p9 d9) (fun u H locs hw hP hD hK1 hS => ?_)
                obtain ⟨u_240, rfl⟩ : ∃ z, z = u := ⟨_, rfl⟩
                try dsimp only at hw
                have hP : va_P (dC, dI) vwCl [(rk, .inl (cI, 16, .inl fk)), (rv, .inl (cL, 16, .inr (.inl fv))), (rw, .inl (cI, 16, .inl fw)), (ro, .inl (cB, 65536, .inl fo)), (mo, .inr (8, [.int th, .int fd, .ref rt, .int mn, .ref rk, .ref rv, .ref rw, .ref ro, .int md, .ref rr, .int (nI (([] : List Nat) ++ [by_b 39]).length), .ref ra, .long pz, .int kc, .ref rc, .ref rl, .ref rb, .int la, .int ca])), (ra, .inl (cB, 16400, .inl u_240))] H := hP
                have hD : va_D A [(rk, .inl (cI, 16, .inl fk)), (rv, .inl (cL, 16, .inr (.inl fv))), (rw, .inl (cI, 16, .inl fw)), (ro, .inl (cB, 65536, .inl fo)), (mo, .inr (8, [.int th, .int fd, .ref rt, .int mn, .ref rk, .ref rv, .ref rw, .ref ro, .int md, .ref rr, .int (nI (([] : List Nat) ++ [by_b 39]).length), .ref ra, .long pz, .int kc, .ref rc, .ref rl, .ref rb, .int la, .int ca])), (ra, .inl (cB, 16400, .inl u_240))] := hD
                have hL_242 := hw
                refine lv_aload_n hx hb d_Mo_makes_257 rfl (lv_at hl 3 rfl) ?_
                refine lv_iload hx hb d_Mo_makes_258 (lv_at hl 0 rfl) ?_
                refine lv_bipush (v := 39) hx hb d_Mo_makes_260 (by decide) ?_
                have hPc := hP.sub (ws' := [(mo, .inr (8, [.int th, .int fd, .ref rt, .int mn, .ref rk, .ref rv, .ref rw, .ref ro, .int md, .ref rr, .int (nI (([] : List Nat) ++ [by_b 39]).length), .ref ra, .long pz, .int kc, .ref rc, .ref rl, .ref rb, .int la, .int ca])), (ra, .inl (cB, 16400, .inl u_240))]) [4, 5] rfl
                have hKc := hK.sub (tys' := [(cB, .byte)]) [0] rfl
                have hDc := hD.sub (ws' := [(mo, .inr (8, [.int th, .int fd, .ref rt, .int mn, .ref rk, .ref rv, .ref rw, .ref ro, .int md, .ref rr, .int (nI (([] : List Nat) ++ [by_b 39]).length), .ref ra, .long pz, .int kc, .ref rc, .ref rl, .ref rb, .int la, .int ca])), (ra, .inl (cB, 16400, .inl u_240))]) [4, 5] (by decide) rfl
                have hFc := va_free (wc := [(mo, .inr (8, [.int th, .int fd, .ref rt, .int mn, .ref rk, .ref rv, .ref rw, .ref ro, .int md, .ref rr, .int (nI (([] : List Nat) ++ [by_b 39]).length), .ref ra, .long pz, .int kc, .ref rc, .ref rl, .ref rb, .int la, .int ca])), (ra, .inl (cB, 16400, .inl u_240))]) hD hS hA [4, 5] rfl
                refine zz_callv (va_runV (As := [.int (nI (ut_cn x.toInt)), .int 39]) (rest := []) ⟨hx, hb, hml, hown, hg⟩ (c_Mo_quoted l dC dI ad mo rt rk rv rw ro rr ra rc rl rb th fd mn md (nI (([] : List Nat) ++ [by_b 39]).length) pz kc la ca cB u_240 (([] : List Nat) ++ [by_b 39]) (ut_cn x.toInt) 39 hL_242 (by (try simp only [List.length_append, List.length_cons, List.length_nil]); omega) (pp_cn _) (by decide) H.size) (cwV 2 hg (gi_V kw_894 kw_896 sw_22 kw_9 kw_897) rfl rfl rfl (by decide +kernel) ⟨Nat.le_of_ble_eq_true rfl, Nat.le_of_ble_eq_true rfl⟩) (zy_preV hX hS hFc hPc hKc hDc _ (q0 := 0) (ci := 8) rfl rfl) rfl rfl hl.1 rfl (lv_room (Nat.le_of_ble_eq_true rfl)) d_Mo_makes_262 ⟨Nat.le_of_ble_eq_true rfl, Nat.le_of_ble_eq_true rfl⟩) hS hFc (fun u H1 k9 p9 d9 => va_join (wr := [(rk, .inl (cI, 16, .inl fk)), (rv, .inl (cL, 16, .inr (.inl fv))), (rw, .inl (cI, 16, .inl fw)), (ro, .inl (cB, 65536, .inl fo))]) hP hD [4, 5] [0, 1, 2, 3] rfl rfl (by decide) (by decide) k9 hFc p9 d9) (fun u H locs hw hP hD hK1 hS => ?_)
                obtain ⟨u_243, rfl⟩ : ∃ z, z = u := ⟨_, rfl⟩
                try dsimp only at hw
                have hP : va_P (dC, dI) vwCl [(rk, .inl (cI, 16, .inl fk)), (rv, .inl (cL, 16, .inr (.inl fv))), (rw, .inl (cI, 16, .inl fw)), (ro, .inl (cB, 65536, .inl fo)), (mo, .inr (8, [.int th, .int fd, .ref rt, .int mn, .ref rk, .ref rv, .ref rw, .ref ro, .int md, .ref rr, .int (nI ((([] : List Nat) ++ [by_b 39]) ++ (mq 39 (ut_cn x.toInt))).length), .ref ra, .long pz, .int kc, .ref rc, .ref rl, .ref rb, .int la, .int ca])), (ra, .inl (cB, 16400, .inl u_243))] H := hP
                have hD : va_D A [(rk, .inl (cI, 16, .inl fk)), (rv, .inl (cL, 16, .inr (.inl fv))), (rw, .inl (cI, 16, .inl fw)), (ro, .inl (cB, 65536, .inl fo)), (mo, .inr (8, [.int th, .int fd, .ref rt, .int mn, .ref rk, .ref rv, .ref rw, .ref ro, .int md, .ref rr, .int (nI ((([] : List Nat) ++ [by_b 39]) ++ (mq 39 (ut_cn x.toInt))).length), .ref ra, .long pz, .int kc, .ref rc, .ref rl, .ref rb, .int la, .int ca])), (ra, .inl (cB, 16400, .inl u_243))] := hD
                have hL_245 := hw
                have hq4 := mq_len 39 (ut_cn x.toInt)
                refine lv_aload_n hx hb d_Mo_makes_265 rfl (lv_at hl 3 rfl) ?_
                refine lv_bipush (v := 39) hx hb d_Mo_makes_266 (by decide) ?_
                have hPc := hP.sub (ws' := [(mo, .inr (8, [.int th, .int fd, .ref rt, .int mn, .ref rk, .ref rv, .ref rw, .ref ro, .int md, .ref rr, .int (nI ((([] : List Nat) ++ [by_b 39]) ++ (mq 39 (ut_cn x.toInt))).length), .ref ra, .long pz, .int kc, .ref rc, .ref rl, .ref rb, .int la, .int ca])), (ra, .inl (cB, 16400, .inl u_243))]) [4, 5] rfl
                have hKc := hK.sub (tys' := [(cB, .byte)]) [0] rfl
                have hDc := hD.sub (ws' := [(mo, .inr (8, [.int th, .int fd, .ref rt, .int mn, .ref rk, .ref rv, .ref rw, .ref ro, .int md, .ref rr, .int (nI ((([] : List Nat) ++ [by_b 39]) ++ (mq 39 (ut_cn x.toInt))).length), .ref ra, .long pz, .int kc, .ref rc, .ref rl, .ref rb, .int la, .int ca])), (ra, .inl (cB, 16400, .inl u_243))]) [4, 5] (by decide) rfl
                have hFc := va_free (wc := [(mo, .inr (8, [.int th, .int fd, .ref rt, .int mn, .ref rk, .ref rv, .ref rw, .ref ro, .int md, .ref rr, .int (nI ((([] : List Nat) ++ [by_b 39]) ++ (mq 39 (ut_cn x.toInt))).length), .ref ra, .long pz, .int kc, .ref rc, .ref rl, .ref rb, .int la, .int ca])), (ra, .inl (cB, 16400, .inl u_243))]) hD hS hA [4, 5] rfl
                refine zz_callv (va_runV (As := [.int 39]) (rest := []) ⟨hx, hb, hml, hown, hg⟩ (c_Mo_put l dC dI mo rt rk rv rw ro rr ra rc rl rb th fd mn md (nI ((([] : List Nat) ++ [by_b 39]) ++ (mq 39 (ut_cn x.toInt))).length) pz kc la ca cB u_243 ((([] : List Nat) ++ [by_b 39]) ++ (mq 39 (ut_cn x.toInt))) 39 hL_245 (by (try simp only [List.length_append, List.length_cons, List.length_nil]); omega) H.size) (cwV 1 hg (gi_V kw_863 kw_865 sw_16 kw_9 kw_866) rfl rfl rfl (by decide +kernel) ⟨Nat.le_of_ble_eq_true rfl, Nat.le_of_ble_eq_true rfl⟩) (zz_preV hPc hKc hDc _ (q0 := 0) (ci := 8) rfl rfl) rfl rfl hl.1 rfl (lv_room (Nat.le_of_ble_eq_true rfl)) d_Mo_makes_268 ⟨Nat.le_of_ble_eq_true rfl, Nat.le_of_ble_eq_true rfl⟩) hS hFc (fun u H1 k9 p9 d9 => va_join (wr := [(rk, .inl (cI, 16, .inl fk)), (rv, .inl (cL, 16, .inr (.inl fv))), (rw, .inl (cI, 16, .inl fw)), (ro, .inl (cB, 65536, .inl fo))]) hP hD [4, 5] [0, 1, 2, 3] rfl rfl (by decide) (by decide) k9 hFc p9 d9) (fun u H locs hw hP hD hK1 hS => ?_)
                obtain ⟨u_246, rfl⟩ : ∃ z, z = u := ⟨_, rfl⟩
                try dsimp only at hw
                have hP : va_P (dC, dI) vwCl [(rk, .inl (cI, 16, .inl fk)), (rv, .inl (cL, 16, .inr (.inl fv))), (rw, .inl (cI, 16, .inl fw)), (ro, .inl (cB, 65536, .inl fo)), (mo, .inr (8, [.int th, .int fd, .ref rt, .int mn, .ref rk, .ref rv, .ref rw, .ref ro, .int md, .ref rr, .int (nI (((([] : List Nat) ++ [by_b 39]) ++ (mq 39 (ut_cn x.toInt))) ++ [by_b 39]).length), .ref ra, .long pz, .int kc, .ref rc, .ref rl, .ref rb, .int la, .int ca])), (ra, .inl (cB, 16400, .inl u_246))] H := hP
                have hD : va_D A [(rk, .inl (cI, 16, .inl fk)), (rv, .inl (cL, 16, .inr (.inl fv))), (rw, .inl (cI, 16, .inl fw)), (ro, .inl (cB, 65536, .inl fo)), (mo, .inr (8, [.int th, .int fd, .ref rt, .int mn, .ref rk, .ref rv, .ref rw, .ref ro, .int md, .ref rr, .int (nI (((([] : List Nat) ++ [by_b 39]) ++ (mq 39 (ut_cn x.toInt))) ++ [by_b 39]).length), .ref ra, .long pz, .int kc, .ref rc, .ref rl, .ref rb, .int la, .int ca])), (ra, .inl (cB, 16400, .inl u_246))] := hD
                have hL_248 := hw
                refine lv_goto (tgt := 358) hx hb d_Mo_makes_271 (by decide) ?_
                refine lv_iconst (v := 1) hx hb d_Mo_makes_358 (by decide) ?_
                have hmo : (mk_o v k x B bp) = some (((([] : List Nat) ++ [by_b 39]) ++ (mq 39 (ut_cn x.toInt))) ++ [by_b 39]) := (mk_nq hkn f_248)
                have hP9 := hP.sub (ws' := [(mo, .inr (8, [.int th, .int fd, .ref rt, .int mn, .ref rk, .ref rv, .ref rw, .ref ro, .int md, .ref rr, .int (nI (((([] : List Nat) ++ [by_b 39]) ++ (mq 39 (ut_cn x.toInt))) ++ [by_b 39]).length), .ref ra, .long pz, .int kc, .ref rc, .ref rl, .ref rb, .int la, .int ca])), (ra, .inl (cB, 16400, .inl u_246)), (rk, .inl (cI, 16, .inl fk)), (rv, .inl (cL, 16, .inr (.inl fv))), (rw, .inl (cI, 16, .inl fw)), (ro, .inl (cB, 65536, .inl fo))]) [4, 5, 0, 1, 2, 3] rfl
                have hD9 := hD.sub (ws' := [(mo, .inr (8, [.int th, .int fd, .ref rt, .int mn, .ref rk, .ref rv, .ref rw, .ref ro, .int md, .ref rr, .int (nI (((([] : List Nat) ++ [by_b 39]) ++ (mq 39 (ut_cn x.toInt))) ++ [by_b 39]).length), .ref ra, .long pz, .int kc, .ref rc, .ref rl, .ref rb, .int la, .int ca])), (ra, .inl (cB, 16400, .inl u_246)), (rk, .inl (cI, 16, .inl fk)), (rv, .inl (cL, 16, .inr (.inl fv))), (rw, .inl (cI, 16, .inl fw)), (ro, .inl (cB, 65536, .inl fo))]) [4, 5, 0, 1, 2, 3] (by decide) rfl
                have hK9 := hK.sub (tys' := [(cB, .byte), (cI, .int), (cL, .long)]) [0, 1, 2] rfl
                rw [show nI (((([] : List Nat) ++ [by_b 39]) ++ (mq 39 (ut_cn x.toInt))) ++ [by_b 39]).length = nI ((mk_o v k x B bp).getD []).length by rw [hmo]; rfl] at hP9 hD9
                exact zz_zret hx hb hr hlocks d_Mo_makes_359 (by decide) hS (by first | exact Nat.le_refl _ | decide | omega | (dsimp only; omega)) (by first | exact Nat.le_refl _ | decide | omega | (dsimp only; omega)) (u_246, la, ca) ⟨by rw [hmo]; rfl, by rw [hmo]; exact hL_248⟩ hP9 hK9 hD9
            · skip
              have f_228 : v = 99 := sb_e1 (k := 99) hv (by decide) c_228
              refine lv_aload_n hx hb d_Mo_makes_231 rfl (lv_at hl 3 rfl) ?_
              refine lv_iload hx hb d_Mo_makes_232 (lv_at hl 0 rfl) ?_
              have hPc := hP.sub (ws' := [(mo, .inr (8, [.int th, .int fd, .ref rt, .int mn, .ref rk, .ref rv, .ref rw, .ref ro, .int md, .ref rr, .int (nI ([] : List Nat).length), .ref ra, .long pz, .int kc, .ref rc, .ref rl, .ref rb, .int la, .int ca])), (ra, .inl (cB, 16400, .inl fa))]) [0, 1] rfl
              have hKc := hK.sub (tys' := [(cB, .byte)]) [0] rfl
              have hDc := hD.sub (ws' := [(mo, .inr (8, [.int th, .int fd, .ref rt, .int mn, .ref rk, .ref rv, .ref rw, .ref ro, .int md, .ref rr, .int (nI ([] : List Nat).length), .ref ra, .long pz, .int kc, .ref rc, .ref rl, .ref rb, .int la, .int ca])), (ra, .inl (cB, 16400, .inl fa))]) [0, 1] (by decide) rfl
              have hFc := va_free (wc := [(mo, .inr (8, [.int th, .int fd, .ref rt, .int mn, .ref rk, .ref rv, .ref rw, .ref ro, .int md, .ref rr, .int (nI ([] : List Nat).length), .ref ra, .long pz, .int kc, .ref rc, .ref rl, .ref rb, .int la, .int ca])), (ra, .inl (cB, 16400, .inl fa))]) hD hS hA [0, 1] rfl
              refine zz_callv (va_runV (As := [.int (nI (ut_cn x.toInt))]) (rest := []) ⟨hx, hb, hml, hown, hg⟩ (c_Mo_utf l dC dI mo rt rk rv rw ro rr ra rc rl rb th fd mn md (nI ([] : List Nat).length) pz kc la ca cB fa ([] : List Nat) (ut_cn x.toInt) (by_nil _) (by (try simp only [List.length_append, List.length_cons, List.length_nil]); omega) (pp_cn _) s.heap.size) (cwV 1 hg (gi_V kw_890 kw_892 sw_21 kw_9 kw_893) rfl rfl rfl (by decide +kernel) ⟨Nat.le_of_ble_eq_true rfl, Nat.le_of_ble_eq_true rfl⟩) (zz_preV hPc hKc hDc _ (q0 := 0) (ci := 8) rfl rfl) rfl rfl hl.1 rfl (lv_room (Nat.le_of_ble_eq_true rfl)) d_Mo_makes_234 ⟨Nat.le_of_ble_eq_true rfl, Nat.le_of_ble_eq_true rfl⟩) hS hFc (fun u H1 k9 p9 d9 => va_join (wr := [(rk, .inl (cI, 16, .inl fk)), (rv, .inl (cL, 16, .inr (.inl fv))), (rw, .inl (cI, 16, .inl fw)), (ro, .inl (cB, 65536, .inl fo))]) hP hD [0, 1] [2, 3, 4, 5] rfl rfl (by decide) (by decide) k9 hFc p9 d9) (fun u H locs hw hP hD hK1 hS => ?_)
              obtain ⟨u_249, rfl⟩ : ∃ z, z = u := ⟨_, rfl⟩
              try dsimp only at hw
              have hP : va_P (dC, dI) vwCl [(rk, .inl (cI, 16, .inl fk)), (rv, .inl (cL, 16, .inr (.inl fv))), (rw, .inl (cI, 16, .inl fw)), (ro, .inl (cB, 65536, .inl fo)), (mo, .inr (8, [.int th, .int fd, .ref rt, .int mn, .ref rk, .ref rv, .ref rw, .ref ro, .int md, .ref rr, .int (nI (([] : List Nat) ++ (ut_8 (ut_cn x.toInt))).length), .ref ra, .long pz, .int kc, .ref rc, .ref rl, .ref rb, .int la, .int ca])), (ra, .inl (cB, 16400, .inl u_249))] H := hP
              have hD : va_D A [(rk, .inl (cI, 16, .inl fk)), (rv, .inl (cL, 16, .inr (.inl fv))), (rw, .inl (cI, 16, .inl fw)), (ro, .inl (cB, 65536, .inl fo)), (mo, .inr (8, [.int th, .int fd, .ref rt, .int mn, .ref rk, .ref rv, .ref rw, .ref ro, .int md, .ref rr, .int (nI (([] : List Nat) ++ (ut_8 (ut_cn x.toInt))).length), .ref ra, .long pz, .int kc, .ref rc, .ref rl, .ref rb, .int la, .int ca])), (ra, .inl (cB, 16400, .inl u_249))] := hD
              have hL_251 := hw
              refine lv_goto (tgt := 358) hx hb d_Mo_makes_237 (by decide) ?_
              refine lv_iconst (v := 1) hx hb d_Mo_makes_358 (by decide) ?_
              have hmo : (mk_o v k x B bp) = some (([] : List Nat) ++ (ut_8 (ut_cn x.toInt))) := (mk_nc hkn f_228)
              have hP9 := hP.sub (ws' := [(mo, .inr (8, [.int th, .int fd, .ref rt, .int mn, .ref rk, .ref rv, .ref rw, .ref ro, .int md, .ref rr, .int (nI (([] : List Nat) ++ (ut_8 (ut_cn x.toInt))).length), .ref ra, .long pz, .int kc, .ref rc, .ref rl, .ref rb, .int la, .int ca])), (ra, .inl (cB, 16400, .inl u_249)), (rk, .inl (cI, 16, .inl fk)), (rv, .inl (cL, 16, .inr (.inl fv))), (rw, .inl (cI, 16, .inl fw)), (ro, .inl (cB, 65536, .inl fo))]) [4, 5, 0, 1, 2, 3] rfl
              have hD9 := hD.sub (ws' := [(mo, .inr (8, [.int th, .int fd, .ref rt, .int mn, .ref rk, .ref rv, .ref rw, .ref ro, .int md, .ref rr, .int (nI (([] : List Nat) ++ (ut_8 (ut_cn x.toInt))).length), .ref ra, .long pz, .int kc, .ref rc, .ref rl, .ref rb, .int la, .int ca])), (ra, .inl (cB, 16400, .inl u_249)), (rk, .inl (cI, 16, .inl fk)), (rv, .inl (cL, 16, .inr (.inl fv))), (rw, .inl (cI, 16, .inl fw)), (ro, .inl (cB, 65536, .inl fo))]) [4, 5, 0, 1, 2, 3] (by decide) rfl
              have hK9 := hK.sub (tys' := [(cB, .byte), (cI, .int), (cL, .long)]) [0, 1, 2] rfl
              rw [show nI (([] : List Nat) ++ (ut_8 (ut_cn x.toInt))).length = nI ((mk_o v k x B bp).getD []).length by rw [hmo]; rfl] at hP9 hD9
              exact zz_zret hx hb hr hlocks d_Mo_makes_359 (by decide) hS (by first | exact Nat.le_refl _ | decide | omega | (dsimp only; omega)) (by first | exact Nat.le_refl _ | decide | omega | (dsimp only; omega)) (u_249, la, ca) ⟨by rw [hmo]; rfl, by rw [hmo]; exact hL_251⟩ hP9 hK9 hD9
          · skip
            have f_95 : 0 < (mb_v v) := Nat.lt_of_not_le (fun z => c_95 (nI_le (b := 0) z (by omega)))
            refine lv_aload_n hx hb d_Mo_makes_98 rfl (lv_at hl 3 rfl) ?_
            refine lv_iload_n hx hb d_Mo_makes_99 rfl (lv_at hl 5 rfl) ?_
            have hPc := hP.sub (ws' := [(mo, .inr (8, [.int th, .int fd, .ref rt, .int mn, .ref rk, .ref rv, .ref rw, .ref ro, .int md, .ref rr, .int (nI ([] : List Nat).length), .ref ra, .long pz, .int kc, .ref rc, .ref rl, .ref rb, .int la, .int ca])), (rk, .inl (cI, 16, .inl fk)), (rv, .inl (cL, 16, .inr (.inl fv)))]) [0, 2, 3] rfl
            have hKc := hK.sub (tys' := [(cI, .int), (cL, .long)]) [1, 2] rfl
            refine vp_callSi (W.runV (As := [.int (nI j)]) (rest := []) ⟨hx, hb, hml, hown, hg⟩ (c_Mo_isBelow l dC dI mo rt rk rv rw ro rr ra rc rl rb th fd mn md (nI ([] : List Nat).length) pz kc la ca cI cL fk fv j hj) (cwV 1 hg (gi_V kw_859 kw_861 sw_15 kw_9 kw_862) rfl rfl rfl (by decide +kernel) ⟨Nat.le_of_ble_eq_true rfl, Nat.le_of_ble_eq_true rfl⟩) (zz_prJV hPc hKc _ (q0 := 0) (ci := 8) rfl rfl) rfl rfl hl.1 rfl (lv_room (Nat.le_of_ble_eq_true rfl)) d_Mo_makes_100 ⟨Nat.le_of_ble_eq_true rfl, Nat.le_of_ble_eq_true rfl⟩) (fun r_252 hr_252 => ?_)
            rw [hk9, hmg.2.1] at hr_252
            refine lv_if_eq (tgt := 115) hx hb d_Mo_makes_103 (by decide) (fun c_103 => ?_) (fun c_103 => ?_)
            · skip
              have hbb : ar_b (nI k) x = false := by_z_f hr_252 c_103
              refine lv_iload_n hx hb d_Mo_makes_115 rfl (lv_at hl 6 rfl) ?_
              refine lv_if_eq (tgt := 125) hx hb d_Mo_makes_116 (by decide) (fun c_116 => ?_) (fun c_116 => ?_)
              · skip
                have hbq : bp = false := by_z_f rfl c_116
                refine lv_aload_n hx hb d_Mo_makes_125 rfl (lv_at hl 3 rfl) ?_
                refine lv_iload_n hx hb d_Mo_makes_126 rfl (lv_at hl 5 rfl) ?_
                refine lv_iload_n hx hb d_Mo_makes_127 rfl (lv_at hl 4 rfl) ?_
                have hPc := hP.sub (ws' := []) [] rfl
                have hKc := hK.sub (tys' := []) [] rfl
                refine vp_callSi (W.runS (As := [.int (sb_b v)]) (rest := [.int (nI j), .ref mo]) ⟨hx, hb, hml, hown, hg⟩ (c_Mo_baseOf l dC dI v hv) (va_cwS 1 hg (gi_S kw_856 kw_857 kw_9 kw_858) rfl rfl rfl (by decide +kernel) ⟨Nat.le_of_ble_eq_true rfl, Nat.le_of_ble_eq_true rfl⟩) (zz_prJS hPc hKc _) rfl rfl hl.1 rfl (lv_room (Nat.le_of_ble_eq_true rfl)) d_Mo_makes_128 ⟨Nat.le_of_ble_eq_true rfl, Nat.le_of_ble_eq_true rfl⟩) (fun r_253 hr_253 => ?_)
                subst hr_253
                refine lv_iload_n hx hb d_Mo_makes_131 rfl (lv_at hl 4 rfl) ?_
                refine lv_bipush (v := 88) hx hb d_Mo_makes_132 (by decide) ?_
                refine lv_icmp_ne (tgt := 141) hx hb d_Mo_makes_134 (by decide) (fun c_134 => ?_) (fun c_134 => ?_)
                · skip
                  have f_134 : v ≠ 88 := sb_e2 (k := 88) hv (by decide) c_134
                  refine lv_iconst (v := 0) hx hb d_Mo_makes_141 (by decide) ?_
                  refine lv_topi (fun y_254 ey_254 => ?_)
                  have ey_254 : y_254 = (by_z (decide (v = 88)) : Int32) := ey_254.trans (show 0 = by_z (decide (v = 88)) from (by rw [decide_eq_false f_134]; rfl))
                  subst ey_254
                  have hPc := hP.sub (ws' := [(mo, .inr (8, [.int th, .int fd, .ref rt, .int mn, .ref rk, .ref rv, .ref rw, .ref ro, .int md, .ref rr, .int (nI ([] : List Nat).length), .ref ra, .long pz, .int kc, .ref rc, .ref rl, .ref rb, .int la, .int ca])), (ra, .inl (cB, 16400, .inl fa)), (rk, .inl (cI, 16, .inl fk)), (rv, .inl (cL, 16, .inr (.inl fv)))]) [0, 1, 2, 3] rfl
                  have hKc := hK.sub (tys' := [(cB, .byte), (cI, .int), (cL, .long)]) [0, 1, 2] rfl
                  have hDc := hD.sub (ws' := [(mo, .inr (8, [.int th, .int fd, .ref rt, .int mn, .ref rk, .ref rv, .ref rw, .ref ro, .int md, .ref rr, .int (nI ([] : List Nat).length), .ref ra, .long pz, .int kc, .ref rc, .ref rl, .ref rb, .int la, .int ca])), (ra, .inl (cB, 16400, .inl fa)), (rk, .inl (cI, 16, .inl fk)), (rv, .inl (cL, 16, .inr (.inl fv)))]) [0, 1, 2, 3] (by decide) rfl
                  have hFc := va_free (wc := [(mo, .inr (8, [.int th, .int fd, .ref rt, .int mn, .ref rk, .ref rv, .ref rw, .ref ro, .int md, .ref rr, .int (nI ([] : List Nat).length), .ref ra, .long pz, .int kc, .ref rc, .ref rl, .ref rb, .int la, .int ca])), (ra, .inl (cB, 16400, .inl fa)), (rk, .inl (cI, 16, .inl fk)), (rv, .inl (cL, 16, .inr (.inl fv)))]) hD hS hA [0, 1, 2, 3] rfl
                  refine zz_callv (va_runV (As := [.int (nI j), .int (nI (mb_v v)), .int (by_z (decide (v = 88)))]) (rest := []) ⟨hx, hb, hml, hown, hg⟩ (c_Mo_sized l dC dI mo rt rk rv rw ro rr ra rc rl rb th fd mn md (nI ([] : List Nat).length) pz kc la ca cB fa ([] : List Nat) cI cL fk fv j (mb_v v) (decide (v = 88)) (by_nil _) (by (try simp only [List.length_append, List.length_cons, List.length_nil]); omega) hj (mb_s (n := 0) (by omega)).2.2.2.2.1 (mb_s (n := 0) (by omega)).2.2.2.2.2 s.heap.size) (cwV 3 hg (gi_V kw_867 kw_869 sw_17 kw_9 kw_870) rfl rfl rfl (by decide +kernel) ⟨Nat.le_of_ble_eq_true rfl, Nat.le_of_ble_eq_true rfl⟩) (zz_preV hPc hKc hDc _ (q0 := 0) (ci := 8) rfl rfl) rfl rfl hl.1 rfl (lv_room (Nat.le_of_ble_eq_true rfl)) d_Mo_makes_142 ⟨Nat.le_of_ble_eq_true rfl, Nat.le_of_ble_eq_true rfl⟩) hS hFc (fun u H1 k9 p9 d9 => va_join (wr := [(rw, .inl (cI, 16, .inl fw)), (ro, .inl (cB, 65536, .inl fo))]) hP hD [0, 1, 2, 3] [4, 5] rfl rfl (by decide) (by decide) k9 hFc p9 d9) (fun u H locs hw hP hD hK1 hS => ?_)
                  obtain ⟨u_255, rfl⟩ : ∃ z, z = u := ⟨_, rfl⟩
                  try dsimp only at hw
                  have hP : va_P (dC, dI) vwCl [(rw, .inl (cI, 16, .inl fw)), (ro, .inl (cB, 65536, .inl fo)), (mo, .inr (8, [.int th, .int fd, .ref rt, .int mn, .ref rk, .ref rv, .ref rw, .ref ro, .int md, .ref rr, .int (nI (([] : List Nat) ++ (nu_f (mb_v v) (dg_t (decide (v = 88))) 64 (ar_m (fk j) (fv j))).reverse).length), .ref ra, .long pz, .int kc, .ref rc, .ref rl, .ref rb, .int la, .int ca])), (ra, .inl (cB, 16400, .inl u_255)), (rk, .inl (cI, 16, .inl fk)), (rv, .inl (cL, 16, .inr (.inl fv)))] H := hP
                  have hD : va_D A [(rw, .inl (cI, 16, .inl fw)), (ro, .inl (cB, 65536, .inl fo)), (mo, .inr (8, [.int th, .int fd, .ref rt, .int mn, .ref rk, .ref rv, .ref rw, .ref ro, .int md, .ref rr, .int (nI (([] : List Nat) ++ (nu_f (mb_v v) (dg_t (decide (v = 88))) 64 (ar_m (fk j) (fv j))).reverse).length), .ref ra, .long pz, .int kc, .ref rc, .ref rl, .ref rb, .int la, .int ca])), (ra, .inl (cB, 16400, .inl u_255)), (rk, .inl (cI, 16, .inl fk)), (rv, .inl (cL, 16, .inr (.inl fv)))] := hD
                  have hL_257 := hw
                  refine lv_goto (tgt := 358) hx hb d_Mo_makes_145 (by decide) ?_
                  refine lv_iconst (v := 1) hx hb d_Mo_makes_358 (by decide) ?_
                  have hmo : (mk_o v k x B bp) = some (([] : List Nat) ++ (nu_f (mb_v v) (dg_t (decide (v = 88))) 64 (ar_m (fk j) (fv j))).reverse) := (by rw [hk9, hmg.2.1]; exact mk_b3 hkn (by omega) hbb hbq)
                  have hP9 := hP.sub (ws' := [(mo, .inr (8, [.int th, .int fd, .ref rt, .int mn, .ref rk, .ref rv, .ref rw, .ref ro, .int md, .ref rr, .int (nI (([] : List Nat) ++ (nu_f (mb_v v) (dg_t (decide (v = 88))) 64 (ar_m (fk j) (fv j))).reverse).length), .ref ra, .long pz, .int kc, .ref rc, .ref rl, .ref rb, .int la, .int ca])), (ra, .inl (cB, 16400, .inl u_255)), (rk, .inl (cI, 16, .inl fk)), (rv, .inl (cL, 16, .inr (.inl fv))), (rw, .inl (cI, 16, .inl fw)), (ro, .inl (cB, 65536, .inl fo))]) [2, 3, 4, 5, 0, 1] rfl
                  have hD9 := hD.sub (ws' := [(mo, .inr (8, [.int th, .int fd, .ref rt, .int mn, .ref rk, .ref rv, .ref rw, .ref ro, .int md, .ref rr, .int (nI (([] : List Nat) ++ (nu_f (mb_v v) (dg_t (decide (v = 88))) 64 (ar_m (fk j) (fv j))).reverse).length), .ref ra, .long pz, .int kc, .ref rc, .ref rl, .ref rb, .int la, .int ca])), (ra, .inl (cB, 16400, .inl u_255)), (rk, .inl (cI, 16, .inl fk)), (rv, .inl (cL, 16, .inr (.inl fv))), (rw, .inl (cI, 16, .inl fw)), (ro, .inl (cB, 65536, .inl fo))]) [2, 3, 4, 5, 0, 1] (by decide) rfl
                  have hK9 := hK.sub (tys' := [(cB, .byte), (cI, .int), (cL, .long)]) [0, 1, 2] rfl
                  rw [show nI (([] : List Nat) ++ (nu_f (mb_v v) (dg_t (decide (v = 88))) 64 (ar_m (fk j) (fv j))).reverse).length = nI ((mk_o v k x B bp).getD []).length by rw [hmo]; rfl] at hP9 hD9
                  exact zz_zret hx hb hr hlocks d_Mo_makes_359 (by decide) hS (by first | exact Nat.le_refl _ | decide | omega | (dsimp only; omega)) (by first | exact Nat.le_refl _ | decide | omega | (dsimp only; omega)) (u_255, la, ca) ⟨by rw [hmo]; rfl, by rw [hmo]; exact hL_257⟩ hP9 hK9 hD9
                · skip
                  have f_134 : v = 88 := sb_e1 (k := 88) hv (by decide) c_134
                  refine lv_iconst (v := 1) hx hb d_Mo_makes_137 (by decide) ?_
                  refine lv_goto (tgt := 142) hx hb d_Mo_makes_138 (by decide) ?_
                  refine lv_topi (fun y_258 ey_258 => ?_)
                  have ey_258 : y_258 = (by_z (decide (v = 88)) : Int32) := ey_258.trans (show 1 = by_z (decide (v = 88)) from (by rw [decide_eq_true f_134]; rfl))
                  subst ey_258
                  have hPc := hP.sub (ws' := [(mo, .inr (8, [.int th, .int fd, .ref rt, .int mn, .ref rk, .ref rv, .ref rw, .ref ro, .int md, .ref rr, .int (nI ([] : List Nat).length), .ref ra, .long pz, .int kc, .ref rc, .ref rl, .ref rb, .int la, .int ca])), (ra, .inl (cB, 16400, .inl fa)), (rk, .inl (cI, 16, .inl fk)), (rv, .inl (cL, 16, .inr (.inl fv)))]) [0, 1, 2, 3] rfl
                  have hKc := hK.sub (tys' := [(cB, .byte), (cI, .int), (cL, .long)]) [0, 1, 2] rfl
                  have hDc := hD.sub (ws' := [(mo, .inr (8, [.int th, .int fd, .ref rt, .int mn, .ref rk, .ref rv, .ref rw, .ref ro, .int md, .ref rr, .int (nI ([] : List Nat).length), .ref ra, .long pz, .int kc, .ref rc, .ref rl, .ref rb, .int la, .int ca])), (ra, .inl (cB, 16400, .inl fa)), (rk, .inl (cI, 16, .inl fk)), (rv, .inl (cL, 16, .inr (.inl fv)))]) [0, 1, 2, 3] (by decide) rfl
                  have hFc := va_free (wc := [(mo, .inr (8, [.int th, .int fd, .ref rt, .int mn, .ref rk, .ref rv, .ref rw, .ref ro, .int md, .ref rr, .int (nI ([] : List Nat).length), .ref ra, .long pz, .int kc, .ref rc, .ref rl, .ref rb, .int la, .int ca])), (ra, .inl (cB, 16400, .inl fa)), (rk, .inl (cI, 16, .inl fk)), (rv, .inl (cL, 16, .inr (.inl fv)))]) hD hS hA [0, 1, 2, 3] rfl
                  refine zz_callv (va_runV (As := [.int (nI j), .int (nI (mb_v v)), .int (by_z (decide (v = 88)))]) (rest := []) ⟨hx, hb, hml, hown, hg⟩ (c_Mo_sized l dC dI mo rt rk rv rw ro rr ra rc rl rb th fd mn md (nI ([] : List Nat).length) pz kc la ca cB fa ([] : List Nat) cI cL fk fv j (mb_v v) (decide (v = 88)) (by_nil _) (by (try simp only [List.length_append, List.length_cons, List.length_nil]); omega) hj (mb_s (n := 0) (by omega)).2.2.2.2.1 (mb_s (n := 0) (by omega)).2.2.2.2.2 s.heap.size) (cwV 3 hg (gi_V kw_867 kw_869 sw_17 kw_9 kw_870) rfl rfl rfl (by decide +kernel) ⟨Nat.le_of_ble_eq_true rfl, Nat.le_of_ble_eq_true rfl⟩) (zz_preV hPc hKc hDc _ (q0 := 0) (ci := 8) rfl rfl) rfl rfl hl.1 rfl (lv_room (Nat.le_of_ble_eq_true rfl)) d_Mo_makes_142 ⟨Nat.le_of_ble_eq_true rfl, Nat.le_of_ble_eq_true rfl⟩) hS hFc (fun u H1 k9 p9 d9 => va_join (wr := [(rw, .inl (cI, 16, .inl fw)), (ro, .inl (cB, 65536, .inl fo))]) hP hD [0, 1, 2, 3] [4, 5] rfl rfl (by decide) (by decide) k9 hFc p9 d9) (fun u H locs hw hP hD hK1 hS => ?_)
                  obtain ⟨u_259, rfl⟩ : ∃ z, z = u := ⟨_, rfl⟩
                  try dsimp only at hw
                  have hP : va_P (dC, dI) vwCl [(rw, .inl (cI, 16, .inl fw)), (ro, .inl (cB, 65536, .inl fo)), (mo, .inr (8, [.int th, .int fd, .ref rt, .int mn, .ref rk, .ref rv, .ref rw, .ref ro, .int md, .ref rr, .int (nI (([] : List Nat) ++ (nu_f (mb_v v) (dg_t (decide (v = 88))) 64 (ar_m (fk j) (fv j))).reverse).length), .ref ra, .long pz, .int kc, .ref rc, .ref rl, .ref rb, .int la, .int ca])), (ra, .inl (cB, 16400, .inl u_259)), (rk, .inl (cI, 16, .inl fk)), (rv, .inl (cL, 16, .inr (.inl fv)))] H := hP
                  have hD : va_D A [(rw, .inl (cI, 16, .inl fw)), (ro, .inl (cB, 65536, .inl fo)), (mo, .inr (8, [.int th, .int fd, .ref rt, .int mn, .ref rk, .ref rv, .ref rw, .ref ro, .int md, .ref rr, .int (nI (([] : List Nat) ++ (nu_f (mb_v v) (dg_t (decide (v = 88))) 64 (ar_m (fk j) (fv j))).reverse).length), .ref ra, .long pz, .int kc, .ref rc, .ref rl, .ref rb, .int la, .int ca])), (ra, .inl (cB, 16400, .inl u_259)), (rk, .inl (cI, 16, .inl fk)), (rv, .inl (cL, 16, .inr (.inl fv)))] := hD
                  have hL_261 := hw
                  refine lv_goto (tgt := 358) hx hb d_Mo_makes_145 (by decide) ?_
                  refine lv_iconst (v := 1) hx hb d_Mo_makes_358 (by decide) ?_
                  have hmo : (mk_o v k x B bp) = some (([] : List Nat) ++ (nu_f (mb_v v) (dg_t (decide (v = 88))) 64 (ar_m (fk j) (fv j))).reverse) := (by rw [hk9, hmg.2.1]; exact mk_b3 hkn (by omega) hbb hbq)
                  have hP9 := hP.sub (ws' := [(mo, .inr (8, [.int th, .int fd, .ref rt, .int mn, .ref rk, .ref rv, .ref rw, .ref ro, .int md, .ref rr, .int (nI (([] : List Nat) ++ (nu_f (mb_v v) (dg_t (decide (v = 88))) 64 (ar_m (fk j) (fv j))).reverse).length), .ref ra, .long pz, .int kc, .ref rc, .ref rl, .ref rb, .int la, .int ca])), (ra, .inl (cB, 16400, .inl u_259)), (rk, .inl (cI, 16, .inl fk)), (rv, .inl (cL, 16, .inr (.inl fv))), (rw, .inl (cI, 16, .inl fw)), (ro, .inl (cB, 65536, .inl fo))]) [2, 3, 4, 5, 0, 1] rfl
                  have hD9 := hD.sub (ws' := [(mo, .inr (8, [.int th, .int fd, .ref rt, .int mn, .ref rk, .ref rv, .ref rw, .ref ro, .int md, .ref rr, .int (nI (([] : List Nat) ++ (nu_f (mb_v v) (dg_t (decide (v = 88))) 64 (ar_m (fk j) (fv j))).reverse).length), .ref ra, .long pz, .int kc, .ref rc, .ref rl, .ref rb, .int la, .int ca])), (ra, .inl (cB, 16400, .inl u_259)), (rk, .inl (cI, 16, .inl fk)), (rv, .inl (cL, 16, .inr (.inl fv))), (rw, .inl (cI, 16, .inl fw)), (ro, .inl (cB, 65536, .inl fo))]) [2, 3, 4, 5, 0, 1] (by decide) rfl
                  have hK9 := hK.sub (tys' := [(cB, .byte), (cI, .int), (cL, .long)]) [0, 1, 2] rfl
                  rw [show nI (([] : List Nat) ++ (nu_f (mb_v v) (dg_t (decide (v = 88))) 64 (ar_m (fk j) (fv j))).reverse).length = nI ((mk_o v k x B bp).getD []).length by rw [hmo]; rfl] at hP9 hD9
                  exact zz_zret hx hb hr hlocks d_Mo_makes_359 (by decide) hS (by first | exact Nat.le_refl _ | decide | omega | (dsimp only; omega)) (by first | exact Nat.le_refl _ | decide | omega | (dsimp only; omega)) (u_259, la, ca) ⟨by rw [hmo]; rfl, by rw [hmo]; exact hL_261⟩ hP9 hK9 hD9
              · skip
                have hbq : bp = true := by_z_t rfl c_116
                refine lv_aload_n hx hb d_Mo_makes_119 rfl (lv_at hl 3 rfl) ?_
                refine lv_bipush (v := 43) hx hb d_Mo_makes_120 (by decide) ?_
                have hPc := hP.sub (ws' := [(mo, .inr (8, [.int th, .int fd, .ref rt, .int mn, .ref rk, .ref rv, .ref rw, .ref ro, .int md, .ref rr, .int (nI ([] : List Nat).length), .ref ra, .long pz, .int kc, .ref rc, .ref rl, .ref rb, .int la, .int ca])), (ra, .inl (cB, 16400, .inl fa))]) [0, 1] rfl
                have hKc := hK.sub (tys' := [(cB, .byte)]) [0] rfl
                have hDc := hD.sub (ws' := [(mo, .inr (8, [.int th, .int fd, .ref rt, .int mn, .ref rk, .ref rv, .ref rw, .ref ro, .int md, .ref rr, .int (nI ([] : List Nat).length), .ref ra, .long pz, .int kc, .ref rc, .ref rl, .ref rb, .int la, .int ca])), (ra, .inl (cB, 16400, .inl fa))]) [0, 1] (by decide) rfl
                have hFc := va_free (wc := [(mo, .inr (8, [.int th, .int fd, .ref rt, .int mn, .ref rk, .ref rv, .ref rw, .ref ro, .int md, .ref rr, .int (nI ([] : List Nat).length), .ref ra, .long pz, .int kc, .ref rc, .ref rl, .ref rb, .int la, .int ca])), (ra, .inl (cB, 16400, .inl fa))]) hD hS hA [0, 1] rfl
                refine zz_callv (va_runV (As := [.int 43]) (rest := []) ⟨hx, hb, hml, hown, hg⟩ (c_Mo_put l dC dI mo rt rk rv rw ro rr ra rc rl rb th fd mn md (nI ([] : List Nat).length) pz kc la ca cB fa ([] : List Nat) 43 (by_nil _) (by (try simp only [List.length_append, List.length_cons, List.length_nil]); omega) s.heap.size) (cwV 1 hg (gi_V kw_863 kw_865 sw_16 kw_9 kw_866) rfl rfl rfl (by decide +kernel) ⟨Nat.le_of_ble_eq_true rfl, Nat.le_of_ble_eq_true rfl⟩) (zz_preV hPc hKc hDc _ (q0 := 0) (ci := 8) rfl rfl) rfl rfl hl.1 rfl (lv_room (Nat.le_of_ble_eq_true rfl)) d_Mo_makes_122 ⟨Nat.le_of_ble_eq_true rfl, Nat.le_of_ble_eq_true rfl⟩) hS hFc (fun u H1 k9 p9 d9 => va_join (wr := [(rk, .inl (cI, 16, .inl fk)), (rv, .inl (cL, 16, .inr (.inl fv))), (rw, .inl (cI, 16, .inl fw)), (ro, .inl (cB, 65536, .inl fo))]) hP hD [0, 1] [2, 3, 4, 5] rfl rfl (by decide) (by decide) k9 hFc p9 d9) (fun u H locs hw hP hD hK1 hS => ?_)
                obtain ⟨u_262, rfl⟩ : ∃ z, z = u := ⟨_, rfl⟩
                try dsimp only at hw
                have hP : va_P (dC, dI) vwCl [(rk, .inl (cI, 16, .inl fk)), (rv, .inl (cL, 16, .inr (.inl fv))), (rw, .inl (cI, 16, .inl fw)), (ro, .inl (cB, 65536, .inl fo)), (mo, .inr (8, [.int th, .int fd, .ref rt, .int mn, .ref rk, .ref rv, .ref rw, .ref ro, .int md, .ref rr, .int (nI (([] : List Nat) ++ [by_b 43]).length), .ref ra, .long pz, .int kc, .ref rc, .ref rl, .ref rb, .int la, .int ca])), (ra, .inl (cB, 16400, .inl u_262))] H := hP
                have hD : va_D A [(rk, .inl (cI, 16, .inl fk)), (rv, .inl (cL, 16, .inr (.inl fv))), (rw, .inl (cI, 16, .inl fw)), (ro, .inl (cB, 65536, .inl fo)), (mo, .inr (8, [.int th, .int fd, .ref rt, .int mn, .ref rk, .ref rv, .ref rw, .ref ro, .int md, .ref rr, .int (nI (([] : List Nat) ++ [by_b 43]).length), .ref ra, .long pz, .int kc, .ref rc, .ref rl, .ref rb, .int la, .int ca])), (ra, .inl (cB, 16400, .inl u_262))] := hD
                have hL_264 := hw
                refine lv_aload_n hx hb d_Mo_makes_125 rfl (lv_at hl 3 rfl) ?_
                refine lv_iload_n hx hb d_Mo_makes_126 rfl (lv_at hl 5 rfl) ?_
                refine lv_iload_n hx hb d_Mo_makes_127 rfl (lv_at hl 4 rfl) ?_
                have hPc := hP.sub (ws' := []) [] rfl
                have hKc := hK.sub (tys' := []) [] rfl
                refine vp_callSi (W.runS (As := [.int (sb_b v)]) (rest := [.int (nI j), .ref mo]) ⟨hx, hb, hml, hown, hg⟩ (c_Mo_baseOf l dC dI v hv) (va_cwS 1 hg (gi_S kw_856 kw_857 kw_9 kw_858) rfl rfl rfl (by decide +kernel) ⟨Nat.le_of_ble_eq_true rfl, Nat.le_of_ble_eq_true rfl⟩) (zz_prJS hPc hKc _) rfl rfl hl.1 rfl (lv_room (Nat.le_of_ble_eq_true rfl)) d_Mo_makes_128 ⟨Nat.le_of_ble_eq_true rfl, Nat.le_of_ble_eq_true rfl⟩) (fun r_265 hr_265 => ?_)
                subst hr_265
                refine lv_iload_n hx hb d_Mo_makes_131 rfl (lv_at hl 4 rfl) ?_
                refine lv_bipush (v := 88) hx hb d_Mo_makes_132 (by decide) ?_
                refine lv_icmp_ne (tgt := 141) hx hb d_Mo_makes_134 (by decide) (fun c_134 => ?_) (fun c_134 => ?_)
                · skip
                  have f_134 : v ≠ 88 := sb_e2 (k := 88) hv (by decide) c_134
                  refine lv_iconst (v := 0) hx hb d_Mo_makes_141 (by decide) ?_
                  refine lv_topi (fun y_266 ey_266 => ?_)
                  have ey_266 : y_266 = (by_z (decide (v = 88)) : Int32) := ey_266.trans (show 0 = by_z (decide (v = 88)) from (by rw [decide_eq_false f_134]; rfl))
                  subst ey_266
                  have hPc := hP.sub (ws' := [(mo, .inr (8, [.int th, .int fd, .ref rt, .int mn, .ref rk, .ref rv, .ref rw, .ref ro, .int md, .ref rr, .int (nI (([] : List Nat) ++ [by_b 43]).length), .ref ra, .long pz, .int kc, .ref rc, .ref rl, .ref rb, .int la, .int ca])), (ra, .inl (cB, 16400, .inl u_262)), (rk, .inl (cI, 16, .inl fk)), (rv, .inl (cL, 16, .inr (.inl fv)))]) [4, 5, 0, 1] rfl
                  have hKc := hK.sub (tys' := [(cB, .byte), (cI, .int), (cL, .long)]) [0, 1, 2] rfl
                  have hDc := hD.sub (ws' := [(mo, .inr (8, [.int th, .int fd, .ref rt, .int mn, .ref rk, .ref rv, .ref rw, .ref ro, .int md, .ref rr, .int (nI (([] : List Nat) ++ [by_b 43]).length), .ref ra, .long pz, .int kc, .ref rc, .ref rl, .ref rb, .int la, .int ca])), (ra, .inl (cB, 16400, .inl u_262)), (rk, .inl (cI, 16, .inl fk)), (rv, .inl (cL, 16, .inr (.inl fv)))]) [4, 5, 0, 1] (by decide) rfl
                  have hFc := va_free (wc := [(mo, .inr (8, [.int th, .int fd, .ref rt, .int mn, .ref rk, .ref rv, .ref rw, .ref ro, .int md, .ref rr, .int (nI (([] : List Nat) ++ [by_b 43]).length), .ref ra, .long pz, .int kc, .ref rc, .ref rl, .ref rb, .int la, .int ca])), (ra, .inl (cB, 16400, .inl u_262)), (rk, .inl (cI, 16, .inl fk)), (rv, .inl (cL, 16, .inr (.inl fv)))]) hD hS hA [4, 5, 0, 1] rfl
                  refine zz_callv (va_runV (As := [.int (nI j), .int (nI (mb_v v)), .int (by_z (decide (v = 88)))]) (rest := []) ⟨hx, hb, hml, hown, hg⟩ (c_Mo_sized l dC dI mo rt rk rv rw ro rr ra rc rl rb th fd mn md (nI (([] : List Nat) ++ [by_b 43]).length) pz kc la ca cB u_262 (([] : List Nat) ++ [by_b 43]) cI cL fk fv j (mb_v v) (decide (v = 88)) hL_264 (by (try simp only [List.length_append, List.length_cons, List.length_nil]); omega) hj (mb_s (n := 0) (by omega)).2.2.2.2.1 (mb_s (n := 0) (by omega)).2.2.2.2.2 H.size) (cwV 3 hg (gi_V kw_867 kw_869 sw_17 kw_9 kw_870) rfl rfl rfl (by decide +kernel) ⟨Nat.le_of_ble_eq_true rfl, Nat.le_of_ble_eq_true rfl⟩) (zz_preV hPc hKc hDc _ (q0 := 0) (ci := 8) rfl rfl) rfl rfl hl.1 rfl (lv_room (Nat.le_of_ble_eq_true rfl)) d_Mo_makes_142 ⟨Nat.le_of_ble_eq_true rfl, Nat.le_of_ble_eq_true rfl⟩) hS hFc (fun u H1 k9 p9 d9 => va_join (wr := [(rw, .inl (cI, 16, .inl fw)), (ro, .inl (cB, 65536, .inl fo))]) hP hD [4, 5, 0, 1] [2, 3] rfl rfl (by decide) (by decide) k9 hFc p9 d9) (fun u H locs hw hP hD hK1 hS => ?_)
                  obtain ⟨u_267, rfl⟩ : ∃ z, z = u := ⟨_, rfl⟩
                  try dsimp only at hw
                  have hP : va_P (dC, dI) vwCl [(rw, .inl (cI, 16, .inl fw)), (ro, .inl (cB, 65536, .inl fo)), (mo, .inr (8, [.int th, .int fd, .ref rt, .int mn, .ref rk, .ref rv, .ref rw, .ref ro, .int md, .ref rr, .int (nI ((([] : List Nat) ++ [by_b 43]) ++ (nu_f (mb_v v) (dg_t (decide (v = 88))) 64 (ar_m (fk j) (fv j))).reverse).length), .ref ra, .long pz, .int kc, .ref rc, .ref rl, .ref rb, .int la, .int ca])), (ra, .inl (cB, 16400, .inl u_267)), (rk, .inl (cI, 16, .inl fk)), (rv, .inl (cL, 16, .inr (.inl fv)))] H := hP
                  have hD : va_D A [(rw, .inl (cI, 16, .inl fw)), (ro, .inl (cB, 65536, .inl fo)), (mo, .inr (8, [.int th, .int fd, .ref rt, .int mn, .ref rk, .ref rv, .ref rw, .ref ro, .int md, .ref rr, .int (nI ((([] : List Nat) ++ [by_b 43]) ++ (nu_f (mb_v v) (dg_t (decide (v = 88))) 64 (ar_m (fk j) (fv j))).reverse).length), .ref ra, .long pz, .int kc, .ref rc, .ref rl, .ref rb, .int la, .int ca])), (ra, .inl (cB, 16400, .inl u_267)), (rk, .inl (cI, 16, .inl fk)), (rv, .inl (cL, 16, .inr (.inl fv)))] := hD
                  have hL_269 := hw
                  refine lv_goto (tgt := 358) hx hb d_Mo_makes_145 (by decide) ?_
                  refine lv_iconst (v := 1) hx hb d_Mo_makes_358 (by decide) ?_
                  have hmo : (mk_o v k x B bp) = some ((([] : List Nat) ++ [by_b 43]) ++ (nu_f (mb_v v) (dg_t (decide (v = 88))) 64 (ar_m (fk j) (fv j))).reverse) := (by rw [hk9, hmg.2.1]; exact mk_b2 hkn (by omega) hbb hbq)
                  have hP9 := hP.sub (ws' := [(mo, .inr (8, [.int th, .int fd, .ref rt, .int mn, .ref rk, .ref rv, .ref rw, .ref ro, .int md, .ref rr, .int (nI ((([] : List Nat) ++ [by_b 43]) ++ (nu_f (mb_v v) (dg_t (decide (v = 88))) 64 (ar_m (fk j) (fv j))).reverse).length), .ref ra, .long pz, .int kc, .ref rc, .ref rl, .ref rb, .int la, .int ca])), (ra, .inl (cB, 16400, .inl u_267)), (rk, .inl (cI, 16, .inl fk)), (rv, .inl (cL, 16, .inr (.inl fv))), (rw, .inl (cI, 16, .inl fw)), (ro, .inl (cB, 65536, .inl fo))]) [2, 3, 4, 5, 0, 1] rfl
                  have hD9 := hD.sub (ws' := [(mo, .inr (8, [.int th, .int fd, .ref rt, .int mn, .ref rk, .ref rv, .ref rw, .ref ro, .int md, .ref rr, .int (nI ((([] : List Nat) ++ [by_b 43]) ++ (nu_f (mb_v v) (dg_t (decide (v = 88))) 64 (ar_m (fk j) (fv j))).reverse).length), .ref ra, .long pz, .int kc, .ref rc, .ref rl, .ref rb, .int la, .int ca])), (ra, .inl (cB, 16400, .inl u_267)), (rk, .inl (cI, 16, .inl fk)), (rv, .inl (cL, 16, .inr (.inl fv))), (rw, .inl (cI, 16, .inl fw)), (ro, .inl (cB, 65536, .inl fo))]) [2, 3, 4, 5, 0, 1] (by decide) rfl
                  have hK9 := hK.sub (tys' := [(cB, .byte), (cI, .int), (cL, .long)]) [0, 1, 2] rfl
                  rw [show nI ((([] : List Nat) ++ [by_b 43]) ++ (nu_f (mb_v v) (dg_t (decide (v = 88))) 64 (ar_m (fk j) (fv j))).reverse).length = nI ((mk_o v k x B bp).getD []).length by rw [hmo]; rfl] at hP9 hD9
                  exact zz_zret hx hb hr hlocks d_Mo_makes_359 (by decide) hS (by first | exact Nat.le_refl _ | decide | omega | (dsimp only; omega)) (by first | exact Nat.le_refl _ | decide | omega | (dsimp only; omega)) (u_267, la, ca) ⟨by rw [hmo]; rfl, by rw [hmo]; exact hL_269⟩ hP9 hK9 hD9
                · skip
                  have f_134 : v = 88 := sb_e1 (k := 88) hv (by decide) c_134
                  refine lv_iconst (v := 1) hx hb d_Mo_makes_137 (by decide) ?_
                  refine lv_goto (tgt := 142) hx hb d_Mo_makes_138 (by decide) ?_
                  refine lv_topi (fun y_270 ey_270 => ?_)
                  have ey_270 : y_270 = (by_z (decide (v = 88)) : Int32) := ey_270.trans (show 1 = by_z (decide (v = 88)) from (by rw [decide_eq_true f_134]; rfl))
                  subst ey_270
                  have hPc := hP.sub (ws' := [(mo, .inr (8, [.int th, .int fd, .ref rt, .int mn, .ref rk, .ref rv, .ref rw, .ref ro, .int md, .ref rr, .int (nI (([] : List Nat) ++ [by_b 43]).length), .ref ra, .long pz, .int kc, .ref rc, .ref rl, .ref rb, .int la, .int ca])), (ra, .inl (cB, 16400, .inl u_262)), (rk, .inl (cI, 16, .inl fk)), (rv, .inl (cL, 16, .inr (.inl fv)))]) [4, 5, 0, 1] rfl
                  have hKc := hK.sub (tys' := [(cB, .byte), (cI, .int), (cL, .long)]) [0, 1, 2] rfl
                  have hDc := hD.sub (ws' := [(mo, .inr (8, [.int th, .int fd, .ref rt, .int mn, .ref rk, .ref rv, .ref rw, .ref ro, .int md, .ref rr, .int (nI (([] : List Nat) ++ [by_b 43]).length), .ref ra, .long pz, .int kc, .ref rc, .ref rl, .ref rb, .int la, .int ca])), (ra, .inl (cB, 16400, .inl u_262)), (rk, .inl (cI, 16, .inl fk)), (rv, .inl (cL, 16, .inr (.inl fv)))]) [4, 5, 0, 1] (by decide) rfl
                  have hFc := va_free (wc := [(mo, .inr (8, [.int th, .int fd, .ref rt, .int mn, .ref rk, .ref rv, .ref rw, .ref ro, .int md, .ref rr, .int (nI (([] : List Nat) ++ [by_b 43]).length), .ref ra, .long pz, .int kc, .ref rc, .ref rl, .ref rb, .int la, .int ca])), (ra, .inl (cB, 16400, .inl u_262)), (rk, .inl (cI, 16, .inl fk)), (rv, .inl (cL, 16, .inr (.inl fv)))]) hD hS hA [4, 5, 0, 1] rfl
                  refine zz_callv (va_runV (As := [.int (nI j), .int (nI (mb_v v)), .int (by_z (decide (v = 88)))]) (rest := []) ⟨hx, hb, hml, hown, hg⟩ (c_Mo_sized l dC dI mo rt rk rv rw ro rr ra rc rl rb th fd mn md (nI (([] : List Nat) ++ [by_b 43]).length) pz kc la ca cB u_262 (([] : List Nat) ++ [by_b 43]) cI cL fk fv j (mb_v v) (decide (v = 88)) hL_264 (by (try simp only [List.length_append, List.length_cons, List.length_nil]); omega) hj (mb_s (n := 0) (by omega)).2.2.2.2.1 (mb_s (n := 0) (by omega)).2.2.2.2.2 H.size) (cwV 3 hg (gi_V kw_867 kw_869 sw_17 kw_9 kw_870) rfl rfl rfl (by decide +kernel) ⟨Nat.le_of_ble_eq_true rfl, Nat.le_of_ble_eq_true rfl⟩) (zz_preV hPc hKc hDc _ (q0 := 0) (ci := 8) rfl rfl) rfl rfl hl.1 rfl (lv_room (Nat.le_of_ble_eq_true rfl)) d_Mo_makes_142 ⟨Nat.le_of_ble_eq_true rfl, Nat.le_of_ble_eq_true rfl⟩) hS hFc (fun u H1 k9 p9 d9 => va_join (wr := [(rw, .inl (cI, 16, .inl fw)), (ro, .inl (cB, 65536, .inl fo))]) hP hD [4, 5, 0, 1] [2, 3] rfl rfl (by decide) (by decide) k9 hFc p9 d9) (fun u H locs hw hP hD hK1 hS => ?_)
                  obtain ⟨u_271, rfl⟩ : ∃ z, z = u := ⟨_, rfl⟩
                  try dsimp only at hw
                  have hP : va_P (dC, dI) vwCl [(rw, .inl (cI, 16, .inl fw)), (ro, .inl (cB, 65536, .inl fo)), (mo, .inr (8, [.int th, .int fd, .ref rt, .int mn, .ref rk, .ref rv, .ref rw, .ref ro, .int md, .ref rr, .int (nI ((([] : List Nat) ++ [by_b 43]) ++ (nu_f (mb_v v) (dg_t (decide (v = 88))) 64 (ar_m (fk j) (fv j))).reverse).length), .ref ra, .long pz, .int kc, .ref rc, .ref rl, .ref rb, .int la, .int ca])), (ra, .inl (cB, 16400, .inl u_271)), (rk, .inl (cI, 16, .inl fk)), (rv, .inl (cL, 16, .inr (.inl fv)))] H := hP
                  have hD : va_D A [(rw, .inl (cI, 16, .inl fw)), (ro, .inl (cB, 65536, .inl fo)), (mo, .inr (8, [.int th, .int fd, .ref rt, .int mn, .ref rk, .ref rv, .ref rw, .ref ro, .int md, .ref rr, .int (nI ((([] : List Nat) ++ [by_b 43]) ++ (nu_f (mb_v v) (dg_t (decide (v = 88))) 64 (ar_m (fk j) (fv j))).reverse).length), .ref ra, .long pz, .int kc, .ref rc, .ref rl, .ref rb, .int la, .int ca])), (ra, .inl (cB, 16400, .inl u_271)), (rk, .inl (cI, 16, .inl fk)), (rv, .inl (cL, 16, .inr (.inl fv)))] := hD
                  have hL_273 := hw
                  refine lv_goto (tgt := 358) hx hb d_Mo_makes_145 (by decide) ?_
                  refine lv_iconst (v := 1) hx hb d_Mo_makes_358 (by decide) ?_
                  have hmo : (mk_o v k x B bp) = some ((([] : List Nat) ++ [by_b 43]) ++ (nu_f (mb_v v) (dg_t (decide (v = 88))) 64 (ar_m (fk j) (fv j))).reverse) := (by rw [hk9, hmg.2.1]; exact mk_b2 hkn (by omega) hbb hbq)
                  have hP9 := hP.sub (ws' := [(mo, .inr (8, [.int th, .int fd, .ref rt, .int mn, .ref rk, .ref rv, .ref rw, .ref ro, .int md, .ref rr, .int (nI ((([] : List Nat) ++ [by_b 43]) ++ (nu_f (mb_v v) (dg_t (decide (v = 88))) 64 (ar_m (fk j) (fv j))).reverse).length), .ref ra, .long pz, .int kc, .ref rc, .ref rl, .ref rb, .int la, .int ca])), (ra, .inl (cB, 16400, .inl u_271)), (rk, .inl (cI, 16, .inl fk)), (rv, .inl (cL, 16, .inr (.inl fv))), (rw, .inl (cI, 16, .inl fw)), (ro, .inl (cB, 65536, .inl fo))]) [2, 3, 4, 5, 0, 1] rfl
                  have hD9 := hD.sub (ws' := [(mo, .inr (8, [.int th, .int fd, .ref rt, .int mn, .ref rk, .ref rv, .ref rw, .ref ro, .int md, .ref rr, .int (nI ((([] : List Nat) ++ [by_b 43]) ++ (nu_f (mb_v v) (dg_t (decide (v = 88))) 64 (ar_m (fk j) (fv j))).reverse).length), .ref ra, .long pz, .int kc, .ref rc, .ref rl, .ref rb, .int la, .int ca])), (ra, .inl (cB, 16400, .inl u_271)), (rk, .inl (cI, 16, .inl fk)), (rv, .inl (cL, 16, .inr (.inl fv))), (rw, .inl (cI, 16, .inl fw)), (ro, .inl (cB, 65536, .inl fo))]) [2, 3, 4, 5, 0, 1] (by decide) rfl
                  have hK9 := hK.sub (tys' := [(cB, .byte), (cI, .int), (cL, .long)]) [0, 1, 2] rfl
                  rw [show nI ((([] : List Nat) ++ [by_b 43]) ++ (nu_f (mb_v v) (dg_t (decide (v = 88))) 64 (ar_m (fk j) (fv j))).reverse).length = nI ((mk_o v k x B bp).getD []).length by rw [hmo]; rfl] at hP9 hD9
                  exact zz_zret hx hb hr hlocks d_Mo_makes_359 (by decide) hS (by first | exact Nat.le_refl _ | decide | omega | (dsimp only; omega)) (by first | exact Nat.le_refl _ | decide | omega | (dsimp only; omega)) (u_271, la, ca) ⟨by rw [hmo]; rfl, by rw [hmo]; exact hL_273⟩ hP9 hK9 hD9
            · skip
              have hbb : ar_b (nI k) x = true := by_z_t hr_252 c_103
              refine lv_aload_n hx hb d_Mo_makes_106 rfl (lv_at hl 3 rfl) ?_
              refine lv_bipush (v := 45) hx hb d_Mo_makes_107 (by decide) ?_
              have hPc := hP.sub (ws' := [(mo, .inr (8, [.int th, .int fd, .ref rt, .int mn, .ref rk, .ref rv, .ref rw, .ref ro, .int md, .ref rr, .int (nI ([] : List Nat).length), .ref ra, .long pz, .int kc, .ref rc, .ref rl, .ref rb, .int la, .int ca])), (ra, .inl (cB, 16400, .inl fa))]) [0, 1] rfl
              have hKc := hK.sub (tys' := [(cB, .byte)]) [0] rfl
              have hDc := hD.sub (ws' := [(mo, .inr (8, [.int th, .int fd, .ref rt, .int mn, .ref rk, .ref rv, .ref rw, .ref ro, .int md, .ref rr, .int (nI ([] : List Nat).length), .ref ra, .long pz, .int kc, .ref rc, .ref rl, .ref rb, .int la, .int ca])), (ra, .inl (cB, 16400, .inl fa))]) [0, 1] (by decide) rfl
              have hFc := va_free (wc := [(mo, .inr (8, [.int th, .int fd, .ref rt, .int mn, .ref rk, .ref rv, .ref rw, .ref ro, .int md, .ref rr, .int (nI ([] : List Nat).length), .ref ra, .long pz, .int kc, .ref rc, .ref rl, .ref rb, .int la, .int ca])), (ra, .inl (cB, 16400, .inl fa))]) hD hS hA [0, 1] rfl
              refine zz_callv (va_runV (As := [.int 45]) (rest := []) ⟨hx, hb, hml, hown, hg⟩ (c_Mo_put l dC dI mo rt rk rv rw ro rr ra rc rl rb th fd mn md (nI ([] : List Nat).length) pz kc la ca cB fa ([] : List Nat) 45 (by_nil _) (by (try simp only [List.length_append, List.length_cons, List.length_nil]); omega) s.heap.size) (cwV 1 hg (gi_V kw_863 kw_865 sw_16 kw_9 kw_866) rfl rfl rfl (by decide +kernel) ⟨Nat.le_of_ble_eq_true rfl, Nat.le_of_ble_eq_true rfl⟩) (zz_preV hPc hKc hDc _ (q0 := 0) (ci := 8) rfl rfl) rfl rfl hl.1 rfl (lv_room (Nat.le_of_ble_eq_true rfl)) d_Mo_makes_109 ⟨Nat.le_of_ble_eq_true rfl, Nat.le_of_ble_eq_true rfl⟩) hS hFc (fun u H1 k9 p9 d9 => va_join (wr := [(rk, .inl (cI, 16, .inl fk)), (rv, .inl (cL, 16, .inr (.inl fv))), (rw, .inl (cI, 16, .inl fw)), (ro, .inl (cB, 65536, .inl fo))]) hP hD [0, 1] [2, 3, 4, 5] rfl rfl (by decide) (by decide) k9 hFc p9 d9) (fun u H locs hw hP hD hK1 hS => ?_)
              obtain ⟨u_274, rfl⟩ : ∃ z, z = u := ⟨_, rfl⟩
              try dsimp only at hw
              have hP : va_P (dC, dI) vwCl [(rk, .inl (cI, 16, .inl fk)), (rv, .inl (cL, 16, .inr (.inl fv))), (rw, .inl (cI, 16, .inl fw)), (ro, .inl (cB, 65536, .inl fo)), (mo, .inr (8, [.int th, .int fd, .ref rt, .int mn, .ref rk, .ref rv, .ref rw, .ref ro, .int md, .ref rr, .int (nI (([] : List Nat) ++ [by_b 45]).length), .ref ra, .long pz, .int kc, .ref rc, .ref rl, .ref rb, .int la, .int ca])), (ra, .inl (cB, 16400, .inl u_274))] H := hP
              have hD : va_D A [(rk, .inl (cI, 16, .inl fk)), (rv, .inl (cL, 16, .inr (.inl fv))), (rw, .inl (cI, 16, .inl fw)), (ro, .inl (cB, 65536, .inl fo)), (mo, .inr (8, [.int th, .int fd, .ref rt, .int mn, .ref rk, .ref rv, .ref rw, .ref ro, .int md, .ref rr, .int (nI (([] : List Nat) ++ [by_b 45]).length), .ref ra, .long pz, .int kc, .ref rc, .ref rl, .ref rb, .int la, .int ca])), (ra, .inl (cB, 16400, .inl u_274))] := hD
              have hL_276 := hw
              refine lv_goto (tgt := 125) hx hb d_Mo_makes_112 (by decide) ?_
              refine lv_aload_n hx hb d_Mo_makes_125 rfl (lv_at hl 3 rfl) ?_
              refine lv_iload_n hx hb d_Mo_makes_126 rfl (lv_at hl 5 rfl) ?_
              refine lv_iload_n hx hb d_Mo_makes_127 rfl (lv_at hl 4 rfl) ?_
              have hPc := hP.sub (ws' := []) [] rfl
              have hKc := hK.sub (tys' := []) [] rfl
              refine vp_callSi (W.runS (As := [.int (sb_b v)]) (rest := [.int (nI j), .ref mo]) ⟨hx, hb, hml, hown, hg⟩ (c_Mo_baseOf l dC dI v hv) (va_cwS 1 hg (gi_S kw_856 kw_857 kw_9 kw_858) rfl rfl rfl (by decide +kernel) ⟨Nat.le_of_ble_eq_true rfl, Nat.le_of_ble_eq_true rfl⟩) (zz_prJS hPc hKc _) rfl rfl hl.1 rfl (lv_room (Nat.le_of_ble_eq_true rfl)) d_Mo_makes_128 ⟨Nat.le_of_ble_eq_true rfl, Nat.le_of_ble_eq_true rfl⟩) (fun r_277 hr_277 => ?_)
              subst hr_277
              refine lv_iload_n hx hb d_Mo_makes_131 rfl (lv_at hl 4 rfl) ?_
              refine lv_bipush (v := 88) hx hb d_Mo_makes_132 (by decide) ?_
              refine lv_icmp_ne (tgt := 141) hx hb d_Mo_makes_134 (by decide) (fun c_134 => ?_) (fun c_134 => ?_)
              · skip
                have f_134 : v ≠ 88 := sb_e2 (k := 88) hv (by decide) c_134
                refine lv_iconst (v := 0) hx hb d_Mo_makes_141 (by decide) ?_
                refine lv_topi (fun y_278 ey_278 => ?_)
                have ey_278 : y_278 = (by_z (decide (v = 88)) : Int32) := ey_278.trans (show 0 = by_z (decide (v = 88)) from (by rw [decide_eq_false f_134]; rfl))
                subst ey_278
                have hPc := hP.sub (ws' := [(mo, .inr (8, [.int th, .int fd, .ref rt, .int mn, .ref rk, .ref rv, .ref rw, .ref ro, .int md, .ref rr, .int (nI (([] : List Nat) ++ [by_b 45]).length), .ref ra, .long pz, .int kc, .ref rc, .ref rl, .ref rb, .int la, .int ca])), (ra, .inl (cB, 16400, .inl u_274)), (rk, .inl (cI, 16, .inl fk)), (rv, .inl (cL, 16, .inr (.inl fv)))]) [4, 5, 0, 1] rfl
                have hKc := hK.sub (tys' := [(cB, .byte), (cI, .int), (cL, .long)]) [0, 1, 2] rfl
                have hDc := hD.sub (ws' := [(mo, .inr (8, [.int th, .int fd, .ref rt, .int mn, .ref rk, .ref rv, .ref rw, .ref ro, .int md, .ref rr, .int (nI (([] : List Nat) ++ [by_b 45]).length), .ref ra, .long pz, .int kc, .ref rc, .ref rl, .ref rb, .int la, .int ca])), (ra, .inl (cB, 16400, .inl u_274)), (rk, .inl (cI, 16, .inl fk)), (rv, .inl (cL, 16, .inr (.inl fv)))]) [4, 5, 0, 1] (by decide) rfl
                have hFc := va_free (wc := [(mo, .inr (8, [.int th, .int fd, .ref rt, .int mn, .ref rk, .ref rv, .ref rw, .ref ro, .int md, .ref rr, .int (nI (([] : List Nat) ++ [by_b 45]).length), .ref ra, .long pz, .int kc, .ref rc, .ref rl, .ref rb, .int la, .int ca])), (ra, .inl (cB, 16400, .inl u_274)), (rk, .inl (cI, 16, .inl fk)), (rv, .inl (cL, 16, .inr (.inl fv)))]) hD hS hA [4, 5, 0, 1] rfl
                refine zz_callv (va_runV (As := [.int (nI j), .int (nI (mb_v v)), .int (by_z (decide (v = 88)))]) (rest := []) ⟨hx, hb, hml, hown, hg⟩ (c_Mo_sized l dC dI mo rt rk rv rw ro rr ra rc rl rb th fd mn md (nI (([] : List Nat) ++ [by_b 45]).length) pz kc la ca cB u_274 (([] : List Nat) ++ [by_b 45]) cI cL fk fv j (mb_v v) (decide (v = 88)) hL_276 (by (try simp only [List.length_append, List.length_cons, List.length_nil]); omega) hj (mb_s (n := 0) (by omega)).2.2.2.2.1 (mb_s (n := 0) (by omega)).2.2.2.2.2 H.size) (cwV 3 hg (gi_V kw_867 kw_869 sw_17 kw_9 kw_870) rfl rfl rfl (by decide +kernel) ⟨Nat.le_of_ble_eq_true rfl, Nat.le_of_ble_eq_true rfl⟩) (zz_preV hPc hKc hDc _ (q0 := 0) (ci := 8) rfl rfl) rfl rfl hl.1 rfl (lv_room (Nat.le_of_ble_eq_true rfl)) d_Mo_makes_142 ⟨Nat.le_of_ble_eq_true rfl, Nat.le_of_ble_eq_true rfl⟩) hS hFc (fun u H1 k9 p9 d9 => va_join (wr := [(rw, .inl (cI, 16, .inl fw)), (ro, .inl (cB, 65536, .inl fo))]) hP hD [4, 5, 0, 1] [2, 3] rfl rfl (by decide) (by decide) k9 hFc p9 d9) (fun u H locs hw hP hD hK1 hS => ?_)
                obtain ⟨u_279, rfl⟩ : ∃ z, z = u := ⟨_, rfl⟩
                try dsimp only at hw
                have hP : va_P (dC, dI) vwCl [(rw, .inl (cI, 16, .inl fw)), (ro, .inl (cB, 65536, .inl fo)), (mo, .inr (8, [.int th, .int fd, .ref rt, .int mn, .ref rk, .ref rv, .ref rw, .ref ro, .int md, .ref rr, .int (nI ((([] : List Nat) ++ [by_b 45]) ++ (nu_f (mb_v v) (dg_t (decide (v = 88))) 64 (ar_m (fk j) (fv j))).reverse).length), .ref ra, .long pz, .int kc, .ref rc, .ref rl, .ref rb, .int la, .int ca])), (ra, .inl (cB, 16400, .inl u_279)), (rk, .inl (cI, 16, .inl fk)), (rv, .inl (cL, 16, .inr (.inl fv)))] H := hP
                have hD : va_D A [(rw, .inl (cI, 16, .inl fw)), (ro, .inl (cB, 65536, .inl fo)), (mo, .inr (8, [.int th, .int fd, .ref rt, .int mn, .ref rk, .ref rv, .ref rw, .ref ro, .int md, .ref rr, .int (nI ((([] : List Nat) ++ [by_b 45]) ++ (nu_f (mb_v v) (dg_t (decide (v = 88))) 64 (ar_m (fk j) (fv j))).reverse).length), .ref ra, .long pz, .int kc, .ref rc, .ref rl, .ref rb, .int la, .int ca])), (ra, .inl (cB, 16400, .inl u_279)), (rk, .inl (cI, 16, .inl fk)), (rv, .inl (cL, 16, .inr (.inl fv)))] := hD
                have hL_281 := hw
                refine lv_goto (tgt := 358) hx hb d_Mo_makes_145 (by decide) ?_
                refine lv_iconst (v := 1) hx hb d_Mo_makes_358 (by decide) ?_
                have hmo : (mk_o v k x B bp) = some ((([] : List Nat) ++ [by_b 45]) ++ (nu_f (mb_v v) (dg_t (decide (v = 88))) 64 (ar_m (fk j) (fv j))).reverse) := (by rw [hk9, hmg.2.1]; exact mk_b1 hkn (by omega) hbb)
                have hP9 := hP.sub (ws' := [(mo, .inr (8, [.int th, .int fd, .ref rt, .int mn, .ref rk, .ref rv, .ref rw, .ref ro, .int md, .ref rr, .int (nI ((([] : List Nat) ++ [by_b 45]) ++ (nu_f (mb_v v) (dg_t (decide (v = 88))) 64 (ar_m (fk j) (fv j))).reverse).length), .ref ra, .long pz, .int kc, .ref rc, .ref rl, .ref rb, .int la, .int ca])), (ra, .inl (cB, 16400, .inl u_279)), (rk, .inl (cI, 16, .inl fk)), (rv, .inl (cL, 16, .inr (.inl fv))), (rw, .inl (cI, 16, .inl fw)), (ro, .inl (cB, 65536, .inl fo))]) [2, 3, 4, 5, 0, 1] rfl
                have hD9 := hD.sub (ws' := [(mo, .inr (8, [.int th, .int fd, .ref rt, .int mn, .ref rk, .ref rv, .ref rw, .ref ro, .int md, .ref rr, .int (nI ((([] : List Nat) ++ [by_b 45]) ++ (nu_f (mb_v v) (dg_t (decide (v = 88))) 64 (ar_m (fk j) (fv j))).reverse).length), .ref ra, .long pz, .int kc, .ref rc, .ref rl, .ref rb, .int la, .int ca])), (ra, .inl (cB, 16400, .inl u_279)), (rk, .inl (cI, 16, .inl fk)), (rv, .inl (cL, 16, .inr (.inl fv))), (rw, .inl (cI, 16, .inl fw)), (ro, .inl (cB, 65536, .inl fo))]) [2, 3, 4, 5, 0, 1] (by decide) rfl
                have hK9 := hK.sub (tys' := [(cB, .byte), (cI, .int), (cL, .long)]) [0, 1, 2] rfl
                rw [show nI ((([] : List Nat) ++ [by_b 45]) ++ (nu_f (mb_v v) (dg_t (decide (v = 88))) 64 (ar_m (fk j) (fv j))).reverse).length = nI ((mk_o v k x B bp).getD []).length by rw [hmo]; rfl] at hP9 hD9
                exact zz_zret hx hb hr hlocks d_Mo_makes_359 (by decide) hS (by first | exact Nat.le_refl _ | decide | omega | (dsimp only; omega)) (by first | exact Nat.le_refl _ | decide | omega | (dsimp only; omega)) (u_279, la, ca) ⟨by rw [hmo]; rfl, by rw [hmo]; exact hL_281⟩ hP9 hK9 hD9
              · skip
                have f_134 : v = 88 := sb_e1 (k := 88) hv (by decide) c_134
                refine lv_iconst (v := 1) hx hb d_Mo_makes_137 (by decide) ?_
                refine lv_goto (tgt := 142) hx hb d_Mo_makes_138 (by decide) ?_
                refine lv_topi (fun y_282 ey_282 => ?_)
                have ey_282 : y_282 = (by_z (decide (v = 88)) : Int32) := ey_282.trans (show 1 = by_z (decide (v = 88)) from (by rw [decide_eq_true f_134]; rfl))
                subst ey_282
                have hPc := hP.sub (ws' := [(mo, .inr (8, [.int th, .int fd, .ref rt, .int mn, .ref rk, .ref rv, .ref rw, .ref ro, .int md, .ref rr, .int (nI (([] : List Nat) ++ [by_b 45]).length), .ref ra, .long pz, .int kc, .ref rc, .ref rl, .ref rb, .int la, .int ca])), (ra, .inl (cB, 16400, .inl u_274)), (rk, .inl (cI, 16, .inl fk)), (rv, .inl (cL, 16, .inr (.inl fv)))]) [4, 5, 0, 1] rfl
                have hKc := hK.sub (tys' := [(cB, .byte), (cI, .int), (cL, .long)]) [0, 1, 2] rfl
                have hDc := hD.sub (ws' := [(mo, .inr (8, [.int th, .int fd, .ref rt, .int mn, .ref rk, .ref rv, .ref rw, .ref ro, .int md, .ref rr, .int (nI (([] : List Nat) ++ [by_b 45]).length), .ref ra, .long pz, .int kc, .ref rc, .ref rl, .ref rb, .int la, .int ca])), (ra, .inl (cB, 16400, .inl u_274)), (rk, .inl (cI, 16, .inl fk)), (rv, .inl (cL, 16, .inr (.inl fv)))]) [4, 5, 0, 1] (by decide) rfl
                have hFc := va_free (wc := [(mo, .inr (8, [.int th, .int fd, .ref rt, .int mn, .ref rk, .ref rv, .ref rw, .ref ro, .int md, .ref rr, .int (nI (([] : List Nat) ++ [by_b 45]).length), .ref ra, .long pz, .int kc, .ref rc, .ref rl, .ref rb, .int la, .int ca])), (ra, .inl (cB, 16400, .inl u_274)), (rk, .inl (cI, 16, .inl fk)), (rv, .inl (cL, 16, .inr (.inl fv)))]) hD hS hA [4, 5, 0, 1] rfl
                refine zz_callv (va_runV (As := [.int (nI j), .int (nI (mb_v v)), .int (by_z (decide (v = 88)))]) (rest := []) ⟨hx, hb, hml, hown, hg⟩ (c_Mo_sized l dC dI mo rt rk rv rw ro rr ra rc rl rb th fd mn md (nI (([] : List Nat) ++ [by_b 45]).length) pz kc la ca cB u_274 (([] : List Nat) ++ [by_b 45]) cI cL fk fv j (mb_v v) (decide (v = 88)) hL_276 (by (try simp only [List.length_append, List.length_cons, List.length_nil]); omega) hj (mb_s (n := 0) (by omega)).2.2.2.2.1 (mb_s (n := 0) (by omega)).2.2.2.2.2 H.size) (cwV 3 hg (gi_V kw_867 kw_869 sw_17 kw_9 kw_870) rfl rfl rfl (by decide +kernel) ⟨Nat.le_of_ble_eq_true rfl, Nat.le_of_ble_eq_true rfl⟩) (zz_preV hPc hKc hDc _ (q0 := 0) (ci := 8) rfl rfl) rfl rfl hl.1 rfl (lv_room (Nat.le_of_ble_eq_true rfl)) d_Mo_makes_142 ⟨Nat.le_of_ble_eq_true rfl, Nat.le_of_ble_eq_true rfl⟩) hS hFc (fun u H1 k9 p9 d9 => va_join (wr := [(rw, .inl (cI, 16, .inl fw)), (ro, .inl (cB, 65536, .inl fo))]) hP hD [4, 5, 0, 1] [2, 3] rfl rfl (by decide) (by decide) k9 hFc p9 d9) (fun u H locs hw hP hD hK1 hS => ?_)
                obtain ⟨u_283, rfl⟩ : ∃ z, z = u := ⟨_, rfl⟩
                try dsimp only at hw
                have hP : va_P (dC, dI) vwCl [(rw, .inl (cI, 16, .inl fw)), (ro, .inl (cB, 65536, .inl fo)), (mo, .inr (8, [.int th, .int fd, .ref rt, .int mn, .ref rk, .ref rv, .ref rw, .ref ro, .int md, .ref rr, .int (nI ((([] : List Nat) ++ [by_b 45]) ++ (nu_f (mb_v v) (dg_t (decide (v = 88))) 64 (ar_m (fk j) (fv j))).reverse).length), .ref ra, .long pz, .int kc, .ref rc, .ref rl, .ref rb, .int la, .int ca])), (ra, .inl (cB, 16400, .inl u_283)), (rk, .inl (cI, 16, .inl fk)), (rv, .inl (cL, 16, .inr (.inl fv)))] H := hP
                have hD : va_D A [(rw, .inl (cI, 16, .inl fw)), (ro, .inl (cB, 65536, .inl fo)), (mo, .inr (8, [.int th, .int fd, .ref rt, .int mn, .ref rk, .ref rv, .ref rw, .ref ro, .int md, .ref rr, .int (nI ((([] : List Nat) ++ [by_b 45]) ++ (nu_f (mb_v v) (dg_t (decide (v = 88))) 64 (ar_m (fk j) (fv j))).reverse).length), .ref ra, .long pz, .int kc, .ref rc, .ref rl, .ref rb, .int la, .int ca])), (ra, .inl (cB, 16400, .inl u_283)), (rk, .inl (cI, 16, .inl fk)), (rv, .inl (cL, 16, .inr (.inl fv)))] := hD
                have hL_285 := hw
                refine lv_goto (tgt := 358) hx hb d_Mo_makes_145 (by decide) ?_
                refine lv_iconst (v := 1) hx hb d_Mo_makes_358 (by decide) ?_
                have hmo : (mk_o v k x B bp) = some ((([] : List Nat) ++ [by_b 45]) ++ (nu_f (mb_v v) (dg_t (decide (v = 88))) 64 (ar_m (fk j) (fv j))).reverse) := (by rw [hk9, hmg.2.1]; exact mk_b1 hkn (by omega) hbb)
                have hP9 := hP.sub (ws' := [(mo, .inr (8, [.int th, .int fd, .ref rt, .int mn, .ref rk, .ref rv, .ref rw, .ref ro, .int md, .ref rr, .int (nI ((([] : List Nat) ++ [by_b 45]) ++ (nu_f (mb_v v) (dg_t (decide (v = 88))) 64 (ar_m (fk j) (fv j))).reverse).length), .ref ra, .long pz, .int kc, .ref rc, .ref rl, .ref rb, .int la, .int ca])), (ra, .inl (cB, 16400, .inl u_283)), (rk, .inl (cI, 16, .inl fk)), (rv, .inl (cL, 16, .inr (.inl fv))), (rw, .inl (cI, 16, .inl fw)), (ro, .inl (cB, 65536, .inl fo))]) [2, 3, 4, 5, 0, 1] rfl
                have hD9 := hD.sub (ws' := [(mo, .inr (8, [.int th, .int fd, .ref rt, .int mn, .ref rk, .ref rv, .ref rw, .ref ro, .int md, .ref rr, .int (nI ((([] : List Nat) ++ [by_b 45]) ++ (nu_f (mb_v v) (dg_t (decide (v = 88))) 64 (ar_m (fk j) (fv j))).reverse).length), .ref ra, .long pz, .int kc, .ref rc, .ref rl, .ref rb, .int la, .int ca])), (ra, .inl (cB, 16400, .inl u_283)), (rk, .inl (cI, 16, .inl fk)), (rv, .inl (cL, 16, .inr (.inl fv))), (rw, .inl (cI, 16, .inl fw)), (ro, .inl (cB, 65536, .inl fo))]) [2, 3, 4, 5, 0, 1] (by decide) rfl
                have hK9 := hK.sub (tys' := [(cB, .byte), (cI, .int), (cL, .long)]) [0, 1, 2] rfl
                rw [show nI ((([] : List Nat) ++ [by_b 45]) ++ (nu_f (mb_v v) (dg_t (decide (v = 88))) 64 (ar_m (fk j) (fv j))).reverse).length = nI ((mk_o v k x B bp).getD []).length by rw [hmo]; rfl] at hP9 hD9
                exact zz_zret hx hb hr hlocks d_Mo_makes_359 (by decide) hS (by first | exact Nat.le_refl _ | decide | omega | (dsimp only; omega)) (by first | exact Nat.le_refl _ | decide | omega | (dsimp only; omega)) (u_283, la, ca) ⟨by rw [hmo]; rfl, by rw [hmo]; exact hL_285⟩ hP9 hK9 hD9
  · skip
    have hk9 : fk j = 3 := by rw [hmg.1, hk3]; rfl
    obtain ⟨hwj, hB4, hBt⟩ := hmg.2.2 hk3
    refine lv_aload_n hx hb d_Mo_makes_0 rfl (lv_at hl 0 rfl) ?_
    refine va_get (D := (dC, dI)) (ci := 8) (v := .ref rk) (C := "TextForgeModel") (T := TX8) (N := 19) hx hb hg iwX8 hown hK hP 0 rfl rfl 4 (by decide) (hg _ kw_730) (fun _ h9 => h9) rfl d_Mo_makes_1 ?_
    refine lv_iload_n hx hb d_Mo_makes_4 rfl (lv_at hl 2 rfl) ?_
    refine va_iald hx hb hK hP 2 1 rfl rfl (vp_in_nI hj (by decide)) d_Mo_makes_5 ?_
    refine lv_topi (fun y_286 ey_286 => ?_)
    have ey_286 : y_286 = (3 : Int32) := ey_286.trans (show (fk (nI j).toNatClampNeg) = 3 from (by rw [nI_clamp (show j < 2 ^ 31 by omega)]; exact hk9))
    subst ey_286
    refine lv_iconst (v := 1) hx hb d_Mo_makes_6 (by decide) ?_
    refine lv_icmp_gt (tgt := 14) hx hb d_Mo_makes_7 (by decide) (fun _ => ?_) (fun c9 => by first | exact absurd c9 (by decide) | exact absurd (by decide) c9)
    refine lv_iconst (v := 0) hx hb d_Mo_makes_14 (by decide) ?_
    refine lv_istore (lv' := [(4, .int 0), (0, .ref mo), (1, .int (sb_b v)), (2, .int (nI j)), (3, .int (by_z bp))]) hx hb d_Mo_makes_15 hl (by decide) rfl (fun ls hl => ?_)
    refine lv_aload_n hx hb d_Mo_makes_17 rfl (lv_at hl 1 rfl) ?_
    refine va_get (D := (dC, dI)) (ci := 8) (v := .ref rk) (C := "TextForgeModel") (T := TX8) (N := 19) hx hb hg iwX8 hown hK hP 0 rfl rfl 4 (by decide) (hg _ kw_730) (fun _ h9 => h9) rfl d_Mo_makes_18 ?_
    refine lv_iload_n hx hb d_Mo_makes_21 rfl (lv_at hl 3 rfl) ?_
    refine va_iald hx hb hK hP 2 1 rfl rfl (vp_in_nI hj (by decide)) d_Mo_makes_22 ?_
    refine lv_topi (fun y_287 ey_287 => ?_)
    have ey_287 : y_287 = (3 : Int32) := ey_287.trans (show (fk (nI j).toNatClampNeg) = 3 from (by rw [nI_clamp (show j < 2 ^ 31 by omega)]; exact hk9))
    subst ey_287
    refine lv_iconst (v := 3) hx hb d_Mo_makes_23 (by decide) ?_
    refine lv_icmp_ne (tgt := 31) hx hb d_Mo_makes_24 (by decide) (fun c9 => by first | exact absurd c9 (by decide) | exact absurd (by decide) c9) (fun _ => ?_)
    refine lv_iconst (v := 1) hx hb d_Mo_makes_27 (by decide) ?_
    refine lv_goto (tgt := 32) hx hb d_Mo_makes_28 (by decide) ?_
    refine lv_istore (lv' := [(5, .int 1), (4, .int 0), (0, .ref mo), (1, .int (sb_b v)), (2, .int (nI j)), (3, .int (by_z bp))]) hx hb d_Mo_makes_32 hl (by decide) rfl (fun ls hl => ?_)
    refine lv_iload hx hb d_Mo_makes_34 (lv_at hl 1 rfl) ?_
    refine lv_if_eq (tgt := 82) hx hb d_Mo_makes_36 (by decide) (fun _ => ?_) (fun c9 => by first | exact absurd c9 rfl | exact absurd rfl c9)
    refine W.ldc (v := 65533) hx hb hown (hg _ kw_833) rfl d_Mo_makes_82 ?_
    refine W.eq (g2 := F0 m 84 ls [.int 65533]) rfl ?_
    refine lv_istore (lv' := [(6, .int 65533), (5, .int 1), (4, .int 0), (0, .ref mo), (1, .int (sb_b v)), (2, .int (nI j)), (3, .int (by_z bp))]) hx hb d_Mo_makes_84 hl (by decide) rfl (fun ls hl => ?_)
    refine lv_iload hx hb d_Mo_makes_86 (lv_at hl 2 rfl) ?_
    refine lv_if_eq (tgt := 148) hx hb d_Mo_makes_88 (by decide) (fun _ => ?_) (fun c9 => by first | exact absurd c9 rfl | exact absurd rfl c9)
    refine lv_iload hx hb d_Mo_makes_148 (lv_at hl 1 rfl) ?_
    refine lv_if_eq (tgt := 220) hx hb d_Mo_makes_150 (by decide) (fun c9 => by first | exact absurd c9 (by decide) | exact absurd (by decide) c9) (fun _ => ?_)
    refine lv_iload_n hx hb d_Mo_makes_153 rfl (lv_at hl 4 rfl) ?_
    refine lv_bipush (v := 120) hx hb d_Mo_makes_154 (by decide) ?_
    refine lv_icmp_eq (tgt := 165) hx hb d_Mo_makes_156 (by decide) (fun c_156 => ?_) (fun c_156 => ?_)
    · skip
      have f_156 : v = 120 := sb_e1 (k := 120) hv (by decide) c_156
      refine lv_iconst (v := 0) hx hb d_Mo_makes_165 (by decide) ?_
      refine lv_istore (lv' := [(7, .int 0), (6, .int 65533), (5, .int 1), (4, .int 0), (0, .ref mo), (1, .int (sb_b v)), (2, .int (nI j)), (3, .int (by_z bp))]) hx hb d_Mo_makes_166 hl (by decide) rfl (fun ls hl => ?_)
      rw [show nI ([] : List Nat).length = nI (([] : List Nat) ++ px_h (dg_t (decide (v = 88))) (B.take 0)).length by rw [List.take_zero]; rfl] at hP hD
      refine zz_loop (fun (x : Nat × (Nat → Int32)) H locs ls => match x with | (i, g) => va_P (dC, dI) vwCl [(mo, .inr (8, [.int th, .int fd, .ref rt, .int mn, .ref rk, .ref rv, .ref rw, .ref ro, .int md, .ref rr, .int (nI (([] : List Nat) ++ px_h (dg_t (decide (v = 88))) (B.take i)).length), .ref ra, .long pz, .int kc, .ref rc, .ref rl, .ref rb, .int la, .int ca])), (ra, .inl (cB, 16400, .inl g)), (rk, .inl (cI, 16, .inl fk)), (rv, .inl (cL, 16, .inr (.inl fv))), (rw, .inl (cI, 16, .inl fw)), (ro, .inl (cB, 65536, .inl fo))] H ∧ va_D A [(mo, .inr (8, [.int th, .int fd, .ref rt, .int mn, .ref rk, .ref rv, .ref rw, .ref ro, .int md, .ref rr, .int (nI (([] : List Nat) ++ px_h (dg_t (decide (v = 88))) (B.take i)).length), .ref ra, .long pz, .int kc, .ref rc, .ref rl, .ref rb, .int la, .int ca])), (ra, .inl (cB, 16400, .inl g)), (rk, .inl (cI, 16, .inl fk)), (rv, .inl (cL, 16, .inr (.inl fv))), (rw, .inl (cI, 16, .inl fw)), (ro, .inl (cB, 65536, .inl fo))] ∧ va_S A s.heap H locs ∧ lv_has ls 8 [(0, .ref mo), (1, .int (sb_b v)), (2, .int (nI j)), (7, .int (nI i))] ∧ by_L (([] : List Nat) ++ px_h (dg_t (decide (v = 88))) (B.take i)) g ∧ i ≤ B.length) (fun x => match x with | (i, g) => B.length - i) ?_ (0, fa) ⟨hP.sub [0, 1, 2, 3, 4, 5] rfl, hD.sub [0, 1, 2, 3, 4, 5] (by decide) rfl, hS, lv_sub hl [4, 5, 6, 0] rfl, (by_nil _), (Nat.zero_le _)⟩
      intro x H locs ls hI ih_168
      obtain ⟨i, g⟩ := x
      try dsimp only at hI
      obtain ⟨hP, hD, hS, hl, hLi, hil⟩ := hI
      refine lv_iload hx hb d_Mo_makes_168 (lv_at hl 3 rfl) ?_
      refine lv_aload_n hx hb d_Mo_makes_170 rfl (lv_at hl 0 rfl) ?_
      refine va_get (D := (dC, dI)) (ci := 8) (v := .ref rw) (C := "TextForgeModel") (T := TX8) (N := 19) hx hb hg iwX8 hown hK hP 0 rfl rfl 6 (by decide) (hg _ kw_732) (fun _ h9 => h9) rfl d_Mo_makes_171 ?_
      refine lv_iload_n hx hb d_Mo_makes_174 rfl (lv_at hl 2 rfl) ?_
      refine va_iald hx hb hK hP 4 1 rfl rfl (vp_in_nI hj (by decide)) d_Mo_makes_175 ?_
      refine lv_topi (fun y_288 ey_288 => ?_)
      have ey_288 : y_288 = (nI B.length : Int32) := ey_288.trans (show (fw (nI j).toNatClampNeg) = nI B.length from (by rw [nI_clamp (show j < 2 ^ 31 by omega)]; exact hwj))
      subst ey_288
      refine lv_icmp_ge (tgt := 217) hx hb d_Mo_makes_176 (by decide) (fun c_176 => ?_) (fun c_176 => ?_)
      · skip
        have f_176 : B.length ≤ i := Nat.le_of_not_lt (fun z => nI_ge (b := B.length) z (by omega) c_176)
        have hie : i = B.length := by omega
        refine lv_goto (tgt := 358) hx hb d_Mo_makes_217 (by decide) ?_
        refine lv_iconst (v := 1) hx hb d_Mo_makes_358 (by decide) ?_
        have hmo : (mk_o v k x B bp) = some (([] : List Nat) ++ px_h (dg_t (decide (v = 88))) (B.take i)) := (by rw [hie, List.take_length]; exact mk_th hk3 (Or.inl f_156))
        have hP9 := hP.sub (ws' := [(mo, .inr (8, [.int th, .int fd, .ref rt, .int mn, .ref rk, .ref rv, .ref rw, .ref ro, .int md, .ref rr, .int (nI (([] : List Nat) ++ px_h (dg_t (decide (v = 88))) (B.take i)).length), .ref ra, .long pz, .int kc, .ref rc, .ref rl, .ref rb, .int la, .int ca])), (ra, .inl (cB, 16400, .inl g)), (rk, .inl (cI, 16, .inl fk)), (rv, .inl (cL, 16, .inr (.inl fv))), (rw, .inl (cI, 16, .inl fw)), (ro, .inl (cB, 65536, .inl fo))]) [0, 1, 2, 3, 4, 5] rfl
        have hD9 := hD.sub (ws' := [(mo, .inr (8, [.int th, .int fd, .ref rt, .int mn, .ref rk, .ref rv, .ref rw, .ref ro, .int md, .ref rr, .int (nI (([] : List Nat) ++ px_h (dg_t (decide (v = 88))) (B.take i)).length), .ref ra, .long pz, .int kc, .ref rc, .ref rl, .ref rb, .int la, .int ca])), (ra, .inl (cB, 16400, .inl g)), (rk, .inl (cI, 16, .inl fk)), (rv, .inl (cL, 16, .inr (.inl fv))), (rw, .inl (cI, 16, .inl fw)), (ro, .inl (cB, 65536, .inl fo))]) [0, 1, 2, 3, 4, 5] (by decide) rfl
        have hK9 := hK.sub (tys' := [(cB, .byte), (cI, .int), (cL, .long)]) [0, 1, 2] rfl
        rw [show nI (([] : List Nat) ++ px_h (dg_t (decide (v = 88))) (B.take i)).length = nI ((mk_o v k x B bp).getD []).length by rw [hmo]; rfl] at hP9 hD9
        exact zz_zret hx hb hr hlocks d_Mo_makes_359 (by decide) hS (by first | exact Nat.le_refl _ | decide | omega | (dsimp only; omega)) (by first | exact Nat.le_refl _ | decide | omega | (dsimp only; omega)) (g, la, ca) ⟨by rw [hmo]; rfl, by rw [hmo]; exact hLi⟩ hP9 hK9 hD9
      · skip
        have f_176 : i < B.length := Nat.lt_of_not_le (fun z => c_176 (nI_le (a := B.length) z (by omega)))
        have hpx := px_hl (t := (dg_t (decide (v = 88)))) (B.take i)
        have hti : (B.take i).length ≤ i := List.length_take_le _ _
        refine lv_aload_n hx hb d_Mo_makes_179 rfl (lv_at hl 0 rfl) ?_
        refine lv_aload_n hx hb d_Mo_makes_180 rfl (lv_at hl 0 rfl) ?_
        refine va_get (D := (dC, dI)) (ci := 8) (v := .ref ro) (C := "TextForgeModel") (T := TX8) (N := 19) hx hb hg iwX8 hown hK hP 0 rfl rfl 7 (by decide) (hg _ kw_733) (fun _ h9 => h9) rfl d_Mo_makes_181 ?_
        refine lv_sipush (v := 4096) hx hb d_Mo_makes_184 (by decide) ?_
        refine lv_iload_n hx hb d_Mo_makes_187 rfl (lv_at hl 2 rfl) ?_
        refine lv_imul hx hb d_Mo_makes_188 ?_
        refine lv_iload hx hb d_Mo_makes_189 (lv_at hl 3 rfl) ?_
        refine lv_iadd hx hb d_Mo_makes_191 ?_
        refine lv_topi (fun y_289 ey_289 => ?_)
        have ey_289 : y_289 = (nI (4096 * j + i) : Int32) := ey_289.trans (show ((4096 * (nI j)) + (nI i)) = nI (4096 * j + i) from (by rw [show (4096 : Int32) = nI 4096 from rfl, pk_mul, nI_add]))
        subst ey_289
        refine va_bald hx hb hK hP 5 0 rfl rfl (vp_in_nI (by omega) (by decide)) d_Mo_makes_192 ?_
        refine lv_topi (fun y_290 ey_290 => ?_)
        have ey_290 : y_290 = (sb_b (B.getD i 0) : Int32) := ey_290.trans (show (fo (nI (4096 * j + i)).toNatClampNeg) = sb_b (B.getD i 0) from (by rw [nI_clamp (show 4096 * j + i < 2 ^ 31 by omega)]; exact (hBt i f_176).2))
        subst ey_290
        refine lv_sipush (v := 255) hx hb d_Mo_makes_193 (by decide) ?_
        refine lv_iand hx hb d_Mo_makes_196 ?_
        refine lv_topi (fun y_291 ey_291 => ?_)
        have ey_291 : y_291 = (nI (B.getD i 0) : Int32) := ey_291.trans (show ((sb_b (B.getD i 0)) &&& 255) = nI (B.getD i 0) from (sb_255 _ (hBt i f_176).1))
        subst ey_291
        refine lv_iload_n hx hb d_Mo_makes_197 rfl (lv_at hl 1 rfl) ?_
        refine lv_bipush (v := 88) hx hb d_Mo_makes_198 (by decide) ?_
        refine lv_icmp_ne (tgt := 207) hx hb d_Mo_makes_200 (by decide) (fun c_200 => ?_) (fun c_200 => ?_)
        · skip
          have f_200 : v ≠ 88 := sb_e2 (k := 88) hv (by decide) c_200
          refine lv_iconst (v := 0) hx hb d_Mo_makes_207 (by decide) ?_
          refine lv_topi (fun y_292 ey_292 => ?_)
          have ey_292 : y_292 = (by_z (decide (v = 88)) : Int32) := ey_292.trans (show 0 = by_z (decide (v = 88)) from (by rw [decide_eq_false f_200]; rfl))
          subst ey_292
          have hPc := hP.sub (ws' := [(mo, .inr (8, [.int th, .int fd, .ref rt, .int mn, .ref rk, .ref rv, .ref rw, .ref ro, .int md, .ref rr, .int (nI (([] : List Nat) ++ px_h (dg_t (decide (v = 88))) (B.take i)).length), .ref ra, .long pz, .int kc, .ref rc, .ref rl, .ref rb, .int la, .int ca])), (ra, .inl (cB, 16400, .inl g))]) [0, 1] rfl
          have hKc := hK.sub (tys' := [(cB, .byte)]) [0] rfl
          have hDc := hD.sub (ws' := [(mo, .inr (8, [.int th, .int fd, .ref rt, .int mn, .ref rk, .ref rv, .ref rw, .ref ro, .int md, .ref rr, .int (nI (([] : List Nat) ++ px_h (dg_t (decide (v = 88))) (B.take i)).length), .ref ra, .long pz, .int kc, .ref rc, .ref rl, .ref rb, .int la, .int ca])), (ra, .inl (cB, 16400, .inl g))]) [0, 1] (by decide) rfl
          have hFc := va_free (wc := [(mo, .inr (8, [.int th, .int fd, .ref rt, .int mn, .ref rk, .ref rv, .ref rw, .ref ro, .int md, .ref rr, .int (nI (([] : List Nat) ++ px_h (dg_t (decide (v = 88))) (B.take i)).length), .ref ra, .long pz, .int kc, .ref rc, .ref rl, .ref rb, .int la, .int ca])), (ra, .inl (cB, 16400, .inl g))]) hD hS hA [0, 1] rfl
          refine zz_callv (va_runV (As := [.int (nI (B.getD i 0)), .int (by_z (decide (v = 88)))]) (rest := []) ⟨hx, hb, hml, hown, hg⟩ (c_Mo_hexOf l dC dI mo rt rk rv rw ro rr ra rc rl rb th fd mn md (nI (([] : List Nat) ++ px_h (dg_t (decide (v = 88))) (B.take i)).length) pz kc la ca cB g (([] : List Nat) ++ px_h (dg_t (decide (v = 88))) (B.take i)) (B.getD i 0) (decide (v = 88)) hLi (by (try simp only [List.length_append, List.length_cons, List.length_nil]); omega) (hBt i f_176).1 H.size) (cwV 2 hg (gi_V kw_882 kw_884 sw_19 kw_9 kw_885) rfl rfl rfl (by decide +kernel) ⟨Nat.le_of_ble_eq_true rfl, Nat.le_of_ble_eq_true rfl⟩) (zz_preV hPc hKc hDc _ (q0 := 0) (ci := 8) rfl rfl) rfl rfl hl.1 rfl (lv_room (Nat.le_of_ble_eq_true rfl)) d_Mo_makes_208 ⟨Nat.le_of_ble_eq_true rfl, Nat.le_of_ble_eq_true rfl⟩) hS hFc (fun u H1 k9 p9 d9 => va_join (wr := [(rk, .inl (cI, 16, .inl fk)), (rv, .inl (cL, 16, .inr (.inl fv))), (rw, .inl (cI, 16, .inl fw)), (ro, .inl (cB, 65536, .inl fo))]) hP hD [0, 1] [2, 3, 4, 5] rfl rfl (by decide) (by decide) k9 hFc p9 d9) (fun u H locs hw hP hD hK1 hS => ?_)
          obtain ⟨u_293, rfl⟩ : ∃ z, z = u := ⟨_, rfl⟩
          try dsimp only at hw
          have hP : va_P (dC, dI) vwCl [(rk, .inl (cI, 16, .inl fk)), (rv, .inl (cL, 16, .inr (.inl fv))), (rw, .inl (cI, 16, .inl fw)), (ro, .inl (cB, 65536, .inl fo)), (mo, .inr (8, [.int th, .int fd, .ref rt, .int mn, .ref rk, .ref rv, .ref rw, .ref ro, .int md, .ref rr, .int (nI ((([] : List Nat) ++ px_h (dg_t (decide (v = 88))) (B.take i)) ++ [nu_d (dg_t (decide (v = 88))) ((B.getD i 0) / 16), nu_d (dg_t (decide (v = 88))) ((B.getD i 0) % 16)]).length), .ref ra, .long pz, .int kc, .ref rc, .ref rl, .ref rb, .int la, .int ca])), (ra, .inl (cB, 16400, .inl u_293))] H := hP
          have hD : va_D A [(rk, .inl (cI, 16, .inl fk)), (rv, .inl (cL, 16, .inr (.inl fv))), (rw, .inl (cI, 16, .inl fw)), (ro, .inl (cB, 65536, .inl fo)), (mo, .inr (8, [.int th, .int fd, .ref rt, .int mn, .ref rk, .ref rv, .ref rw, .ref ro, .int md, .ref rr, .int (nI ((([] : List Nat) ++ px_h (dg_t (decide (v = 88))) (B.take i)) ++ [nu_d (dg_t (decide (v = 88))) ((B.getD i 0) / 16), nu_d (dg_t (decide (v = 88))) ((B.getD i 0) % 16)]).length), .ref ra, .long pz, .int kc, .ref rc, .ref rl, .ref rb, .int la, .int ca])), (ra, .inl (cB, 16400, .inl u_293))] := hD
          have hL_295 := hw
          refine lv_iinc (v := (nI i) + 1) (lv' := [(7, .int ((nI i) + 1)), (0, .ref mo), (1, .int (sb_b v)), (2, .int (nI j))]) hx hb d_Mo_makes_211 hl (k := 3) rfl rfl (by decide) rfl (fun ls hl => ?_)
          refine lv_goto (tgt := 168) hx hb d_Mo_makes_214 (by decide) ?_
          rw [px_h1 f_176] at hP hD hL_295
          rw [nI_1] at hl
          exact ih_168 (i + 1, u_293) H locs ls ⟨hP.sub [4, 5, 0, 1, 2, 3] rfl, hD.sub [4, 5, 0, 1, 2, 3] (by decide) rfl, hS, lv_sub hl [1, 2, 3, 0] rfl, hL_295, f_176⟩ (by dsimp only; omega)
        · skip
          have f_200 : v = 88 := sb_e1 (k := 88) hv (by decide) c_200
          refine lv_iconst (v := 1) hx hb d_Mo_makes_203 (by decide) ?_
          refine lv_goto (tgt := 208) hx hb d_Mo_makes_204 (by decide) ?_
          refine lv_topi (fun y_296 ey_296 => ?_)
          have ey_296 : y_296 = (by_z (decide (v = 88)) : Int32) := ey_296.trans (show 1 = by_z (decide (v = 88)) from (by rw [decide_eq_true f_200]; rfl))
          subst ey_296
          have hPc := hP.sub (ws' := [(mo, .inr (8, [.int th, .int fd, .ref rt, .int mn, .ref rk, .ref rv, .ref rw, .ref ro, .int md, .ref rr, .int (nI (([] : List Nat) ++ px_h (dg_t (decide (v = 88))) (B.take i)).length), .ref ra, .long pz, .int kc, .ref rc, .ref rl, .ref rb, .int la, .int ca])), (ra, .inl (cB, 16400, .inl g))]) [0, 1] rfl
          have hKc := hK.sub (tys' := [(cB, .byte)]) [0] rfl
          have hDc := hD.sub (ws' := [(mo, .inr (8, [.int th, .int fd, .ref rt, .int mn, .ref rk, .ref rv, .ref rw, .ref ro, .int md, .ref rr, .int (nI (([] : List Nat) ++ px_h (dg_t (decide (v = 88))) (B.take i)).length), .ref ra, .long pz, .int kc, .ref rc, .ref rl, .ref rb, .int la, .int ca])), (ra, .inl (cB, 16400, .inl g))]) [0, 1] (by decide) rfl
          have hFc := va_free (wc := [(mo, .inr (8, [.int th, .int fd, .ref rt, .int mn, .ref rk, .ref rv, .ref rw, .ref ro, .int md, .ref rr, .int (nI (([] : List Nat) ++ px_h (dg_t (decide (v = 88))) (B.take i)).length), .ref ra, .long pz, .int kc, .ref rc, .ref rl, .ref rb, .int la, .int ca])), (ra, .inl (cB, 16400, .inl g))]) hD hS hA [0, 1] rfl
          refine zz_callv (va_runV (As := [.int (nI (B.getD i 0)), .int (by_z (decide (v = 88)))]) (rest := []) ⟨hx, hb, hml, hown, hg⟩ (c_Mo_hexOf l dC dI mo rt rk rv rw ro rr ra rc rl rb th fd mn md (nI (([] : List Nat) ++ px_h (dg_t (decide (v = 88))) (B.take i)).length) pz kc la ca cB g (([] : List Nat) ++ px_h (dg_t (decide (v = 88))) (B.take i)) (B.getD i 0) (decide (v = 88)) hLi (by (try simp only [List.length_append, List.length_cons, List.length_nil]); omega) (hBt i f_176).1 H.size) (cwV 2 hg (gi_V kw_882 kw_884 sw_19 kw_9 kw_885) rfl rfl rfl (by decide +kernel) ⟨Nat.le_of_ble_eq_true rfl, Nat.le_of_ble_eq_true rfl⟩) (zz_preV hPc hKc hDc _ (q0 := 0) (ci := 8) rfl rfl) rfl rfl hl.1 rfl (lv_room (Nat.le_of_ble_eq_true rfl)) d_Mo_makes_208 ⟨Nat.le_of_ble_eq_true rfl, Nat.le_of_ble_eq_true rfl⟩) hS hFc (fun u H1 k9 p9 d9 => va_join (wr := [(rk, .inl (cI, 16, .inl fk)), (rv, .inl (cL, 16, .inr (.inl fv))), (rw, .inl (cI, 16, .inl fw)), (ro, .inl (cB, 65536, .inl fo))]) hP hD [0, 1] [2, 3, 4, 5] rfl rfl (by decide) (by decide) k9 hFc p9 d9) (fun u H locs hw hP hD hK1 hS => ?_)
          obtain ⟨u_297, rfl⟩ : ∃ z, z = u := ⟨_, rfl⟩
          try dsimp only at hw
          have hP : va_P (dC, dI) vwCl [(rk, .inl (cI, 16, .inl fk)), (rv, .inl (cL, 16, .inr (.inl fv))), (rw, .inl (cI, 16, .inl fw)), (ro, .inl (cB, 65536, .inl fo)), (mo, .inr (8, [.int th, .int fd, .ref rt, .int mn, .ref rk, .ref rv, .ref rw, .ref ro, .int md, .ref rr, .int (nI ((([] : List Nat) ++ px_h (dg_t (decide (v = 88))) (B.take i)) ++ [nu_d (dg_t (decide (v = 88))) ((B.getD i 0) / 16), nu_d (dg_t (decide (v = 88))) ((B.getD i 0) % 16)]).length), .ref ra, .long pz, .int kc, .ref rc, .ref rl, .ref rb, .int la, .int ca])), (ra, .inl (cB, 16400, .inl u_297))] H := hP
          have hD : va_D A [(rk, .inl (cI, 16, .inl fk)), (rv, .inl (cL, 16, .inr (.inl fv))), (rw, .inl (cI, 16, .inl fw)), (ro, .inl (cB, 65536, .inl fo)), (mo, .inr (8, [.int th, .int fd, .ref rt, .int mn, .ref rk, .ref rv, .ref rw, .ref ro, .int md, .ref rr, .int (nI ((([] : List Nat) ++ px_h (dg_t (decide (v = 88))) (B.take i)) ++ [nu_d (dg_t (decide (v = 88))) ((B.getD i 0) / 16), nu_d (dg_t (decide (v = 88))) ((B.getD i 0) % 16)]).length), .ref ra, .long pz, .int kc, .ref rc, .ref rl, .ref rb, .int la, .int ca])), (ra, .inl (cB, 16400, .inl u_297))] := hD
          have hL_299 := hw
          refine lv_iinc (v := (nI i) + 1) (lv' := [(7, .int ((nI i) + 1)), (0, .ref mo), (1, .int (sb_b v)), (2, .int (nI j))]) hx hb d_Mo_makes_211 hl (k := 3) rfl rfl (by decide) rfl (fun ls hl => ?_)
          refine lv_goto (tgt := 168) hx hb d_Mo_makes_214 (by decide) ?_
          rw [px_h1 f_176] at hP hD hL_299
          rw [nI_1] at hl
          exact ih_168 (i + 1, u_297) H locs ls ⟨hP.sub [4, 5, 0, 1, 2, 3] rfl, hD.sub [4, 5, 0, 1, 2, 3] (by decide) rfl, hS, lv_sub hl [1, 2, 3, 0] rfl, hL_299, f_176⟩ (by dsimp only; omega)
    · skip
      have f_156 : v ≠ 120 := sb_e2 (k := 120) hv (by decide) c_156
      refine lv_iload_n hx hb d_Mo_makes_159 rfl (lv_at hl 4 rfl) ?_
      refine lv_bipush (v := 88) hx hb d_Mo_makes_160 (by decide) ?_
      refine lv_icmp_ne (tgt := 220) hx hb d_Mo_makes_162 (by decide) (fun c_162 => ?_) (fun c_162 => ?_)
      · skip
        have f_162 : v ≠ 88 := sb_e2 (k := 88) hv (by decide) c_162
        refine lv_iload hx hb d_Mo_makes_220 (lv_at hl 2 rfl) ?_
        refine lv_if_eq (tgt := 240) hx hb d_Mo_makes_222 (by decide) (fun _ => ?_) (fun c9 => by first | exact absurd c9 rfl | exact absurd rfl c9)
        refine lv_iload hx hb d_Mo_makes_240 (lv_at hl 2 rfl) ?_
        refine lv_if_eq (tgt := 274) hx hb d_Mo_makes_242 (by decide) (fun _ => ?_) (fun c9 => by first | exact absurd c9 rfl | exact absurd rfl c9)
        refine lv_iload hx hb d_Mo_makes_274 (lv_at hl 1 rfl) ?_
        refine lv_if_eq (tgt := 293) hx hb d_Mo_makes_276 (by decide) (fun c9 => by first | exact absurd c9 (by decide) | exact absurd (by decide) c9) (fun _ => ?_)
        refine lv_iload_n hx hb d_Mo_makes_279 rfl (lv_at hl 4 rfl) ?_
        refine lv_bipush (v := 115) hx hb d_Mo_makes_280 (by decide) ?_
        refine lv_icmp_ne (tgt := 293) hx hb d_Mo_makes_282 (by decide) (fun c_282 => ?_) (fun c_282 => ?_)
        · skip
          have f_282 : v ≠ 115 := sb_e2 (k := 115) hv (by decide) c_282
          refine lv_iload hx hb d_Mo_makes_293 (lv_at hl 1 rfl) ?_
          refine lv_if_eq (tgt := 326) hx hb d_Mo_makes_295 (by decide) (fun c9 => by first | exact absurd c9 (by decide) | exact absurd (by decide) c9) (fun _ => ?_)
          refine lv_iload_n hx hb d_Mo_makes_298 rfl (lv_at hl 4 rfl) ?_
          refine lv_bipush (v := 113) hx hb d_Mo_makes_299 (by decide) ?_
          refine lv_icmp_ne (tgt := 326) hx hb d_Mo_makes_301 (by decide) (fun c_301 => ?_) (fun c_301 => ?_)
          · skip
            have f_301 : v ≠ 113 := sb_e2 (k := 113) hv (by decide) c_301
            refine lv_iload_n hx hb d_Mo_makes_326 rfl (lv_at hl 4 rfl) ?_
            refine lv_bipush (v := 116) hx hb d_Mo_makes_327 (by decide) ?_
            refine lv_icmp_ne (tgt := 342) hx hb d_Mo_makes_329 (by decide) (fun c_329 => ?_) (fun c_329 => ?_)
            · skip
              have f_329 : v ≠ 116 := sb_e2 (k := 116) hv (by decide) c_329
              refine lv_iload_n hx hb d_Mo_makes_342 rfl (lv_at hl 4 rfl) ?_
              refine lv_bipush (v := 118) hx hb d_Mo_makes_343 (by decide) ?_
              refine lv_icmp_ne (tgt := 356) hx hb d_Mo_makes_345 (by decide) (fun c_345 => ?_) (fun c_345 => ?_)
              · skip
                have f_345 : v ≠ 118 := sb_e2 (k := 118) hv (by decide) c_345
                refine lv_iconst (v := 0) hx hb d_Mo_makes_356 (by decide) ?_
                have hmo : (mk_o v k x B bp) = none := (mk_t0 hk3 f_156 f_162 f_282 f_301 f_345)
                have hP9 := hP.sub (ws' := [(mo, .inr (8, [.int th, .int fd, .ref rt, .int mn, .ref rk, .ref rv, .ref rw, .ref ro, .int md, .ref rr, .int (nI ([] : List Nat).length), .ref ra, .long pz, .int kc, .ref rc, .ref rl, .ref rb, .int la, .int ca])), (ra, .inl (cB, 16400, .inl fa)), (rk, .inl (cI, 16, .inl fk)), (rv, .inl (cL, 16, .inr (.inl fv))), (rw, .inl (cI, 16, .inl fw)), (ro, .inl (cB, 65536, .inl fo))]) [0, 1, 2, 3, 4, 5] rfl
                have hD9 := hD.sub (ws' := [(mo, .inr (8, [.int th, .int fd, .ref rt, .int mn, .ref rk, .ref rv, .ref rw, .ref ro, .int md, .ref rr, .int (nI ([] : List Nat).length), .ref ra, .long pz, .int kc, .ref rc, .ref rl, .ref rb, .int la, .int ca])), (ra, .inl (cB, 16400, .inl fa)), (rk, .inl (cI, 16, .inl fk)), (rv, .inl (cL, 16, .inr (.inl fv))), (rw, .inl (cI, 16, .inl fw)), (ro, .inl (cB, 65536, .inl fo))]) [0, 1, 2, 3, 4, 5] (by decide) rfl
                have hK9 := hK.sub (tys' := [(cB, .byte), (cI, .int), (cL, .long)]) [0, 1, 2] rfl
                rw [show nI ([] : List Nat).length = nI ((mk_o v k x B bp).getD []).length by rw [hmo]; rfl] at hP9 hD9
                exact zz_zret hx hb hr hlocks d_Mo_makes_357 (by decide) hS (by first | exact Nat.le_refl _ | decide | omega | (dsimp only; omega)) (by first | exact Nat.le_refl _ | decide | omega | (dsimp only; omega)) (fa, la, ca) ⟨by rw [hmo]; rfl, by rw [hmo]; exact by_nil _⟩ hP9 hK9 hD9
              · skip
                have f_345 : v = 118 := sb_e1 (k := 118) hv (by decide) c_345
                refine lv_aload_n hx hb d_Mo_makes_348 rfl (lv_at hl 3 rfl) ?_
                refine lv_iload_n hx hb d_Mo_makes_349 rfl (lv_at hl 5 rfl) ?_
                have hPc := hP.sub (ws' := [(mo, .inr (8, [.int th, .int fd, .ref rt, .int mn, .ref rk, .ref rv, .ref rw, .ref ro, .int md, .ref rr, .int (nI ([] : List Nat).length), .ref ra, .long pz, .int kc, .ref rc, .ref rl, .ref rb, .int la, .int ca])), (ra, .inl (cB, 16400, .inl fa)), (rk, .inl (cI, 16, .inl fk)), (rv, .inl (cL, 16, .inr (.inl fv))), (rw, .inl (cI, 16, .inl fw)), (ro, .inl (cB, 65536, .inl fo))]) [0, 1, 2, 3, 4, 5] rfl
                have hKc := hK.sub (tys' := [(cB, .byte), (cI, .int), (cL, .long)]) [0, 1, 2] rfl
                have hDc := hD.sub (ws' := [(mo, .inr (8, [.int th, .int fd, .ref rt, .int mn, .ref rk, .ref rv, .ref rw, .ref ro, .int md, .ref rr, .int (nI ([] : List Nat).length), .ref ra, .long pz, .int kc, .ref rc, .ref rl, .ref rb, .int la, .int ca])), (ra, .inl (cB, 16400, .inl fa)), (rk, .inl (cI, 16, .inl fk)), (rv, .inl (cL, 16, .inr (.inl fv))), (rw, .inl (cI, 16, .inl fw)), (ro, .inl (cB, 65536, .inl fo))]) [0, 1, 2, 3, 4, 5] (by decide) rfl
                have hFc := va_free (wc := [(mo, .inr (8, [.int th, .int fd, .ref rt, .int mn, .ref rk, .ref rv, .ref rw, .ref ro, .int md, .ref rr, .int (nI ([] : List Nat).length), .ref ra, .long pz, .int kc, .ref rc, .ref rl, .ref rb, .int la, .int ca])), (ra, .inl (cB, 16400, .inl fa)), (rk, .inl (cI, 16, .inl fk)), (rv, .inl (cL, 16, .inr (.inl fv))), (rw, .inl (cI, 16, .inl fw)), (ro, .inl (cB, 65536, .inl fo))]) hD hS hA [0, 1, 2, 3, 4, 5] rfl
                refine zz_callv (va_runV (As := [.int (nI j)]) (rest := []) ⟨hx, hb, hml, hown, hg⟩ (c_Mo_plain l dC dI ad mo rt rk rv rw ro rr ra rc rl rb th fd mn md (nI ([] : List Nat).length) pz kc la ca cB fa ([] : List Nat) cI cL fk fv fw fo j k x B (by_nil _) (by (try simp only [List.length_append, List.length_cons, List.length_nil]); omega) hj hok9 hmg s.heap.size) (cwV 1 hg (gi_V kw_908 kw_910 sw_25 kw_9 kw_911) rfl rfl rfl (by decide +kernel) ⟨Nat.le_of_ble_eq_true rfl, Nat.le_of_ble_eq_true rfl⟩) (zy_preV hX hS hFc hPc hKc hDc _ (q0 := 0) (ci := 8) rfl rfl) rfl rfl hl.1 rfl (lv_room (Nat.le_of_ble_eq_true rfl)) d_Mo_makes_350 ⟨Nat.le_of_ble_eq_true rfl, Nat.le_of_ble_eq_true rfl⟩) hS hFc (fun u H1 k9 p9 d9 => va_join (wr := []) hP hD [0, 1, 2, 3, 4, 5] [] rfl rfl (by decide) (by decide) k9 hFc p9 d9) (fun u H locs hw hP hD hK1 hS => ?_)
                obtain ⟨u_300, rfl⟩ : ∃ z, z = u := ⟨_, rfl⟩
                try dsimp only at hw
                have hP : va_P (dC, dI) vwCl [(mo, .inr (8, [.int th, .int fd, .ref rt, .int mn, .ref rk, .ref rv, .ref rw, .ref ro, .int md, .ref rr, .int (nI (([] : List Nat) ++ (mo_p k x B)).length), .ref ra, .long pz, .int kc, .ref rc, .ref rl, .ref rb, .int la, .int ca])), (ra, .inl (cB, 16400, .inl u_300)), (rk, .inl (cI, 16, .inl fk)), (rv, .inl (cL, 16, .inr (.inl fv))), (rw, .inl (cI, 16, .inl fw)), (ro, .inl (cB, 65536, .inl fo))] H := hP
                have hD : va_D A [(mo, .inr (8, [.int th, .int fd, .ref rt, .int mn, .ref rk, .ref rv, .ref rw, .ref ro, .int md, .ref rr, .int (nI (([] : List Nat) ++ (mo_p k x B)).length), .ref ra, .long pz, .int kc, .ref rc, .ref rl, .ref rb, .int la, .int ca])), (ra, .inl (cB, 16400, .inl u_300)), (rk, .inl (cI, 16, .inl fk)), (rv, .inl (cL, 16, .inr (.inl fv))), (rw, .inl (cI, 16, .inl fw)), (ro, .inl (cB, 65536, .inl fo))] := hD
                have hL_302 := hw
                refine lv_goto (tgt := 358) hx hb d_Mo_makes_353 (by decide) ?_
                refine lv_iconst (v := 1) hx hb d_Mo_makes_358 (by decide) ?_
                have hmo : (mk_o v k x B bp) = some (([] : List Nat) ++ (mo_p k x B)) := (mk_np hok9 f_345)
                have hP9 := hP.sub (ws' := [(mo, .inr (8, [.int th, .int fd, .ref rt, .int mn, .ref rk, .ref rv, .ref rw, .ref ro, .int md, .ref rr, .int (nI (([] : List Nat) ++ (mo_p k x B)).length), .ref ra, .long pz, .int kc, .ref rc, .ref rl, .ref rb, .int la, .int ca])), (ra, .inl (cB, 16400, .inl u_300)), (rk, .inl (cI, 16, .inl fk)), (rv, .inl (cL, 16, .inr (.inl fv))), (rw, .inl (cI, 16, .inl fw)), (ro, .inl (cB, 65536, .inl fo))]) [0, 1, 2, 3, 4, 5] rfl
                have hD9 := hD.sub (ws' := [(mo, .inr (8, [.int th, .int fd, .ref rt, .int mn, .ref rk, .ref rv, .ref rw, .ref ro, .int md, .ref rr, .int (nI (([] : List Nat) ++ (mo_p k x B)).length), .ref ra, .long pz, .int kc, .ref rc, .ref rl, .ref rb, .int la, .int ca])), (ra, .inl (cB, 16400, .inl u_300)), (rk, .inl (cI, 16, .inl fk)), (rv, .inl (cL, 16, .inr (.inl fv))), (rw, .inl (cI, 16, .inl fw)), (ro, .inl (cB, 65536, .inl fo))]) [0, 1, 2, 3, 4, 5] (by decide) rfl
                have hK9 := hK.sub (tys' := [(cB, .byte), (cI, .int), (cL, .long)]) [0, 1, 2] rfl
                rw [show nI (([] : List Nat) ++ (mo_p k x B)).length = nI ((mk_o v k x B bp).getD []).length by rw [hmo]; rfl] at hP9 hD9
                exact zz_zret hx hb hr hlocks d_Mo_makes_359 (by decide) hS (by first | exact Nat.le_refl _ | decide | omega | (dsimp only; omega)) (by first | exact Nat.le_refl _ | decide | omega | (dsimp only; omega)) (u_300, la, ca) ⟨by rw [hmo]; rfl, by rw [hmo]; exact hL_302⟩ hP9 hK9 hD9
            · skip
              have f_329 : v = 116 := sb_e1 (k := 116) hv (by decide) c_329
              refine lv_aload_n hx hb d_Mo_makes_332 rfl (lv_at hl 3 rfl) ?_
              refine va_get (D := (dC, dI)) (ci := 8) (v := .ref rk) (C := "TextForgeModel") (T := TX8) (N := 19) hx hb hg iwX8 hown hK hP 0 rfl rfl 4 (by decide) (hg _ kw_730) (fun _ h9 => h9) rfl d_Mo_makes_333 ?_
              refine lv_iload_n hx hb d_Mo_makes_336 rfl (lv_at hl 5 rfl) ?_
              refine va_iald hx hb hK hP 2 1 rfl rfl (vp_in_nI hj (by decide)) d_Mo_makes_337 ?_
              refine lv_topi (fun y_303 ey_303 => ?_)
              have ey_303 : y_303 = (3 : Int32) := ey_303.trans (show (fk (nI j).toNatClampNeg) = 3 from (by rw [nI_clamp (show j < 2 ^ 31 by omega)]; exact hk9))
              subst ey_303
              refine lv_iconst (v := 2) hx hb d_Mo_makes_338 (by decide) ?_
              refine lv_icmp_eq (tgt := 348) hx hb d_Mo_makes_339 (by decide) (fun c9 => by first | exact absurd c9 (by decide) | exact absurd (by decide) c9) (fun _ => ?_)
              refine lv_iload_n hx hb d_Mo_makes_342 rfl (lv_at hl 4 rfl) ?_
              refine lv_bipush (v := 118) hx hb d_Mo_makes_343 (by decide) ?_
              refine lv_icmp_ne (tgt := 356) hx hb d_Mo_makes_345 (by decide) (fun c_345 => ?_) (fun c_345 => ?_)
              · skip
                have f_345 : v ≠ 118 := sb_e2 (k := 118) hv (by decide) c_345
                refine lv_iconst (v := 0) hx hb d_Mo_makes_356 (by decide) ?_
                have hmo : (mk_o v k x B bp) = none := (mk_t0 hk3 f_156 f_162 f_282 f_301 f_345)
                have hP9 := hP.sub (ws' := [(mo, .inr (8, [.int th, .int fd, .ref rt, .int mn, .ref rk, .ref rv, .ref rw, .ref ro, .int md, .ref rr, .int (nI ([] : List Nat).length), .ref ra, .long pz, .int kc, .ref rc, .ref rl, .ref rb, .int la, .int ca])), (ra, .inl (cB, 16400, .inl fa)), (rk, .inl (cI, 16, .inl fk)), (rv, .inl (cL, 16, .inr (.inl fv))), (rw, .inl (cI, 16, .inl fw)), (ro, .inl (cB, 65536, .inl fo))]) [0, 1, 2, 3, 4, 5] rfl
                have hD9 := hD.sub (ws' := [(mo, .inr (8, [.int th, .int fd, .ref rt, .int mn, .ref rk, .ref rv, .ref rw, .ref ro, .int md, .ref rr, .int (nI ([] : List Nat).length), .ref ra, .long pz, .int kc, .ref rc, .ref rl, .ref rb, .int la, .int ca])), (ra, .inl (cB, 16400, .inl fa)), (rk, .inl (cI, 16, .inl fk)), (rv, .inl (cL, 16, .inr (.inl fv))), (rw, .inl (cI, 16, .inl fw)), (ro, .inl (cB, 65536, .inl fo))]) [0, 1, 2, 3, 4, 5] (by decide) rfl
                have hK9 := hK.sub (tys' := [(cB, .byte), (cI, .int), (cL, .long)]) [0, 1, 2] rfl
                rw [show nI ([] : List Nat).length = nI ((mk_o v k x B bp).getD []).length by rw [hmo]; rfl] at hP9 hD9
                exact zz_zret hx hb hr hlocks d_Mo_makes_357 (by decide) hS (by first | exact Nat.le_refl _ | decide | omega | (dsimp only; omega)) (by first | exact Nat.le_refl _ | decide | omega | (dsimp only; omega)) (fa, la, ca) ⟨by rw [hmo]; rfl, by rw [hmo]; exact by_nil _⟩ hP9 hK9 hD9
              · skip
                have f_345 : v = 118 := sb_e1 (k := 118) hv (by decide) c_345
                refine lv_aload_n hx hb d_Mo_makes_348 rfl (lv_at hl 3 rfl) ?_
                refine lv_iload_n hx hb d_Mo_makes_349 rfl (lv_at hl 5 rfl) ?_
                have hPc := hP.sub (ws' := [(mo, .inr (8, [.int th, .int fd, .ref rt, .int mn, .ref rk, .ref rv, .ref rw, .ref ro, .int md, .ref rr, .int (nI ([] : List Nat).length), .ref ra, .long pz, .int kc, .ref rc, .ref rl, .ref rb, .int la, .int ca])), (ra, .inl (cB, 16400, .inl fa)), (rk, .inl (cI, 16, .inl fk)), (rv, .inl (cL, 16, .inr (.inl fv))), (rw, .inl (cI, 16, .inl fw)), (ro, .inl (cB, 65536, .inl fo))]) [0, 1, 2, 3, 4, 5] rfl
                have hKc := hK.sub (tys' := [(cB, .byte), (cI, .int), (cL, .long)]) [0, 1, 2] rfl
                have hDc := hD.sub (ws' := [(mo, .inr (8, [.int th, .int fd, .ref rt, .int mn, .ref rk, .ref rv, .ref rw, .ref ro, .int md, .ref rr, .int (nI ([] : List Nat).length), .ref ra, .long pz, .int kc, .ref rc, .ref rl, .ref rb, .int la, .int ca])), (ra, .inl (cB, 16400, .inl fa)), (rk, .inl (cI, 16, .inl fk)), (rv, .inl (cL, 16, .inr (.inl fv))), (rw, .inl (cI, 16, .inl fw)), (ro, .inl (cB, 65536, .inl fo))]) [0, 1, 2, 3, 4, 5] (by decide) rfl
                have hFc := va_free (wc := [(mo, .inr (8, [.int th, .int fd, .ref rt, .int mn, .ref rk, .ref rv, .ref rw, .ref ro, .int md, .ref rr, .int (nI ([] : List Nat).length), .ref ra, .long pz, .int kc, .ref rc, .ref rl, .ref rb, .int la, .int ca])), (ra, .inl (cB, 16400, .inl fa)), (rk, .inl (cI, 16, .inl fk)), (rv, .inl (cL, 16, .inr (.inl fv))), (rw, .inl (cI, 16, .inl fw)), (ro, .inl (cB, 65536, .inl fo))]) hD hS hA [0, 1, 2, 3, 4, 5] rfl
                refine zz_callv (va_runV (As := [.int (nI j)]) (rest := []) ⟨hx, hb, hml, hown, hg⟩ (c_Mo_plain l dC dI ad mo rt rk rv rw ro rr ra rc rl rb th fd mn md (nI ([] : List Nat).length) pz kc la ca cB fa ([] : List Nat) cI cL fk fv fw fo j k x B (by_nil _) (by (try simp only [List.length_append, List.length_cons, List.length_nil]); omega) hj hok9 hmg s.heap.size) (cwV 1 hg (gi_V kw_908 kw_910 sw_25 kw_9 kw_911) rfl rfl rfl (by decide +kernel) ⟨Nat.le_of_ble_eq_true rfl, Nat.le_of_ble_eq_true rfl⟩) (zy_preV hX hS hFc hPc hKc hDc _ (q0 := 0) (ci := 8) rfl rfl) rfl rfl hl.1 rfl (lv_room (Nat.le_of_ble_eq_true rfl)) d_Mo_makes_350 ⟨Nat.le_of_ble_eq_true rfl, Nat.le_of_ble_eq_true rfl⟩) hS hFc (fun u H1 k9 p9 d9 => va_join (wr := []) hP hD [0, 1, 2, 3, 4, 5] [] rfl rfl (by decide) (by decide) k9 hFc p9 d9) (fun u H locs hw hP hD hK1 hS => ?_)
                obtain ⟨u_304, rfl⟩ : ∃ z, z = u := ⟨_, rfl⟩
                try dsimp only at hw
                have hP : va_P (dC, dI) vwCl [(mo, .inr (8, [.int th, .int fd, .ref rt, .int mn, .ref rk, .ref rv, .ref rw, .ref ro, .int md, .ref rr, .int (nI (([] : List Nat) ++ (mo_p k x B)).length), .ref ra, .long pz, .int kc, .ref rc, .ref rl, .ref rb, .int la, .int ca])), (ra, .inl (cB, 16400, .inl u_304)), (rk, .inl (cI, 16, .inl fk)), (rv, .inl (cL, 16, .inr (.inl fv))), (rw, .inl (cI, 16, .inl fw)), (ro, .inl (cB, 65536, .inl fo))] H := hP
                have hD : va_D A [(mo, .inr (8, [.int th, .int fd, .ref rt, .int mn, .ref rk, .ref rv, .ref rw, .ref ro, .int md, .ref rr, .int (nI (([] : List Nat) ++ (mo_p k x B)).length), .ref ra, .long pz, .int kc, .ref rc, .ref rl, .ref rb, .int la, .int ca])), (ra, .inl (cB, 16400, .inl u_304)), (rk, .inl (cI, 16, .inl fk)), (rv, .inl (cL, 16, .inr (.inl fv))), (rw, .inl (cI, 16, .inl fw)), (ro, .inl (cB, 65536, .inl fo))] := hD
                have hL_306 := hw
                refine lv_goto (tgt := 358) hx hb d_Mo_makes_353 (by decide) ?_
                refine lv_iconst (v := 1) hx hb d_Mo_makes_358 (by decide) ?_
                have hmo : (mk_o v k x B bp) = some (([] : List Nat) ++ (mo_p k x B)) := (mk_np hok9 f_345)
                have hP9 := hP.sub (ws' := [(mo, .inr (8, [.int th, .int fd, .ref rt, .int mn, .ref rk, .ref rv, .ref rw, .ref ro, .int md, .ref rr, .int (nI (([] : List Nat) ++ (mo_p k x B)).length), .ref ra, .long pz, .int kc, .ref rc, .ref rl, .ref rb, .int la, .int ca])), (ra, .inl (cB, 16400, .inl u_304)), (rk, .inl (cI, 16, .inl fk)), (rv, .inl (cL, 16, .inr (.inl fv))), (rw, .inl (cI, 16, .inl fw)), (ro, .inl (cB, 65536, .inl fo))]) [0, 1, 2, 3, 4, 5] rfl
                have hD9 := hD.sub (ws' := [(mo, .inr (8, [.int th, .int fd, .ref rt, .int mn, .ref rk, .ref rv, .ref rw, .ref ro, .int md, .ref rr, .int (nI (([] : List Nat) ++ (mo_p k x B)).length), .ref ra, .long pz, .int kc, .ref rc, .ref rl, .ref rb, .int la, .int ca])), (ra, .inl (cB, 16400, .inl u_304)), (rk, .inl (cI, 16, .inl fk)), (rv, .inl (cL, 16, .inr (.inl fv))), (rw, .inl (cI, 16, .inl fw)), (ro, .inl (cB, 65536, .inl fo))]) [0, 1, 2, 3, 4, 5] (by decide) rfl
                have hK9 := hK.sub (tys' := [(cB, .byte), (cI, .int), (cL, .long)]) [0, 1, 2] rfl
                rw [show nI (([] : List Nat) ++ (mo_p k x B)).length = nI ((mk_o v k x B bp).getD []).length by rw [hmo]; rfl] at hP9 hD9
                exact zz_zret hx hb hr hlocks d_Mo_makes_359 (by decide) hS (by first | exact Nat.le_refl _ | decide | omega | (dsimp only; omega)) (by first | exact Nat.le_refl _ | decide | omega | (dsimp only; omega)) (u_304, la, ca) ⟨by rw [hmo]; rfl, by rw [hmo]; exact hL_306⟩ hP9 hK9 hD9
          · skip
            have f_301 : v = 113 := sb_e1 (k := 113) hv (by decide) c_301
            refine lv_aload_n hx hb d_Mo_makes_304 rfl (lv_at hl 3 rfl) ?_
            refine lv_aload_n hx hb d_Mo_makes_305 rfl (lv_at hl 3 rfl) ?_
            refine va_get (D := (dC, dI)) (ci := 8) (v := .ref ro) (C := "TextForgeModel") (T := TX8) (N := 19) hx hb hg iwX8 hown hK hP 0 rfl rfl 7 (by decide) (hg _ kw_733) (fun _ h9 => h9) rfl d_Mo_makes_306 ?_
            refine lv_sipush (v := 4096) hx hb d_Mo_makes_309 (by decide) ?_
            refine lv_iload_n hx hb d_Mo_makes_312 rfl (lv_at hl 5 rfl) ?_
            refine lv_imul hx hb d_Mo_makes_313 ?_
            refine lv_topi (fun y_307 ey_307 => ?_)
            have ey_307 : y_307 = (nI (4096 * j) : Int32) := ey_307.trans (show (4096 * (nI j)) = nI (4096 * j) from (by rw [show (4096 : Int32) = nI 4096 from rfl, pk_mul]))
            subst ey_307
            refine lv_aload_n hx hb d_Mo_makes_314 rfl (lv_at hl 3 rfl) ?_
            refine va_get (D := (dC, dI)) (ci := 8) (v := .ref rw) (C := "TextForgeModel") (T := TX8) (N := 19) hx hb hg iwX8 hown hK hP 0 rfl rfl 6 (by decide) (hg _ kw_732) (fun _ h9 => h9) rfl d_Mo_makes_315 ?_
            refine lv_iload_n hx hb d_Mo_makes_318 rfl (lv_at hl 5 rfl) ?_
            refine va_iald hx hb hK hP 4 1 rfl rfl (vp_in_nI hj (by decide)) d_Mo_makes_319 ?_
            refine lv_topi (fun y_308 ey_308 => ?_)
            have ey_308 : y_308 = (nI B.length : Int32) := ey_308.trans (show (fw (nI j).toNatClampNeg) = nI B.length from (by rw [nI_clamp (show j < 2 ^ 31 by omega)]; exact hwj))
            subst ey_308
            have hPc := hP.sub (ws' := [(mo, .inr (8, [.int th, .int fd, .ref rt, .int mn, .ref rk, .ref rv, .ref rw, .ref ro, .int md, .ref rr, .int (nI ([] : List Nat).length), .ref ra, .long pz, .int kc, .ref rc, .ref rl, .ref rb, .int la, .int ca])), (ra, .inl (cB, 16400, .inl fa)), (ro, .inl (cB, 65536, .inl fo))]) [0, 1, 5] rfl
            have hKc := hK.sub (tys' := [(cB, .byte)]) [0] rfl
            have hDc := hD.sub (ws' := [(mo, .inr (8, [.int th, .int fd, .ref rt, .int mn, .ref rk, .ref rv, .ref rw, .ref ro, .int md, .ref rr, .int (nI ([] : List Nat).length), .ref ra, .long pz, .int kc, .ref rc, .ref rl, .ref rb, .int la, .int ca])), (ra, .inl (cB, 16400, .inl fa)), (ro, .inl (cB, 65536, .inl fo))]) [0, 1, 5] (by decide) rfl
            have hFc := va_free (wc := [(mo, .inr (8, [.int th, .int fd, .ref rt, .int mn, .ref rk, .ref rv, .ref rw, .ref ro, .int md, .ref rr, .int (nI ([] : List Nat).length), .ref ra, .long pz, .int kc, .ref rc, .ref rl, .ref rb, .int la, .int ca])), (ra, .inl (cB, 16400, .inl fa)), (ro, .inl (cB, 65536, .inl fo))]) hD hS hA [0, 1, 5] rfl
            refine zz_callv (va_runV (As := [.ref ro, .int (nI (4096 * j)), .int (nI B.length)]) (rest := []) ⟨hx, hb, hml, hown, hg⟩ (c_Mo_quoteRow l dC dI ad mo rt rk rv rw ro rr ra rc rl rb th fd mn md (nI ([] : List Nat).length) pz kc la ca ro 65536 cB fo B (4096 * j) fa ([] : List Nat) hBt (by omega) (by decide) (by_nil _) (show 0 + (4 * B.length + 2) ≤ 16400 by omega) s.heap.size) (cwV 3 hg (gi_V kw_904 kw_906 sw_24 kw_9 kw_907) rfl rfl rfl (by decide +kernel) ⟨Nat.le_of_ble_eq_true rfl, Nat.le_of_ble_eq_true rfl⟩) (zy_preV hX hS hFc hPc hKc hDc _ (q0 := 0) (ci := 8) rfl rfl) rfl rfl hl.1 rfl (lv_room (Nat.le_of_ble_eq_true rfl)) d_Mo_makes_320 ⟨Nat.le_of_ble_eq_true rfl, Nat.le_of_ble_eq_true rfl⟩) hS hFc (fun u H1 k9 p9 d9 => va_join (wr := [(rk, .inl (cI, 16, .inl fk)), (rv, .inl (cL, 16, .inr (.inl fv))), (rw, .inl (cI, 16, .inl fw))]) hP hD [0, 1, 5] [2, 3, 4] rfl rfl (by decide) (by decide) k9 hFc p9 d9) (fun u H locs hw hP hD hK1 hS => ?_)
            obtain ⟨g5, la5, ca5⟩ := u
            try dsimp only at hw
            have hP : va_P (dC, dI) vwCl [(rk, .inl (cI, 16, .inl fk)), (rv, .inl (cL, 16, .inr (.inl fv))), (rw, .inl (cI, 16, .inl fw)), (mo, .inr (8, [.int th, .int fd, .ref rt, .int mn, .ref rk, .ref rv, .ref rw, .ref ro, .int md, .ref rr, .int (nI (([] : List Nat) ++ qu_t B).length), .ref ra, .long pz, .int kc, .ref rc, .ref rl, .ref rb, .int la5, .int ca5])), (ra, .inl (cB, 16400, .inl g5)), (ro, .inl (cB, 65536, .inl fo))] H := hP
            have hD : va_D A [(rk, .inl (cI, 16, .inl fk)), (rv, .inl (cL, 16, .inr (.inl fv))), (rw, .inl (cI, 16, .inl fw)), (mo, .inr (8, [.int th, .int fd, .ref rt, .int mn, .ref rk, .ref rv, .ref rw, .ref ro, .int md, .ref rr, .int (nI (([] : List Nat) ++ qu_t B).length), .ref ra, .long pz, .int kc, .ref rc, .ref rl, .ref rb, .int la5, .int ca5])), (ra, .inl (cB, 16400, .inl g5)), (ro, .inl (cB, 65536, .inl fo))] := hD
            have hL_310 := hw
            refine lv_goto (tgt := 358) hx hb d_Mo_makes_323 (by decide) ?_
            refine lv_iconst (v := 1) hx hb d_Mo_makes_358 (by decide) ?_
            have hmo : (mk_o v k x B bp) = some (([] : List Nat) ++ qu_t B) := (mk_tq hk3 f_301)
            have hP9 := hP.sub (ws' := [(mo, .inr (8, [.int th, .int fd, .ref rt, .int mn, .ref rk, .ref rv, .ref rw, .ref ro, .int md, .ref rr, .int (nI (([] : List Nat) ++ qu_t B).length), .ref ra, .long pz, .int kc, .ref rc, .ref rl, .ref rb, .int la5, .int ca5])), (ra, .inl (cB, 16400, .inl g5)), (rk, .inl (cI, 16, .inl fk)), (rv, .inl (cL, 16, .inr (.inl fv))), (rw, .inl (cI, 16, .inl fw)), (ro, .inl (cB, 65536, .inl fo))]) [3, 4, 0, 1, 2, 5] rfl
            have hD9 := hD.sub (ws' := [(mo, .inr (8, [.int th, .int fd, .ref rt, .int mn, .ref rk, .ref rv, .ref rw, .ref ro, .int md, .ref rr, .int (nI (([] : List Nat) ++ qu_t B).length), .ref ra, .long pz, .int kc, .ref rc, .ref rl, .ref rb, .int la5, .int ca5])), (ra, .inl (cB, 16400, .inl g5)), (rk, .inl (cI, 16, .inl fk)), (rv, .inl (cL, 16, .inr (.inl fv))), (rw, .inl (cI, 16, .inl fw)), (ro, .inl (cB, 65536, .inl fo))]) [3, 4, 0, 1, 2, 5] (by decide) rfl
            have hK9 := hK.sub (tys' := [(cB, .byte), (cI, .int), (cL, .long)]) [0, 1, 2] rfl
            rw [show nI (([] : List Nat) ++ qu_t B).length = nI ((mk_o v k x B bp).getD []).length by rw [hmo]; rfl] at hP9 hD9
            exact zz_zret hx hb hr hlocks d_Mo_makes_359 (by decide) hS (by first | exact Nat.le_refl _ | decide | omega | (dsimp only; omega)) (by first | exact Nat.le_refl _ | decide | omega | (dsimp only; omega)) (g5, la5, ca5) ⟨by rw [hmo]; rfl, by rw [hmo]; exact hL_310⟩ hP9 hK9 hD9
        · skip
          have f_282 : v = 115 := sb_e1 (k := 115) hv (by decide) c_282
          refine lv_aload_n hx hb d_Mo_makes_285 rfl (lv_at hl 3 rfl) ?_
          refine lv_iload_n hx hb d_Mo_makes_286 rfl (lv_at hl 5 rfl) ?_
          have hPc := hP.sub (ws' := [(mo, .inr (8, [.int th, .int fd, .ref rt, .int mn, .ref rk, .ref rv, .ref rw, .ref ro, .int md, .ref rr, .int (nI ([] : List Nat).length), .ref ra, .long pz, .int kc, .ref rc, .ref rl, .ref rb, .int la, .int ca])), (ra, .inl (cB, 16400, .inl fa)), (rw, .inl (cI, 16, .inl fw)), (ro, .inl (cB, 65536, .inl fo))]) [0, 1, 4, 5] rfl
          have hKc := hK.sub (tys' := [(cB, .byte), (cI, .int)]) [0, 1] rfl
          have hDc := hD.sub (ws' := [(mo, .inr (8, [.int th, .int fd, .ref rt, .int mn, .ref rk, .ref rv, .ref rw, .ref ro, .int md, .ref rr, .int (nI ([] : List Nat).length), .ref ra, .long pz, .int kc, .ref rc, .ref rl, .ref rb, .int la, .int ca])), (ra, .inl (cB, 16400, .inl fa)), (rw, .inl (cI, 16, .inl fw)), (ro, .inl (cB, 65536, .inl fo))]) [0, 1, 4, 5] (by decide) rfl
          have hFc := va_free (wc := [(mo, .inr (8, [.int th, .int fd, .ref rt, .int mn, .ref rk, .ref rv, .ref rw, .ref ro, .int md, .ref rr, .int (nI ([] : List Nat).length), .ref ra, .long pz, .int kc, .ref rc, .ref rl, .ref rb, .int la, .int ca])), (ra, .inl (cB, 16400, .inl fa)), (rw, .inl (cI, 16, .inl fw)), (ro, .inl (cB, 65536, .inl fo))]) hD hS hA [0, 1, 4, 5] rfl
          refine zz_callv (va_runV (As := [.int (nI j)]) (rest := []) ⟨hx, hb, hml, hown, hg⟩ (c_Mo_textOf l dC dI mo rt rk rv rw ro rr ra rc rl rb th fd mn md (nI ([] : List Nat).length) pz kc la ca cB fa ([] : List Nat) cI fw fo j B (by_nil _) (by (try simp only [List.length_append, List.length_cons, List.length_nil]); omega) hj hwj hB4 hBt s.heap.size) (cwV 1 hg (gi_V kw_900 kw_902 sw_23 kw_9 kw_903) rfl rfl rfl (by decide +kernel) ⟨Nat.le_of_ble_eq_true rfl, Nat.le_of_ble_eq_true rfl⟩) (zz_preV hPc hKc hDc _ (q0 := 0) (ci := 8) rfl rfl) rfl rfl hl.1 rfl (lv_room (Nat.le_of_ble_eq_true rfl)) d_Mo_makes_287 ⟨Nat.le_of_ble_eq_true rfl, Nat.le_of_ble_eq_true rfl⟩) hS hFc (fun u H1 k9 p9 d9 => va_join (wr := [(rk, .inl (cI, 16, .inl fk)), (rv, .inl (cL, 16, .inr (.inl fv)))]) hP hD [0, 1, 4, 5] [2, 3] rfl rfl (by decide) (by decide) k9 hFc p9 d9) (fun u H locs hw hP hD hK1 hS => ?_)
          obtain ⟨u_311, rfl⟩ : ∃ z, z = u := ⟨_, rfl⟩
          try dsimp only at hw
          have hP : va_P (dC, dI) vwCl [(rk, .inl (cI, 16, .inl fk)), (rv, .inl (cL, 16, .inr (.inl fv))), (mo, .inr (8, [.int th, .int fd, .ref rt, .int mn, .ref rk, .ref rv, .ref rw, .ref ro, .int md, .ref rr, .int (nI (([] : List Nat) ++ B).length), .ref ra, .long pz, .int kc, .ref rc, .ref rl, .ref rb, .int la, .int ca])), (ra, .inl (cB, 16400, .inl u_311)), (rw, .inl (cI, 16, .inl fw)), (ro, .inl (cB, 65536, .inl fo))] H := hP
          have hD : va_D A [(rk, .inl (cI, 16, .inl fk)), (rv, .inl (cL, 16, .inr (.inl fv))), (mo, .inr (8, [.int th, .int fd, .ref rt, .int mn, .ref rk, .ref rv, .ref rw, .ref ro, .int md, .ref rr, .int (nI (([] : List Nat) ++ B).length), .ref ra, .long pz, .int kc, .ref rc, .ref rl, .ref rb, .int la, .int ca])), (ra, .inl (cB, 16400, .inl u_311)), (rw, .inl (cI, 16, .inl fw)), (ro, .inl (cB, 65536, .inl fo))] := hD
          have hL_313 := hw
          refine lv_goto (tgt := 358) hx hb d_Mo_makes_290 (by decide) ?_
          refine lv_iconst (v := 1) hx hb d_Mo_makes_358 (by decide) ?_
          have hmo : (mk_o v k x B bp) = some (([] : List Nat) ++ B) := (mk_ts hk3 f_282)
          have hP9 := hP.sub (ws' := [(mo, .inr (8, [.int th, .int fd, .ref rt, .int mn, .ref rk, .ref rv, .ref rw, .ref ro, .int md, .ref rr, .int (nI (([] : List Nat) ++ B).length), .ref ra, .long pz, .int kc, .ref rc, .ref rl, .ref rb, .int la, .int ca])), (ra, .inl (cB, 16400, .inl u_311)), (rk, .inl (cI, 16, .inl fk)), (rv, .inl (cL, 16, .inr (.inl fv))), (rw, .inl (cI, 16, .inl fw)), (ro, .inl (cB, 65536, .inl fo))]) [2, 3, 0, 1, 4, 5] rfl
          have hD9 := hD.sub (ws' := [(mo, .inr (8, [.int th, .int fd, .ref rt, .int mn, .ref rk, .ref rv, .ref rw, .ref ro, .int md, .ref rr, .int (nI (([] : List Nat) ++ B).length), .ref ra, .long pz, .int kc, .ref rc, .ref rl, .ref rb, .int la, .int ca])), (ra, .inl (cB, 16400, .inl u_311)), (rk, .inl (cI, 16, .inl fk)), (rv, .inl (cL, 16, .inr (.inl fv))), (rw, .inl (cI, 16, .inl fw)), (ro, .inl (cB, 65536, .inl fo))]) [2, 3, 0, 1, 4, 5] (by decide) rfl
          have hK9 := hK.sub (tys' := [(cB, .byte), (cI, .int), (cL, .long)]) [0, 1, 2] rfl
          rw [show nI (([] : List Nat) ++ B).length = nI ((mk_o v k x B bp).getD []).length by rw [hmo]; rfl] at hP9 hD9
          exact zz_zret hx hb hr hlocks d_Mo_makes_359 (by decide) hS (by first | exact Nat.le_refl _ | decide | omega | (dsimp only; omega)) (by first | exact Nat.le_refl _ | decide | omega | (dsimp only; omega)) (u_311, la, ca) ⟨by rw [hmo]; rfl, by rw [hmo]; exact hL_313⟩ hP9 hK9 hD9
      · skip
        have f_162 : v = 88 := sb_e1 (k := 88) hv (by decide) c_162
        refine lv_iconst (v := 0) hx hb d_Mo_makes_165 (by decide) ?_
        refine lv_istore (lv' := [(7, .int 0), (6, .int 65533), (5, .int 1), (4, .int 0), (0, .ref mo), (1, .int (sb_b v)), (2, .int (nI j)), (3, .int (by_z bp))]) hx hb d_Mo_makes_166 hl (by decide) rfl (fun ls hl => ?_)
        rw [show nI ([] : List Nat).length = nI (([] : List Nat) ++ px_h (dg_t (decide (v = 88))) (B.take 0)).length by rw [List.take_zero]; rfl] at hP hD
        refine zz_loop (fun (x : Nat × (Nat → Int32)) H locs ls => match x with | (i, g) => va_P (dC, dI) vwCl [(mo, .inr (8, [.int th, .int fd, .ref rt, .int mn, .ref rk, .ref rv, .ref rw, .ref ro, .int md, .ref rr, .int (nI (([] : List Nat) ++ px_h (dg_t (decide (v = 88))) (B.take i)).length), .ref ra, .long pz, .int kc, .ref rc, .ref rl, .ref rb, .int la, .int ca])), (ra, .inl (cB, 16400, .inl g)), (rk, .inl (cI, 16, .inl fk)), (rv, .inl (cL, 16, .inr (.inl fv))), (rw, .inl (cI, 16, .inl fw)), (ro, .inl (cB, 65536, .inl fo))] H ∧ va_D A [(mo, .inr (8, [.int th, .int fd, .ref rt, .int mn, .ref rk, .ref rv, .ref rw, .ref ro, .int md, .ref rr, .int (nI (([] : List Nat) ++ px_h (dg_t (decide (v = 88))) (B.take i)).length), .ref ra, .long pz, .int kc, .ref rc, .ref rl, .ref rb, .int la, .int ca])), (ra, .inl (cB, 16400, .inl g)), (rk, .inl (cI, 16, .inl fk)), (rv, .inl (cL, 16, .inr (.inl fv))), (rw, .inl (cI, 16, .inl fw)), (ro, .inl (cB, 65536, .inl fo))] ∧ va_S A s.heap H locs ∧ lv_has ls 8 [(0, .ref mo), (1, .int (sb_b v)), (2, .int (nI j)), (7, .int (nI i))] ∧ by_L (([] : List Nat) ++ px_h (dg_t (decide (v = 88))) (B.take i)) g ∧ i ≤ B.length) (fun x => match x with | (i, g) => B.length - i) ?_ (0, fa) ⟨hP.sub [0, 1, 2, 3, 4, 5] rfl, hD.sub [0, 1, 2, 3, 4, 5] (by decide) rfl, hS, lv_sub hl [4, 5, 6, 0] rfl, (by_nil _), (Nat.zero_le _)⟩
        intro x H locs ls hI ih_168
        obtain ⟨i, g⟩ := x
        try dsimp only at hI
        obtain ⟨hP, hD, hS, hl, hLi, hil⟩ := hI
        refine lv_iload hx hb d_Mo_makes_168 (lv_at hl 3 rfl) ?_
        refine lv_aload_n hx hb d_Mo_makes_170 rfl (lv_at hl 0 rfl) ?_
        refine va_get (D := (dC, dI)) (ci := 8) (v := .ref rw) (C := "TextForgeModel") (T := TX8) (N := 19) hx hb hg iwX8 hown hK hP 0 rfl rfl 6 (by decide) (hg _ kw_732) (fun _ h9 => h9) rfl d_Mo_makes_171 ?_
        refine lv_iload_n hx hb d_Mo_makes_174 rfl (lv_at hl 2 rfl) ?_
        refine va_iald hx hb hK hP 4 1 rfl rfl (vp_in_nI hj (by decide)) d_Mo_makes_175 ?_
        refine lv_topi (fun y_314 ey_314 => ?_)
        have ey_314 : y_314 = (nI B.length : Int32) := ey_314.trans (show (fw (nI j).toNatClampNeg) = nI B.length from (by rw [nI_clamp (show j < 2 ^ 31 by omega)]; exact hwj))
        subst ey_314
        refine lv_icmp_ge (tgt := 217) hx hb d_Mo_makes_176 (by decide) (fun c_176 => ?_) (fun c_176 => ?_)
        · skip
          have f_176 : B.length ≤ i := Nat.le_of_not_lt (fun z => nI_ge (b := B.length) z (by omega) c_176)
          have hie : i = B.length := by omega
          refine lv_goto (tgt := 358) hx hb d_Mo_makes_217 (by decide) ?_
          refine lv_iconst (v := 1) hx hb d_Mo_makes_358 (by decide) ?_
          have hmo : (mk_o v k x B bp) = some (([] : List Nat) ++ px_h (dg_t (decide (v = 88))) (B.take i)) := (by rw [hie, List.take_length]; exact mk_th hk3 (Or.inr f_162))
          have hP9 := hP.sub (ws' := [(mo, .inr (8, [.int th, .int fd, .ref rt, .int mn, .ref rk, .ref rv, .ref rw, .ref ro, .int md, .ref rr, .int (nI (([] : List Nat) ++ px_h (dg_t (decide (v = 88))) (B.take i)).length), .ref ra, .long pz, .int kc, .ref rc, .ref rl, .ref rb, .int la, .int ca])), (ra, .inl (cB, 16400, .inl g)), (rk, .inl (cI, 16, .inl fk)), (rv, .inl (cL, 16, .inr (.inl fv))), (rw, .inl (cI, 16, .inl fw)), (ro, .inl (cB, 65536, .inl fo))]) [0, 1, 2, 3, 4, 5] rfl
          have hD9 := hD.sub (ws' := [(mo, .inr (8, [.int th, .int fd, .ref rt, .int mn, .ref rk, .ref rv, .ref rw, .ref ro, .int md, .ref rr, .int (nI (([] : List Nat) ++ px_h (dg_t (decide (v = 88))) (B.take i)).length), .ref ra, .long pz, .int kc, .ref rc, .ref rl, .ref rb, .int la, .int ca])), (ra, .inl (cB, 16400, .inl g)), (rk, .inl (cI, 16, .inl fk)), (rv, .inl (cL, 16, .inr (.inl fv))), (rw, .inl (cI, 16, .inl fw)), (ro, .inl (cB, 65536, .inl fo))]) [0, 1, 2, 3, 4, 5] (by decide) rfl
          have hK9 := hK.sub (tys' := [(cB, .byte), (cI, .int), (cL, .long)]) [0, 1, 2] rfl
          rw [show nI (([] : List Nat) ++ px_h (dg_t (decide (v = 88))) (B.take i)).length = nI ((mk_o v k x B bp).getD []).length by rw [hmo]; rfl] at hP9 hD9
          exact zz_zret hx hb hr hlocks d_Mo_makes_359 (by decide) hS (by first | exact Nat.le_refl _ | decide | omega | (dsimp only; omega)) (by first | exact Nat.le_refl _ | decide | omega | (dsimp only; omega)) (g, la, ca) ⟨by rw [hmo]; rfl, by rw [hmo]; exact hLi⟩ hP9 hK9 hD9
        · skip
          have f_176 : i < B.length := Nat.lt_of_not_le (fun z => c_176 (nI_le (a := B.length) z (by omega)))
          have hpx := px_hl (t := (dg_t (decide (v = 88)))) (B.take i)
          have hti : (B.take i).length ≤ i := List.length_take_le _ _
          refine lv_aload_n hx hb d_Mo_makes_179 rfl (lv_at hl 0 rfl) ?_
          refine lv_aload_n hx hb d_Mo_makes_180 rfl (lv_at hl 0 rfl) ?_
          refine va_get (D := (dC, dI)) (ci := 8) (v := .ref ro) (C := "TextForgeModel") (T := TX8) (N := 19) hx hb hg iwX8 hown hK hP 0 rfl rfl 7 (by decide) (hg _ kw_733) (fun _ h9 => h9) rfl d_Mo_makes_181 ?_
          refine lv_sipush (v := 4096) hx hb d_Mo_makes_184 (by decide) ?_
          refine lv_iload_n hx hb d_Mo_makes_187 rfl (lv_at hl 2 rfl) ?_
          refine lv_imul hx hb d_Mo_makes_188 ?_
          refine lv_iload hx hb d_Mo_makes_189 (lv_at hl 3 rfl) ?_
          refine lv_iadd hx hb d_Mo_makes_191 ?_
          refine lv_topi (fun y_315 ey_315 => ?_)
          have ey_315 : y_315 = (nI (4096 * j + i) : Int32) := ey_315.trans (show ((4096 * (nI j)) + (nI i)) = nI (4096 * j + i) from (by rw [show (4096 : Int32) = nI 4096 from rfl, pk_mul, nI_add]))
          subst ey_315
          refine va_bald hx hb hK hP 5 0 rfl rfl (vp_in_nI (by omega) (by decide)) d_Mo_makes_192 ?_
          refine lv_topi (fun y_316 ey_316 => ?_)
          have ey_316 : y_316 = (sb_b (B.getD i 0) : Int32) := ey_316.trans (show (fo (nI (4096 * j + i)).toNatClampNeg) = sb_b (B.getD i 0) from (by rw [nI_clamp (show 4096 * j + i < 2 ^ 31 by omega)]; exact (hBt i f_176).2))
          subst ey_316
          refine lv_sipush (v := 255) hx hb d_Mo_makes_193 (by decide) ?_
          refine lv_iand hx hb d_Mo_makes_196 ?_
          refine lv_topi (fun y_317 ey_317 => ?_)
          have ey_317 : y_317 = (nI (B.getD i 0) : Int32) := ey_317.trans (show ((sb_b (B.getD i 0)) &&& 255) = nI (B.getD i 0) from (sb_255 _ (hBt i f_176).1))
          subst ey_317
          refine lv_iload_n hx hb d_Mo_makes_197 rfl (lv_at hl 1 rfl) ?_
          refine lv_bipush (v := 88) hx hb d_Mo_makes_198 (by decide) ?_
          refine lv_icmp_ne (tgt := 207) hx hb d_Mo_makes_200 (by decide) (fun c_200 => ?_) (fun c_200 => ?_)
          · skip
            have f_200 : v ≠ 88 := sb_e2 (k := 88) hv (by decide) c_200
            refine lv_iconst (v := 0) hx hb d_Mo_makes_207 (by decide) ?_
            refine lv_topi (fun y_318 ey_318 => ?_)
            have ey_318 : y_318 = (by_z (decide (v = 88)) : Int32) := ey_318.trans (show 0 = by_z (decide (v = 88)) from (by rw [decide_eq_false f_200]; rfl))
            subst ey_318
            have hPc := hP.sub (ws' := [(mo, .inr (8, [.int th, .int fd, .ref rt, .int mn, .ref rk, .ref rv, .ref rw, .ref ro, .int md, .ref rr, .int (nI (([] : List Nat) ++ px_h (dg_t (decide (v = 88))) (B.take i)).length), .ref ra, .long pz, .int kc, .ref rc, .ref rl, .ref rb, .int la, .int ca])), (ra, .inl (cB, 16400, .inl g))]) [0, 1] rfl
            have hKc := hK.sub (tys' := [(cB, .byte)]) [0] rfl
            have hDc := hD.sub (ws' := [(mo, .inr (8, [.int th, .int fd, .ref rt, .int mn, .ref rk, .ref rv, .ref rw, .ref ro, .int md, .ref rr, .int (nI (([] : List Nat) ++ px_h (dg_t (decide (v = 88))) (B.take i)).length), .ref ra, .long pz, .int kc, .ref rc, .ref rl, .ref rb, .int la, .int ca])), (ra, .inl (cB, 16400, .inl g))]) [0, 1] (by decide) rfl
            have hFc := va_free (wc := [(mo, .inr (8, [.int th, .int fd, .ref rt, .int mn, .ref rk, .ref rv, .ref rw, .ref ro, .int md, .ref rr, .int (nI (([] : List Nat) ++ px_h (dg_t (decide (v = 88))) (B.take i)).length), .ref ra, .long pz, .int kc, .ref rc, .ref rl, .ref rb, .int la, .int ca])), (ra, .inl (cB, 16400, .inl g))]) hD hS hA [0, 1] rfl
            refine zz_callv (va_runV (As := [.int (nI (B.getD i 0)), .int (by_z (decide (v = 88)))]) (rest := []) ⟨hx, hb, hml, hown, hg⟩ (c_Mo_hexOf l dC dI mo rt rk rv rw ro rr ra rc rl rb th fd mn md (nI (([] : List Nat) ++ px_h (dg_t (decide (v = 88))) (B.take i)).length) pz kc la ca cB g (([] : List Nat) ++ px_h (dg_t (decide (v = 88))) (B.take i)) (B.getD i 0) (decide (v = 88)) hLi (by (try simp only [List.length_append, List.length_cons, List.length_nil]); omega) (hBt i f_176).1 H.size) (cwV 2 hg (gi_V kw_882 kw_884 sw_19 kw_9 kw_885) rfl rfl rfl (by decide +kernel) ⟨Nat.le_of_ble_eq_true rfl, Nat.le_of_ble_eq_true rfl⟩) (zz_preV hPc hKc hDc _ (q0 := 0) (ci := 8) rfl rfl) rfl rfl hl.1 rfl (lv_room (Nat.le_of_ble_eq_true rfl)) d_Mo_makes_208 ⟨Nat.le_of_ble_eq_true rfl, Nat.le_of_ble_eq_true rfl⟩) hS hFc (fun u H1 k9 p9 d9 => va_join (wr := [(rk, .inl (cI, 16, .inl fk)), (rv, .inl (cL, 16, .inr (.inl fv))), (rw, .inl (cI, 16, .inl fw)), (ro, .inl (cB, 65536, .inl fo))]) hP hD [0, 1] [2, 3, 4, 5] rfl rfl (by decide) (by decide) k9 hFc p9 d9) (fun u H locs hw hP hD hK1 hS => ?_)
            obtain ⟨u_319, rfl⟩ : ∃ z, z = u := ⟨_, rfl⟩
            try dsimp only at hw
            have hP : va_P (dC, dI) vwCl [(rk, .inl (cI, 16, .inl fk)), (rv, .inl (cL, 16, .inr (.inl fv))), (rw, .inl (cI, 16, .inl fw)), (ro, .inl (cB, 65536, .inl fo)), (mo, .inr (8, [.int th, .int fd, .ref rt, .int mn, .ref rk, .ref rv, .ref rw, .ref ro, .int md, .ref rr, .int (nI ((([] : List Nat) ++ px_h (dg_t (decide (v = 88))) (B.take i)) ++ [nu_d (dg_t (decide (v = 88))) ((B.getD i 0) / 16), nu_d (dg_t (decide (v = 88))) ((B.getD i 0) % 16)]).length), .ref ra, .long pz, .int kc, .ref rc, .ref rl, .ref rb, .int la, .int ca])), (ra, .inl (cB, 16400, .inl u_319))] H := hP
            have hD : va_D A [(rk, .inl (cI, 16, .inl fk)), (rv, .inl (cL, 16, .inr (.inl fv))), (rw, .inl (cI, 16, .inl fw)), (ro, .inl (cB, 65536, .inl fo)), (mo, .inr (8, [.int th, .int fd, .ref rt, .int mn, .ref rk, .ref rv, .ref rw, .ref ro, .int md, .ref rr, .int (nI ((([] : List Nat) ++ px_h (dg_t (decide (v = 88))) (B.take i)) ++ [nu_d (dg_t (decide (v = 88))) ((B.getD i 0) / 16), nu_d (dg_t (decide (v = 88))) ((B.getD i 0) % 16)]).length), .ref ra, .long pz, .int kc, .ref rc, .ref rl, .ref rb, .int la, .int ca])), (ra, .inl (cB, 16400, .inl u_319))] := hD
            have hL_321 := hw
            refine lv_iinc (v := (nI i) + 1) (lv' := [(7, .int ((nI i) + 1)), (0, .ref mo), (1, .int (sb_b v)), (2, .int (nI j))]) hx hb d_Mo_makes_211 hl (k := 3) rfl rfl (by decide) rfl (fun ls hl => ?_)
            refine lv_goto (tgt := 168) hx hb d_Mo_makes_214 (by decide) ?_
            rw [px_h1 f_176] at hP hD hL_321
            rw [nI_1] at hl
            exact ih_168 (i + 1, u_319) H locs ls ⟨hP.sub [4, 5, 0, 1, 2, 3] rfl, hD.sub [4, 5, 0, 1, 2, 3] (by decide) rfl, hS, lv_sub hl [1, 2, 3, 0] rfl, hL_321, f_176⟩ (by dsimp only; omega)
          · skip
            have f_200 : v = 88 := sb_e1 (k := 88) hv (by decide) c_200
            refine lv_iconst (v := 1) hx hb d_Mo_makes_203 (by decide) ?_
            refine lv_goto (tgt := 208) hx hb d_Mo_makes_204 (by decide) ?_
            refine lv_topi (fun y_322 ey_322 => ?_)
            have ey_322 : y_322 = (by_z (decide (v = 88)) : Int32) := ey_322.trans (show 1 = by_z (decide (v = 88)) from (by rw [decide_eq_true f_200]; rfl))
            subst ey_322
            have hPc := hP.sub (ws' := [(mo, .inr (8, [.int th, .int fd, .ref rt, .int mn, .ref rk, .ref rv, .ref rw, .ref ro, .int md, .ref rr, .int (nI (([] : List Nat) ++ px_h (dg_t (decide (v = 88))) (B.take i)).length), .ref ra, .long pz, .int kc, .ref rc, .ref rl, .ref rb, .int la, .int ca])), (ra, .inl (cB, 16400, .inl g))]) [0, 1] rfl
            have hKc := hK.sub (tys' := [(cB, .byte)]) [0] rfl
            have hDc := hD.sub (ws' := [(mo, .inr (8, [.int th, .int fd, .ref rt, .int mn, .ref rk, .ref rv, .ref rw, .ref ro, .int md, .ref rr, .int (nI (([] : List Nat) ++ px_h (dg_t (decide (v = 88))) (B.take i)).length), .ref ra, .long pz, .int kc, .ref rc, .ref rl, .ref rb, .int la, .int ca])), (ra, .inl (cB, 16400, .inl g))]) [0, 1] (by decide) rfl
            have hFc := va_free (wc := [(mo, .inr (8, [.int th, .int fd, .ref rt, .int mn, .ref rk, .ref rv, .ref rw, .ref ro, .int md, .ref rr, .int (nI (([] : List Nat) ++ px_h (dg_t (decide (v = 88))) (B.take i)).length), .ref ra, .long pz, .int kc, .ref rc, .ref rl, .ref rb, .int la, .int ca])), (ra, .inl (cB, 16400, .inl g))]) hD hS hA [0, 1] rfl
            refine zz_callv (va_runV (As := [.int (nI (B.getD i 0)), .int (by_z (decide (v = 88)))]) (rest := []) ⟨hx, hb, hml, hown, hg⟩ (c_Mo_hexOf l dC dI mo rt rk rv rw ro rr ra rc rl rb th fd mn md (nI (([] : List Nat) ++ px_h (dg_t (decide (v = 88))) (B.take i)).length) pz kc la ca cB g (([] : List Nat) ++ px_h (dg_t (decide (v = 88))) (B.take i)) (B.getD i 0) (decide (v = 88)) hLi (by (try simp only [List.length_append, List.length_cons, List.length_nil]); omega) (hBt i f_176).1 H.size) (cwV 2 hg (gi_V kw_882 kw_884 sw_19 kw_9 kw_885) rfl rfl rfl (by decide +kernel) ⟨Nat.le_of_ble_eq_true rfl, Nat.le_of_ble_eq_true rfl⟩) (zz_preV hPc hKc hDc _ (q0 := 0) (ci := 8) rfl rfl) rfl rfl hl.1 rfl (lv_room (Nat.le_of_ble_eq_true rfl)) d_Mo_makes_208 ⟨Nat.le_of_ble_eq_true rfl, Nat.le_of_ble_eq_true rfl⟩) hS hFc (fun u H1 k9 p9 d9 => va_join (wr := [(rk, .inl (cI, 16, .inl fk)), (rv, .inl (cL, 16, .inr (.inl fv))), (rw, .inl (cI, 16, .inl fw)), (ro, .inl (cB, 65536, .inl fo))]) hP hD [0, 1] [2, 3, 4, 5] rfl rfl (by decide) (by decide) k9 hFc p9 d9) (fun u H locs hw hP hD hK1 hS => ?_)
            obtain ⟨u_323, rfl⟩ : ∃ z, z = u := ⟨_, rfl⟩
            try dsimp only at hw
            have hP : va_P (dC, dI) vwCl [(rk, .inl (cI, 16, .inl fk)), (rv, .inl (cL, 16, .inr (.inl fv))), (rw, .inl (cI, 16, .inl fw)), (ro, .inl (cB, 65536, .inl fo)), (mo, .inr (8, [.int th, .int fd, .ref rt, .int mn, .ref rk, .ref rv, .ref rw, .ref ro, .int md, .ref rr, .int (nI ((([] : List Nat) ++ px_h (dg_t (decide (v = 88))) (B.take i)) ++ [nu_d (dg_t (decide (v = 88))) ((B.getD i 0) / 16), nu_d (dg_t (decide (v = 88))) ((B.getD i 0) % 16)]).length), .ref ra, .long pz, .int kc, .ref rc, .ref rl, .ref rb, .int la, .int ca])), (ra, .inl (cB, 16400, .inl u_323))] H := hP
            have hD : va_D A [(rk, .inl (cI, 16, .inl fk)), (rv, .inl (cL, 16, .inr (.inl fv))), (rw, .inl (cI, 16, .inl fw)), (ro, .inl (cB, 65536, .inl fo)), (mo, .inr (8, [.int th, .int fd, .ref rt, .int mn, .ref rk, .ref rv, .ref rw, .ref ro, .int md, .ref rr, .int (nI ((([] : List Nat) ++ px_h (dg_t (decide (v = 88))) (B.take i)) ++ [nu_d (dg_t (decide (v = 88))) ((B.getD i 0) / 16), nu_d (dg_t (decide (v = 88))) ((B.getD i 0) % 16)]).length), .ref ra, .long pz, .int kc, .ref rc, .ref rl, .ref rb, .int la, .int ca])), (ra, .inl (cB, 16400, .inl u_323))] := hD
            have hL_325 := hw
            refine lv_iinc (v := (nI i) + 1) (lv' := [(7, .int ((nI i) + 1)), (0, .ref mo), (1, .int (sb_b v)), (2, .int (nI j))]) hx hb d_Mo_makes_211 hl (k := 3) rfl rfl (by decide) rfl (fun ls hl => ?_)
            refine lv_goto (tgt := 168) hx hb d_Mo_makes_214 (by decide) ?_
            rw [px_h1 f_176] at hP hD hL_325
            rw [nI_1] at hl
            exact ih_168 (i + 1, u_323) H locs ls ⟨hP.sub [4, 5, 0, 1, 2, 3] rfl, hD.sub [4, 5, 0, 1, 2, 3] (by decide) rfl, hS, lv_sub hl [1, 2, 3, 0] rfl, hL_325, f_176⟩ (by dsimp only; omega)
  · skip
    have hk9 : fk j = 2 := by rw [hmg.1, hk2]; rfl
    refine lv_aload_n hx hb d_Mo_makes_0 rfl (lv_at hl 0 rfl) ?_
    refine va_get (D := (dC, dI)) (ci := 8) (v := .ref rk) (C := "TextForgeModel") (T := TX8) (N := 19) hx hb hg iwX8 hown hK hP 0 rfl rfl 4 (by decide) (hg _ kw_730) (fun _ h9 => h9) rfl d_Mo_makes_1 ?_
    refine lv_iload_n hx hb d_Mo_makes_4 rfl (lv_at hl 2 rfl) ?_
    refine va_iald hx hb hK hP 2 1 rfl rfl (vp_in_nI hj (by decide)) d_Mo_makes_5 ?_
    refine lv_topi (fun y_326 ey_326 => ?_)
    have ey_326 : y_326 = (2 : Int32) := ey_326.trans (show (fk (nI j).toNatClampNeg) = 2 from (by rw [nI_clamp (show j < 2 ^ 31 by omega)]; exact hk9))
    subst ey_326
    refine lv_iconst (v := 1) hx hb d_Mo_makes_6 (by decide) ?_
    refine lv_icmp_gt (tgt := 14) hx hb d_Mo_makes_7 (by decide) (fun _ => ?_) (fun c9 => by first | exact absurd c9 (by decide) | exact absurd (by decide) c9)
    refine lv_iconst (v := 0) hx hb d_Mo_makes_14 (by decide) ?_
    refine lv_istore (lv' := [(4, .int 0), (0, .ref mo), (1, .int (sb_b v)), (2, .int (nI j)), (3, .int (by_z bp))]) hx hb d_Mo_makes_15 hl (by decide) rfl (fun ls hl => ?_)
    refine lv_aload_n hx hb d_Mo_makes_17 rfl (lv_at hl 1 rfl) ?_
    refine va_get (D := (dC, dI)) (ci := 8) (v := .ref rk) (C := "TextForgeModel") (T := TX8) (N := 19) hx hb hg iwX8 hown hK hP 0 rfl rfl 4 (by decide) (hg _ kw_730) (fun _ h9 => h9) rfl d_Mo_makes_18 ?_
    refine lv_iload_n hx hb d_Mo_makes_21 rfl (lv_at hl 3 rfl) ?_
    refine va_iald hx hb hK hP 2 1 rfl rfl (vp_in_nI hj (by decide)) d_Mo_makes_22 ?_
    refine lv_topi (fun y_327 ey_327 => ?_)
    have ey_327 : y_327 = (2 : Int32) := ey_327.trans (show (fk (nI j).toNatClampNeg) = 2 from (by rw [nI_clamp (show j < 2 ^ 31 by omega)]; exact hk9))
    subst ey_327
    refine lv_iconst (v := 3) hx hb d_Mo_makes_23 (by decide) ?_
    refine lv_icmp_ne (tgt := 31) hx hb d_Mo_makes_24 (by decide) (fun _ => ?_) (fun c9 => by first | exact absurd c9 (by decide) | exact absurd (by decide) c9)
    refine lv_iconst (v := 0) hx hb d_Mo_makes_31 (by decide) ?_
    refine lv_istore (lv' := [(5, .int 0), (4, .int 0), (0, .ref mo), (1, .int (sb_b v)), (2, .int (nI j)), (3, .int (by_z bp))]) hx hb d_Mo_makes_32 hl (by decide) rfl (fun ls hl => ?_)
    refine lv_iload hx hb d_Mo_makes_34 (lv_at hl 1 rfl) ?_
    refine lv_if_eq (tgt := 82) hx hb d_Mo_makes_36 (by decide) (fun _ => ?_) (fun c9 => by first | exact absurd c9 rfl | exact absurd rfl c9)
    refine W.ldc (v := 65533) hx hb hown (hg _ kw_833) rfl d_Mo_makes_82 ?_
    refine W.eq (g2 := F0 m 84 ls [.int 65533]) rfl ?_
    refine lv_istore (lv' := [(6, .int 65533), (5, .int 0), (4, .int 0), (0, .ref mo), (1, .int (sb_b v)), (2, .int (nI j)), (3, .int (by_z bp))]) hx hb d_Mo_makes_84 hl (by decide) rfl (fun ls hl => ?_)
    refine lv_iload hx hb d_Mo_makes_86 (lv_at hl 2 rfl) ?_
    refine lv_if_eq (tgt := 148) hx hb d_Mo_makes_88 (by decide) (fun _ => ?_) (fun c9 => by first | exact absurd c9 rfl | exact absurd rfl c9)
    refine lv_iload hx hb d_Mo_makes_148 (lv_at hl 1 rfl) ?_
    refine lv_if_eq (tgt := 220) hx hb d_Mo_makes_150 (by decide) (fun _ => ?_) (fun c9 => by first | exact absurd c9 rfl | exact absurd rfl c9)
    refine lv_iload hx hb d_Mo_makes_220 (lv_at hl 2 rfl) ?_
    refine lv_if_eq (tgt := 240) hx hb d_Mo_makes_222 (by decide) (fun _ => ?_) (fun c9 => by first | exact absurd c9 rfl | exact absurd rfl c9)
    refine lv_iload hx hb d_Mo_makes_240 (lv_at hl 2 rfl) ?_
    refine lv_if_eq (tgt := 274) hx hb d_Mo_makes_242 (by decide) (fun _ => ?_) (fun c9 => by first | exact absurd c9 rfl | exact absurd rfl c9)
    refine lv_iload hx hb d_Mo_makes_274 (lv_at hl 1 rfl) ?_
    refine lv_if_eq (tgt := 293) hx hb d_Mo_makes_276 (by decide) (fun _ => ?_) (fun c9 => by first | exact absurd c9 rfl | exact absurd rfl c9)
    refine lv_iload hx hb d_Mo_makes_293 (lv_at hl 1 rfl) ?_
    refine lv_if_eq (tgt := 326) hx hb d_Mo_makes_295 (by decide) (fun _ => ?_) (fun c9 => by first | exact absurd c9 rfl | exact absurd rfl c9)
    refine lv_iload_n hx hb d_Mo_makes_326 rfl (lv_at hl 4 rfl) ?_
    refine lv_bipush (v := 116) hx hb d_Mo_makes_327 (by decide) ?_
    refine lv_icmp_ne (tgt := 342) hx hb d_Mo_makes_329 (by decide) (fun c_329 => ?_) (fun c_329 => ?_)
    · skip
      have f_329 : v ≠ 116 := sb_e2 (k := 116) hv (by decide) c_329
      refine lv_iload_n hx hb d_Mo_makes_342 rfl (lv_at hl 4 rfl) ?_
      refine lv_bipush (v := 118) hx hb d_Mo_makes_343 (by decide) ?_
      refine lv_icmp_ne (tgt := 356) hx hb d_Mo_makes_345 (by decide) (fun c_345 => ?_) (fun c_345 => ?_)
      · skip
        have f_345 : v ≠ 118 := sb_e2 (k := 118) hv (by decide) c_345
        refine lv_iconst (v := 0) hx hb d_Mo_makes_356 (by decide) ?_
        have hmo : (mk_o v k x B bp) = none := (mk_w0 (Or.inl hk2) f_345 (fun z => f_329 z.1))
        have hP9 := hP.sub (ws' := [(mo, .inr (8, [.int th, .int fd, .ref rt, .int mn, .ref rk, .ref rv, .ref rw, .ref ro, .int md, .ref rr, .int (nI ([] : List Nat).length), .ref ra, .long pz, .int kc, .ref rc, .ref rl, .ref rb, .int la, .int ca])), (ra, .inl (cB, 16400, .inl fa)), (rk, .inl (cI, 16, .inl fk)), (rv, .inl (cL, 16, .inr (.inl fv))), (rw, .inl (cI, 16, .inl fw)), (ro, .inl (cB, 65536, .inl fo))]) [0, 1, 2, 3, 4, 5] rfl
        have hD9 := hD.sub (ws' := [(mo, .inr (8, [.int th, .int fd, .ref rt, .int mn, .ref rk, .ref rv, .ref rw, .ref ro, .int md, .ref rr, .int (nI ([] : List Nat).length), .ref ra, .long pz, .int kc, .ref rc, .ref rl, .ref rb, .int la, .int ca])), (ra, .inl (cB, 16400, .inl fa)), (rk, .inl (cI, 16, .inl fk)), (rv, .inl (cL, 16, .inr (.inl fv))), (rw, .inl (cI, 16, .inl fw)), (ro, .inl (cB, 65536, .inl fo))]) [0, 1, 2, 3, 4, 5] (by decide) rfl
        have hK9 := hK.sub (tys' := [(cB, .byte), (cI, .int), (cL, .long)]) [0, 1, 2] rfl
        rw [show nI ([] : List Nat).length = nI ((mk_o v k x B bp).getD []).length by rw [hmo]; rfl] at hP9 hD9
        exact zz_zret hx hb hr hlocks d_Mo_makes_357 (by decide) hS (by first | exact Nat.le_refl _ | decide | omega | (dsimp only; omega)) (by first | exact Nat.le_refl _ | decide | omega | (dsimp only; omega)) (fa, la, ca) ⟨by rw [hmo]; rfl, by rw [hmo]; exact by_nil _⟩ hP9 hK9 hD9
      · skip
        have f_345 : v = 118 := sb_e1 (k := 118) hv (by decide) c_345
        refine lv_aload_n hx hb d_Mo_makes_348 rfl (lv_at hl 3 rfl) ?_
        refine lv_iload_n hx hb d_Mo_makes_349 rfl (lv_at hl 5 rfl) ?_
        have hPc := hP.sub (ws' := [(mo, .inr (8, [.int th, .int fd, .ref rt, .int mn, .ref rk, .ref rv, .ref rw, .ref ro, .int md, .ref rr, .int (nI ([] : List Nat).length), .ref ra, .long pz, .int kc, .ref rc, .ref rl, .ref rb, .int la, .int ca])), (ra, .inl (cB, 16400, .inl fa)), (rk, .inl (cI, 16, .inl fk)), (rv, .inl (cL, 16, .inr (.inl fv))), (rw, .inl (cI, 16, .inl fw)), (ro, .inl (cB, 65536, .inl fo))]) [0, 1, 2, 3, 4, 5] rfl
        have hKc := hK.sub (tys' := [(cB, .byte), (cI, .int), (cL, .long)]) [0, 1, 2] rfl
        have hDc := hD.sub (ws' := [(mo, .inr (8, [.int th, .int fd, .ref rt, .int mn, .ref rk, .ref rv, .ref rw, .ref ro, .int md, .ref rr, .int (nI ([] : List Nat).length), .ref ra, .long pz, .int kc, .ref rc, .ref rl, .ref rb, .int la, .int ca])), (ra, .inl (cB, 16400, .inl fa)), (rk, .inl (cI, 16, .inl fk)), (rv, .inl (cL, 16, .inr (.inl fv))), (rw, .inl (cI, 16, .inl fw)), (ro, .inl (cB, 65536, .inl fo))]) [0, 1, 2, 3, 4, 5] (by decide) rfl
        have hFc := va_free (wc := [(mo, .inr (8, [.int th, .int fd, .ref rt, .int mn, .ref rk, .ref rv, .ref rw, .ref ro, .int md, .ref rr, .int (nI ([] : List Nat).length), .ref ra, .long pz, .int kc, .ref rc, .ref rl, .ref rb, .int la, .int ca])), (ra, .inl (cB, 16400, .inl fa)), (rk, .inl (cI, 16, .inl fk)), (rv, .inl (cL, 16, .inr (.inl fv))), (rw, .inl (cI, 16, .inl fw)), (ro, .inl (cB, 65536, .inl fo))]) hD hS hA [0, 1, 2, 3, 4, 5] rfl
        refine zz_callv (va_runV (As := [.int (nI j)]) (rest := []) ⟨hx, hb, hml, hown, hg⟩ (c_Mo_plain l dC dI ad mo rt rk rv rw ro rr ra rc rl rb th fd mn md (nI ([] : List Nat).length) pz kc la ca cB fa ([] : List Nat) cI cL fk fv fw fo j k x B (by_nil _) (by (try simp only [List.length_append, List.length_cons, List.length_nil]); omega) hj hok9 hmg s.heap.size) (cwV 1 hg (gi_V kw_908 kw_910 sw_25 kw_9 kw_911) rfl rfl rfl (by decide +kernel) ⟨Nat.le_of_ble_eq_true rfl, Nat.le_of_ble_eq_true rfl⟩) (zy_preV hX hS hFc hPc hKc hDc _ (q0 := 0) (ci := 8) rfl rfl) rfl rfl hl.1 rfl (lv_room (Nat.le_of_ble_eq_true rfl)) d_Mo_makes_350 ⟨Nat.le_of_ble_eq_true rfl, Nat.le_of_ble_eq_true rfl⟩) hS hFc (fun u H1 k9 p9 d9 => va_join (wr := []) hP hD [0, 1, 2, 3, 4, 5] [] rfl rfl (by decide) (by decide) k9 hFc p9 d9) (fun u H locs hw hP hD hK1 hS => ?_)
        obtain ⟨u_328, rfl⟩ : ∃ z, z = u := ⟨_, rfl⟩
        try dsimp only at hw
        have hP : va_P (dC, dI) vwCl [(mo, .inr (8, [.int th, .int fd, .ref rt, .int mn, .ref rk, .ref rv, .ref rw, .ref ro, .int md, .ref rr, .int (nI (([] : List Nat) ++ (mo_p k x B)).length), .ref ra, .long pz, .int kc, .ref rc, .ref rl, .ref rb, .int la, .int ca])), (ra, .inl (cB, 16400, .inl u_328)), (rk, .inl (cI, 16, .inl fk)), (rv, .inl (cL, 16, .inr (.inl fv))), (rw, .inl (cI, 16, .inl fw)), (ro, .inl (cB, 65536, .inl fo))] H := hP
        have hD : va_D A [(mo, .inr (8, [.int th, .int fd, .ref rt, .int mn, .ref rk, .ref rv, .ref rw, .ref ro, .int md, .ref rr, .int (nI (([] : List Nat) ++ (mo_p k x B)).length), .ref ra, .long pz, .int kc, .ref rc, .ref rl, .ref rb, .int la, .int ca])), (ra, .inl (cB, 16400, .inl u_328)), (rk, .inl (cI, 16, .inl fk)), (rv, .inl (cL, 16, .inr (.inl fv))), (rw, .inl (cI, 16, .inl fw)), (ro, .inl (cB, 65536, .inl fo))] := hD
        have hL_330 := hw
        refine lv_goto (tgt := 358) hx hb d_Mo_makes_353 (by decide) ?_
        refine lv_iconst (v := 1) hx hb d_Mo_makes_358 (by decide) ?_
        have hmo : (mk_o v k x B bp) = some (([] : List Nat) ++ (mo_p k x B)) := (mk_np hok9 f_345)
        have hP9 := hP.sub (ws' := [(mo, .inr (8, [.int th, .int fd, .ref rt, .int mn, .ref rk, .ref rv, .ref rw, .ref ro, .int md, .ref rr, .int (nI (([] : List Nat) ++ (mo_p k x B)).length), .ref ra, .long pz, .int kc, .ref rc, .ref rl, .ref rb, .int la, .int ca])), (ra, .inl (cB, 16400, .inl u_328)), (rk, .inl (cI, 16, .inl fk)), (rv, .inl (cL, 16, .inr (.inl fv))), (rw, .inl (cI, 16, .inl fw)), (ro, .inl (cB, 65536, .inl fo))]) [0, 1, 2, 3, 4, 5] rfl
        have hD9 := hD.sub (ws' := [(mo, .inr (8, [.int th, .int fd, .ref rt, .int mn, .ref rk, .ref rv, .ref rw, .ref ro, .int md, .ref rr, .int (nI (([] : List Nat) ++ (mo_p k x B)).length), .ref ra, .long pz, .int kc, .ref rc, .ref rl, .ref rb, .int la, .int ca])), (ra, .inl (cB, 16400, .inl u_328)), (rk, .inl (cI, 16, .inl fk)), (rv, .inl (cL, 16, .inr (.inl fv))), (rw, .inl (cI, 16, .inl fw)), (ro, .inl (cB, 65536, .inl fo))]) [0, 1, 2, 3, 4, 5] (by decide) rfl
        have hK9 := hK.sub (tys' := [(cB, .byte), (cI, .int), (cL, .long)]) [0, 1, 2] rfl
        rw [show nI (([] : List Nat) ++ (mo_p k x B)).length = nI ((mk_o v k x B bp).getD []).length by rw [hmo]; rfl] at hP9 hD9
        exact zz_zret hx hb hr hlocks d_Mo_makes_359 (by decide) hS (by first | exact Nat.le_refl _ | decide | omega | (dsimp only; omega)) (by first | exact Nat.le_refl _ | decide | omega | (dsimp only; omega)) (u_328, la, ca) ⟨by rw [hmo]; rfl, by rw [hmo]; exact hL_330⟩ hP9 hK9 hD9
    · skip
      have f_329 : v = 116 := sb_e1 (k := 116) hv (by decide) c_329
      refine lv_aload_n hx hb d_Mo_makes_332 rfl (lv_at hl 3 rfl) ?_
      refine va_get (D := (dC, dI)) (ci := 8) (v := .ref rk) (C := "TextForgeModel") (T := TX8) (N := 19) hx hb hg iwX8 hown hK hP 0 rfl rfl 4 (by decide) (hg _ kw_730) (fun _ h9 => h9) rfl d_Mo_makes_333 ?_
      refine lv_iload_n hx hb d_Mo_makes_336 rfl (lv_at hl 5 rfl) ?_
      refine va_iald hx hb hK hP 2 1 rfl rfl (vp_in_nI hj (by decide)) d_Mo_makes_337 ?_
      refine lv_topi (fun y_331 ey_331 => ?_)
      have ey_331 : y_331 = (2 : Int32) := ey_331.trans (show (fk (nI j).toNatClampNeg) = 2 from (by rw [nI_clamp (show j < 2 ^ 31 by omega)]; exact hk9))
      subst ey_331
      refine lv_iconst (v := 2) hx hb d_Mo_makes_338 (by decide) ?_
      refine lv_icmp_eq (tgt := 348) hx hb d_Mo_makes_339 (by decide) (fun _ => ?_) (fun c9 => by first | exact absurd c9 rfl | exact absurd rfl c9)
      refine lv_aload_n hx hb d_Mo_makes_348 rfl (lv_at hl 3 rfl) ?_
      refine lv_iload_n hx hb d_Mo_makes_349 rfl (lv_at hl 5 rfl) ?_
      have hPc := hP.sub (ws' := [(mo, .inr (8, [.int th, .int fd, .ref rt, .int mn, .ref rk, .ref rv, .ref rw, .ref ro, .int md, .ref rr, .int (nI ([] : List Nat).length), .ref ra, .long pz, .int kc, .ref rc, .ref rl, .ref rb, .int la, .int ca])), (ra, .inl (cB, 16400, .inl fa)), (rk, .inl (cI, 16, .inl fk)), (rv, .inl (cL, 16, .inr (.inl fv))), (rw, .inl (cI, 16, .inl fw)), (ro, .inl (cB, 65536, .inl fo))]) [0, 1, 2, 3, 4, 5] rfl
      have hKc := hK.sub (tys' := [(cB, .byte), (cI, .int), (cL, .long)]) [0, 1, 2] rfl
      have hDc := hD.sub (ws' := [(mo, .inr (8, [.int th, .int fd, .ref rt, .int mn, .ref rk, .ref rv, .ref rw, .ref ro, .int md, .ref rr, .int (nI ([] : List Nat).length), .ref ra, .long pz, .int kc, .ref rc, .ref rl, .ref rb, .int la, .int ca])), (ra, .inl (cB, 16400, .inl fa)), (rk, .inl (cI, 16, .inl fk)), (rv, .inl (cL, 16, .inr (.inl fv))), (rw, .inl (cI, 16, .inl fw)), (ro, .inl (cB, 65536, .inl fo))]) [0, 1, 2, 3, 4, 5] (by decide) rfl
      have hFc := va_free (wc := [(mo, .inr (8, [.int th, .int fd, .ref rt, .int mn, .ref rk, .ref rv, .ref rw, .ref ro, .int md, .ref rr, .int (nI ([] : List Nat).length), .ref ra, .long pz, .int kc, .ref rc, .ref rl, .ref rb, .int la, .int ca])), (ra, .inl (cB, 16400, .inl fa)), (rk, .inl (cI, 16, .inl fk)), (rv, .inl (cL, 16, .inr (.inl fv))), (rw, .inl (cI, 16, .inl fw)), (ro, .inl (cB, 65536, .inl fo))]) hD hS hA [0, 1, 2, 3, 4, 5] rfl
      refine zz_callv (va_runV (As := [.int (nI j)]) (rest := []) ⟨hx, hb, hml, hown, hg⟩ (c_Mo_plain l dC dI ad mo rt rk rv rw ro rr ra rc rl rb th fd mn md (nI ([] : List Nat).length) pz kc la ca cB fa ([] : List Nat) cI cL fk fv fw fo j k x B (by_nil _) (by (try simp only [List.length_append, List.length_cons, List.length_nil]); omega) hj hok9 hmg s.heap.size) (cwV 1 hg (gi_V kw_908 kw_910 sw_25 kw_9 kw_911) rfl rfl rfl (by decide +kernel) ⟨Nat.le_of_ble_eq_true rfl, Nat.le_of_ble_eq_true rfl⟩) (zy_preV hX hS hFc hPc hKc hDc _ (q0 := 0) (ci := 8) rfl rfl) rfl rfl hl.1 rfl (lv_room (Nat.le_of_ble_eq_true rfl)) d_Mo_makes_350 ⟨Nat.le_of_ble_eq_true rfl, Nat.le_of_ble_eq_true rfl⟩) hS hFc (fun u H1 k9 p9 d9 => va_join (wr := []) hP hD [0, 1, 2, 3, 4, 5] [] rfl rfl (by decide) (by decide) k9 hFc p9 d9) (fun u H locs hw hP hD hK1 hS => ?_)
      obtain ⟨u_332, rfl⟩ : ∃ z, z = u := ⟨_, rfl⟩
      try dsimp only at hw
      have hP : va_P (dC, dI) vwCl [(mo, .inr (8, [.int th, .int fd, .ref rt, .int mn, .ref rk, .ref rv, .ref rw, .ref ro, .int md, .ref rr, .int (nI (([] : List Nat) ++ (mo_p k x B)).length), .ref ra, .long pz, .int kc, .ref rc, .ref rl, .ref rb, .int la, .int ca])), (ra, .inl (cB, 16400, .inl u_332)), (rk, .inl (cI, 16, .inl fk)), (rv, .inl (cL, 16, .inr (.inl fv))), (rw, .inl (cI, 16, .inl fw)), (ro, .inl (cB, 65536, .inl fo))] H := hP
      have hD : va_D A [(mo, .inr (8, [.int th, .int fd, .ref rt, .int mn, .ref rk, .ref rv, .ref rw, .ref ro, .int md, .ref rr, .int (nI (([] : List Nat) ++ (mo_p k x B)).length), .ref ra, .long pz, .int kc, .ref rc, .ref rl, .ref rb, .int la, .int ca])), (ra, .inl (cB, 16400, .inl u_332)), (rk, .inl (cI, 16, .inl fk)), (rv, .inl (cL, 16, .inr (.inl fv))), (rw, .inl (cI, 16, .inl fw)), (ro, .inl (cB, 65536, .inl fo))] := hD
      have hL_334 := hw
      refine lv_goto (tgt := 358) hx hb d_Mo_makes_353 (by decide) ?_
      refine lv_iconst (v := 1) hx hb d_Mo_makes_358 (by decide) ?_
      have hmo : (mk_o v k x B bp) = some (([] : List Nat) ++ (mo_p k x B)) := (mk_tp hk2 f_329)
      have hP9 := hP.sub (ws' := [(mo, .inr (8, [.int th, .int fd, .ref rt, .int mn, .ref rk, .ref rv, .ref rw, .ref ro, .int md, .ref rr, .int (nI (([] : List Nat) ++ (mo_p k x B)).length), .ref ra, .long pz, .int kc, .ref rc, .ref rl, .ref rb, .int la, .int ca])), (ra, .inl (cB, 16400, .inl u_332)), (rk, .inl (cI, 16, .inl fk)), (rv, .inl (cL, 16, .inr (.inl fv))), (rw, .inl (cI, 16, .inl fw)), (ro, .inl (cB, 65536, .inl fo))]) [0, 1, 2, 3, 4, 5] rfl
      have hD9 := hD.sub (ws' := [(mo, .inr (8, [.int th, .int fd, .ref rt, .int mn, .ref rk, .ref rv, .ref rw, .ref ro, .int md, .ref rr, .int (nI (([] : List Nat) ++ (mo_p k x B)).length), .ref ra, .long pz, .int kc, .ref rc, .ref rl, .ref rb, .int la, .int ca])), (ra, .inl (cB, 16400, .inl u_332)), (rk, .inl (cI, 16, .inl fk)), (rv, .inl (cL, 16, .inr (.inl fv))), (rw, .inl (cI, 16, .inl fw)), (ro, .inl (cB, 65536, .inl fo))]) [0, 1, 2, 3, 4, 5] (by decide) rfl
      have hK9 := hK.sub (tys' := [(cB, .byte), (cI, .int), (cL, .long)]) [0, 1, 2] rfl
      rw [show nI (([] : List Nat) ++ (mo_p k x B)).length = nI ((mk_o v k x B bp).getD []).length by rw [hmo]; rfl] at hP9 hD9
      exact zz_zret hx hb hr hlocks d_Mo_makes_359 (by decide) hS (by first | exact Nat.le_refl _ | decide | omega | (dsimp only; omega)) (by first | exact Nat.le_refl _ | decide | omega | (dsimp only; omega)) (u_332, la, ca) ⟨by rw [hmo]; rfl, by rw [hmo]; exact hL_334⟩ hP9 hK9 hD9
  · skip
    rcases Nat.eq_zero_or_pos i1 with hi0 | hi0
    · skip
      have hk9 : fk j = 4 := by rw [hmg.1, hk4, hxx, hi0]; exact mo_t0
      refine lv_aload_n hx hb d_Mo_makes_0 rfl (lv_at hl 0 rfl) ?_
      refine va_get (D := (dC, dI)) (ci := 8) (v := .ref rk) (C := "TextForgeModel") (T := TX8) (N := 19) hx hb hg iwX8 hown hK hP 0 rfl rfl 4 (by decide) (hg _ kw_730) (fun _ h9 => h9) rfl d_Mo_makes_1 ?_
      refine lv_iload_n hx hb d_Mo_makes_4 rfl (lv_at hl 2 rfl) ?_
      refine va_iald hx hb hK hP 2 1 rfl rfl (vp_in_nI hj (by decide)) d_Mo_makes_5 ?_
      refine lv_topi (fun y_335 ey_335 => ?_)
      have ey_335 : y_335 = (4 : Int32) := ey_335.trans (show (fk (nI j).toNatClampNeg) = 4 from (by rw [nI_clamp (show j < 2 ^ 31 by omega)]; exact hk9))
      subst ey_335
      refine lv_iconst (v := 1) hx hb d_Mo_makes_6 (by decide) ?_
      refine lv_icmp_gt (tgt := 14) hx hb d_Mo_makes_7 (by decide) (fun _ => ?_) (fun c9 => by first | exact absurd c9 (by decide) | exact absurd (by decide) c9)
      refine lv_iconst (v := 0) hx hb d_Mo_makes_14 (by decide) ?_
      refine lv_istore (lv' := [(4, .int 0), (0, .ref mo), (1, .int (sb_b v)), (2, .int (nI j)), (3, .int (by_z bp))]) hx hb d_Mo_makes_15 hl (by decide) rfl (fun ls hl => ?_)
      refine lv_aload_n hx hb d_Mo_makes_17 rfl (lv_at hl 1 rfl) ?_
      refine va_get (D := (dC, dI)) (ci := 8) (v := .ref rk) (C := "TextForgeModel") (T := TX8) (N := 19) hx hb hg iwX8 hown hK hP 0 rfl rfl 4 (by decide) (hg _ kw_730) (fun _ h9 => h9) rfl d_Mo_makes_18 ?_
      refine lv_iload_n hx hb d_Mo_makes_21 rfl (lv_at hl 3 rfl) ?_
      refine va_iald hx hb hK hP 2 1 rfl rfl (vp_in_nI hj (by decide)) d_Mo_makes_22 ?_
      refine lv_topi (fun y_336 ey_336 => ?_)
      have ey_336 : y_336 = (4 : Int32) := ey_336.trans (show (fk (nI j).toNatClampNeg) = 4 from (by rw [nI_clamp (show j < 2 ^ 31 by omega)]; exact hk9))
      subst ey_336
      refine lv_iconst (v := 3) hx hb d_Mo_makes_23 (by decide) ?_
      refine lv_icmp_ne (tgt := 31) hx hb d_Mo_makes_24 (by decide) (fun _ => ?_) (fun c9 => by first | exact absurd c9 (by decide) | exact absurd (by decide) c9)
      refine lv_iconst (v := 0) hx hb d_Mo_makes_31 (by decide) ?_
      refine lv_istore (lv' := [(5, .int 0), (4, .int 0), (0, .ref mo), (1, .int (sb_b v)), (2, .int (nI j)), (3, .int (by_z bp))]) hx hb d_Mo_makes_32 hl (by decide) rfl (fun ls hl => ?_)
      refine lv_iload hx hb d_Mo_makes_34 (lv_at hl 1 rfl) ?_
      refine lv_if_eq (tgt := 82) hx hb d_Mo_makes_36 (by decide) (fun _ => ?_) (fun c9 => by first | exact absurd c9 rfl | exact absurd rfl c9)
      refine W.ldc (v := 65533) hx hb hown (hg _ kw_833) rfl d_Mo_makes_82 ?_
      refine W.eq (g2 := F0 m 84 ls [.int 65533]) rfl ?_
      refine lv_istore (lv' := [(6, .int 65533), (5, .int 0), (4, .int 0), (0, .ref mo), (1, .int (sb_b v)), (2, .int (nI j)), (3, .int (by_z bp))]) hx hb d_Mo_makes_84 hl (by decide) rfl (fun ls hl => ?_)
      refine lv_iload hx hb d_Mo_makes_86 (lv_at hl 2 rfl) ?_
      refine lv_if_eq (tgt := 148) hx hb d_Mo_makes_88 (by decide) (fun _ => ?_) (fun c9 => by first | exact absurd c9 rfl | exact absurd rfl c9)
      refine lv_iload hx hb d_Mo_makes_148 (lv_at hl 1 rfl) ?_
      refine lv_if_eq (tgt := 220) hx hb d_Mo_makes_150 (by decide) (fun _ => ?_) (fun c9 => by first | exact absurd c9 rfl | exact absurd rfl c9)
      refine lv_iload hx hb d_Mo_makes_220 (lv_at hl 2 rfl) ?_
      refine lv_if_eq (tgt := 240) hx hb d_Mo_makes_222 (by decide) (fun _ => ?_) (fun c9 => by first | exact absurd c9 rfl | exact absurd rfl c9)
      refine lv_iload hx hb d_Mo_makes_240 (lv_at hl 2 rfl) ?_
      refine lv_if_eq (tgt := 274) hx hb d_Mo_makes_242 (by decide) (fun _ => ?_) (fun c9 => by first | exact absurd c9 rfl | exact absurd rfl c9)
      refine lv_iload hx hb d_Mo_makes_274 (lv_at hl 1 rfl) ?_
      refine lv_if_eq (tgt := 293) hx hb d_Mo_makes_276 (by decide) (fun _ => ?_) (fun c9 => by first | exact absurd c9 rfl | exact absurd rfl c9)
      refine lv_iload hx hb d_Mo_makes_293 (lv_at hl 1 rfl) ?_
      refine lv_if_eq (tgt := 326) hx hb d_Mo_makes_295 (by decide) (fun _ => ?_) (fun c9 => by first | exact absurd c9 rfl | exact absurd rfl c9)
      refine lv_iload_n hx hb d_Mo_makes_326 rfl (lv_at hl 4 rfl) ?_
      refine lv_bipush (v := 116) hx hb d_Mo_makes_327 (by decide) ?_
      refine lv_icmp_ne (tgt := 342) hx hb d_Mo_makes_329 (by decide) (fun c_329 => ?_) (fun c_329 => ?_)
      · skip
        have f_329 : v ≠ 116 := sb_e2 (k := 116) hv (by decide) c_329
        refine lv_iload_n hx hb d_Mo_makes_342 rfl (lv_at hl 4 rfl) ?_
        refine lv_bipush (v := 118) hx hb d_Mo_makes_343 (by decide) ?_
        refine lv_icmp_ne (tgt := 356) hx hb d_Mo_makes_345 (by decide) (fun c_345 => ?_) (fun c_345 => ?_)
        · skip
          have f_345 : v ≠ 118 := sb_e2 (k := 118) hv (by decide) c_345
          refine lv_iconst (v := 0) hx hb d_Mo_makes_356 (by decide) ?_
          have hmo : (mk_o v k x B bp) = none := (mk_w0 (Or.inr hk4) f_345 (fun z => by have := z.2; omega))
          have hP9 := hP.sub (ws' := [(mo, .inr (8, [.int th, .int fd, .ref rt, .int mn, .ref rk, .ref rv, .ref rw, .ref ro, .int md, .ref rr, .int (nI ([] : List Nat).length), .ref ra, .long pz, .int kc, .ref rc, .ref rl, .ref rb, .int la, .int ca])), (ra, .inl (cB, 16400, .inl fa)), (rk, .inl (cI, 16, .inl fk)), (rv, .inl (cL, 16, .inr (.inl fv))), (rw, .inl (cI, 16, .inl fw)), (ro, .inl (cB, 65536, .inl fo))]) [0, 1, 2, 3, 4, 5] rfl
          have hD9 := hD.sub (ws' := [(mo, .inr (8, [.int th, .int fd, .ref rt, .int mn, .ref rk, .ref rv, .ref rw, .ref ro, .int md, .ref rr, .int (nI ([] : List Nat).length), .ref ra, .long pz, .int kc, .ref rc, .ref rl, .ref rb, .int la, .int ca])), (ra, .inl (cB, 16400, .inl fa)), (rk, .inl (cI, 16, .inl fk)), (rv, .inl (cL, 16, .inr (.inl fv))), (rw, .inl (cI, 16, .inl fw)), (ro, .inl (cB, 65536, .inl fo))]) [0, 1, 2, 3, 4, 5] (by decide) rfl
          have hK9 := hK.sub (tys' := [(cB, .byte), (cI, .int), (cL, .long)]) [0, 1, 2] rfl
          rw [show nI ([] : List Nat).length = nI ((mk_o v k x B bp).getD []).length by rw [hmo]; rfl] at hP9 hD9
          exact zz_zret hx hb hr hlocks d_Mo_makes_357 (by decide) hS (by first | exact Nat.le_refl _ | decide | omega | (dsimp only; omega)) (by first | exact Nat.le_refl _ | decide | omega | (dsimp only; omega)) (fa, la, ca) ⟨by rw [hmo]; rfl, by rw [hmo]; exact by_nil _⟩ hP9 hK9 hD9
        · skip
          have f_345 : v = 118 := sb_e1 (k := 118) hv (by decide) c_345
          refine lv_aload_n hx hb d_Mo_makes_348 rfl (lv_at hl 3 rfl) ?_
          refine lv_iload_n hx hb d_Mo_makes_349 rfl (lv_at hl 5 rfl) ?_
          have hPc := hP.sub (ws' := [(mo, .inr (8, [.int th, .int fd, .ref rt, .int mn, .ref rk, .ref rv, .ref rw, .ref ro, .int md, .ref rr, .int (nI ([] : List Nat).length), .ref ra, .long pz, .int kc, .ref rc, .ref rl, .ref rb, .int la, .int ca])), (ra, .inl (cB, 16400, .inl fa)), (rk, .inl (cI, 16, .inl fk)), (rv, .inl (cL, 16, .inr (.inl fv))), (rw, .inl (cI, 16, .inl fw)), (ro, .inl (cB, 65536, .inl fo))]) [0, 1, 2, 3, 4, 5] rfl
          have hKc := hK.sub (tys' := [(cB, .byte), (cI, .int), (cL, .long)]) [0, 1, 2] rfl
          have hDc := hD.sub (ws' := [(mo, .inr (8, [.int th, .int fd, .ref rt, .int mn, .ref rk, .ref rv, .ref rw, .ref ro, .int md, .ref rr, .int (nI ([] : List Nat).length), .ref ra, .long pz, .int kc, .ref rc, .ref rl, .ref rb, .int la, .int ca])), (ra, .inl (cB, 16400, .inl fa)), (rk, .inl (cI, 16, .inl fk)), (rv, .inl (cL, 16, .inr (.inl fv))), (rw, .inl (cI, 16, .inl fw)), (ro, .inl (cB, 65536, .inl fo))]) [0, 1, 2, 3, 4, 5] (by decide) rfl
          have hFc := va_free (wc := [(mo, .inr (8, [.int th, .int fd, .ref rt, .int mn, .ref rk, .ref rv, .ref rw, .ref ro, .int md, .ref rr, .int (nI ([] : List Nat).length), .ref ra, .long pz, .int kc, .ref rc, .ref rl, .ref rb, .int la, .int ca])), (ra, .inl (cB, 16400, .inl fa)), (rk, .inl (cI, 16, .inl fk)), (rv, .inl (cL, 16, .inr (.inl fv))), (rw, .inl (cI, 16, .inl fw)), (ro, .inl (cB, 65536, .inl fo))]) hD hS hA [0, 1, 2, 3, 4, 5] rfl
          refine zz_callv (va_runV (As := [.int (nI j)]) (rest := []) ⟨hx, hb, hml, hown, hg⟩ (c_Mo_plain l dC dI ad mo rt rk rv rw ro rr ra rc rl rb th fd mn md (nI ([] : List Nat).length) pz kc la ca cB fa ([] : List Nat) cI cL fk fv fw fo j k x B (by_nil _) (by (try simp only [List.length_append, List.length_cons, List.length_nil]); omega) hj hok9 hmg s.heap.size) (cwV 1 hg (gi_V kw_908 kw_910 sw_25 kw_9 kw_911) rfl rfl rfl (by decide +kernel) ⟨Nat.le_of_ble_eq_true rfl, Nat.le_of_ble_eq_true rfl⟩) (zy_preV hX hS hFc hPc hKc hDc _ (q0 := 0) (ci := 8) rfl rfl) rfl rfl hl.1 rfl (lv_room (Nat.le_of_ble_eq_true rfl)) d_Mo_makes_350 ⟨Nat.le_of_ble_eq_true rfl, Nat.le_of_ble_eq_true rfl⟩) hS hFc (fun u H1 k9 p9 d9 => va_join (wr := []) hP hD [0, 1, 2, 3, 4, 5] [] rfl rfl (by decide) (by decide) k9 hFc p9 d9) (fun u H locs hw hP hD hK1 hS => ?_)
          obtain ⟨u_337, rfl⟩ : ∃ z, z = u := ⟨_, rfl⟩
          try dsimp only at hw
          have hP : va_P (dC, dI) vwCl [(mo, .inr (8, [.int th, .int fd, .ref rt, .int mn, .ref rk, .ref rv, .ref rw, .ref ro, .int md, .ref rr, .int (nI (([] : List Nat) ++ (mo_p k x B)).length), .ref ra, .long pz, .int kc, .ref rc, .ref rl, .ref rb, .int la, .int ca])), (ra, .inl (cB, 16400, .inl u_337)), (rk, .inl (cI, 16, .inl fk)), (rv, .inl (cL, 16, .inr (.inl fv))), (rw, .inl (cI, 16, .inl fw)), (ro, .inl (cB, 65536, .inl fo))] H := hP
          have hD : va_D A [(mo, .inr (8, [.int th, .int fd, .ref rt, .int mn, .ref rk, .ref rv, .ref rw, .ref ro, .int md, .ref rr, .int (nI (([] : List Nat) ++ (mo_p k x B)).length), .ref ra, .long pz, .int kc, .ref rc, .ref rl, .ref rb, .int la, .int ca])), (ra, .inl (cB, 16400, .inl u_337)), (rk, .inl (cI, 16, .inl fk)), (rv, .inl (cL, 16, .inr (.inl fv))), (rw, .inl (cI, 16, .inl fw)), (ro, .inl (cB, 65536, .inl fo))] := hD
          have hL_339 := hw
          refine lv_goto (tgt := 358) hx hb d_Mo_makes_353 (by decide) ?_
          refine lv_iconst (v := 1) hx hb d_Mo_makes_358 (by decide) ?_
          have hmo : (mk_o v k x B bp) = some (([] : List Nat) ++ (mo_p k x B)) := (mk_np hok9 f_345)
          have hP9 := hP.sub (ws' := [(mo, .inr (8, [.int th, .int fd, .ref rt, .int mn, .ref rk, .ref rv, .ref rw, .ref ro, .int md, .ref rr, .int (nI (([] : List Nat) ++ (mo_p k x B)).length), .ref ra, .long pz, .int kc, .ref rc, .ref rl, .ref rb, .int la, .int ca])), (ra, .inl (cB, 16400, .inl u_337)), (rk, .inl (cI, 16, .inl fk)), (rv, .inl (cL, 16, .inr (.inl fv))), (rw, .inl (cI, 16, .inl fw)), (ro, .inl (cB, 65536, .inl fo))]) [0, 1, 2, 3, 4, 5] rfl
          have hD9 := hD.sub (ws' := [(mo, .inr (8, [.int th, .int fd, .ref rt, .int mn, .ref rk, .ref rv, .ref rw, .ref ro, .int md, .ref rr, .int (nI (([] : List Nat) ++ (mo_p k x B)).length), .ref ra, .long pz, .int kc, .ref rc, .ref rl, .ref rb, .int la, .int ca])), (ra, .inl (cB, 16400, .inl u_337)), (rk, .inl (cI, 16, .inl fk)), (rv, .inl (cL, 16, .inr (.inl fv))), (rw, .inl (cI, 16, .inl fw)), (ro, .inl (cB, 65536, .inl fo))]) [0, 1, 2, 3, 4, 5] (by decide) rfl
          have hK9 := hK.sub (tys' := [(cB, .byte), (cI, .int), (cL, .long)]) [0, 1, 2] rfl
          rw [show nI (([] : List Nat) ++ (mo_p k x B)).length = nI ((mk_o v k x B bp).getD []).length by rw [hmo]; rfl] at hP9 hD9
          exact zz_zret hx hb hr hlocks d_Mo_makes_359 (by decide) hS (by first | exact Nat.le_refl _ | decide | omega | (dsimp only; omega)) (by first | exact Nat.le_refl _ | decide | omega | (dsimp only; omega)) (u_337, la, ca) ⟨by rw [hmo]; rfl, by rw [hmo]; exact hL_339⟩ hP9 hK9 hD9
      · skip
        have f_329 : v = 116 := sb_e1 (k := 116) hv (by decide) c_329
        refine lv_aload_n hx hb d_Mo_makes_332 rfl (lv_at hl 3 rfl) ?_
        refine va_get (D := (dC, dI)) (ci := 8) (v := .ref rk) (C := "TextForgeModel") (T := TX8) (N := 19) hx hb hg iwX8 hown hK hP 0 rfl rfl 4 (by decide) (hg _ kw_730) (fun _ h9 => h9) rfl d_Mo_makes_333 ?_
        refine lv_iload_n hx hb d_Mo_makes_336 rfl (lv_at hl 5 rfl) ?_
        refine va_iald hx hb hK hP 2 1 rfl rfl (vp_in_nI hj (by decide)) d_Mo_makes_337 ?_
        refine lv_topi (fun y_340 ey_340 => ?_)
        have ey_340 : y_340 = (4 : Int32) := ey_340.trans (show (fk (nI j).toNatClampNeg) = 4 from (by rw [nI_clamp (show j < 2 ^ 31 by omega)]; exact hk9))
        subst ey_340
        refine lv_iconst (v := 2) hx hb d_Mo_makes_338 (by decide) ?_
        refine lv_icmp_eq (tgt := 348) hx hb d_Mo_makes_339 (by decide) (fun c9 => by first | exact absurd c9 (by decide) | exact absurd (by decide) c9) (fun _ => ?_)
        refine lv_iload_n hx hb d_Mo_makes_342 rfl (lv_at hl 4 rfl) ?_
        refine lv_bipush (v := 118) hx hb d_Mo_makes_343 (by decide) ?_
        refine lv_icmp_ne (tgt := 356) hx hb d_Mo_makes_345 (by decide) (fun c_345 => ?_) (fun c_345 => ?_)
        · skip
          have f_345 : v ≠ 118 := sb_e2 (k := 118) hv (by decide) c_345
          refine lv_iconst (v := 0) hx hb d_Mo_makes_356 (by decide) ?_
          have hmo : (mk_o v k x B bp) = none := (mk_w0 (Or.inr hk4) f_345 (fun z => by have := z.2; omega))
          have hP9 := hP.sub (ws' := [(mo, .inr (8, [.int th, .int fd, .ref rt, .int mn, .ref rk, .ref rv, .ref rw, .ref ro, .int md, .ref rr, .int (nI ([] : List Nat).length), .ref ra, .long pz, .int kc, .ref rc, .ref rl, .ref rb, .int la, .int ca])), (ra, .inl (cB, 16400, .inl fa)), (rk, .inl (cI, 16, .inl fk)), (rv, .inl (cL, 16, .inr (.inl fv))), (rw, .inl (cI, 16, .inl fw)), (ro, .inl (cB, 65536, .inl fo))]) [0, 1, 2, 3, 4, 5] rfl
          have hD9 := hD.sub (ws' := [(mo, .inr (8, [.int th, .int fd, .ref rt, .int mn, .ref rk, .ref rv, .ref rw, .ref ro, .int md, .ref rr, .int (nI ([] : List Nat).length), .ref ra, .long pz, .int kc, .ref rc, .ref rl, .ref rb, .int la, .int ca])), (ra, .inl (cB, 16400, .inl fa)), (rk, .inl (cI, 16, .inl fk)), (rv, .inl (cL, 16, .inr (.inl fv))), (rw, .inl (cI, 16, .inl fw)), (ro, .inl (cB, 65536, .inl fo))]) [0, 1, 2, 3, 4, 5] (by decide) rfl
          have hK9 := hK.sub (tys' := [(cB, .byte), (cI, .int), (cL, .long)]) [0, 1, 2] rfl
          rw [show nI ([] : List Nat).length = nI ((mk_o v k x B bp).getD []).length by rw [hmo]; rfl] at hP9 hD9
          exact zz_zret hx hb hr hlocks d_Mo_makes_357 (by decide) hS (by first | exact Nat.le_refl _ | decide | omega | (dsimp only; omega)) (by first | exact Nat.le_refl _ | decide | omega | (dsimp only; omega)) (fa, la, ca) ⟨by rw [hmo]; rfl, by rw [hmo]; exact by_nil _⟩ hP9 hK9 hD9
        · skip
          have f_345 : v = 118 := sb_e1 (k := 118) hv (by decide) c_345
          refine lv_aload_n hx hb d_Mo_makes_348 rfl (lv_at hl 3 rfl) ?_
          refine lv_iload_n hx hb d_Mo_makes_349 rfl (lv_at hl 5 rfl) ?_
          have hPc := hP.sub (ws' := [(mo, .inr (8, [.int th, .int fd, .ref rt, .int mn, .ref rk, .ref rv, .ref rw, .ref ro, .int md, .ref rr, .int (nI ([] : List Nat).length), .ref ra, .long pz, .int kc, .ref rc, .ref rl, .ref rb, .int la, .int ca])), (ra, .inl (cB, 16400, .inl fa)), (rk, .inl (cI, 16, .inl fk)), (rv, .inl (cL, 16, .inr (.inl fv))), (rw, .inl (cI, 16, .inl fw)), (ro, .inl (cB, 65536, .inl fo))]) [0, 1, 2, 3, 4, 5] rfl
          have hKc := hK.sub (tys' := [(cB, .byte), (cI, .int), (cL, .long)]) [0, 1, 2] rfl
          have hDc := hD.sub (ws' := [(mo, .inr (8, [.int th, .int fd, .ref rt, .int mn, .ref rk, .ref rv, .ref rw, .ref ro, .int md, .ref rr, .int (nI ([] : List Nat).length), .ref ra, .long pz, .int kc, .ref rc, .ref rl, .ref rb, .int la, .int ca])), (ra, .inl (cB, 16400, .inl fa)), (rk, .inl (cI, 16, .inl fk)), (rv, .inl (cL, 16, .inr (.inl fv))), (rw, .inl (cI, 16, .inl fw)), (ro, .inl (cB, 65536, .inl fo))]) [0, 1, 2, 3, 4, 5] (by decide) rfl
          have hFc := va_free (wc := [(mo, .inr (8, [.int th, .int fd, .ref rt, .int mn, .ref rk, .ref rv, .ref rw, .ref ro, .int md, .ref rr, .int (nI ([] : List Nat).length), .ref ra, .long pz, .int kc, .ref rc, .ref rl, .ref rb, .int la, .int ca])), (ra, .inl (cB, 16400, .inl fa)), (rk, .inl (cI, 16, .inl fk)), (rv, .inl (cL, 16, .inr (.inl fv))), (rw, .inl (cI, 16, .inl fw)), (ro, .inl (cB, 65536, .inl fo))]) hD hS hA [0, 1, 2, 3, 4, 5] rfl
          refine zz_callv (va_runV (As := [.int (nI j)]) (rest := []) ⟨hx, hb, hml, hown, hg⟩ (c_Mo_plain l dC dI ad mo rt rk rv rw ro rr ra rc rl rb th fd mn md (nI ([] : List Nat).length) pz kc la ca cB fa ([] : List Nat) cI cL fk fv fw fo j k x B (by_nil _) (by (try simp only [List.length_append, List.length_cons, List.length_nil]); omega) hj hok9 hmg s.heap.size) (cwV 1 hg (gi_V kw_908 kw_910 sw_25 kw_9 kw_911) rfl rfl rfl (by decide +kernel) ⟨Nat.le_of_ble_eq_true rfl, Nat.le_of_ble_eq_true rfl⟩) (zy_preV hX hS hFc hPc hKc hDc _ (q0 := 0) (ci := 8) rfl rfl) rfl rfl hl.1 rfl (lv_room (Nat.le_of_ble_eq_true rfl)) d_Mo_makes_350 ⟨Nat.le_of_ble_eq_true rfl, Nat.le_of_ble_eq_true rfl⟩) hS hFc (fun u H1 k9 p9 d9 => va_join (wr := []) hP hD [0, 1, 2, 3, 4, 5] [] rfl rfl (by decide) (by decide) k9 hFc p9 d9) (fun u H locs hw hP hD hK1 hS => ?_)
          obtain ⟨u_341, rfl⟩ : ∃ z, z = u := ⟨_, rfl⟩
          try dsimp only at hw
          have hP : va_P (dC, dI) vwCl [(mo, .inr (8, [.int th, .int fd, .ref rt, .int mn, .ref rk, .ref rv, .ref rw, .ref ro, .int md, .ref rr, .int (nI (([] : List Nat) ++ (mo_p k x B)).length), .ref ra, .long pz, .int kc, .ref rc, .ref rl, .ref rb, .int la, .int ca])), (ra, .inl (cB, 16400, .inl u_341)), (rk, .inl (cI, 16, .inl fk)), (rv, .inl (cL, 16, .inr (.inl fv))), (rw, .inl (cI, 16, .inl fw)), (ro, .inl (cB, 65536, .inl fo))] H := hP
          have hD : va_D A [(mo, .inr (8, [.int th, .int fd, .ref rt, .int mn, .ref rk, .ref rv, .ref rw, .ref ro, .int md, .ref rr, .int (nI (([] : List Nat) ++ (mo_p k x B)).length), .ref ra, .long pz, .int kc, .ref rc, .ref rl, .ref rb, .int la, .int ca])), (ra, .inl (cB, 16400, .inl u_341)), (rk, .inl (cI, 16, .inl fk)), (rv, .inl (cL, 16, .inr (.inl fv))), (rw, .inl (cI, 16, .inl fw)), (ro, .inl (cB, 65536, .inl fo))] := hD
          have hL_343 := hw
          refine lv_goto (tgt := 358) hx hb d_Mo_makes_353 (by decide) ?_
          refine lv_iconst (v := 1) hx hb d_Mo_makes_358 (by decide) ?_
          have hmo : (mk_o v k x B bp) = some (([] : List Nat) ++ (mo_p k x B)) := (mk_np hok9 f_345)
          have hP9 := hP.sub (ws' := [(mo, .inr (8, [.int th, .int fd, .ref rt, .int mn, .ref rk, .ref rv, .ref rw, .ref ro, .int md, .ref rr, .int (nI (([] : List Nat) ++ (mo_p k x B)).length), .ref ra, .long pz, .int kc, .ref rc, .ref rl, .ref rb, .int la, .int ca])), (ra, .inl (cB, 16400, .inl u_341)), (rk, .inl (cI, 16, .inl fk)), (rv, .inl (cL, 16, .inr (.inl fv))), (rw, .inl (cI, 16, .inl fw)), (ro, .inl (cB, 65536, .inl fo))]) [0, 1, 2, 3, 4, 5] rfl
          have hD9 := hD.sub (ws' := [(mo, .inr (8, [.int th, .int fd, .ref rt, .int mn, .ref rk, .ref rv, .ref rw, .ref ro, .int md, .ref rr, .int (nI (([] : List Nat) ++ (mo_p k x B)).length), .ref ra, .long pz, .int kc, .ref rc, .ref rl, .ref rb, .int la, .int ca])), (ra, .inl (cB, 16400, .inl u_341)), (rk, .inl (cI, 16, .inl fk)), (rv, .inl (cL, 16, .inr (.inl fv))), (rw, .inl (cI, 16, .inl fw)), (ro, .inl (cB, 65536, .inl fo))]) [0, 1, 2, 3, 4, 5] (by decide) rfl
          have hK9 := hK.sub (tys' := [(cB, .byte), (cI, .int), (cL, .long)]) [0, 1, 2] rfl
          rw [show nI (([] : List Nat) ++ (mo_p k x B)).length = nI ((mk_o v k x B bp).getD []).length by rw [hmo]; rfl] at hP9 hD9
          exact zz_zret hx hb hr hlocks d_Mo_makes_359 (by decide) hS (by first | exact Nat.le_refl _ | decide | omega | (dsimp only; omega)) (by first | exact Nat.le_refl _ | decide | omega | (dsimp only; omega)) (u_341, la, ca) ⟨by rw [hmo]; rfl, by rw [hmo]; exact hL_343⟩ hP9 hK9 hD9
    · skip
      have hi8 : i1 - 1 ≤ 8 := by omega
      have hi2 : i1 = i1 - 1 + 1 := by omega
      have hk9 : fk j = 5 := by rw [hmg.1, hk4, hxx, hi2]; exact mo_tk hi8
      refine lv_aload_n hx hb d_Mo_makes_0 rfl (lv_at hl 0 rfl) ?_
      refine va_get (D := (dC, dI)) (ci := 8) (v := .ref rk) (C := "TextForgeModel") (T := TX8) (N := 19) hx hb hg iwX8 hown hK hP 0 rfl rfl 4 (by decide) (hg _ kw_730) (fun _ h9 => h9) rfl d_Mo_makes_1 ?_
      refine lv_iload_n hx hb d_Mo_makes_4 rfl (lv_at hl 2 rfl) ?_
      refine va_iald hx hb hK hP 2 1 rfl rfl (vp_in_nI hj (by decide)) d_Mo_makes_5 ?_
      refine lv_topi (fun y_344 ey_344 => ?_)
      have ey_344 : y_344 = (5 : Int32) := ey_344.trans (show (fk (nI j).toNatClampNeg) = 5 from (by rw [nI_clamp (show j < 2 ^ 31 by omega)]; exact hk9))
      subst ey_344
      refine lv_iconst (v := 1) hx hb d_Mo_makes_6 (by decide) ?_
      refine lv_icmp_gt (tgt := 14) hx hb d_Mo_makes_7 (by decide) (fun _ => ?_) (fun c9 => by first | exact absurd c9 (by decide) | exact absurd (by decide) c9)
      refine lv_iconst (v := 0) hx hb d_Mo_makes_14 (by decide) ?_
      refine lv_istore (lv' := [(4, .int 0), (0, .ref mo), (1, .int (sb_b v)), (2, .int (nI j)), (3, .int (by_z bp))]) hx hb d_Mo_makes_15 hl (by decide) rfl (fun ls hl => ?_)
      refine lv_aload_n hx hb d_Mo_makes_17 rfl (lv_at hl 1 rfl) ?_
      refine va_get (D := (dC, dI)) (ci := 8) (v := .ref rk) (C := "TextForgeModel") (T := TX8) (N := 19) hx hb hg iwX8 hown hK hP 0 rfl rfl 4 (by decide) (hg _ kw_730) (fun _ h9 => h9) rfl d_Mo_makes_18 ?_
      refine lv_iload_n hx hb d_Mo_makes_21 rfl (lv_at hl 3 rfl) ?_
      refine va_iald hx hb hK hP 2 1 rfl rfl (vp_in_nI hj (by decide)) d_Mo_makes_22 ?_
      refine lv_topi (fun y_345 ey_345 => ?_)
      have ey_345 : y_345 = (5 : Int32) := ey_345.trans (show (fk (nI j).toNatClampNeg) = 5 from (by rw [nI_clamp (show j < 2 ^ 31 by omega)]; exact hk9))
      subst ey_345
      refine lv_iconst (v := 3) hx hb d_Mo_makes_23 (by decide) ?_
      refine lv_icmp_ne (tgt := 31) hx hb d_Mo_makes_24 (by decide) (fun _ => ?_) (fun c9 => by first | exact absurd c9 (by decide) | exact absurd (by decide) c9)
      refine lv_iconst (v := 0) hx hb d_Mo_makes_31 (by decide) ?_
      refine lv_istore (lv' := [(5, .int 0), (4, .int 0), (0, .ref mo), (1, .int (sb_b v)), (2, .int (nI j)), (3, .int (by_z bp))]) hx hb d_Mo_makes_32 hl (by decide) rfl (fun ls hl => ?_)
      refine lv_iload hx hb d_Mo_makes_34 (lv_at hl 1 rfl) ?_
      refine lv_if_eq (tgt := 82) hx hb d_Mo_makes_36 (by decide) (fun _ => ?_) (fun c9 => by first | exact absurd c9 rfl | exact absurd rfl c9)
      refine W.ldc (v := 65533) hx hb hown (hg _ kw_833) rfl d_Mo_makes_82 ?_
      refine W.eq (g2 := F0 m 84 ls [.int 65533]) rfl ?_
      refine lv_istore (lv' := [(6, .int 65533), (5, .int 0), (4, .int 0), (0, .ref mo), (1, .int (sb_b v)), (2, .int (nI j)), (3, .int (by_z bp))]) hx hb d_Mo_makes_84 hl (by decide) rfl (fun ls hl => ?_)
      refine lv_iload hx hb d_Mo_makes_86 (lv_at hl 2 rfl) ?_
      refine lv_if_eq (tgt := 148) hx hb d_Mo_makes_88 (by decide) (fun _ => ?_) (fun c9 => by first | exact absurd c9 rfl | exact absurd rfl c9)
      refine lv_iload hx hb d_Mo_makes_148 (lv_at hl 1 rfl) ?_
      refine lv_if_eq (tgt := 220) hx hb d_Mo_makes_150 (by decide) (fun _ => ?_) (fun c9 => by first | exact absurd c9 rfl | exact absurd rfl c9)
      refine lv_iload hx hb d_Mo_makes_220 (lv_at hl 2 rfl) ?_
      refine lv_if_eq (tgt := 240) hx hb d_Mo_makes_222 (by decide) (fun _ => ?_) (fun c9 => by first | exact absurd c9 rfl | exact absurd rfl c9)
      refine lv_iload hx hb d_Mo_makes_240 (lv_at hl 2 rfl) ?_
      refine lv_if_eq (tgt := 274) hx hb d_Mo_makes_242 (by decide) (fun _ => ?_) (fun c9 => by first | exact absurd c9 rfl | exact absurd rfl c9)
      refine lv_iload hx hb d_Mo_makes_274 (lv_at hl 1 rfl) ?_
      refine lv_if_eq (tgt := 293) hx hb d_Mo_makes_276 (by decide) (fun _ => ?_) (fun c9 => by first | exact absurd c9 rfl | exact absurd rfl c9)
      refine lv_iload hx hb d_Mo_makes_293 (lv_at hl 1 rfl) ?_
      refine lv_if_eq (tgt := 326) hx hb d_Mo_makes_295 (by decide) (fun _ => ?_) (fun c9 => by first | exact absurd c9 rfl | exact absurd rfl c9)
      refine lv_iload_n hx hb d_Mo_makes_326 rfl (lv_at hl 4 rfl) ?_
      refine lv_bipush (v := 116) hx hb d_Mo_makes_327 (by decide) ?_
      refine lv_icmp_ne (tgt := 342) hx hb d_Mo_makes_329 (by decide) (fun c_329 => ?_) (fun c_329 => ?_)
      · skip
        have f_329 : v ≠ 116 := sb_e2 (k := 116) hv (by decide) c_329
        refine lv_iload_n hx hb d_Mo_makes_342 rfl (lv_at hl 4 rfl) ?_
        refine lv_bipush (v := 118) hx hb d_Mo_makes_343 (by decide) ?_
        refine lv_icmp_ne (tgt := 356) hx hb d_Mo_makes_345 (by decide) (fun c_345 => ?_) (fun c_345 => ?_)
        · skip
          have f_345 : v ≠ 118 := sb_e2 (k := 118) hv (by decide) c_345
          refine lv_iconst (v := 0) hx hb d_Mo_makes_356 (by decide) ?_
          have hmo : (mk_o v k x B bp) = none := (mk_w0 (Or.inr hk4) f_345 (fun z => by have := z.2; omega))
          have hP9 := hP.sub (ws' := [(mo, .inr (8, [.int th, .int fd, .ref rt, .int mn, .ref rk, .ref rv, .ref rw, .ref ro, .int md, .ref rr, .int (nI ([] : List Nat).length), .ref ra, .long pz, .int kc, .ref rc, .ref rl, .ref rb, .int la, .int ca])), (ra, .inl (cB, 16400, .inl fa)), (rk, .inl (cI, 16, .inl fk)), (rv, .inl (cL, 16, .inr (.inl fv))), (rw, .inl (cI, 16, .inl fw)), (ro, .inl (cB, 65536, .inl fo))]) [0, 1, 2, 3, 4, 5] rfl
          have hD9 := hD.sub (ws' := [(mo, .inr (8, [.int th, .int fd, .ref rt, .int mn, .ref rk, .ref rv, .ref rw, .ref ro, .int md, .ref rr, .int (nI ([] : List Nat).length), .ref ra, .long pz, .int kc, .ref rc, .ref rl, .ref rb, .int la, .int ca])), (ra, .inl (cB, 16400, .inl fa)), (rk, .inl (cI, 16, .inl fk)), (rv, .inl (cL, 16, .inr (.inl fv))), (rw, .inl (cI, 16, .inl fw)), (ro, .inl (cB, 65536, .inl fo))]) [0, 1, 2, 3, 4, 5] (by decide) rfl
          have hK9 := hK.sub (tys' := [(cB, .byte), (cI, .int), (cL, .long)]) [0, 1, 2] rfl
          rw [show nI ([] : List Nat).length = nI ((mk_o v k x B bp).getD []).length by rw [hmo]; rfl] at hP9 hD9
          exact zz_zret hx hb hr hlocks d_Mo_makes_357 (by decide) hS (by first | exact Nat.le_refl _ | decide | omega | (dsimp only; omega)) (by first | exact Nat.le_refl _ | decide | omega | (dsimp only; omega)) (fa, la, ca) ⟨by rw [hmo]; rfl, by rw [hmo]; exact by_nil _⟩ hP9 hK9 hD9
        · skip
          have f_345 : v = 118 := sb_e1 (k := 118) hv (by decide) c_345
          refine lv_aload_n hx hb d_Mo_makes_348 rfl (lv_at hl 3 rfl) ?_
          refine lv_iload_n hx hb d_Mo_makes_349 rfl (lv_at hl 5 rfl) ?_
          have hPc := hP.sub (ws' := [(mo, .inr (8, [.int th, .int fd, .ref rt, .int mn, .ref rk, .ref rv, .ref rw, .ref ro, .int md, .ref rr, .int (nI ([] : List Nat).length), .ref ra, .long pz, .int kc, .ref rc, .ref rl, .ref rb, .int la, .int ca])), (ra, .inl (cB, 16400, .inl fa)), (rk, .inl (cI, 16, .inl fk)), (rv, .inl (cL, 16, .inr (.inl fv))), (rw, .inl (cI, 16, .inl fw)), (ro, .inl (cB, 65536, .inl fo))]) [0, 1, 2, 3, 4, 5] rfl
          have hKc := hK.sub (tys' := [(cB, .byte), (cI, .int), (cL, .long)]) [0, 1, 2] rfl
          have hDc := hD.sub (ws' := [(mo, .inr (8, [.int th, .int fd, .ref rt, .int mn, .ref rk, .ref rv, .ref rw, .ref ro, .int md, .ref rr, .int (nI ([] : List Nat).length), .ref ra, .long pz, .int kc, .ref rc, .ref rl, .ref rb, .int la, .int ca])), (ra, .inl (cB, 16400, .inl fa)), (rk, .inl (cI, 16, .inl fk)), (rv, .inl (cL, 16, .inr (.inl fv))), (rw, .inl (cI, 16, .inl fw)), (ro, .inl (cB, 65536, .inl fo))]) [0, 1, 2, 3, 4, 5] (by decide) rfl
          have hFc := va_free (wc := [(mo, .inr (8, [.int th, .int fd, .ref rt, .int mn, .ref rk, .ref rv, .ref rw, .ref ro, .int md, .ref rr, .int (nI ([] : List Nat).length), .ref ra, .long pz, .int kc, .ref rc, .ref rl, .ref rb, .int la, .int ca])), (ra, .inl (cB, 16400, .inl fa)), (rk, .inl (cI, 16, .inl fk)), (rv, .inl (cL, 16, .inr (.inl fv))), (rw, .inl (cI, 16, .inl fw)), (ro, .inl (cB, 65536, .inl fo))]) hD hS hA [0, 1, 2, 3, 4, 5] rfl
          refine zz_callv (va_runV (As := [.int (nI j)]) (rest := []) ⟨hx, hb, hml, hown, hg⟩ (c_Mo_plain l dC dI ad mo rt rk rv rw ro rr ra rc rl rb th fd mn md (nI ([] : List Nat).length) pz kc la ca cB fa ([] : List Nat) cI cL fk fv fw fo j k x B (by_nil _) (by (try simp only [List.length_append, List.length_cons, List.length_nil]); omega) hj hok9 hmg s.heap.size) (cwV 1 hg (gi_V kw_908 kw_910 sw_25 kw_9 kw_911) rfl rfl rfl (by decide +kernel) ⟨Nat.le_of_ble_eq_true rfl, Nat.le_of_ble_eq_true rfl⟩) (zy_preV hX hS hFc hPc hKc hDc _ (q0 := 0) (ci := 8) rfl rfl) rfl rfl hl.1 rfl (lv_room (Nat.le_of_ble_eq_true rfl)) d_Mo_makes_350 ⟨Nat.le_of_ble_eq_true rfl, Nat.le_of_ble_eq_true rfl⟩) hS hFc (fun u H1 k9 p9 d9 => va_join (wr := []) hP hD [0, 1, 2, 3, 4, 5] [] rfl rfl (by decide) (by decide) k9 hFc p9 d9) (fun u H locs hw hP hD hK1 hS => ?_)
          obtain ⟨u_346, rfl⟩ : ∃ z, z = u := ⟨_, rfl⟩
          try dsimp only at hw
          have hP : va_P (dC, dI) vwCl [(mo, .inr (8, [.int th, .int fd, .ref rt, .int mn, .ref rk, .ref rv, .ref rw, .ref ro, .int md, .ref rr, .int (nI (([] : List Nat) ++ (mo_p k x B)).length), .ref ra, .long pz, .int kc, .ref rc, .ref rl, .ref rb, .int la, .int ca])), (ra, .inl (cB, 16400, .inl u_346)), (rk, .inl (cI, 16, .inl fk)), (rv, .inl (cL, 16, .inr (.inl fv))), (rw, .inl (cI, 16, .inl fw)), (ro, .inl (cB, 65536, .inl fo))] H := hP
          have hD : va_D A [(mo, .inr (8, [.int th, .int fd, .ref rt, .int mn, .ref rk, .ref rv, .ref rw, .ref ro, .int md, .ref rr, .int (nI (([] : List Nat) ++ (mo_p k x B)).length), .ref ra, .long pz, .int kc, .ref rc, .ref rl, .ref rb, .int la, .int ca])), (ra, .inl (cB, 16400, .inl u_346)), (rk, .inl (cI, 16, .inl fk)), (rv, .inl (cL, 16, .inr (.inl fv))), (rw, .inl (cI, 16, .inl fw)), (ro, .inl (cB, 65536, .inl fo))] := hD
          have hL_348 := hw
          refine lv_goto (tgt := 358) hx hb d_Mo_makes_353 (by decide) ?_
          refine lv_iconst (v := 1) hx hb d_Mo_makes_358 (by decide) ?_
          have hmo : (mk_o v k x B bp) = some (([] : List Nat) ++ (mo_p k x B)) := (mk_np hok9 f_345)
          have hP9 := hP.sub (ws' := [(mo, .inr (8, [.int th, .int fd, .ref rt, .int mn, .ref rk, .ref rv, .ref rw, .ref ro, .int md, .ref rr, .int (nI (([] : List Nat) ++ (mo_p k x B)).length), .ref ra, .long pz, .int kc, .ref rc, .ref rl, .ref rb, .int la, .int ca])), (ra, .inl (cB, 16400, .inl u_346)), (rk, .inl (cI, 16, .inl fk)), (rv, .inl (cL, 16, .inr (.inl fv))), (rw, .inl (cI, 16, .inl fw)), (ro, .inl (cB, 65536, .inl fo))]) [0, 1, 2, 3, 4, 5] rfl
          have hD9 := hD.sub (ws' := [(mo, .inr (8, [.int th, .int fd, .ref rt, .int mn, .ref rk, .ref rv, .ref rw, .ref ro, .int md, .ref rr, .int (nI (([] : List Nat) ++ (mo_p k x B)).length), .ref ra, .long pz, .int kc, .ref rc, .ref rl, .ref rb, .int la, .int ca])), (ra, .inl (cB, 16400, .inl u_346)), (rk, .inl (cI, 16, .inl fk)), (rv, .inl (cL, 16, .inr (.inl fv))), (rw, .inl (cI, 16, .inl fw)), (ro, .inl (cB, 65536, .inl fo))]) [0, 1, 2, 3, 4, 5] (by decide) rfl
          have hK9 := hK.sub (tys' := [(cB, .byte), (cI, .int), (cL, .long)]) [0, 1, 2] rfl
          rw [show nI (([] : List Nat) ++ (mo_p k x B)).length = nI ((mk_o v k x B bp).getD []).length by rw [hmo]; rfl] at hP9 hD9
          exact zz_zret hx hb hr hlocks d_Mo_makes_359 (by decide) hS (by first | exact Nat.le_refl _ | decide | omega | (dsimp only; omega)) (by first | exact Nat.le_refl _ | decide | omega | (dsimp only; omega)) (u_346, la, ca) ⟨by rw [hmo]; rfl, by rw [hmo]; exact hL_348⟩ hP9 hK9 hD9
      · skip
        have f_329 : v = 116 := sb_e1 (k := 116) hv (by decide) c_329
        refine lv_aload_n hx hb d_Mo_makes_332 rfl (lv_at hl 3 rfl) ?_
        refine va_get (D := (dC, dI)) (ci := 8) (v := .ref rk) (C := "TextForgeModel") (T := TX8) (N := 19) hx hb hg iwX8 hown hK hP 0 rfl rfl 4 (by decide) (hg _ kw_730) (fun _ h9 => h9) rfl d_Mo_makes_333 ?_
        refine lv_iload_n hx hb d_Mo_makes_336 rfl (lv_at hl 5 rfl) ?_
        refine va_iald hx hb hK hP 2 1 rfl rfl (vp_in_nI hj (by decide)) d_Mo_makes_337 ?_
        refine lv_topi (fun y_349 ey_349 => ?_)
        have ey_349 : y_349 = (5 : Int32) := ey_349.trans (show (fk (nI j).toNatClampNeg) = 5 from (by rw [nI_clamp (show j < 2 ^ 31 by omega)]; exact hk9))
        subst ey_349
        refine lv_iconst (v := 2) hx hb d_Mo_makes_338 (by decide) ?_
        refine lv_icmp_eq (tgt := 348) hx hb d_Mo_makes_339 (by decide) (fun c9 => by first | exact absurd c9 (by decide) | exact absurd (by decide) c9) (fun _ => ?_)
        refine lv_iload_n hx hb d_Mo_makes_342 rfl (lv_at hl 4 rfl) ?_
        refine lv_bipush (v := 118) hx hb d_Mo_makes_343 (by decide) ?_
        refine lv_icmp_ne (tgt := 356) hx hb d_Mo_makes_345 (by decide) (fun c_345 => ?_) (fun c_345 => ?_)
        · skip
          have f_345 : v ≠ 118 := sb_e2 (k := 118) hv (by decide) c_345
          refine lv_iconst (v := 0) hx hb d_Mo_makes_356 (by decide) ?_
          have hmo : (mk_o v k x B bp) = none := (mk_w0 (Or.inr hk4) f_345 (fun z => by have := z.2; omega))
          have hP9 := hP.sub (ws' := [(mo, .inr (8, [.int th, .int fd, .ref rt, .int mn, .ref rk, .ref rv, .ref rw, .ref ro, .int md, .ref rr, .int (nI ([] : List Nat).length), .ref ra, .long pz, .int kc, .ref rc, .ref rl, .ref rb, .int la, .int ca])), (ra, .inl (cB, 16400, .inl fa)), (rk, .inl (cI, 16, .inl fk)), (rv, .inl (cL, 16, .inr (.inl fv))), (rw, .inl (cI, 16, .inl fw)), (ro, .inl (cB, 65536, .inl fo))]) [0, 1, 2, 3, 4, 5] rfl
          have hD9 := hD.sub (ws' := [(mo, .inr (8, [.int th, .int fd, .ref rt, .int mn, .ref rk, .ref rv, .ref rw, .ref ro, .int md, .ref rr, .int (nI ([] : List Nat).length), .ref ra, .long pz, .int kc, .ref rc, .ref rl, .ref rb, .int la, .int ca])), (ra, .inl (cB, 16400, .inl fa)), (rk, .inl (cI, 16, .inl fk)), (rv, .inl (cL, 16, .inr (.inl fv))), (rw, .inl (cI, 16, .inl fw)), (ro, .inl (cB, 65536, .inl fo))]) [0, 1, 2, 3, 4, 5] (by decide) rfl
          have hK9 := hK.sub (tys' := [(cB, .byte), (cI, .int), (cL, .long)]) [0, 1, 2] rfl
          rw [show nI ([] : List Nat).length = nI ((mk_o v k x B bp).getD []).length by rw [hmo]; rfl] at hP9 hD9
          exact zz_zret hx hb hr hlocks d_Mo_makes_357 (by decide) hS (by first | exact Nat.le_refl _ | decide | omega | (dsimp only; omega)) (by first | exact Nat.le_refl _ | decide | omega | (dsimp only; omega)) (fa, la, ca) ⟨by rw [hmo]; rfl, by rw [hmo]; exact by_nil _⟩ hP9 hK9 hD9
        · skip
          have f_345 : v = 118 := sb_e1 (k := 118) hv (by decide) c_345
          refine lv_aload_n hx hb d_Mo_makes_348 rfl (lv_at hl 3 rfl) ?_
          refine lv_iload_n hx hb d_Mo_makes_349 rfl (lv_at hl 5 rfl) ?_
          have hPc := hP.sub (ws' := [(mo, .inr (8, [.int th, .int fd, .ref rt, .int mn, .ref rk, .ref rv, .ref rw, .ref ro, .int md, .ref rr, .int (nI ([] : List Nat).length), .ref ra, .long pz, .int kc, .ref rc, .ref rl, .ref rb, .int la, .int ca])), (ra, .inl (cB, 16400, .inl fa)), (rk, .inl (cI, 16, .inl fk)), (rv, .inl (cL, 16, .inr (.inl fv))), (rw, .inl (cI, 16, .inl fw)), (ro, .inl (cB, 65536, .inl fo))]) [0, 1, 2, 3, 4, 5] rfl
          have hKc := hK.sub (tys' := [(cB, .byte), (cI, .int), (cL, .long)]) [0, 1, 2] rfl
          have hDc := hD.sub (ws' := [(mo, .inr (8, [.int th, .int fd, .ref rt, .int mn, .ref rk, .ref rv, .ref rw, .ref ro, .int md, .ref rr, .int (nI ([] : List Nat).length), .ref ra, .long pz, .int kc, .ref rc, .ref rl, .ref rb, .int la, .int ca])), (ra, .inl (cB, 16400, .inl fa)), (rk, .inl (cI, 16, .inl fk)), (rv, .inl (cL, 16, .inr (.inl fv))), (rw, .inl (cI, 16, .inl fw)), (ro, .inl (cB, 65536, .inl fo))]) [0, 1, 2, 3, 4, 5] (by decide) rfl
          have hFc := va_free (wc := [(mo, .inr (8, [.int th, .int fd, .ref rt, .int mn, .ref rk, .ref rv, .ref rw, .ref ro, .int md, .ref rr, .int (nI ([] : List Nat).length), .ref ra, .long pz, .int kc, .ref rc, .ref rl, .ref rb, .int la, .int ca])), (ra, .inl (cB, 16400, .inl fa)), (rk, .inl (cI, 16, .inl fk)), (rv, .inl (cL, 16, .inr (.inl fv))), (rw, .inl (cI, 16, .inl fw)), (ro, .inl (cB, 65536, .inl fo))]) hD hS hA [0, 1, 2, 3, 4, 5] rfl
          refine zz_callv (va_runV (As := [.int (nI j)]) (rest := []) ⟨hx, hb, hml, hown, hg⟩ (c_Mo_plain l dC dI ad mo rt rk rv rw ro rr ra rc rl rb th fd mn md (nI ([] : List Nat).length) pz kc la ca cB fa ([] : List Nat) cI cL fk fv fw fo j k x B (by_nil _) (by (try simp only [List.length_append, List.length_cons, List.length_nil]); omega) hj hok9 hmg s.heap.size) (cwV 1 hg (gi_V kw_908 kw_910 sw_25 kw_9 kw_911) rfl rfl rfl (by decide +kernel) ⟨Nat.le_of_ble_eq_true rfl, Nat.le_of_ble_eq_true rfl⟩) (zy_preV hX hS hFc hPc hKc hDc _ (q0 := 0) (ci := 8) rfl rfl) rfl rfl hl.1 rfl (lv_room (Nat.le_of_ble_eq_true rfl)) d_Mo_makes_350 ⟨Nat.le_of_ble_eq_true rfl, Nat.le_of_ble_eq_true rfl⟩) hS hFc (fun u H1 k9 p9 d9 => va_join (wr := []) hP hD [0, 1, 2, 3, 4, 5] [] rfl rfl (by decide) (by decide) k9 hFc p9 d9) (fun u H locs hw hP hD hK1 hS => ?_)
          obtain ⟨u_350, rfl⟩ : ∃ z, z = u := ⟨_, rfl⟩
          try dsimp only at hw
          have hP : va_P (dC, dI) vwCl [(mo, .inr (8, [.int th, .int fd, .ref rt, .int mn, .ref rk, .ref rv, .ref rw, .ref ro, .int md, .ref rr, .int (nI (([] : List Nat) ++ (mo_p k x B)).length), .ref ra, .long pz, .int kc, .ref rc, .ref rl, .ref rb, .int la, .int ca])), (ra, .inl (cB, 16400, .inl u_350)), (rk, .inl (cI, 16, .inl fk)), (rv, .inl (cL, 16, .inr (.inl fv))), (rw, .inl (cI, 16, .inl fw)), (ro, .inl (cB, 65536, .inl fo))] H := hP
          have hD : va_D A [(mo, .inr (8, [.int th, .int fd, .ref rt, .int mn, .ref rk, .ref rv, .ref rw, .ref ro, .int md, .ref rr, .int (nI (([] : List Nat) ++ (mo_p k x B)).length), .ref ra, .long pz, .int kc, .ref rc, .ref rl, .ref rb, .int la, .int ca])), (ra, .inl (cB, 16400, .inl u_350)), (rk, .inl (cI, 16, .inl fk)), (rv, .inl (cL, 16, .inr (.inl fv))), (rw, .inl (cI, 16, .inl fw)), (ro, .inl (cB, 65536, .inl fo))] := hD
          have hL_352 := hw
          refine lv_goto (tgt := 358) hx hb d_Mo_makes_353 (by decide) ?_
          refine lv_iconst (v := 1) hx hb d_Mo_makes_358 (by decide) ?_
          have hmo : (mk_o v k x B bp) = some (([] : List Nat) ++ (mo_p k x B)) := (mk_np hok9 f_345)
          have hP9 := hP.sub (ws' := [(mo, .inr (8, [.int th, .int fd, .ref rt, .int mn, .ref rk, .ref rv, .ref rw, .ref ro, .int md, .ref rr, .int (nI (([] : List Nat) ++ (mo_p k x B)).length), .ref ra, .long pz, .int kc, .ref rc, .ref rl, .ref rb, .int la, .int ca])), (ra, .inl (cB, 16400, .inl u_350)), (rk, .inl (cI, 16, .inl fk)), (rv, .inl (cL, 16, .inr (.inl fv))), (rw, .inl (cI, 16, .inl fw)), (ro, .inl (cB, 65536, .inl fo))]) [0, 1, 2, 3, 4, 5] rfl
          have hD9 := hD.sub (ws' := [(mo, .inr (8, [.int th, .int fd, .ref rt, .int mn, .ref rk, .ref rv, .ref rw, .ref ro, .int md, .ref rr, .int (nI (([] : List Nat) ++ (mo_p k x B)).length), .ref ra, .long pz, .int kc, .ref rc, .ref rl, .ref rb, .int la, .int ca])), (ra, .inl (cB, 16400, .inl u_350)), (rk, .inl (cI, 16, .inl fk)), (rv, .inl (cL, 16, .inr (.inl fv))), (rw, .inl (cI, 16, .inl fw)), (ro, .inl (cB, 65536, .inl fo))]) [0, 1, 2, 3, 4, 5] (by decide) rfl
          have hK9 := hK.sub (tys' := [(cB, .byte), (cI, .int), (cL, .long)]) [0, 1, 2] rfl
          rw [show nI (([] : List Nat) ++ (mo_p k x B)).length = nI ((mk_o v k x B bp).getD []).length by rw [hmo]; rfl] at hP9 hD9
          exact zz_zret hx hb hr hlocks d_Mo_makes_359 (by decide) hS (by first | exact Nat.le_refl _ | decide | omega | (dsimp only; omega)) (by first | exact Nat.le_refl _ | decide | omega | (dsimp only; omega)) (u_350, la, ca) ⟨by rw [hmo]; rfl, by rw [hmo]; exact hL_352⟩ hP9 hK9 hD9
abbrev y_Mo_lay : MethodName := ⟨"TextForgeModel", "lay", "(IZZ)V"⟩
abbrev w_Mo_lay : List Cond := Cond.code y_Mo_lay prog_12_method_34_code 7 none :: gw
theorem d_Mo_lay_0 : decode prog_12_method_34_code 0 = .ok (.iload_n 1, 1) := by decide +kernel
theorem d_Mo_lay_1 : decode prog_12_method_34_code 1 = .ok (.aload_n 0, 1) := by decide +kernel
theorem d_Mo_lay_2 : decode prog_12_method_34_code 2 = .ok (.getfield 61, 3) := by decide +kernel
theorem d_Mo_lay_5 : decode prog_12_method_34_code 5 = .ok (.if_icmp .le 12, 3) := by decide +kernel
theorem d_Mo_lay_8 : decode prog_12_method_34_code 8 = .ok (.iload_n 1, 1) := by decide +kernel
theorem d_Mo_lay_9 : decode prog_12_method_34_code 9 = .ok (.aload_n 0, 1) := by decide +kernel
theorem d_Mo_lay_10 : decode prog_12_method_34_code 10 = .ok (.getfield 61, 3) := by decide +kernel
theorem d_Mo_lay_13 : decode prog_12_method_34_code 13 = .ok (.isub, 1) := by decide +kernel
theorem d_Mo_lay_14 : decode prog_12_method_34_code 14 = .ok (.goto 4, 3) := by decide +kernel
theorem d_Mo_lay_17 : decode prog_12_method_34_code 17 = .ok (.iconst 0, 1) := by decide +kernel
theorem d_Mo_lay_18 : decode prog_12_method_34_code 18 = .ok (.istore 4, 2) := by decide +kernel
theorem d_Mo_lay_20 : decode prog_12_method_34_code 20 = .ok (.iload_n 3, 1) := by decide +kernel
theorem d_Mo_lay_21 : decode prog_12_method_34_code 21 = .ok (.ifCond .eq 36, 3) := by decide +kernel
theorem d_Mo_lay_24 : decode prog_12_method_34_code 24 = .ok (.aload_n 0, 1) := by decide +kernel
theorem d_Mo_lay_25 : decode prog_12_method_34_code 25 = .ok (.getfield 61, 3) := by decide +kernel
theorem d_Mo_lay_28 : decode prog_12_method_34_code 28 = .ok (.ifCond .le 29, 3) := by decide +kernel
theorem d_Mo_lay_31 : decode prog_12_method_34_code 31 = .ok (.aload_n 0, 1) := by decide +kernel
theorem d_Mo_lay_32 : decode prog_12_method_34_code 32 = .ok (.getfield 31, 3) := by decide +kernel
theorem d_Mo_lay_35 : decode prog_12_method_34_code 35 = .ok (.iconst 0, 1) := by decide +kernel
theorem d_Mo_lay_36 : decode prog_12_method_34_code 36 = .ok (.baload, 1) := by decide +kernel
theorem d_Mo_lay_37 : decode prog_12_method_34_code 37 = .ok (.bipush 45, 2) := by decide +kernel
theorem d_Mo_lay_39 : decode prog_12_method_34_code 39 = .ok (.if_icmp .eq 14, 3) := by decide +kernel
theorem d_Mo_lay_42 : decode prog_12_method_34_code 42 = .ok (.aload_n 0, 1) := by decide +kernel
theorem d_Mo_lay_43 : decode prog_12_method_34_code 43 = .ok (.getfield 31, 3) := by decide +kernel
theorem d_Mo_lay_46 : decode prog_12_method_34_code 46 = .ok (.iconst 0, 1) := by decide +kernel
theorem d_Mo_lay_47 : decode prog_12_method_34_code 47 = .ok (.baload, 1) := by decide +kernel
theorem d_Mo_lay_48 : decode prog_12_method_34_code 48 = .ok (.bipush 43, 2) := by decide +kernel
theorem d_Mo_lay_50 : decode prog_12_method_34_code 50 = .ok (.if_icmp .ne 7, 3) := by decide +kernel
theorem d_Mo_lay_53 : decode prog_12_method_34_code 53 = .ok (.iconst 1, 1) := by decide +kernel
theorem d_Mo_lay_54 : decode prog_12_method_34_code 54 = .ok (.goto 4, 3) := by decide +kernel
theorem d_Mo_lay_57 : decode prog_12_method_34_code 57 = .ok (.iconst 0, 1) := by decide +kernel
theorem d_Mo_lay_58 : decode prog_12_method_34_code 58 = .ok (.istore 5, 2) := by decide +kernel
theorem d_Mo_lay_60 : decode prog_12_method_34_code 60 = .ok (.iload_n 2, 1) := by decide +kernel
theorem d_Mo_lay_61 : decode prog_12_method_34_code 61 = .ok (.ifCond .ne 50, 3) := by decide +kernel
theorem d_Mo_lay_64 : decode prog_12_method_34_code 64 = .ok (.iload 5, 2) := by decide +kernel
theorem d_Mo_lay_66 : decode prog_12_method_34_code 66 = .ok (.iconst 1, 1) := by decide +kernel
theorem d_Mo_lay_67 : decode prog_12_method_34_code 67 = .ok (.if_icmp .ne 13, 3) := by decide +kernel
theorem d_Mo_lay_70 : decode prog_12_method_34_code 70 = .ok (.aload_n 0, 1) := by decide +kernel
theorem d_Mo_lay_71 : decode prog_12_method_34_code 71 = .ok (.aload_n 0, 1) := by decide +kernel
theorem d_Mo_lay_72 : decode prog_12_method_34_code 72 = .ok (.getfield 31, 3) := by decide +kernel
theorem d_Mo_lay_75 : decode prog_12_method_34_code 75 = .ok (.iconst 0, 1) := by decide +kernel
theorem d_Mo_lay_76 : decode prog_12_method_34_code 76 = .ok (.baload, 1) := by decide +kernel
theorem d_Mo_lay_77 : decode prog_12_method_34_code 77 = .ok (.invokevirtual 188, 3) := by decide +kernel
theorem d_Mo_lay_80 : decode prog_12_method_34_code 80 = .ok (.iconst 0, 1) := by decide +kernel
theorem d_Mo_lay_81 : decode prog_12_method_34_code 81 = .ok (.istore 6, 2) := by decide +kernel
theorem d_Mo_lay_83 : decode prog_12_method_34_code 83 = .ok (.iload 6, 2) := by decide +kernel
theorem d_Mo_lay_85 : decode prog_12_method_34_code 85 = .ok (.iload 4, 2) := by decide +kernel
theorem d_Mo_lay_87 : decode prog_12_method_34_code 87 = .ok (.if_icmp .ge 24, 3) := by decide +kernel
theorem d_Mo_lay_90 : decode prog_12_method_34_code 90 = .ok (.aload_n 0, 1) := by decide +kernel
theorem d_Mo_lay_91 : decode prog_12_method_34_code 91 = .ok (.iload_n 3, 1) := by decide +kernel
theorem d_Mo_lay_92 : decode prog_12_method_34_code 92 = .ok (.ifCond .eq 8, 3) := by decide +kernel
theorem d_Mo_lay_95 : decode prog_12_method_34_code 95 = .ok (.bipush 48, 2) := by decide +kernel
theorem d_Mo_lay_97 : decode prog_12_method_34_code 97 = .ok (.goto 5, 3) := by decide +kernel
theorem d_Mo_lay_100 : decode prog_12_method_34_code 100 = .ok (.bipush 32, 2) := by decide +kernel
theorem d_Mo_lay_102 : decode prog_12_method_34_code 102 = .ok (.invokevirtual 188, 3) := by decide +kernel
theorem d_Mo_lay_105 : decode prog_12_method_34_code 105 = .ok (.iinc 6 1, 3) := by decide +kernel
theorem d_Mo_lay_108 : decode prog_12_method_34_code 108 = .ok (.goto (-25), 3) := by decide +kernel
theorem d_Mo_lay_111 : decode prog_12_method_34_code 111 = .ok (.iload_n 2, 1) := by decide +kernel
theorem d_Mo_lay_112 : decode prog_12_method_34_code 112 = .ok (.ifCond .eq 7, 3) := by decide +kernel
theorem d_Mo_lay_115 : decode prog_12_method_34_code 115 = .ok (.iconst 0, 1) := by decide +kernel
theorem d_Mo_lay_116 : decode prog_12_method_34_code 116 = .ok (.goto 5, 3) := by decide +kernel
theorem d_Mo_lay_119 : decode prog_12_method_34_code 119 = .ok (.iload 5, 2) := by decide +kernel
theorem d_Mo_lay_121 : decode prog_12_method_34_code 121 = .ok (.istore 6, 2) := by decide +kernel
theorem d_Mo_lay_123 : decode prog_12_method_34_code 123 = .ok (.iload 6, 2) := by decide +kernel
theorem d_Mo_lay_125 : decode prog_12_method_34_code 125 = .ok (.aload_n 0, 1) := by decide +kernel
theorem d_Mo_lay_126 : decode prog_12_method_34_code 126 = .ok (.getfield 61, 3) := by decide +kernel
theorem d_Mo_lay_129 : decode prog_12_method_34_code 129 = .ok (.if_icmp .ge 20, 3) := by decide +kernel
theorem d_Mo_lay_132 : decode prog_12_method_34_code 132 = .ok (.aload_n 0, 1) := by decide +kernel
theorem d_Mo_lay_133 : decode prog_12_method_34_code 133 = .ok (.aload_n 0, 1) := by decide +kernel
theorem d_Mo_lay_134 : decode prog_12_method_34_code 134 = .ok (.getfield 31, 3) := by decide +kernel
theorem d_Mo_lay_137 : decode prog_12_method_34_code 137 = .ok (.iload 6, 2) := by decide +kernel
theorem d_Mo_lay_139 : decode prog_12_method_34_code 139 = .ok (.baload, 1) := by decide +kernel
theorem d_Mo_lay_140 : decode prog_12_method_34_code 140 = .ok (.invokevirtual 188, 3) := by decide +kernel
theorem d_Mo_lay_143 : decode prog_12_method_34_code 143 = .ok (.iinc 6 1, 3) := by decide +kernel
theorem d_Mo_lay_146 : decode prog_12_method_34_code 146 = .ok (.goto (-23), 3) := by decide +kernel
theorem d_Mo_lay_149 : decode prog_12_method_34_code 149 = .ok (.iconst 0, 1) := by decide +kernel
theorem d_Mo_lay_150 : decode prog_12_method_34_code 150 = .ok (.istore 6, 2) := by decide +kernel
theorem d_Mo_lay_152 : decode prog_12_method_34_code 152 = .ok (.iload 6, 2) := by decide +kernel
theorem d_Mo_lay_154 : decode prog_12_method_34_code 154 = .ok (.iload 4, 2) := by decide +kernel
theorem d_Mo_lay_156 : decode prog_12_method_34_code 156 = .ok (.if_icmp .ge 19, 3) := by decide +kernel
theorem d_Mo_lay_159 : decode prog_12_method_34_code 159 = .ok (.iload_n 2, 1) := by decide +kernel
theorem d_Mo_lay_160 : decode prog_12_method_34_code 160 = .ok (.ifCond .eq 15, 3) := by decide +kernel
theorem d_Mo_lay_163 : decode prog_12_method_34_code 163 = .ok (.aload_n 0, 1) := by decide +kernel
theorem d_Mo_lay_164 : decode prog_12_method_34_code 164 = .ok (.bipush 32, 2) := by decide +kernel
theorem d_Mo_lay_166 : decode prog_12_method_34_code 166 = .ok (.invokevirtual 188, 3) := by decide +kernel
theorem d_Mo_lay_169 : decode prog_12_method_34_code 169 = .ok (.iinc 6 1, 3) := by decide +kernel
theorem d_Mo_lay_172 : decode prog_12_method_34_code 172 = .ok (.goto (-20), 3) := by decide +kernel
theorem d_Mo_lay_175 : decode prog_12_method_34_code 175 = .ok (.return_, 1) := by decide +kernel
set_option maxHeartbeats 4000000 in
set_option maxRecDepth 100000 in
theorem c_Mo_lay (l : Launch) (dC : Nat → ClassId) (dI : Nat → Nat → Nat) (mo rt rk rv rw ro rr ra rc rl rb : Nat) (th fd mn md pt : Int32) (pz : Int64) (kc la ca : Int32) (cB : ClassId) (fa : Nat → Int32) (P : List Nat) (fr : Nat → Int32) (M : List Nat) (wd : Nat) (bm bz : Bool) (hLa : by_L P fa) (hpa : P.length ≤ 16400) (hLr : by_L M fr) (hcr : M.length ≤ 4096) (hwd : wd ≤ 99) (hP0 : bz = true → 0 < P.length) (hbz : bz = true → bm = false) : zM_v (S := Nat → Int32) l y_Mo_lay w_Mo_lay { frames := 1, cells := 0, slots := 0, locals := 21 } (dC, dI) vwCl [.ref mo, .int (nI wd), .int (by_z bm), .int (by_z bz)] [(mo, .inr (8, [.int th, .int fd, .ref rt, .int mn, .ref rk, .ref rv, .ref rw, .ref ro, .int (nI M.length), .ref rr, .int (nI P.length), .ref ra, .long pz, .int kc, .ref rc, .ref rl, .ref rb, .int la, .int ca])), (ra, .inl (cB, 16400, .inl fa)), (rr, .inl (cB, 4096, .inl fr))] [(cB, .byte)] (fun (u : Nat → Int32) => by_L (by_ap 4096 M (ly_o P wd bm bz)) u) (fun u => [(mo, .inr (8, [.int th, .int fd, .ref rt, .int mn, .ref rk, .ref rv, .ref rw, .ref ro, .int (nI (by_ap 4096 M (ly_o P wd bm bz)).length), .ref rr, .int (nI P.length), .ref ra, .long pz, .int kc, .ref rc, .ref rl, .ref rb, .int la, .int ca])), (ra, .inl (cB, 16400, .inl fa)), (rr, .inl (cB, 4096, .inl u))]) (fun u => [(cB, .byte)]) 0 0 := by
  refine zz_enterv (cc := prog_12_method_34_code) (nL := 7) (ret := none) (by decide) rfl (Nat.le_of_ble_eq_true rfl) ?_
  intro p e s m below meth c A ls C0 hA hS hP hK hD hl
  obtain ⟨hx, hb, hml, hown, hg, hr, hlocks, hin⟩ := C0
  have hown : s.vm.findClass "TextForgeModel" = some m.cls := hown
  have hP : va_P (dC, dI) vwCl [(mo, .inr (8, [.int th, .int fd, .ref rt, .int mn, .ref rk, .ref rv, .ref rw, .ref ro, .int (nI M.length), .ref rr, .int (nI P.length), .ref ra, .long pz, .int kc, .ref rc, .ref rl, .ref rb, .int la, .int ca])), (ra, .inl (cB, 16400, .inl fa)), (rr, .inl (cB, 4096, .inl fr))] s.heap := hP
  have hK : va_K (dC, dI) vwCl [(cB, .byte)] s := hK
  have hD : va_D A [(mo, .inr (8, [.int th, .int fd, .ref rt, .int mn, .ref rk, .ref rv, .ref rw, .ref ro, .int (nI M.length), .ref rr, .int (nI P.length), .ref ra, .long pz, .int kc, .ref rc, .ref rl, .ref rb, .int la, .int ca])), (ra, .inl (cB, 16400, .inl fa)), (rr, .inl (cB, 4096, .inl fr))] := hD
  have hl : lv_has ls 7 [(0, .ref mo), (1, .int (nI wd)), (2, .int (by_z bm)), (3, .int (by_z bz))] := hl
  refine lv_iload_n hx hb d_Mo_lay_0 rfl (lv_at hl 1 rfl) ?_
  refine lv_aload_n hx hb d_Mo_lay_1 rfl (lv_at hl 0 rfl) ?_
  refine va_get (D := (dC, dI)) (ci := 8) (v := .int (nI P.length)) (C := "TextForgeModel") (T := TX8) (N := 19) hx hb hg iwX8 hown hK hP 0 rfl rfl 10 (by decide) (hg _ kw_736) (fun _ h9 => h9) rfl d_Mo_lay_2 ?_
  refine lv_icmp_le (tgt := 17) hx hb d_Mo_lay_5 (by decide) (fun c_5 => ?_) (fun c_5 => ?_)
  · skip
    have f_5 : wd ≤ P.length := (nI_leI (b := P.length) (by omega) (by omega)).mp c_5
    refine lv_iconst (v := 0) hx hb d_Mo_lay_17 (by decide) ?_
    refine lv_topi (fun y_1 ey_1 => ?_)
    have ey_1 : y_1 = (nI (wd - P.length) : Int32) := ey_1.trans (show 0 = nI (wd - P.length) from (by rw [show wd - P.length = 0 by omega]; rfl))
    subst ey_1
    refine lv_istore (lv' := [(4, .int (nI (wd - P.length))), (0, .ref mo), (1, .int (nI wd)), (2, .int (by_z bm)), (3, .int (by_z bz))]) hx hb d_Mo_lay_18 hl (by decide) rfl (fun ls hl => ?_)
    refine lv_iload_n hx hb d_Mo_lay_20 rfl (lv_at hl 4 rfl) ?_
    refine lv_if_eq (tgt := 57) hx hb d_Mo_lay_21 (by decide) (fun c_21 => ?_) (fun c_21 => ?_)
    · skip
      have hz : bz = false := by_z_f rfl c_21
      have hs : ly_s P bz = 0 := if_neg (fun z => by rw [hz] at z; exact absurd z.1 (by decide))
      refine lv_iconst (v := 0) hx hb d_Mo_lay_57 (by decide) ?_
      refine lv_istore (lv' := [(5, .int 0), (4, .int (nI (wd - P.length))), (0, .ref mo), (1, .int (nI wd)), (2, .int (by_z bm)), (3, .int (by_z bz))]) hx hb d_Mo_lay_58 hl (by decide) rfl (fun ls hl => ?_)
      refine lv_iload_n hx hb d_Mo_lay_60 rfl (lv_at hl 4 rfl) ?_
      refine lv_if_ne (tgt := 111) hx hb d_Mo_lay_61 (by decide) (fun c_61 => ?_) (fun c_61 => ?_)
      · skip
        have hbt : bm = true := by_z_t rfl c_61
        refine lv_iload_n hx hb d_Mo_lay_111 rfl (lv_at hl 4 rfl) ?_
        refine lv_if_eq (tgt := 119) hx hb d_Mo_lay_112 (by decide) (fun c9 => by first | exact absurd c9 (show ¬ by_z bm = 0 by rw [hbt]; decide) | exact absurd (show ¬ by_z bm = 0 by rw [hbt]; decide) c9) (fun _ => ?_)
        refine lv_iconst (v := 0) hx hb d_Mo_lay_115 (by decide) ?_
        refine lv_goto (tgt := 121) hx hb d_Mo_lay_116 (by decide) ?_
        refine lv_istore (lv' := [(6, .int 0), (5, .int 0), (4, .int (nI (wd - P.length))), (0, .ref mo), (1, .int (nI wd)), (2, .int (by_z bm)), (3, .int (by_z bz))]) hx hb d_Mo_lay_121 hl (by decide) rfl (fun ls hl => ?_)
        rw [show nI M.length = nI (by_ap 4096 M (([] : List Nat) ++ by_sg P 0 0)).length by rw [← ly_00 hcr]] at hP hD
        have hLr9 : by_L (by_ap 4096 M (([] : List Nat) ++ by_sg P 0 0)) fr := by rw [← ly_00 hcr]; exact hLr
        refine zz_loop (fun (x : Nat × (Nat → Int32)) H locs ls => match x with | (i2, g2) => va_P (dC, dI) vwCl [(mo, .inr (8, [.int th, .int fd, .ref rt, .int mn, .ref rk, .ref rv, .ref rw, .ref ro, .int (nI (by_ap 4096 M (([] : List Nat) ++ by_sg P 0 i2)).length), .ref rr, .int (nI P.length), .ref ra, .long pz, .int kc, .ref rc, .ref rl, .ref rb, .int la, .int ca])), (ra, .inl (cB, 16400, .inl fa)), (rr, .inl (cB, 4096, .inl g2))] H ∧ va_D A [(mo, .inr (8, [.int th, .int fd, .ref rt, .int mn, .ref rk, .ref rv, .ref rw, .ref ro, .int (nI (by_ap 4096 M (([] : List Nat) ++ by_sg P 0 i2)).length), .ref rr, .int (nI P.length), .ref ra, .long pz, .int kc, .ref rc, .ref rl, .ref rb, .int la, .int ca])), (ra, .inl (cB, 16400, .inl fa)), (rr, .inl (cB, 4096, .inl g2))] ∧ va_S A s.heap H locs ∧ lv_has ls 7 [(0, .ref mo), (1, .int (nI wd)), (2, .int (by_z bm)), (3, .int (by_z bz)), (4, .int (nI (wd - P.length))), (6, .int (nI (0 + i2)))] ∧ by_L (by_ap 4096 M (([] : List Nat) ++ by_sg P 0 i2)) g2 ∧ 0 + i2 ≤ P.length) (fun x => match x with | (i2, g2) => P.length - i2) ?_ (0, fr) ⟨hP.sub [0, 1, 2] rfl, hD.sub [0, 1, 2] (by decide) rfl, hS, lv_sub hl [3, 4, 5, 6, 2, 0] rfl, hLr9, (by omega)⟩
        intro x H locs ls hI ih_123
        obtain ⟨i2, g2⟩ := x
        try dsimp only at hI
        obtain ⟨hP, hD, hS, hl, hRj, hjl⟩ := hI
        refine lv_iload hx hb d_Mo_lay_123 (lv_at hl 5 rfl) ?_
        refine lv_aload_n hx hb d_Mo_lay_125 rfl (lv_at hl 0 rfl) ?_
        refine va_get (D := (dC, dI)) (ci := 8) (v := .int (nI P.length)) (C := "TextForgeModel") (T := TX8) (N := 19) hx hb hg iwX8 hown hK hP 0 rfl rfl 10 (by decide) (hg _ kw_736) (fun _ h9 => h9) rfl d_Mo_lay_126 ?_
        refine lv_icmp_ge (tgt := 149) hx hb d_Mo_lay_129 (by decide) (fun c_129 => ?_) (fun c_129 => ?_)
        · skip
          have f_129 : P.length ≤ (0 + i2) := Nat.le_of_not_lt (fun z => nI_ge (b := P.length) z (by omega) c_129)
          have hje : 0 + i2 = P.length := by omega
          refine lv_iconst (v := 0) hx hb d_Mo_lay_149 (by decide) ?_
          refine lv_istore (lv' := [(6, .int 0), (0, .ref mo), (1, .int (nI wd)), (2, .int (by_z bm)), (3, .int (by_z bz)), (4, .int (nI (wd - P.length)))]) hx hb d_Mo_lay_150 hl (by decide) rfl (fun ls hl => ?_)
          rw [ly_bt hje] at hP hD hRj
          refine zz_loop (fun (x : Nat × (Nat → Int32)) H locs ls => match x with | (i3, g3) => va_P (dC, dI) vwCl [(mo, .inr (8, [.int th, .int fd, .ref rt, .int mn, .ref rk, .ref rv, .ref rw, .ref ro, .int (nI (by_ap 4096 M (P ++ List.replicate i3 32)).length), .ref rr, .int (nI P.length), .ref ra, .long pz, .int kc, .ref rc, .ref rl, .ref rb, .int la, .int ca])), (ra, .inl (cB, 16400, .inl fa)), (rr, .inl (cB, 4096, .inl g3))] H ∧ va_D A [(mo, .inr (8, [.int th, .int fd, .ref rt, .int mn, .ref rk, .ref rv, .ref rw, .ref ro, .int (nI (by_ap 4096 M (P ++ List.replicate i3 32)).length), .ref rr, .int (nI P.length), .ref ra, .long pz, .int kc, .ref rc, .ref rl, .ref rb, .int la, .int ca])), (ra, .inl (cB, 16400, .inl fa)), (rr, .inl (cB, 4096, .inl g3))] ∧ va_S A s.heap H locs ∧ lv_has ls 7 [(0, .ref mo), (1, .int (nI wd)), (2, .int (by_z bm)), (3, .int (by_z bz)), (4, .int (nI (wd - P.length))), (6, .int (nI i3))] ∧ by_L (by_ap 4096 M (P ++ List.replicate i3 32)) g3 ∧ i3 ≤ wd - P.length) (fun x => match x with | (i3, g3) => wd - P.length - i3) ?_ (0, g2) ⟨hP.sub [0, 1, 2] rfl, hD.sub [0, 1, 2] (by decide) rfl, hS, lv_sub hl [1, 2, 3, 4, 5, 0] rfl, hRj, (Nat.zero_le _)⟩
          intro x H locs ls hI ih_152
          obtain ⟨i3, g3⟩ := x
          try dsimp only at hI
          obtain ⟨hP, hD, hS, hl, hRk, hkl⟩ := hI
          refine lv_iload hx hb d_Mo_lay_152 (lv_at hl 5 rfl) ?_
          refine lv_iload hx hb d_Mo_lay_154 (lv_at hl 4 rfl) ?_
          refine lv_icmp_ge (tgt := 175) hx hb d_Mo_lay_156 (by decide) (fun c_156 => ?_) (fun c_156 => ?_)
          · skip
            have f_156 : (wd - P.length) ≤ i3 := Nat.le_of_not_lt (fun z => nI_ge (b := (wd - P.length)) z (by omega) c_156)
            have hP9 := hP.sub (ws' := [(mo, .inr (8, [.int th, .int fd, .ref rt, .int mn, .ref rk, .ref rv, .ref rw, .ref ro, .int (nI (by_ap 4096 M (P ++ List.replicate i3 32)).length), .ref rr, .int (nI P.length), .ref ra, .long pz, .int kc, .ref rc, .ref rl, .ref rb, .int la, .int ca])), (ra, .inl (cB, 16400, .inl fa)), (rr, .inl (cB, 4096, .inl g3))]) [0, 1, 2] rfl
            have hD9 := hD.sub (ws' := [(mo, .inr (8, [.int th, .int fd, .ref rt, .int mn, .ref rk, .ref rv, .ref rw, .ref ro, .int (nI (by_ap 4096 M (P ++ List.replicate i3 32)).length), .ref rr, .int (nI P.length), .ref ra, .long pz, .int kc, .ref rc, .ref rl, .ref rb, .int la, .int ca])), (ra, .inl (cB, 16400, .inl fa)), (rr, .inl (cB, 4096, .inl g3))]) [0, 1, 2] (by decide) rfl
            have hK9 := hK.sub (tys' := [(cB, .byte)]) [0] rfl
            rw [(show (by_ap 4096 M (P ++ List.replicate i3 32)) = by_ap 4096 M (ly_o P wd bm bz) by rw [hbt]; exact ly_et (by omega))] at hP9 hD9
            exact zz_vret hx hb hr hlocks d_Mo_lay_175 hS (by first | exact Nat.le_refl _ | decide | omega | (dsimp only; omega)) (by first | exact Nat.le_refl _ | decide | omega | (dsimp only; omega)) g3 (by rw [← (show (by_ap 4096 M (P ++ List.replicate i3 32)) = by_ap 4096 M (ly_o P wd bm bz) by rw [hbt]; exact ly_et (by omega))]; exact hRk) hP9 hK9 hD9
          · skip
            have f_156 : i3 < (wd - P.length) := Nat.lt_of_not_le (fun z => c_156 (nI_le (a := (wd - P.length)) z (by omega)))
            refine lv_iload_n hx hb d_Mo_lay_159 rfl (lv_at hl 2 rfl) ?_
            refine lv_if_eq (tgt := 175) hx hb d_Mo_lay_160 (by decide) (fun c9 => by first | exact absurd c9 (show ¬ by_z bm = 0 by rw [hbt]; decide) | exact absurd (show ¬ by_z bm = 0 by rw [hbt]; decide) c9) (fun _ => ?_)
            refine lv_aload_n hx hb d_Mo_lay_163 rfl (lv_at hl 0 rfl) ?_
            refine lv_bipush (v := 32) hx hb d_Mo_lay_164 (by decide) ?_
            have hPc := hP.sub (ws' := [(mo, .inr (8, [.int th, .int fd, .ref rt, .int mn, .ref rk, .ref rv, .ref rw, .ref ro, .int (nI (by_ap 4096 M (P ++ List.replicate i3 32)).length), .ref rr, .int (nI P.length), .ref ra, .long pz, .int kc, .ref rc, .ref rl, .ref rb, .int la, .int ca])), (rr, .inl (cB, 4096, .inl g3))]) [0, 2] rfl
            have hKc := hK.sub (tys' := [(cB, .byte)]) [0] rfl
            have hDc := hD.sub (ws' := [(mo, .inr (8, [.int th, .int fd, .ref rt, .int mn, .ref rk, .ref rv, .ref rw, .ref ro, .int (nI (by_ap 4096 M (P ++ List.replicate i3 32)).length), .ref rr, .int (nI P.length), .ref ra, .long pz, .int kc, .ref rc, .ref rl, .ref rb, .int la, .int ca])), (rr, .inl (cB, 4096, .inl g3))]) [0, 2] (by decide) rfl
            have hFc := va_free (wc := [(mo, .inr (8, [.int th, .int fd, .ref rt, .int mn, .ref rk, .ref rv, .ref rw, .ref ro, .int (nI (by_ap 4096 M (P ++ List.replicate i3 32)).length), .ref rr, .int (nI P.length), .ref ra, .long pz, .int kc, .ref rc, .ref rl, .ref rb, .int la, .int ca])), (rr, .inl (cB, 4096, .inl g3))]) hD hS hA [0, 2] rfl
            refine zz_callv (va_runV (As := [.int 32]) (rest := []) ⟨hx, hb, hml, hown, hg⟩ (c_Mo_give l dC dI mo rt rk rv rw ro rr ra rc rl rb th fd mn (nI (by_ap 4096 M (P ++ List.replicate i3 32)).length) (nI P.length) pz kc la ca cB g3 (by_ap 4096 M (P ++ List.replicate i3 32)) 32 hRk (by_ap_len _ _ _) H.size) (cwV 1 hg (gi_V kw_848 kw_850 sw_13 kw_9 kw_851) rfl rfl rfl (by decide +kernel) ⟨Nat.le_of_ble_eq_true rfl, Nat.le_of_ble_eq_true rfl⟩) (zz_preV hPc hKc hDc _ (q0 := 0) (ci := 8) rfl rfl) rfl rfl hl.1 rfl (lv_room (Nat.le_of_ble_eq_true rfl)) d_Mo_lay_166 ⟨Nat.le_of_ble_eq_true rfl, Nat.le_of_ble_eq_true rfl⟩) hS hFc (fun u H1 k9 p9 d9 => va_join (wr := [(ra, .inl (cB, 16400, .inl fa))]) hP hD [0, 2] [1] rfl rfl (by decide) (by decide) k9 hFc p9 d9) (fun u H locs hw hP hD hK1 hS => ?_)
            obtain ⟨u_2, rfl⟩ : ∃ z, z = u := ⟨_, rfl⟩
            try dsimp only at hw
            have hP : va_P (dC, dI) vwCl [(ra, .inl (cB, 16400, .inl fa)), (mo, .inr (8, [.int th, .int fd, .ref rt, .int mn, .ref rk, .ref rv, .ref rw, .ref ro, .int (nI (by_ap 4096 (by_ap 4096 M (P ++ List.replicate i3 32)) [by_b 32]).length), .ref rr, .int (nI P.length), .ref ra, .long pz, .int kc, .ref rc, .ref rl, .ref rb, .int la, .int ca])), (rr, .inl (cB, 4096, .inl u_2))] H := hP
            have hD : va_D A [(ra, .inl (cB, 16400, .inl fa)), (mo, .inr (8, [.int th, .int fd, .ref rt, .int mn, .ref rk, .ref rv, .ref rw, .ref ro, .int (nI (by_ap 4096 (by_ap 4096 M (P ++ List.replicate i3 32)) [by_b 32]).length), .ref rr, .int (nI P.length), .ref ra, .long pz, .int kc, .ref rc, .ref rl, .ref rb, .int la, .int ca])), (rr, .inl (cB, 4096, .inl u_2))] := hD
            have hR_4 := hw
            refine lv_iinc (v := (nI i3) + 1) (lv' := [(6, .int ((nI i3) + 1)), (0, .ref mo), (1, .int (nI wd)), (2, .int (by_z bm)), (3, .int (by_z bz)), (4, .int (nI (wd - P.length)))]) hx hb d_Mo_lay_169 hl (k := 5) rfl rfl (by decide) rfl (fun ls hl => ?_)
            refine lv_goto (tgt := 152) hx hb d_Mo_lay_172 (by decide) ?_
            rw [show ([by_b 32] : List Nat) = [32] from rfl, rp_s] at hP hD hR_4
            rw [nI_1] at hl
            exact ih_152 (i3 + 1, u_2) H locs ls ⟨hP.sub [1, 0, 2] rfl, hD.sub [1, 0, 2] (by decide) rfl, hS, lv_sub hl [1, 2, 3, 4, 5, 0] rfl, hR_4, f_156⟩ (by dsimp only; omega)
        · skip
          have f_129 : (0 + i2) < P.length := Nat.lt_of_not_le (fun z => c_129 (nI_le (a := P.length) z (by omega)))
          refine lv_aload_n hx hb d_Mo_lay_132 rfl (lv_at hl 0 rfl) ?_
          refine lv_aload_n hx hb d_Mo_lay_133 rfl (lv_at hl 0 rfl) ?_
          refine va_get (D := (dC, dI)) (ci := 8) (v := .ref ra) (C := "TextForgeModel") (T := TX8) (N := 19) hx hb hg iwX8 hown hK hP 0 rfl rfl 11 (by decide) (hg _ kw_737) (fun _ h9 => h9) rfl d_Mo_lay_134 ?_
          refine lv_iload hx hb d_Mo_lay_137 (lv_at hl 5 rfl) ?_
          refine va_bald hx hb hK hP 1 0 rfl rfl (vp_in_nI (by omega) (by decide)) d_Mo_lay_139 ?_
          refine lv_topi (fun y_5 ey_5 => ?_)
          have ey_5 : y_5 = (sb_b (P.getD (0 + i2) 0) : Int32) := ey_5.trans (show (fa (nI (0 + i2)).toNatClampNeg) = sb_b (P.getD (0 + i2) 0) from (by rw [nI_clamp (show 0 + i2 < 2 ^ 31 by omega)]; exact (hLa _ f_129).2))
          subst ey_5
          have hPc := hP.sub (ws' := [(mo, .inr (8, [.int th, .int fd, .ref rt, .int mn, .ref rk, .ref rv, .ref rw, .ref ro, .int (nI (by_ap 4096 M (([] : List Nat) ++ by_sg P 0 i2)).length), .ref rr, .int (nI P.length), .ref ra, .long pz, .int kc, .ref rc, .ref rl, .ref rb, .int la, .int ca])), (rr, .inl (cB, 4096, .inl g2))]) [0, 2] rfl
          have hKc := hK.sub (tys' := [(cB, .byte)]) [0] rfl
          have hDc := hD.sub (ws' := [(mo, .inr (8, [.int th, .int fd, .ref rt, .int mn, .ref rk, .ref rv, .ref rw, .ref ro, .int (nI (by_ap 4096 M (([] : List Nat) ++ by_sg P 0 i2)).length), .ref rr, .int (nI P.length), .ref ra, .long pz, .int kc, .ref rc, .ref rl, .ref rb, .int la, .int ca])), (rr, .inl (cB, 4096, .inl g2))]) [0, 2] (by decide) rfl
          have hFc := va_free (wc := [(mo, .inr (8, [.int th, .int fd, .ref rt, .int mn, .ref rk, .ref rv, .ref rw, .ref ro, .int (nI (by_ap 4096 M (([] : List Nat) ++ by_sg P 0 i2)).length), .ref rr, .int (nI P.length), .ref ra, .long pz, .int kc, .ref rc, .ref rl, .ref rb, .int la, .int ca])), (rr, .inl (cB, 4096, .inl g2))]) hD hS hA [0, 2] rfl
          refine zz_callv (va_runV (As := [.int (sb_b (P.getD (0 + i2) 0))]) (rest := []) ⟨hx, hb, hml, hown, hg⟩ (c_Mo_give l dC dI mo rt rk rv rw ro rr ra rc rl rb th fd mn (nI (by_ap 4096 M (([] : List Nat) ++ by_sg P 0 i2)).length) (nI P.length) pz kc la ca cB g2 (by_ap 4096 M (([] : List Nat) ++ by_sg P 0 i2)) (sb_b (P.getD (0 + i2) 0)) hRj (by_ap_len _ _ _) H.size) (cwV 1 hg (gi_V kw_848 kw_850 sw_13 kw_9 kw_851) rfl rfl rfl (by decide +kernel) ⟨Nat.le_of_ble_eq_true rfl, Nat.le_of_ble_eq_true rfl⟩) (zz_preV hPc hKc hDc _ (q0 := 0) (ci := 8) rfl rfl) rfl rfl hl.1 rfl (lv_room (Nat.le_of_ble_eq_true rfl)) d_Mo_lay_140 ⟨Nat.le_of_ble_eq_true rfl, Nat.le_of_ble_eq_true rfl⟩) hS hFc (fun u H1 k9 p9 d9 => va_join (wr := [(ra, .inl (cB, 16400, .inl fa))]) hP hD [0, 2] [1] rfl rfl (by decide) (by decide) k9 hFc p9 d9) (fun u H locs hw hP hD hK1 hS => ?_)
          obtain ⟨u_6, rfl⟩ : ∃ z, z = u := ⟨_, rfl⟩
          try dsimp only at hw
          have hP : va_P (dC, dI) vwCl [(ra, .inl (cB, 16400, .inl fa)), (mo, .inr (8, [.int th, .int fd, .ref rt, .int mn, .ref rk, .ref rv, .ref rw, .ref ro, .int (nI (by_ap 4096 (by_ap 4096 M (([] : List Nat) ++ by_sg P 0 i2)) [by_b (sb_b (P.getD (0 + i2) 0))]).length), .ref rr, .int (nI P.length), .ref ra, .long pz, .int kc, .ref rc, .ref rl, .ref rb, .int la, .int ca])), (rr, .inl (cB, 4096, .inl u_6))] H := hP
          have hD : va_D A [(ra, .inl (cB, 16400, .inl fa)), (mo, .inr (8, [.int th, .int fd, .ref rt, .int mn, .ref rk, .ref rv, .ref rw, .ref ro, .int (nI (by_ap 4096 (by_ap 4096 M (([] : List Nat) ++ by_sg P 0 i2)) [by_b (sb_b (P.getD (0 + i2) 0))]).length), .ref rr, .int (nI P.length), .ref ra, .long pz, .int kc, .ref rc, .ref rl, .ref rb, .int la, .int ca])), (rr, .inl (cB, 4096, .inl u_6))] := hD
          have hR_8 := hw
          refine lv_iinc (v := (nI (0 + i2)) + 1) (lv' := [(6, .int ((nI (0 + i2)) + 1)), (0, .ref mo), (1, .int (nI wd)), (2, .int (by_z bm)), (3, .int (by_z bz)), (4, .int (nI (wd - P.length)))]) hx hb d_Mo_lay_143 hl (k := 5) rfl rfl (by decide) rfl (fun ls hl => ?_)
          refine lv_goto (tgt := 123) hx hb d_Mo_lay_146 (by decide) ?_
          rw [sg_s f_129 (hLa (0 + i2) f_129).1] at hP hD hR_8
          rw [nI_1, Nat.add_assoc] at hl
          exact ih_123 (i2 + 1, u_6) H locs ls ⟨hP.sub [1, 0, 2] rfl, hD.sub [1, 0, 2] (by decide) rfl, hS, lv_sub hl [1, 2, 3, 4, 5, 0] rfl, hR_8, f_129⟩ (by dsimp only; omega)
      · skip
        have hbf : bm = false := by_z_f rfl c_61
        refine lv_iload hx hb d_Mo_lay_64 (lv_at hl 0 rfl) ?_
        refine lv_iconst (v := 1) hx hb d_Mo_lay_66 (by decide) ?_
        refine lv_icmp_ne (tgt := 80) hx hb d_Mo_lay_67 (by decide) (fun _ => ?_) (fun c9 => by first | exact absurd c9 (by decide) | exact absurd (by decide) c9)
        refine lv_iconst (v := 0) hx hb d_Mo_lay_80 (by decide) ?_
        refine lv_istore (lv' := [(6, .int 0), (5, .int 0), (4, .int (nI (wd - P.length))), (0, .ref mo), (1, .int (nI wd)), (2, .int (by_z bm)), (3, .int (by_z bz))]) hx hb d_Mo_lay_81 hl (by decide) rfl (fun ls hl => ?_)
        rw [show nI M.length = nI (by_ap 4096 M (P.take 0 ++ List.replicate 0 (ly_y bz))).length by rw [← ly_0 hcr]] at hP hD
        have hLr9 : by_L (by_ap 4096 M (P.take 0 ++ List.replicate 0 (ly_y bz))) fr := by rw [← ly_0 hcr]; exact hLr
        refine zz_loop (fun (x : Nat × (Nat → Int32)) H locs ls => match x with | (i, g) => va_P (dC, dI) vwCl [(mo, .inr (8, [.int th, .int fd, .ref rt, .int mn, .ref rk, .ref rv, .ref rw, .ref ro, .int (nI (by_ap 4096 M (P.take 0 ++ List.replicate i (ly_y bz))).length), .ref rr, .int (nI P.length), .ref ra, .long pz, .int kc, .ref rc, .ref rl, .ref rb, .int la, .int ca])), (ra, .inl (cB, 16400, .inl fa)), (rr, .inl (cB, 4096, .inl g))] H ∧ va_D A [(mo, .inr (8, [.int th, .int fd, .ref rt, .int mn, .ref rk, .ref rv, .ref rw, .ref ro, .int (nI (by_ap 4096 M (P.take 0 ++ List.replicate i (ly_y bz))).length), .ref rr, .int (nI P.length), .ref ra, .long pz, .int kc, .ref rc, .ref rl, .ref rb, .int la, .int ca])), (ra, .inl (cB, 16400, .inl fa)), (rr, .inl (cB, 4096, .inl g))] ∧ va_S A s.heap H locs ∧ lv_has ls 7 [(0, .ref mo), (1, .int (nI wd)), (2, .int (by_z bm)), (3, .int (by_z bz)), (4, .int (nI (wd - P.length))), (5, .int 0), (6, .int (nI i))] ∧ by_L (by_ap 4096 M (P.take 0 ++ List.replicate i (ly_y bz))) g ∧ i ≤ wd - P.length) (fun x => match x with | (i, g) => wd - P.length - i) ?_ (0, fr) ⟨hP.sub [0, 1, 2] rfl, hD.sub [0, 1, 2] (by decide) rfl, hS, lv_sub hl [3, 4, 5, 6, 2, 1, 0] rfl, hLr9, (Nat.zero_le _)⟩
        intro x H locs ls hI ih_83
        obtain ⟨i, g⟩ := x
        try dsimp only at hI
        obtain ⟨hP, hD, hS, hl, hRi, hil⟩ := hI
        refine lv_iload hx hb d_Mo_lay_83 (lv_at hl 6 rfl) ?_
        refine lv_iload hx hb d_Mo_lay_85 (lv_at hl 4 rfl) ?_
        refine lv_icmp_ge (tgt := 111) hx hb d_Mo_lay_87 (by decide) (fun c_87 => ?_) (fun c_87 => ?_)
        · skip
          have f_87 : (wd - P.length) ≤ i := Nat.le_of_not_lt (fun z => nI_ge (b := (wd - P.length)) z (by omega) c_87)
          refine lv_iload_n hx hb d_Mo_lay_111 rfl (lv_at hl 2 rfl) ?_
          refine lv_if_eq (tgt := 119) hx hb d_Mo_lay_112 (by decide) (fun _ => ?_) (fun c9 => by first | exact absurd c9 (show by_z bm = 0 by rw [hbf]; rfl) | exact absurd (show by_z bm = 0 by rw [hbf]; rfl) c9)
          refine lv_iload hx hb d_Mo_lay_119 (lv_at hl 5 rfl) ?_
          refine lv_istore (lv' := [(6, .int 0), (0, .ref mo), (1, .int (nI wd)), (2, .int (by_z bm)), (3, .int (by_z bz)), (4, .int (nI (wd - P.length))), (5, .int 0)]) hx hb d_Mo_lay_121 hl (by decide) rfl (fun ls hl => ?_)
          have hie : i = wd - P.length := by omega
          rw [hie, ly_a (P := P) (a := 0)] at hP hD hRi
          refine zz_loop (fun (x : Nat × (Nat → Int32)) H locs ls => match x with | (i2, g2) => va_P (dC, dI) vwCl [(mo, .inr (8, [.int th, .int fd, .ref rt, .int mn, .ref rk, .ref rv, .ref rw, .ref ro, .int (nI (by_ap 4096 M ((P.take 0 ++ List.replicate (wd - P.length) (ly_y bz)) ++ by_sg P 0 i2)).length), .ref rr, .int (nI P.length), .ref ra, .long pz, .int kc, .ref rc, .ref rl, .ref rb, .int la, .int ca])), (ra, .inl (cB, 16400, .inl fa)), (rr, .inl (cB, 4096, .inl g2))] H ∧ va_D A [(mo, .inr (8, [.int th, .int fd, .ref rt, .int mn, .ref rk, .ref rv, .ref rw, .ref ro, .int (nI (by_ap 4096 M ((P.take 0 ++ List.replicate (wd - P.length) (ly_y bz)) ++ by_sg P 0 i2)).length), .ref rr, .int (nI P.length), .ref ra, .long pz, .int kc, .ref rc, .ref rl, .ref rb, .int la, .int ca])), (ra, .inl (cB, 16400, .inl fa)), (rr, .inl (cB, 4096, .inl g2))] ∧ va_S A s.heap H locs ∧ lv_has ls 7 [(0, .ref mo), (1, .int (nI wd)), (2, .int (by_z bm)), (3, .int (by_z bz)), (4, .int (nI (wd - P.length))), (6, .int (nI (0 + i2)))] ∧ by_L (by_ap 4096 M ((P.take 0 ++ List.replicate (wd - P.length) (ly_y bz)) ++ by_sg P 0 i2)) g2 ∧ 0 + i2 ≤ P.length) (fun x => match x with | (i2, g2) => P.length - i2) ?_ (0, g) ⟨hP.sub [0, 1, 2] rfl, hD.sub [0, 1, 2] (by decide) rfl, hS, lv_sub hl [1, 2, 3, 4, 5, 0] rfl, hRi, (by omega)⟩
          intro x H locs ls hI ih_123
          obtain ⟨i2, g2⟩ := x
          try dsimp only at hI
          obtain ⟨hP, hD, hS, hl, hRj, hjl⟩ := hI
          refine lv_iload hx hb d_Mo_lay_123 (lv_at hl 5 rfl) ?_
          refine lv_aload_n hx hb d_Mo_lay_125 rfl (lv_at hl 0 rfl) ?_
          refine va_get (D := (dC, dI)) (ci := 8) (v := .int (nI P.length)) (C := "TextForgeModel") (T := TX8) (N := 19) hx hb hg iwX8 hown hK hP 0 rfl rfl 10 (by decide) (hg _ kw_736) (fun _ h9 => h9) rfl d_Mo_lay_126 ?_
          refine lv_icmp_ge (tgt := 149) hx hb d_Mo_lay_129 (by decide) (fun c_129 => ?_) (fun c_129 => ?_)
          · skip
            have f_129 : P.length ≤ (0 + i2) := Nat.le_of_not_lt (fun z => nI_ge (b := P.length) z (by omega) c_129)
            have hje : 0 + i2 = P.length := by omega
            refine lv_iconst (v := 0) hx hb d_Mo_lay_149 (by decide) ?_
            refine lv_istore (lv' := [(6, .int 0), (0, .ref mo), (1, .int (nI wd)), (2, .int (by_z bm)), (3, .int (by_z bz)), (4, .int (nI (wd - P.length)))]) hx hb d_Mo_lay_150 hl (by decide) rfl (fun ls hl => ?_)
            refine lv_iload hx hb d_Mo_lay_152 (lv_at hl 0 rfl) ?_
            refine lv_iload hx hb d_Mo_lay_154 (lv_at hl 5 rfl) ?_
            refine lv_icmp_ge (tgt := 175) hx hb d_Mo_lay_156 (by decide) (fun c_156 => ?_) (fun c_156 => ?_)
            · skip
              have hP9 := hP.sub (ws' := [(mo, .inr (8, [.int th, .int fd, .ref rt, .int mn, .ref rk, .ref rv, .ref rw, .ref ro, .int (nI (by_ap 4096 M ((P.take 0 ++ List.replicate (wd - P.length) (ly_y bz)) ++ by_sg P 0 i2)).length), .ref rr, .int (nI P.length), .ref ra, .long pz, .int kc, .ref rc, .ref rl, .ref rb, .int la, .int ca])), (ra, .inl (cB, 16400, .inl fa)), (rr, .inl (cB, 4096, .inl g2))]) [0, 1, 2] rfl
              have hD9 := hD.sub (ws' := [(mo, .inr (8, [.int th, .int fd, .ref rt, .int mn, .ref rk, .ref rv, .ref rw, .ref ro, .int (nI (by_ap 4096 M ((P.take 0 ++ List.replicate (wd - P.length) (ly_y bz)) ++ by_sg P 0 i2)).length), .ref rr, .int (nI P.length), .ref ra, .long pz, .int kc, .ref rc, .ref rl, .ref rb, .int la, .int ca])), (ra, .inl (cB, 16400, .inl fa)), (rr, .inl (cB, 4096, .inl g2))]) [0, 1, 2] (by decide) rfl
              have hK9 := hK.sub (tys' := [(cB, .byte)]) [0] rfl
              rw [(show (by_ap 4096 M ((P.take 0 ++ List.replicate (wd - P.length) (ly_y bz)) ++ by_sg P 0 i2)) = by_ap 4096 M (ly_o P wd bm bz) by rw [hbf]; exact ly_ef hs hje)] at hP9 hD9
              exact zz_vret hx hb hr hlocks d_Mo_lay_175 hS (by first | exact Nat.le_refl _ | decide | omega | (dsimp only; omega)) (by first | exact Nat.le_refl _ | decide | omega | (dsimp only; omega)) g2 (by rw [← (show (by_ap 4096 M ((P.take 0 ++ List.replicate (wd - P.length) (ly_y bz)) ++ by_sg P 0 i2)) = by_ap 4096 M (ly_o P wd bm bz) by rw [hbf]; exact ly_ef hs hje)]; exact hRj) hP9 hK9 hD9
            · skip
              refine lv_iload_n hx hb d_Mo_lay_159 rfl (lv_at hl 3 rfl) ?_
              refine lv_if_eq (tgt := 175) hx hb d_Mo_lay_160 (by decide) (fun _ => ?_) (fun c9 => by first | exact absurd c9 (show by_z bm = 0 by rw [hbf]; rfl) | exact absurd (show by_z bm = 0 by rw [hbf]; rfl) c9)
              have hP9 := hP.sub (ws' := [(mo, .inr (8, [.int th, .int fd, .ref rt, .int mn, .ref rk, .ref rv, .ref rw, .ref ro, .int (nI (by_ap 4096 M ((P.take 0 ++ List.replicate (wd - P.length) (ly_y bz)) ++ by_sg P 0 i2)).length), .ref rr, .int (nI P.length), .ref ra, .long pz, .int kc, .ref rc, .ref rl, .ref rb, .int la, .int ca])), (ra, .inl (cB, 16400, .inl fa)), (rr, .inl (cB, 4096, .inl g2))]) [0, 1, 2] rfl
              have hD9 := hD.sub (ws' := [(mo, .inr (8, [.int th, .int fd, .ref rt, .int mn, .ref rk, .ref rv, .ref rw, .ref ro, .int (nI (by_ap 4096 M ((P.take 0 ++ List.replicate (wd - P.length) (ly_y bz)) ++ by_sg P 0 i2)).length), .ref rr, .int (nI P.length), .ref ra, .long pz, .int kc, .ref rc, .ref rl, .ref rb, .int la, .int ca])), (ra, .inl (cB, 16400, .inl fa)), (rr, .inl (cB, 4096, .inl g2))]) [0, 1, 2] (by decide) rfl
              have hK9 := hK.sub (tys' := [(cB, .byte)]) [0] rfl
              rw [(show (by_ap 4096 M ((P.take 0 ++ List.replicate (wd - P.length) (ly_y bz)) ++ by_sg P 0 i2)) = by_ap 4096 M (ly_o P wd bm bz) by rw [hbf]; exact ly_ef hs hje)] at hP9 hD9
              exact zz_vret hx hb hr hlocks d_Mo_lay_175 hS (by first | exact Nat.le_refl _ | decide | omega | (dsimp only; omega)) (by first | exact Nat.le_refl _ | decide | omega | (dsimp only; omega)) g2 (by rw [← (show (by_ap 4096 M ((P.take 0 ++ List.replicate (wd - P.length) (ly_y bz)) ++ by_sg P 0 i2)) = by_ap 4096 M (ly_o P wd bm bz) by rw [hbf]; exact ly_ef hs hje)]; exact hRj) hP9 hK9 hD9
          · skip
            have f_129 : (0 + i2) < P.length := Nat.lt_of_not_le (fun z => c_129 (nI_le (a := P.length) z (by omega)))
            refine lv_aload_n hx hb d_Mo_lay_132 rfl (lv_at hl 0 rfl) ?_
            refine lv_aload_n hx hb d_Mo_lay_133 rfl (lv_at hl 0 rfl) ?_
            refine va_get (D := (dC, dI)) (ci := 8) (v := .ref ra) (C := "TextForgeModel") (T := TX8) (N := 19) hx hb hg iwX8 hown hK hP 0 rfl rfl 11 (by decide) (hg _ kw_737) (fun _ h9 => h9) rfl d_Mo_lay_134 ?_
            refine lv_iload hx hb d_Mo_lay_137 (lv_at hl 5 rfl) ?_
            refine va_bald hx hb hK hP 1 0 rfl rfl (vp_in_nI (by omega) (by decide)) d_Mo_lay_139 ?_
            refine lv_topi (fun y_9 ey_9 => ?_)
            have ey_9 : y_9 = (sb_b (P.getD (0 + i2) 0) : Int32) := ey_9.trans (show (fa (nI (0 + i2)).toNatClampNeg) = sb_b (P.getD (0 + i2) 0) from (by rw [nI_clamp (show 0 + i2 < 2 ^ 31 by omega)]; exact (hLa _ f_129).2))
            subst ey_9
            have hPc := hP.sub (ws' := [(mo, .inr (8, [.int th, .int fd, .ref rt, .int mn, .ref rk, .ref rv, .ref rw, .ref ro, .int (nI (by_ap 4096 M ((P.take 0 ++ List.replicate (wd - P.length) (ly_y bz)) ++ by_sg P 0 i2)).length), .ref rr, .int (nI P.length), .ref ra, .long pz, .int kc, .ref rc, .ref rl, .ref rb, .int la, .int ca])), (rr, .inl (cB, 4096, .inl g2))]) [0, 2] rfl
            have hKc := hK.sub (tys' := [(cB, .byte)]) [0] rfl
            have hDc := hD.sub (ws' := [(mo, .inr (8, [.int th, .int fd, .ref rt, .int mn, .ref rk, .ref rv, .ref rw, .ref ro, .int (nI (by_ap 4096 M ((P.take 0 ++ List.replicate (wd - P.length) (ly_y bz)) ++ by_sg P 0 i2)).length), .ref rr, .int (nI P.length), .ref ra, .long pz, .int kc, .ref rc, .ref rl, .ref rb, .int la, .int ca])), (rr, .inl (cB, 4096, .inl g2))]) [0, 2] (by decide) rfl
            have hFc := va_free (wc := [(mo, .inr (8, [.int th, .int fd, .ref rt, .int mn, .ref rk, .ref rv, .ref rw, .ref ro, .int (nI (by_ap 4096 M ((P.take 0 ++ List.replicate (wd - P.length) (ly_y bz)) ++ by_sg P 0 i2)).length), .ref rr, .int (nI P.length), .ref ra, .long pz, .int kc, .ref rc, .ref rl, .ref rb, .int la, .int ca])), (rr, .inl (cB, 4096, .inl g2))]) hD hS hA [0, 2] rfl
            refine zz_callv (va_runV (As := [.int (sb_b (P.getD (0 + i2) 0))]) (rest := []) ⟨hx, hb, hml, hown, hg⟩ (c_Mo_give l dC dI mo rt rk rv rw ro rr ra rc rl rb th fd mn (nI (by_ap 4096 M ((P.take 0 ++ List.replicate (wd - P.length) (ly_y bz)) ++ by_sg P 0 i2)).length) (nI P.length) pz kc la ca cB g2 (by_ap 4096 M ((P.take 0 ++ List.replicate (wd - P.length) (ly_y bz)) ++ by_sg P 0 i2)) (sb_b (P.getD (0 + i2) 0)) hRj (by_ap_len _ _ _) H.size) (cwV 1 hg (gi_V kw_848 kw_850 sw_13 kw_9 kw_851) rfl rfl rfl (by decide +kernel) ⟨Nat.le_of_ble_eq_true rfl, Nat.le_of_ble_eq_true rfl⟩) (zz_preV hPc hKc hDc _ (q0 := 0) (ci := 8) rfl rfl) rfl rfl hl.1 rfl (lv_room (Nat.le_of_ble_eq_true rfl)) d_Mo_lay_140 ⟨Nat.le_of_ble_eq_true rfl, Nat.le_of_ble_eq_true rfl⟩) hS hFc (fun u H1 k9 p9 d9 => va_join (wr := [(ra, .inl (cB, 16400, .inl fa))]) hP hD [0, 2] [1] rfl rfl (by decide) (by decide) k9 hFc p9 d9) (fun u H locs hw hP hD hK1 hS => ?_)
            obtain ⟨u_10, rfl⟩ : ∃ z, z = u := ⟨_, rfl⟩
            try dsimp only at hw
            have hP : va_P (dC, dI) vwCl [(ra, .inl (cB, 16400, .inl fa)), (mo, .inr (8, [.int th, .int fd, .ref rt, .int mn, .ref rk, .ref rv, .ref rw, .ref ro, .int (nI (by_ap 4096 (by_ap 4096 M ((P.take 0 ++ List.replicate (wd - P.length) (ly_y bz)) ++ by_sg P 0 i2)) [by_b (sb_b (P.getD (0 + i2) 0))]).length), .ref rr, .int (nI P.length), .ref ra, .long pz, .int kc, .ref rc, .ref rl, .ref rb, .int la, .int ca])), (rr, .inl (cB, 4096, .inl u_10))] H := hP
            have hD : va_D A [(ra, .inl (cB, 16400, .inl fa)), (mo, .inr (8, [.int th, .int fd, .ref rt, .int mn, .ref rk, .ref rv, .ref rw, .ref ro, .int (nI (by_ap 4096 (by_ap 4096 M ((P.take 0 ++ List.replicate (wd - P.length) (ly_y bz)) ++ by_sg P 0 i2)) [by_b (sb_b (P.getD (0 + i2) 0))]).length), .ref rr, .int (nI P.length), .ref ra, .long pz, .int kc, .ref rc, .ref rl, .ref rb, .int la, .int ca])), (rr, .inl (cB, 4096, .inl u_10))] := hD
            have hR_12 := hw
            refine lv_iinc (v := (nI (0 + i2)) + 1) (lv' := [(6, .int ((nI (0 + i2)) + 1)), (0, .ref mo), (1, .int (nI wd)), (2, .int (by_z bm)), (3, .int (by_z bz)), (4, .int (nI (wd - P.length)))]) hx hb d_Mo_lay_143 hl (k := 5) rfl rfl (by decide) rfl (fun ls hl => ?_)
            refine lv_goto (tgt := 123) hx hb d_Mo_lay_146 (by decide) ?_
            rw [sg_s f_129 (hLa (0 + i2) f_129).1] at hP hD hR_12
            rw [nI_1, Nat.add_assoc] at hl
            exact ih_123 (i2 + 1, u_10) H locs ls ⟨hP.sub [1, 0, 2] rfl, hD.sub [1, 0, 2] (by decide) rfl, hS, lv_sub hl [1, 2, 3, 4, 5, 0] rfl, hR_12, f_129⟩ (by dsimp only; omega)
        · skip
          have f_87 : i < (wd - P.length) := Nat.lt_of_not_le (fun z => c_87 (nI_le (a := (wd - P.length)) z (by omega)))
          refine lv_aload_n hx hb d_Mo_lay_90 rfl (lv_at hl 0 rfl) ?_
          refine lv_iload_n hx hb d_Mo_lay_91 rfl (lv_at hl 3 rfl) ?_
          refine lv_if_eq (tgt := 100) hx hb d_Mo_lay_92 (by decide) (fun _ => ?_) (fun c9 => by first | exact absurd c9 (show by_z bz = 0 by rw [hz]; rfl) | exact absurd (show by_z bz = 0 by rw [hz]; rfl) c9)
          refine lv_bipush (v := 32) hx hb d_Mo_lay_100 (by decide) ?_
          have hPc := hP.sub (ws' := [(mo, .inr (8, [.int th, .int fd, .ref rt, .int mn, .ref rk, .ref rv, .ref rw, .ref ro, .int (nI (by_ap 4096 M (P.take 0 ++ List.replicate i (ly_y bz))).length), .ref rr, .int (nI P.length), .ref ra, .long pz, .int kc, .ref rc, .ref rl, .ref rb, .int la, .int ca])), (rr, .inl (cB, 4096, .inl g))]) [0, 2] rfl
          have hKc := hK.sub (tys' := [(cB, .byte)]) [0] rfl
          have hDc := hD.sub (ws' := [(mo, .inr (8, [.int th, .int fd, .ref rt, .int mn, .ref rk, .ref rv, .ref rw, .ref ro, .int (nI (by_ap 4096 M (P.take 0 ++ List.replicate i (ly_y bz))).length), .ref rr, .int (nI P.length), .ref ra, .long pz, .int kc, .ref rc, .ref rl, .ref rb, .int la, .int ca])), (rr, .inl (cB, 4096, .inl g))]) [0, 2] (by decide) rfl
          have hFc := va_free (wc := [(mo, .inr (8, [.int th, .int fd, .ref rt, .int mn, .ref rk, .ref rv, .ref rw, .ref ro, .int (nI (by_ap 4096 M (P.take 0 ++ List.replicate i (ly_y bz))).length), .ref rr, .int (nI P.length), .ref ra, .long pz, .int kc, .ref rc, .ref rl, .ref rb, .int la, .int ca])), (rr, .inl (cB, 4096, .inl g))]) hD hS hA [0, 2] rfl
          refine zz_callv (va_runV (As := [.int 32]) (rest := []) ⟨hx, hb, hml, hown, hg⟩ (c_Mo_give l dC dI mo rt rk rv rw ro rr ra rc rl rb th fd mn (nI (by_ap 4096 M (P.take 0 ++ List.replicate i (ly_y bz))).length) (nI P.length) pz kc la ca cB g (by_ap 4096 M (P.take 0 ++ List.replicate i (ly_y bz))) 32 hRi (by_ap_len _ _ _) H.size) (cwV 1 hg (gi_V kw_848 kw_850 sw_13 kw_9 kw_851) rfl rfl rfl (by decide +kernel) ⟨Nat.le_of_ble_eq_true rfl, Nat.le_of_ble_eq_true rfl⟩) (zz_preV hPc hKc hDc _ (q0 := 0) (ci := 8) rfl rfl) rfl rfl hl.1 rfl (lv_room (Nat.le_of_ble_eq_true rfl)) d_Mo_lay_102 ⟨Nat.le_of_ble_eq_true rfl, Nat.le_of_ble_eq_true rfl⟩) hS hFc (fun u H1 k9 p9 d9 => va_join (wr := [(ra, .inl (cB, 16400, .inl fa))]) hP hD [0, 2] [1] rfl rfl (by decide) (by decide) k9 hFc p9 d9) (fun u H locs hw hP hD hK1 hS => ?_)
          obtain ⟨u_13, rfl⟩ : ∃ z, z = u := ⟨_, rfl⟩
          try dsimp only at hw
          have hP : va_P (dC, dI) vwCl [(ra, .inl (cB, 16400, .inl fa)), (mo, .inr (8, [.int th, .int fd, .ref rt, .int mn, .ref rk, .ref rv, .ref rw, .ref ro, .int (nI (by_ap 4096 (by_ap 4096 M (P.take 0 ++ List.replicate i (ly_y bz))) [by_b 32]).length), .ref rr, .int (nI P.length), .ref ra, .long pz, .int kc, .ref rc, .ref rl, .ref rb, .int la, .int ca])), (rr, .inl (cB, 4096, .inl u_13))] H := hP
          have hD : va_D A [(ra, .inl (cB, 16400, .inl fa)), (mo, .inr (8, [.int th, .int fd, .ref rt, .int mn, .ref rk, .ref rv, .ref rw, .ref ro, .int (nI (by_ap 4096 (by_ap 4096 M (P.take 0 ++ List.replicate i (ly_y bz))) [by_b 32]).length), .ref rr, .int (nI P.length), .ref ra, .long pz, .int kc, .ref rc, .ref rl, .ref rb, .int la, .int ca])), (rr, .inl (cB, 4096, .inl u_13))] := hD
          have hR_15 := hw
          refine lv_iinc (v := (nI i) + 1) (lv' := [(6, .int ((nI i) + 1)), (0, .ref mo), (1, .int (nI wd)), (2, .int (by_z bm)), (3, .int (by_z bz)), (4, .int (nI (wd - P.length))), (5, .int 0)]) hx hb d_Mo_lay_105 hl (k := 6) rfl rfl (by decide) rfl (fun ls hl => ?_)
          refine lv_goto (tgt := 83) hx hb d_Mo_lay_108 (by decide) ?_
          rw [show ([by_b 32] : List Nat) = [ly_y bz] by rw [hz]; rfl, rp_s] at hP hD hR_15
          rw [nI_1] at hl
          exact ih_83 (i + 1, u_13) H locs ls ⟨hP.sub [1, 0, 2] rfl, hD.sub [1, 0, 2] (by decide) rfl, hS, lv_sub hl [1, 2, 3, 4, 5, 6, 0] rfl, hR_15, f_87⟩ (by dsimp only; omega)
    · skip
      have hz : bz = true := by_z_t rfl c_21
      have hp0 := hP0 hz
      have hbf : bm = false := hbz hz
      have hb0 := (hLa 0 hp0).1
      refine lv_aload_n hx hb d_Mo_lay_24 rfl (lv_at hl 1 rfl) ?_
      refine va_get (D := (dC, dI)) (ci := 8) (v := .int (nI P.length)) (C := "TextForgeModel") (T := TX8) (N := 19) hx hb hg iwX8 hown hK hP 0 rfl rfl 10 (by decide) (hg _ kw_736) (fun _ h9 => h9) rfl d_Mo_lay_25 ?_
      refine lv_if_le (tgt := 57) hx hb d_Mo_lay_28 (by decide) (fun c9 => by first | exact absurd c9 (fun z => absurd ((nI_leI (b := 0) (by omega) (by decide)).mp z) (by omega)) | exact absurd (fun z => absurd ((nI_leI (b := 0) (by omega) (by decide)).mp z) (by omega)) c9) (fun _ => ?_)
      refine lv_aload_n hx hb d_Mo_lay_31 rfl (lv_at hl 1 rfl) ?_
      refine va_get (D := (dC, dI)) (ci := 8) (v := .ref ra) (C := "TextForgeModel") (T := TX8) (N := 19) hx hb hg iwX8 hown hK hP 0 rfl rfl 11 (by decide) (hg _ kw_737) (fun _ h9 => h9) rfl d_Mo_lay_32 ?_
      refine lv_iconst (v := 0) hx hb d_Mo_lay_35 (by decide) ?_
      refine va_bald hx hb hK hP 1 0 rfl rfl (show vp_in (nI 0) 16400 from vp_in_nI (by decide) (by decide)) d_Mo_lay_36 ?_
      refine lv_topi (fun y_16 ey_16 => ?_)
      have ey_16 : y_16 = (sb_b (P.getD 0 0) : Int32) := ey_16.trans (show (fa (0 : Int32).toNatClampNeg) = sb_b (P.getD 0 0) from (hLa 0 hp0).2)
      subst ey_16
      refine lv_bipush (v := 45) hx hb d_Mo_lay_37 (by decide) ?_
      refine lv_icmp_eq (tgt := 53) hx hb d_Mo_lay_39 (by decide) (fun c_39 => ?_) (fun c_39 => ?_)
      · skip
        have f_39 : P.getD 0 0 = 45 := sb_e1 (k := 45) hb0 (by decide) c_39
        have hs : ly_s P bz = 1 := if_pos ⟨hz, (Or.inl f_39)⟩
        refine lv_iconst (v := 1) hx hb d_Mo_lay_53 (by decide) ?_
        refine lv_goto (tgt := 58) hx hb d_Mo_lay_54 (by decide) ?_
        refine lv_istore (lv' := [(5, .int 1), (4, .int (nI (wd - P.length))), (0, .ref mo), (1, .int (nI wd)), (2, .int (by_z bm)), (3, .int (by_z bz))]) hx hb d_Mo_lay_58 hl (by decide) rfl (fun ls hl => ?_)
        refine lv_iload_n hx hb d_Mo_lay_60 rfl (lv_at hl 4 rfl) ?_
        refine lv_if_ne (tgt := 111) hx hb d_Mo_lay_61 (by decide) (fun c9 => by first | exact absurd c9 (show by_z bm = 0 by rw [hbf]; rfl) | exact absurd (show by_z bm = 0 by rw [hbf]; rfl) c9) (fun _ => ?_)
        refine lv_iload hx hb d_Mo_lay_64 (lv_at hl 0 rfl) ?_
        refine lv_iconst (v := 1) hx hb d_Mo_lay_66 (by decide) ?_
        refine lv_icmp_ne (tgt := 80) hx hb d_Mo_lay_67 (by decide) (fun c9 => by first | exact absurd c9 (by decide) | exact absurd (by decide) c9) (fun _ => ?_)
        refine lv_aload_n hx hb d_Mo_lay_70 rfl (lv_at hl 2 rfl) ?_
        refine lv_aload_n hx hb d_Mo_lay_71 rfl (lv_at hl 2 rfl) ?_
        refine va_get (D := (dC, dI)) (ci := 8) (v := .ref ra) (C := "TextForgeModel") (T := TX8) (N := 19) hx hb hg iwX8 hown hK hP 0 rfl rfl 11 (by decide) (hg _ kw_737) (fun _ h9 => h9) rfl d_Mo_lay_72 ?_
        refine lv_iconst (v := 0) hx hb d_Mo_lay_75 (by decide) ?_
        refine va_bald hx hb hK hP 1 0 rfl rfl (show vp_in (nI 0) 16400 from vp_in_nI (by decide) (by decide)) d_Mo_lay_76 ?_
        refine lv_topi (fun y_17 ey_17 => ?_)
        have ey_17 : y_17 = (sb_b (P.getD 0 0) : Int32) := ey_17.trans (show (fa (0 : Int32).toNatClampNeg) = sb_b (P.getD 0 0) from (hLa 0 hp0).2)
        subst ey_17
        have hPc := hP.sub (ws' := [(mo, .inr (8, [.int th, .int fd, .ref rt, .int mn, .ref rk, .ref rv, .ref rw, .ref ro, .int (nI M.length), .ref rr, .int (nI P.length), .ref ra, .long pz, .int kc, .ref rc, .ref rl, .ref rb, .int la, .int ca])), (rr, .inl (cB, 4096, .inl fr))]) [0, 2] rfl
        have hKc := hK.sub (tys' := [(cB, .byte)]) [0] rfl
        have hDc := hD.sub (ws' := [(mo, .inr (8, [.int th, .int fd, .ref rt, .int mn, .ref rk, .ref rv, .ref rw, .ref ro, .int (nI M.length), .ref rr, .int (nI P.length), .ref ra, .long pz, .int kc, .ref rc, .ref rl, .ref rb, .int la, .int ca])), (rr, .inl (cB, 4096, .inl fr))]) [0, 2] (by decide) rfl
        have hFc := va_free (wc := [(mo, .inr (8, [.int th, .int fd, .ref rt, .int mn, .ref rk, .ref rv, .ref rw, .ref ro, .int (nI M.length), .ref rr, .int (nI P.length), .ref ra, .long pz, .int kc, .ref rc, .ref rl, .ref rb, .int la, .int ca])), (rr, .inl (cB, 4096, .inl fr))]) hD hS hA [0, 2] rfl
        refine zz_callv (va_runV (As := [.int (sb_b (P.getD 0 0))]) (rest := []) ⟨hx, hb, hml, hown, hg⟩ (c_Mo_give l dC dI mo rt rk rv rw ro rr ra rc rl rb th fd mn (nI M.length) (nI P.length) pz kc la ca cB fr M (sb_b (P.getD 0 0)) hLr hcr s.heap.size) (cwV 1 hg (gi_V kw_848 kw_850 sw_13 kw_9 kw_851) rfl rfl rfl (by decide +kernel) ⟨Nat.le_of_ble_eq_true rfl, Nat.le_of_ble_eq_true rfl⟩) (zz_preV hPc hKc hDc _ (q0 := 0) (ci := 8) rfl rfl) rfl rfl hl.1 rfl (lv_room (Nat.le_of_ble_eq_true rfl)) d_Mo_lay_77 ⟨Nat.le_of_ble_eq_true rfl, Nat.le_of_ble_eq_true rfl⟩) hS hFc (fun u H1 k9 p9 d9 => va_join (wr := [(ra, .inl (cB, 16400, .inl fa))]) hP hD [0, 2] [1] rfl rfl (by decide) (by decide) k9 hFc p9 d9) (fun u H locs hw hP hD hK1 hS => ?_)
        obtain ⟨u_18, rfl⟩ : ∃ z, z = u := ⟨_, rfl⟩
        try dsimp only at hw
        have hP : va_P (dC, dI) vwCl [(ra, .inl (cB, 16400, .inl fa)), (mo, .inr (8, [.int th, .int fd, .ref rt, .int mn, .ref rk, .ref rv, .ref rw, .ref ro, .int (nI (by_ap 4096 M [by_b (sb_b (P.getD 0 0))]).length), .ref rr, .int (nI P.length), .ref ra, .long pz, .int kc, .ref rc, .ref rl, .ref rb, .int la, .int ca])), (rr, .inl (cB, 4096, .inl u_18))] H := hP
        have hD : va_D A [(ra, .inl (cB, 16400, .inl fa)), (mo, .inr (8, [.int th, .int fd, .ref rt, .int mn, .ref rk, .ref rv, .ref rw, .ref ro, .int (nI (by_ap 4096 M [by_b (sb_b (P.getD 0 0))]).length), .ref rr, .int (nI P.length), .ref ra, .long pz, .int kc, .ref rc, .ref rl, .ref rb, .int la, .int ca])), (rr, .inl (cB, 4096, .inl u_18))] := hD
        have hR_20 := hw
        refine lv_iconst (v := 0) hx hb d_Mo_lay_80 (by decide) ?_
        refine lv_istore (lv' := [(6, .int 0), (5, .int 1), (4, .int (nI (wd - P.length))), (0, .ref mo), (1, .int (nI wd)), (2, .int (by_z bm)), (3, .int (by_z bz))]) hx hb d_Mo_lay_81 hl (by decide) rfl (fun ls hl => ?_)
        rw [ly_1 (y := ly_y bz) hp0 hb0] at hP hD hR_20
        refine zz_loop (fun (x : Nat × (Nat → Int32)) H locs ls => match x with | (i, g) => va_P (dC, dI) vwCl [(mo, .inr (8, [.int th, .int fd, .ref rt, .int mn, .ref rk, .ref rv, .ref rw, .ref ro, .int (nI (by_ap 4096 M (P.take 1 ++ List.replicate i (ly_y bz))).length), .ref rr, .int (nI P.length), .ref ra, .long pz, .int kc, .ref rc, .ref rl, .ref rb, .int la, .int ca])), (ra, .inl (cB, 16400, .inl fa)), (rr, .inl (cB, 4096, .inl g))] H ∧ va_D A [(mo, .inr (8, [.int th, .int fd, .ref rt, .int mn, .ref rk, .ref rv, .ref rw, .ref ro, .int (nI (by_ap 4096 M (P.take 1 ++ List.replicate i (ly_y bz))).length), .ref rr, .int (nI P.length), .ref ra, .long pz, .int kc, .ref rc, .ref rl, .ref rb, .int la, .int ca])), (ra, .inl (cB, 16400, .inl fa)), (rr, .inl (cB, 4096, .inl g))] ∧ va_S A s.heap H locs ∧ lv_has ls 7 [(0, .ref mo), (1, .int (nI wd)), (2, .int (by_z bm)), (3, .int (by_z bz)), (4, .int (nI (wd - P.length))), (5, .int 1), (6, .int (nI i))] ∧ by_L (by_ap 4096 M (P.take 1 ++ List.replicate i (ly_y bz))) g ∧ i ≤ wd - P.length) (fun x => match x with | (i, g) => wd - P.length - i) ?_ (0, u_18) ⟨hP.sub [1, 0, 2] rfl, hD.sub [1, 0, 2] (by decide) rfl, hS, lv_sub hl [3, 4, 5, 6, 2, 1, 0] rfl, hR_20, (Nat.zero_le _)⟩
        intro x H locs ls hI ih_83
        obtain ⟨i, g⟩ := x
        try dsimp only at hI
        obtain ⟨hP, hD, hS, hl, hRi, hil⟩ := hI
        refine lv_iload hx hb d_Mo_lay_83 (lv_at hl 6 rfl) ?_
        refine lv_iload hx hb d_Mo_lay_85 (lv_at hl 4 rfl) ?_
        refine lv_icmp_ge (tgt := 111) hx hb d_Mo_lay_87 (by decide) (fun c_87 => ?_) (fun c_87 => ?_)
        · skip
          have f_87 : (wd - P.length) ≤ i := Nat.le_of_not_lt (fun z => nI_ge (b := (wd - P.length)) z (by omega) c_87)
          refine lv_iload_n hx hb d_Mo_lay_111 rfl (lv_at hl 2 rfl) ?_
          refine lv_if_eq (tgt := 119) hx hb d_Mo_lay_112 (by decide) (fun _ => ?_) (fun c9 => by first | exact absurd c9 (show by_z bm = 0 by rw [hbf]; rfl) | exact absurd (show by_z bm = 0 by rw [hbf]; rfl) c9)
          refine lv_iload hx hb d_Mo_lay_119 (lv_at hl 5 rfl) ?_
          refine lv_istore (lv' := [(6, .int 1), (0, .ref mo), (1, .int (nI wd)), (2, .int (by_z bm)), (3, .int (by_z bz)), (4, .int (nI (wd - P.length))), (5, .int 1)]) hx hb d_Mo_lay_121 hl (by decide) rfl (fun ls hl => ?_)
          have hie : i = wd - P.length := by omega
          rw [hie, ly_a (P := P) (a := 1)] at hP hD hRi
          refine zz_loop (fun (x : Nat × (Nat → Int32)) H locs ls => match x with | (i2, g2) => va_P (dC, dI) vwCl [(mo, .inr (8, [.int th, .int fd, .ref rt, .int mn, .ref rk, .ref rv, .ref rw, .ref ro, .int (nI (by_ap 4096 M ((P.take 1 ++ List.replicate (wd - P.length) (ly_y bz)) ++ by_sg P 1 i2)).length), .ref rr, .int (nI P.length), .ref ra, .long pz, .int kc, .ref rc, .ref rl, .ref rb, .int la, .int ca])), (ra, .inl (cB, 16400, .inl fa)), (rr, .inl (cB, 4096, .inl g2))] H ∧ va_D A [(mo, .inr (8, [.int th, .int fd, .ref rt, .int mn, .ref rk, .ref rv, .ref rw, .ref ro, .int (nI (by_ap 4096 M ((P.take 1 ++ List.replicate (wd - P.length) (ly_y bz)) ++ by_sg P 1 i2)).length), .ref rr, .int (nI P.length), .ref ra, .long pz, .int kc, .ref rc, .ref rl, .ref rb, .int la, .int ca])), (ra, .inl (cB, 16400, .inl fa)), (rr, .inl (cB, 4096, .inl g2))] ∧ va_S A s.heap H locs ∧ lv_has ls 7 [(0, .ref mo), (1, .int (nI wd)), (2, .int (by_z bm)), (3, .int (by_z bz)), (4, .int (nI (wd - P.length))), (6, .int (nI (1 + i2)))] ∧ by_L (by_ap 4096 M ((P.take 1 ++ List.replicate (wd - P.length) (ly_y bz)) ++ by_sg P 1 i2)) g2 ∧ 1 + i2 ≤ P.length) (fun x => match x with | (i2, g2) => P.length - i2) ?_ (0, g) ⟨hP.sub [0, 1, 2] rfl, hD.sub [0, 1, 2] (by decide) rfl, hS, lv_sub hl [1, 2, 3, 4, 5, 0] rfl, hRi, (by omega)⟩
          intro x H locs ls hI ih_123
          obtain ⟨i2, g2⟩ := x
          try dsimp only at hI
          obtain ⟨hP, hD, hS, hl, hRj, hjl⟩ := hI
          refine lv_iload hx hb d_Mo_lay_123 (lv_at hl 5 rfl) ?_
          refine lv_aload_n hx hb d_Mo_lay_125 rfl (lv_at hl 0 rfl) ?_
          refine va_get (D := (dC, dI)) (ci := 8) (v := .int (nI P.length)) (C := "TextForgeModel") (T := TX8) (N := 19) hx hb hg iwX8 hown hK hP 0 rfl rfl 10 (by decide) (hg _ kw_736) (fun _ h9 => h9) rfl d_Mo_lay_126 ?_
          refine lv_icmp_ge (tgt := 149) hx hb d_Mo_lay_129 (by decide) (fun c_129 => ?_) (fun c_129 => ?_)
          · skip
            have f_129 : P.length ≤ (1 + i2) := Nat.le_of_not_lt (fun z => nI_ge (b := P.length) z (by omega) c_129)
            have hje : 1 + i2 = P.length := by omega
            refine lv_iconst (v := 0) hx hb d_Mo_lay_149 (by decide) ?_
            refine lv_istore (lv' := [(6, .int 0), (0, .ref mo), (1, .int (nI wd)), (2, .int (by_z bm)), (3, .int (by_z bz)), (4, .int (nI (wd - P.length)))]) hx hb d_Mo_lay_150 hl (by decide) rfl (fun ls hl => ?_)
            refine lv_iload hx hb d_Mo_lay_152 (lv_at hl 0 rfl) ?_
            refine lv_iload hx hb d_Mo_lay_154 (lv_at hl 5 rfl) ?_
            refine lv_icmp_ge (tgt := 175) hx hb d_Mo_lay_156 (by decide) (fun c_156 => ?_) (fun c_156 => ?_)
            · skip
              have hP9 := hP.sub (ws' := [(mo, .inr (8, [.int th, .int fd, .ref rt, .int mn, .ref rk, .ref rv, .ref rw, .ref ro, .int (nI (by_ap 4096 M ((P.take 1 ++ List.replicate (wd - P.length) (ly_y bz)) ++ by_sg P 1 i2)).length), .ref rr, .int (nI P.length), .ref ra, .long pz, .int kc, .ref rc, .ref rl, .ref rb, .int la, .int ca])), (ra, .inl (cB, 16400, .inl fa)), (rr, .inl (cB, 4096, .inl g2))]) [0, 1, 2] rfl
              have hD9 := hD.sub (ws' := [(mo, .inr (8, [.int th, .int fd, .ref rt, .int mn, .ref rk, .ref rv, .ref rw, .ref ro, .int (nI (by_ap 4096 M ((P.take 1 ++ List.replicate (wd - P.length) (ly_y bz)) ++ by_sg P 1 i2)).length), .ref rr, .int (nI P.length), .ref ra, .long pz, .int kc, .ref rc, .ref rl, .ref rb, .int la, .int ca])), (ra, .inl (cB, 16400, .inl fa)), (rr, .inl (cB, 4096, .inl g2))]) [0, 1, 2] (by decide) rfl
              have hK9 := hK.sub (tys' := [(cB, .byte)]) [0] rfl
              rw [(show (by_ap 4096 M ((P.take 1 ++ List.replicate (wd - P.length) (ly_y bz)) ++ by_sg P 1 i2)) = by_ap 4096 M (ly_o P wd bm bz) by rw [hbf]; exact ly_ef hs hje)] at hP9 hD9
              exact zz_vret hx hb hr hlocks d_Mo_lay_175 hS (by first | exact Nat.le_refl _ | decide | omega | (dsimp only; omega)) (by first | exact Nat.le_refl _ | decide | omega | (dsimp only; omega)) g2 (by rw [← (show (by_ap 4096 M ((P.take 1 ++ List.replicate (wd - P.length) (ly_y bz)) ++ by_sg P 1 i2)) = by_ap 4096 M (ly_o P wd bm bz) by rw [hbf]; exact ly_ef hs hje)]; exact hRj) hP9 hK9 hD9
            · skip
              refine lv_iload_n hx hb d_Mo_lay_159 rfl (lv_at hl 3 rfl) ?_
              refine lv_if_eq (tgt := 175) hx hb d_Mo_lay_160 (by decide) (fun _ => ?_) (fun c9 => by first | exact absurd c9 (show by_z bm = 0 by rw [hbf]; rfl) | exact absurd (show by_z bm = 0 by rw [hbf]; rfl) c9)
              have hP9 := hP.sub (ws' := [(mo, .inr (8, [.int th, .int fd, .ref rt, .int mn, .ref rk, .ref rv, .ref rw, .ref ro, .int (nI (by_ap 4096 M ((P.take 1 ++ List.replicate (wd - P.length) (ly_y bz)) ++ by_sg P 1 i2)).length), .ref rr, .int (nI P.length), .ref ra, .long pz, .int kc, .ref rc, .ref rl, .ref rb, .int la, .int ca])), (ra, .inl (cB, 16400, .inl fa)), (rr, .inl (cB, 4096, .inl g2))]) [0, 1, 2] rfl
              have hD9 := hD.sub (ws' := [(mo, .inr (8, [.int th, .int fd, .ref rt, .int mn, .ref rk, .ref rv, .ref rw, .ref ro, .int (nI (by_ap 4096 M ((P.take 1 ++ List.replicate (wd - P.length) (ly_y bz)) ++ by_sg P 1 i2)).length), .ref rr, .int (nI P.length), .ref ra, .long pz, .int kc, .ref rc, .ref rl, .ref rb, .int la, .int ca])), (ra, .inl (cB, 16400, .inl fa)), (rr, .inl (cB, 4096, .inl g2))]) [0, 1, 2] (by decide) rfl
              have hK9 := hK.sub (tys' := [(cB, .byte)]) [0] rfl
              rw [(show (by_ap 4096 M ((P.take 1 ++ List.replicate (wd - P.length) (ly_y bz)) ++ by_sg P 1 i2)) = by_ap 4096 M (ly_o P wd bm bz) by rw [hbf]; exact ly_ef hs hje)] at hP9 hD9
              exact zz_vret hx hb hr hlocks d_Mo_lay_175 hS (by first | exact Nat.le_refl _ | decide | omega | (dsimp only; omega)) (by first | exact Nat.le_refl _ | decide | omega | (dsimp only; omega)) g2 (by rw [← (show (by_ap 4096 M ((P.take 1 ++ List.replicate (wd - P.length) (ly_y bz)) ++ by_sg P 1 i2)) = by_ap 4096 M (ly_o P wd bm bz) by rw [hbf]; exact ly_ef hs hje)]; exact hRj) hP9 hK9 hD9
          · skip
            have f_129 : (1 + i2) < P.length := Nat.lt_of_not_le (fun z => c_129 (nI_le (a := P.length) z (by omega)))
            refine lv_aload_n hx hb d_Mo_lay_132 rfl (lv_at hl 0 rfl) ?_
            refine lv_aload_n hx hb d_Mo_lay_133 rfl (lv_at hl 0 rfl) ?_
            refine va_get (D := (dC, dI)) (ci := 8) (v := .ref ra) (C := "TextForgeModel") (T := TX8) (N := 19) hx hb hg iwX8 hown hK hP 0 rfl rfl 11 (by decide) (hg _ kw_737) (fun _ h9 => h9) rfl d_Mo_lay_134 ?_
            refine lv_iload hx hb d_Mo_lay_137 (lv_at hl 5 rfl) ?_
            refine va_bald hx hb hK hP 1 0 rfl rfl (vp_in_nI (by omega) (by decide)) d_Mo_lay_139 ?_
            refine lv_topi (fun y_21 ey_21 => ?_)
            have ey_21 : y_21 = (sb_b (P.getD (1 + i2) 0) : Int32) := ey_21.trans (show (fa (nI (1 + i2)).toNatClampNeg) = sb_b (P.getD (1 + i2) 0) from (by rw [nI_clamp (show 1 + i2 < 2 ^ 31 by omega)]; exact (hLa _ f_129).2))
            subst ey_21
            have hPc := hP.sub (ws' := [(mo, .inr (8, [.int th, .int fd, .ref rt, .int mn, .ref rk, .ref rv, .ref rw, .ref ro, .int (nI (by_ap 4096 M ((P.take 1 ++ List.replicate (wd - P.length) (ly_y bz)) ++ by_sg P 1 i2)).length), .ref rr, .int (nI P.length), .ref ra, .long pz, .int kc, .ref rc, .ref rl, .ref rb, .int la, .int ca])), (rr, .inl (cB, 4096, .inl g2))]) [0, 2] rfl
            have hKc := hK.sub (tys' := [(cB, .byte)]) [0] rfl
            have hDc := hD.sub (ws' := [(mo, .inr (8, [.int th, .int fd, .ref rt, .int mn, .ref rk, .ref rv, .ref rw, .ref ro, .int (nI (by_ap 4096 M ((P.take 1 ++ List.replicate (wd - P.length) (ly_y bz)) ++ by_sg P 1 i2)).length), .ref rr, .int (nI P.length), .ref ra, .long pz, .int kc, .ref rc, .ref rl, .ref rb, .int la, .int ca])), (rr, .inl (cB, 4096, .inl g2))]) [0, 2] (by decide) rfl
            have hFc := va_free (wc := [(mo, .inr (8, [.int th, .int fd, .ref rt, .int mn, .ref rk, .ref rv, .ref rw, .ref ro, .int (nI (by_ap 4096 M ((P.take 1 ++ List.replicate (wd - P.length) (ly_y bz)) ++ by_sg P 1 i2)).length), .ref rr, .int (nI P.length), .ref ra, .long pz, .int kc, .ref rc, .ref rl, .ref rb, .int la, .int ca])), (rr, .inl (cB, 4096, .inl g2))]) hD hS hA [0, 2] rfl
            refine zz_callv (va_runV (As := [.int (sb_b (P.getD (1 + i2) 0))]) (rest := []) ⟨hx, hb, hml, hown, hg⟩ (c_Mo_give l dC dI mo rt rk rv rw ro rr ra rc rl rb th fd mn (nI (by_ap 4096 M ((P.take 1 ++ List.replicate (wd - P.length) (ly_y bz)) ++ by_sg P 1 i2)).length) (nI P.length) pz kc la ca cB g2 (by_ap 4096 M ((P.take 1 ++ List.replicate (wd - P.length) (ly_y bz)) ++ by_sg P 1 i2)) (sb_b (P.getD (1 + i2) 0)) hRj (by_ap_len _ _ _) H.size) (cwV 1 hg (gi_V kw_848 kw_850 sw_13 kw_9 kw_851) rfl rfl rfl (by decide +kernel) ⟨Nat.le_of_ble_eq_true rfl, Nat.le_of_ble_eq_true rfl⟩) (zz_preV hPc hKc hDc _ (q0 := 0) (ci := 8) rfl rfl) rfl rfl hl.1 rfl (lv_room (Nat.le_of_ble_eq_true rfl)) d_Mo_lay_140 ⟨Nat.le_of_ble_eq_true rfl, Nat.le_of_ble_eq_true rfl⟩) hS hFc (fun u H1 k9 p9 d9 => va_join (wr := [(ra, .inl (cB, 16400, .inl fa))]) hP hD [0, 2] [1] rfl rfl (by decide) (by decide) k9 hFc p9 d9) (fun u H locs hw hP hD hK1 hS => ?_)
            obtain ⟨u_22, rfl⟩ : ∃ z, z = u := ⟨_, rfl⟩
            try dsimp only at hw
            have hP : va_P (dC, dI) vwCl [(ra, .inl (cB, 16400, .inl fa)), (mo, .inr (8, [.int th, .int fd, .ref rt, .int mn, .ref rk, .ref rv, .ref rw, .ref ro, .int (nI (by_ap 4096 (by_ap 4096 M ((P.take 1 ++ List.replicate (wd - P.length) (ly_y bz)) ++ by_sg P 1 i2)) [by_b (sb_b (P.getD (1 + i2) 0))]).length), .ref rr, .int (nI P.length), .ref ra, .long pz, .int kc, .ref rc, .ref rl, .ref rb, .int la, .int ca])), (rr, .inl (cB, 4096, .inl u_22))] H := hP
            have hD : va_D A [(ra, .inl (cB, 16400, .inl fa)), (mo, .inr (8, [.int th, .int fd, .ref rt, .int mn, .ref rk, .ref rv, .ref rw, .ref ro, .int (nI (by_ap 4096 (by_ap 4096 M ((P.take 1 ++ List.replicate (wd - P.length) (ly_y bz)) ++ by_sg P 1 i2)) [by_b (sb_b (P.getD (1 + i2) 0))]).length), .ref rr, .int (nI P.length), .ref ra, .long pz, .int kc, .ref rc, .ref rl, .ref rb, .int la, .int ca])), (rr, .inl (cB, 4096, .inl u_22))] := hD
            have hR_24 := hw
            refine lv_iinc (v := (nI (1 + i2)) + 1) (lv' := [(6, .int ((nI (1 + i2)) + 1)), (0, .ref mo), (1, .int (nI wd)), (2, .int (by_z bm)), (3, .int (by_z bz)), (4, .int (nI (wd - P.length)))]) hx hb d_Mo_lay_143 hl (k := 5) rfl rfl (by decide) rfl (fun ls hl => ?_)
            refine lv_goto (tgt := 123) hx hb d_Mo_lay_146 (by decide) ?_
            rw [sg_s f_129 (hLa (1 + i2) f_129).1] at hP hD hR_24
            rw [nI_1, Nat.add_assoc] at hl
            exact ih_123 (i2 + 1, u_22) H locs ls ⟨hP.sub [1, 0, 2] rfl, hD.sub [1, 0, 2] (by decide) rfl, hS, lv_sub hl [1, 2, 3, 4, 5, 0] rfl, hR_24, f_129⟩ (by dsimp only; omega)
        · skip
          have f_87 : i < (wd - P.length) := Nat.lt_of_not_le (fun z => c_87 (nI_le (a := (wd - P.length)) z (by omega)))
          refine lv_aload_n hx hb d_Mo_lay_90 rfl (lv_at hl 0 rfl) ?_
          refine lv_iload_n hx hb d_Mo_lay_91 rfl (lv_at hl 3 rfl) ?_
          refine lv_if_eq (tgt := 100) hx hb d_Mo_lay_92 (by decide) (fun c9 => by first | exact absurd c9 (show ¬ by_z bz = 0 by rw [hz]; decide) | exact absurd (show ¬ by_z bz = 0 by rw [hz]; decide) c9) (fun _ => ?_)
          refine lv_bipush (v := 48) hx hb d_Mo_lay_95 (by decide) ?_
          refine lv_goto (tgt := 102) hx hb d_Mo_lay_97 (by decide) ?_
          have hPc := hP.sub (ws' := [(mo, .inr (8, [.int th, .int fd, .ref rt, .int mn, .ref rk, .ref rv, .ref rw, .ref ro, .int (nI (by_ap 4096 M (P.take 1 ++ List.replicate i (ly_y bz))).length), .ref rr, .int (nI P.length), .ref ra, .long pz, .int kc, .ref rc, .ref rl, .ref rb, .int la, .int ca])), (rr, .inl (cB, 4096, .inl g))]) [0, 2] rfl
          have hKc := hK.sub (tys' := [(cB, .byte)]) [0] rfl
          have hDc := hD.sub (ws' := [(mo, .inr (8, [.int th, .int fd, .ref rt, .int mn, .ref rk, .ref rv, .ref rw, .ref ro, .int (nI (by_ap 4096 M (P.take 1 ++ List.replicate i (ly_y bz))).length), .ref rr, .int (nI P.length), .ref ra, .long pz, .int kc, .ref rc, .ref rl, .ref rb, .int la, .int ca])), (rr, .inl (cB, 4096, .inl g))]) [0, 2] (by decide) rfl
          have hFc := va_free (wc := [(mo, .inr (8, [.int th, .int fd, .ref rt, .int mn, .ref rk, .ref rv, .ref rw, .ref ro, .int (nI (by_ap 4096 M (P.take 1 ++ List.replicate i (ly_y bz))).length), .ref rr, .int (nI P.length), .ref ra, .long pz, .int kc, .ref rc, .ref rl, .ref rb, .int la, .int ca])), (rr, .inl (cB, 4096, .inl g))]) hD hS hA [0, 2] rfl
          refine zz_callv (va_runV (As := [.int 48]) (rest := []) ⟨hx, hb, hml, hown, hg⟩ (c_Mo_give l dC dI mo rt rk rv rw ro rr ra rc rl rb th fd mn (nI (by_ap 4096 M (P.take 1 ++ List.replicate i (ly_y bz))).length) (nI P.length) pz kc la ca cB g (by_ap 4096 M (P.take 1 ++ List.replicate i (ly_y bz))) 48 hRi (by_ap_len _ _ _) H.size) (cwV 1 hg (gi_V kw_848 kw_850 sw_13 kw_9 kw_851) rfl rfl rfl (by decide +kernel) ⟨Nat.le_of_ble_eq_true rfl, Nat.le_of_ble_eq_true rfl⟩) (zz_preV hPc hKc hDc _ (q0 := 0) (ci := 8) rfl rfl) rfl rfl hl.1 rfl (lv_room (Nat.le_of_ble_eq_true rfl)) d_Mo_lay_102 ⟨Nat.le_of_ble_eq_true rfl, Nat.le_of_ble_eq_true rfl⟩) hS hFc (fun u H1 k9 p9 d9 => va_join (wr := [(ra, .inl (cB, 16400, .inl fa))]) hP hD [0, 2] [1] rfl rfl (by decide) (by decide) k9 hFc p9 d9) (fun u H locs hw hP hD hK1 hS => ?_)
          obtain ⟨u_25, rfl⟩ : ∃ z, z = u := ⟨_, rfl⟩
          try dsimp only at hw
          have hP : va_P (dC, dI) vwCl [(ra, .inl (cB, 16400, .inl fa)), (mo, .inr (8, [.int th, .int fd, .ref rt, .int mn, .ref rk, .ref rv, .ref rw, .ref ro, .int (nI (by_ap 4096 (by_ap 4096 M (P.take 1 ++ List.replicate i (ly_y bz))) [by_b 48]).length), .ref rr, .int (nI P.length), .ref ra, .long pz, .int kc, .ref rc, .ref rl, .ref rb, .int la, .int ca])), (rr, .inl (cB, 4096, .inl u_25))] H := hP
          have hD : va_D A [(ra, .inl (cB, 16400, .inl fa)), (mo, .inr (8, [.int th, .int fd, .ref rt, .int mn, .ref rk, .ref rv, .ref rw, .ref ro, .int (nI (by_ap 4096 (by_ap 4096 M (P.take 1 ++ List.replicate i (ly_y bz))) [by_b 48]).length), .ref rr, .int (nI P.length), .ref ra, .long pz, .int kc, .ref rc, .ref rl, .ref rb, .int la, .int ca])), (rr, .inl (cB, 4096, .inl u_25))] := hD
          have hR_27 := hw
          refine lv_iinc (v := (nI i) + 1) (lv' := [(6, .int ((nI i) + 1)), (0, .ref mo), (1, .int (nI wd)), (2, .int (by_z bm)), (3, .int (by_z bz)), (4, .int (nI (wd - P.length))), (5, .int 1)]) hx hb d_Mo_lay_105 hl (k := 6) rfl rfl (by decide) rfl (fun ls hl => ?_)
          refine lv_goto (tgt := 83) hx hb d_Mo_lay_108 (by decide) ?_
          rw [show ([by_b 48] : List Nat) = [ly_y bz] by rw [hz]; rfl, rp_s] at hP hD hR_27
          rw [nI_1] at hl
          exact ih_83 (i + 1, u_25) H locs ls ⟨hP.sub [1, 0, 2] rfl, hD.sub [1, 0, 2] (by decide) rfl, hS, lv_sub hl [1, 2, 3, 4, 5, 6, 0] rfl, hR_27, f_87⟩ (by dsimp only; omega)
      · skip
        have f_39 : P.getD 0 0 ≠ 45 := sb_e2 (k := 45) hb0 (by decide) c_39
        refine lv_aload_n hx hb d_Mo_lay_42 rfl (lv_at hl 1 rfl) ?_
        refine va_get (D := (dC, dI)) (ci := 8) (v := .ref ra) (C := "TextForgeModel") (T := TX8) (N := 19) hx hb hg iwX8 hown hK hP 0 rfl rfl 11 (by decide) (hg _ kw_737) (fun _ h9 => h9) rfl d_Mo_lay_43 ?_
        refine lv_iconst (v := 0) hx hb d_Mo_lay_46 (by decide) ?_
        refine va_bald hx hb hK hP 1 0 rfl rfl (show vp_in (nI 0) 16400 from vp_in_nI (by decide) (by decide)) d_Mo_lay_47 ?_
        refine lv_topi (fun y_28 ey_28 => ?_)
        have ey_28 : y_28 = (sb_b (P.getD 0 0) : Int32) := ey_28.trans (show (fa (0 : Int32).toNatClampNeg) = sb_b (P.getD 0 0) from (hLa 0 hp0).2)
        subst ey_28
        refine lv_bipush (v := 43) hx hb d_Mo_lay_48 (by decide) ?_
        refine lv_icmp_ne (tgt := 57) hx hb d_Mo_lay_50 (by decide) (fun c_50 => ?_) (fun c_50 => ?_)
        · skip
          have f_50 : P.getD 0 0 ≠ 43 := sb_e2 (k := 43) hb0 (by decide) c_50
          have hs : ly_s P bz = 0 := if_neg (fun z => z.2.elim f_39 f_50)
          refine lv_iconst (v := 0) hx hb d_Mo_lay_57 (by decide) ?_
          refine lv_istore (lv' := [(5, .int 0), (4, .int (nI (wd - P.length))), (0, .ref mo), (1, .int (nI wd)), (2, .int (by_z bm)), (3, .int (by_z bz))]) hx hb d_Mo_lay_58 hl (by decide) rfl (fun ls hl => ?_)
          refine lv_iload_n hx hb d_Mo_lay_60 rfl (lv_at hl 4 rfl) ?_
          refine lv_if_ne (tgt := 111) hx hb d_Mo_lay_61 (by decide) (fun c9 => by first | exact absurd c9 (show by_z bm = 0 by rw [hbf]; rfl) | exact absurd (show by_z bm = 0 by rw [hbf]; rfl) c9) (fun _ => ?_)
          refine lv_iload hx hb d_Mo_lay_64 (lv_at hl 0 rfl) ?_
          refine lv_iconst (v := 1) hx hb d_Mo_lay_66 (by decide) ?_
          refine lv_icmp_ne (tgt := 80) hx hb d_Mo_lay_67 (by decide) (fun _ => ?_) (fun c9 => by first | exact absurd c9 (by decide) | exact absurd (by decide) c9)
          refine lv_iconst (v := 0) hx hb d_Mo_lay_80 (by decide) ?_
          refine lv_istore (lv' := [(6, .int 0), (5, .int 0), (4, .int (nI (wd - P.length))), (0, .ref mo), (1, .int (nI wd)), (2, .int (by_z bm)), (3, .int (by_z bz))]) hx hb d_Mo_lay_81 hl (by decide) rfl (fun ls hl => ?_)
          rw [show nI M.length = nI (by_ap 4096 M (P.take 0 ++ List.replicate 0 (ly_y bz))).length by rw [← ly_0 hcr]] at hP hD
          have hLr9 : by_L (by_ap 4096 M (P.take 0 ++ List.replicate 0 (ly_y bz))) fr := by rw [← ly_0 hcr]; exact hLr
          refine zz_loop (fun (x : Nat × (Nat → Int32)) H locs ls => match x with | (i, g) => va_P (dC, dI) vwCl [(mo, .inr (8, [.int th, .int fd, .ref rt, .int mn, .ref rk, .ref rv, .ref rw, .ref ro, .int (nI (by_ap 4096 M (P.take 0 ++ List.replicate i (ly_y bz))).length), .ref rr, .int (nI P.length), .ref ra, .long pz, .int kc, .ref rc, .ref rl, .ref rb, .int la, .int ca])), (ra, .inl (cB, 16400, .inl fa)), (rr, .inl (cB, 4096, .inl g))] H ∧ va_D A [(mo, .inr (8, [.int th, .int fd, .ref rt, .int mn, .ref rk, .ref rv, .ref rw, .ref ro, .int (nI (by_ap 4096 M (P.take 0 ++ List.replicate i (ly_y bz))).length), .ref rr, .int (nI P.length), .ref ra, .long pz, .int kc, .ref rc, .ref rl, .ref rb, .int la, .int ca])), (ra, .inl (cB, 16400, .inl fa)), (rr, .inl (cB, 4096, .inl g))] ∧ va_S A s.heap H locs ∧ lv_has ls 7 [(0, .ref mo), (1, .int (nI wd)), (2, .int (by_z bm)), (3, .int (by_z bz)), (4, .int (nI (wd - P.length))), (5, .int 0), (6, .int (nI i))] ∧ by_L (by_ap 4096 M (P.take 0 ++ List.replicate i (ly_y bz))) g ∧ i ≤ wd - P.length) (fun x => match x with | (i, g) => wd - P.length - i) ?_ (0, fr) ⟨hP.sub [0, 1, 2] rfl, hD.sub [0, 1, 2] (by decide) rfl, hS, lv_sub hl [3, 4, 5, 6, 2, 1, 0] rfl, hLr9, (Nat.zero_le _)⟩
          intro x H locs ls hI ih_83
          obtain ⟨i, g⟩ := x
          try dsimp only at hI
          obtain ⟨hP, hD, hS, hl, hRi, hil⟩ := hI
          refine lv_iload hx hb d_Mo_lay_83 (lv_at hl 6 rfl) ?_
          refine lv_iload hx hb d_Mo_lay_85 (lv_at hl 4 rfl) ?_
          refine lv_icmp_ge (tgt := 111) hx hb d_Mo_lay_87 (by decide) (fun c_87 => ?_) (fun c_87 => ?_)
          · skip
            have f_87 : (wd - P.length) ≤ i := Nat.le_of_not_lt (fun z => nI_ge (b := (wd - P.length)) z (by omega) c_87)
            refine lv_iload_n hx hb d_Mo_lay_111 rfl (lv_at hl 2 rfl) ?_
            refine lv_if_eq (tgt := 119) hx hb d_Mo_lay_112 (by decide) (fun _ => ?_) (fun c9 => by first | exact absurd c9 (show by_z bm = 0 by rw [hbf]; rfl) | exact absurd (show by_z bm = 0 by rw [hbf]; rfl) c9)
            refine lv_iload hx hb d_Mo_lay_119 (lv_at hl 5 rfl) ?_
            refine lv_istore (lv' := [(6, .int 0), (0, .ref mo), (1, .int (nI wd)), (2, .int (by_z bm)), (3, .int (by_z bz)), (4, .int (nI (wd - P.length))), (5, .int 0)]) hx hb d_Mo_lay_121 hl (by decide) rfl (fun ls hl => ?_)
            have hie : i = wd - P.length := by omega
            rw [hie, ly_a (P := P) (a := 0)] at hP hD hRi
            refine zz_loop (fun (x : Nat × (Nat → Int32)) H locs ls => match x with | (i2, g2) => va_P (dC, dI) vwCl [(mo, .inr (8, [.int th, .int fd, .ref rt, .int mn, .ref rk, .ref rv, .ref rw, .ref ro, .int (nI (by_ap 4096 M ((P.take 0 ++ List.replicate (wd - P.length) (ly_y bz)) ++ by_sg P 0 i2)).length), .ref rr, .int (nI P.length), .ref ra, .long pz, .int kc, .ref rc, .ref rl, .ref rb, .int la, .int ca])), (ra, .inl (cB, 16400, .inl fa)), (rr, .inl (cB, 4096, .inl g2))] H ∧ va_D A [(mo, .inr (8, [.int th, .int fd, .ref rt, .int mn, .ref rk, .ref rv, .ref rw, .ref ro, .int (nI (by_ap 4096 M ((P.take 0 ++ List.replicate (wd - P.length) (ly_y bz)) ++ by_sg P 0 i2)).length), .ref rr, .int (nI P.length), .ref ra, .long pz, .int kc, .ref rc, .ref rl, .ref rb, .int la, .int ca])), (ra, .inl (cB, 16400, .inl fa)), (rr, .inl (cB, 4096, .inl g2))] ∧ va_S A s.heap H locs ∧ lv_has ls 7 [(0, .ref mo), (1, .int (nI wd)), (2, .int (by_z bm)), (3, .int (by_z bz)), (4, .int (nI (wd - P.length))), (6, .int (nI (0 + i2)))] ∧ by_L (by_ap 4096 M ((P.take 0 ++ List.replicate (wd - P.length) (ly_y bz)) ++ by_sg P 0 i2)) g2 ∧ 0 + i2 ≤ P.length) (fun x => match x with | (i2, g2) => P.length - i2) ?_ (0, g) ⟨hP.sub [0, 1, 2] rfl, hD.sub [0, 1, 2] (by decide) rfl, hS, lv_sub hl [1, 2, 3, 4, 5, 0] rfl, hRi, (by omega)⟩
            intro x H locs ls hI ih_123
            obtain ⟨i2, g2⟩ := x
            try dsimp only at hI
            obtain ⟨hP, hD, hS, hl, hRj, hjl⟩ := hI
            refine lv_iload hx hb d_Mo_lay_123 (lv_at hl 5 rfl) ?_
            refine lv_aload_n hx hb d_Mo_lay_125 rfl (lv_at hl 0 rfl) ?_
            refine va_get (D := (dC, dI)) (ci := 8) (v := .int (nI P.length)) (C := "TextForgeModel") (T := TX8) (N := 19) hx hb hg iwX8 hown hK hP 0 rfl rfl 10 (by decide) (hg _ kw_736) (fun _ h9 => h9) rfl d_Mo_lay_126 ?_
            refine lv_icmp_ge (tgt := 149) hx hb d_Mo_lay_129 (by decide) (fun c_129 => ?_) (fun c_129 => ?_)
            · skip
              have f_129 : P.length ≤ (0 + i2) := Nat.le_of_not_lt (fun z => nI_ge (b := P.length) z (by omega) c_129)
              have hje : 0 + i2 = P.length := by omega
              refine lv_iconst (v := 0) hx hb d_Mo_lay_149 (by decide) ?_
              refine lv_istore (lv' := [(6, .int 0), (0, .ref mo), (1, .int (nI wd)), (2, .int (by_z bm)), (3, .int (by_z bz)), (4, .int (nI (wd - P.length)))]) hx hb d_Mo_lay_150 hl (by decide) rfl (fun ls hl => ?_)
              refine lv_iload hx hb d_Mo_lay_152 (lv_at hl 0 rfl) ?_
              refine lv_iload hx hb d_Mo_lay_154 (lv_at hl 5 rfl) ?_
              refine lv_icmp_ge (tgt := 175) hx hb d_Mo_lay_156 (by decide) (fun c_156 => ?_) (fun c_156 => ?_)
              · skip
                have hP9 := hP.sub (ws' := [(mo, .inr (8, [.int th, .int fd, .ref rt, .int mn, .ref rk, .ref rv, .ref rw, .ref ro, .int (nI (by_ap 4096 M ((P.take 0 ++ List.replicate (wd - P.length) (ly_y bz)) ++ by_sg P 0 i2)).length), .ref rr, .int (nI P.length), .ref ra, .long pz, .int kc, .ref rc, .ref rl, .ref rb, .int la, .int ca])), (ra, .inl (cB, 16400, .inl fa)), (rr, .inl (cB, 4096, .inl g2))]) [0, 1, 2] rfl
                have hD9 := hD.sub (ws' := [(mo, .inr (8, [.int th, .int fd, .ref rt, .int mn, .ref rk, .ref rv, .ref rw, .ref ro, .int (nI (by_ap 4096 M ((P.take 0 ++ List.replicate (wd - P.length) (ly_y bz)) ++ by_sg P 0 i2)).length), .ref rr, .int (nI P.length), .ref ra, .long pz, .int kc, .ref rc, .ref rl, .ref rb, .int la, .int ca])), (ra, .inl (cB, 16400, .inl fa)), (rr, .inl (cB, 4096, .inl g2))]) [0, 1, 2] (by decide) rfl
                have hK9 := hK.sub (tys' := [(cB, .byte)]) [0] rfl
                rw [(show (by_ap 4096 M ((P.take 0 ++ List.replicate (wd - P.length) (ly_y bz)) ++ by_sg P 0 i2)) = by_ap 4096 M (ly_o P wd bm bz) by rw [hbf]; exact ly_ef hs hje)] at hP9 hD9
                exact zz_vret hx hb hr hlocks d_Mo_lay_175 hS (by first | exact Nat.le_refl _ | decide | omega | (dsimp only; omega)) (by first | exact Nat.le_refl _ | decide | omega | (dsimp only; omega)) g2 (by rw [← (show (by_ap 4096 M ((P.take 0 ++ List.replicate (wd - P.length) (ly_y bz)) ++ by_sg P 0 i2)) = by_ap 4096 M (ly_o P wd bm bz) by rw [hbf]; exact ly_ef hs hje)]; exact hRj) hP9 hK9 hD9
              · skip
                refine lv_iload_n hx hb d_Mo_lay_159 rfl (lv_at hl 3 rfl) ?_
                refine lv_if_eq (tgt := 175) hx hb d_Mo_lay_160 (by decide) (fun _ => ?_) (fun c9 => by first | exact absurd c9 (show by_z bm = 0 by rw [hbf]; rfl) | exact absurd (show by_z bm = 0 by rw [hbf]; rfl) c9)
                have hP9 := hP.sub (ws' := [(mo, .inr (8, [.int th, .int fd, .ref rt, .int mn, .ref rk, .ref rv, .ref rw, .ref ro, .int (nI (by_ap 4096 M ((P.take 0 ++ List.replicate (wd - P.length) (ly_y bz)) ++ by_sg P 0 i2)).length), .ref rr, .int (nI P.length), .ref ra, .long pz, .int kc, .ref rc, .ref rl, .ref rb, .int la, .int ca])), (ra, .inl (cB, 16400, .inl fa)), (rr, .inl (cB, 4096, .inl g2))]) [0, 1, 2] rfl
                have hD9 := hD.sub (ws' := [(mo, .inr (8, [.int th, .int fd, .ref rt, .int mn, .ref rk, .ref rv, .ref rw, .ref ro, .int (nI (by_ap 4096 M ((P.take 0 ++ List.replicate (wd - P.length) (ly_y bz)) ++ by_sg P 0 i2)).length), .ref rr, .int (nI P.length), .ref ra, .long pz, .int kc, .ref rc, .ref rl, .ref rb, .int la, .int ca])), (ra, .inl (cB, 16400, .inl fa)), (rr, .inl (cB, 4096, .inl g2))]) [0, 1, 2] (by decide) rfl
                have hK9 := hK.sub (tys' := [(cB, .byte)]) [0] rfl
                rw [(show (by_ap 4096 M ((P.take 0 ++ List.replicate (wd - P.length) (ly_y bz)) ++ by_sg P 0 i2)) = by_ap 4096 M (ly_o P wd bm bz) by rw [hbf]; exact ly_ef hs hje)] at hP9 hD9
                exact zz_vret hx hb hr hlocks d_Mo_lay_175 hS (by first | exact Nat.le_refl _ | decide | omega | (dsimp only; omega)) (by first | exact Nat.le_refl _ | decide | omega | (dsimp only; omega)) g2 (by rw [← (show (by_ap 4096 M ((P.take 0 ++ List.replicate (wd - P.length) (ly_y bz)) ++ by_sg P 0 i2)) = by_ap 4096 M (ly_o P wd bm bz) by rw [hbf]; exact ly_ef hs hje)]; exact hRj) hP9 hK9 hD9
            · skip
              have f_129 : (0 + i2) < P.length := Nat.lt_of_not_le (fun z => c_129 (nI_le (a := P.length) z (by omega)))
              refine lv_aload_n hx hb d_Mo_lay_132 rfl (lv_at hl 0 rfl) ?_
              refine lv_aload_n hx hb d_Mo_lay_133 rfl (lv_at hl 0 rfl) ?_
              refine va_get (D := (dC, dI)) (ci := 8) (v := .ref ra) (C := "TextForgeModel") (T := TX8) (N := 19) hx hb hg iwX8 hown hK hP 0 rfl rfl 11 (by decide) (hg _ kw_737) (fun _ h9 => h9) rfl d_Mo_lay_134 ?_
              refine lv_iload hx hb d_Mo_lay_137 (lv_at hl 5 rfl) ?_
              refine va_bald hx hb hK hP 1 0 rfl rfl (vp_in_nI (by omega) (by decide)) d_Mo_lay_139 ?_
              refine lv_topi (fun y_29 ey_29 => ?_)
              have ey_29 : y_29 = (sb_b (P.getD (0 + i2) 0) : Int32) := ey_29.trans (show (fa (nI (0 + i2)).toNatClampNeg) = sb_b (P.getD (0 + i2) 0) from (by rw [nI_clamp (show 0 + i2 < 2 ^ 31 by omega)]; exact (hLa _ f_129).2))
              subst ey_29
              have hPc := hP.sub (ws' := [(mo, .inr (8, [.int th, .int fd, .ref rt, .int mn, .ref rk, .ref rv, .ref rw, .ref ro, .int (nI (by_ap 4096 M ((P.take 0 ++ List.replicate (wd - P.length) (ly_y bz)) ++ by_sg P 0 i2)).length), .ref rr, .int (nI P.length), .ref ra, .long pz, .int kc, .ref rc, .ref rl, .ref rb, .int la, .int ca])), (rr, .inl (cB, 4096, .inl g2))]) [0, 2] rfl
              have hKc := hK.sub (tys' := [(cB, .byte)]) [0] rfl
              have hDc := hD.sub (ws' := [(mo, .inr (8, [.int th, .int fd, .ref rt, .int mn, .ref rk, .ref rv, .ref rw, .ref ro, .int (nI (by_ap 4096 M ((P.take 0 ++ List.replicate (wd - P.length) (ly_y bz)) ++ by_sg P 0 i2)).length), .ref rr, .int (nI P.length), .ref ra, .long pz, .int kc, .ref rc, .ref rl, .ref rb, .int la, .int ca])), (rr, .inl (cB, 4096, .inl g2))]) [0, 2] (by decide) rfl
              have hFc := va_free (wc := [(mo, .inr (8, [.int th, .int fd, .ref rt, .int mn, .ref rk, .ref rv, .ref rw, .ref ro, .int (nI (by_ap 4096 M ((P.take 0 ++ List.replicate (wd - P.length) (ly_y bz)) ++ by_sg P 0 i2)).length), .ref rr, .int (nI P.length), .ref ra, .long pz, .int kc, .ref rc, .ref rl, .ref rb, .int la, .int ca])), (rr, .inl (cB, 4096, .inl g2))]) hD hS hA [0, 2] rfl
              refine zz_callv (va_runV (As := [.int (sb_b (P.getD (0 + i2) 0))]) (rest := []) ⟨hx, hb, hml, hown, hg⟩ (c_Mo_give l dC dI mo rt rk rv rw ro rr ra rc rl rb th fd mn (nI (by_ap 4096 M ((P.take 0 ++ List.replicate (wd - P.length) (ly_y bz)) ++ by_sg P 0 i2)).length) (nI P.length) pz kc la ca cB g2 (by_ap 4096 M ((P.take 0 ++ List.replicate (wd - P.length) (ly_y bz)) ++ by_sg P 0 i2)) (sb_b (P.getD (0 + i2) 0)) hRj (by_ap_len _ _ _) H.size) (cwV 1 hg (gi_V kw_848 kw_850 sw_13 kw_9 kw_851) rfl rfl rfl (by decide +kernel) ⟨Nat.le_of_ble_eq_true rfl, Nat.le_of_ble_eq_true rfl⟩) (zz_preV hPc hKc hDc _ (q0 := 0) (ci := 8) rfl rfl) rfl rfl hl.1 rfl (lv_room (Nat.le_of_ble_eq_true rfl)) d_Mo_lay_140 ⟨Nat.le_of_ble_eq_true rfl, Nat.le_of_ble_eq_true rfl⟩) hS hFc (fun u H1 k9 p9 d9 => va_join (wr := [(ra, .inl (cB, 16400, .inl fa))]) hP hD [0, 2] [1] rfl rfl (by decide) (by decide) k9 hFc p9 d9) (fun u H locs hw hP hD hK1 hS => ?_)
              obtain ⟨u_30, rfl⟩ : ∃ z, z = u := ⟨_, rfl⟩
              try dsimp only at hw
              have hP : va_P (dC, dI) vwCl [(ra, .inl (cB, 16400, .inl fa)), (mo, .inr (8, [.int th, .int fd, .ref rt, .int mn, .ref rk, .ref rv, .ref rw, .ref ro, .int (nI (by_ap 4096 (by_ap 4096 M ((P.take 0 ++ List.replicate (wd - P.length) (ly_y bz)) ++ by_sg P 0 i2)) [by_b (sb_b (P.getD (0 + i2) 0))]).length), .ref rr, .int (nI P.length), .ref ra, .long pz, .int kc, .ref rc, .ref rl, .ref rb, .int la, .int ca])), (rr, .inl (cB, 4096, .inl u_30))] H := hP
              have hD : va_D A [(ra, .inl (cB, 16400, .inl fa)), (mo, .inr (8, [.int th, .int fd, .ref rt, .int mn, .ref rk, .ref rv, .ref rw, .ref ro, .int (nI (by_ap 4096 (by_ap 4096 M ((P.take 0 ++ List.replicate (wd - P.length) (ly_y bz)) ++ by_sg P 0 i2)) [by_b (sb_b (P.getD (0 + i2) 0))]).length), .ref rr, .int (nI P.length), .ref ra, .long pz, .int kc, .ref rc, .ref rl, .ref rb, .int la, .int ca])), (rr, .inl (cB, 4096, .inl u_30))] := hD
              have hR_32 := hw
              refine lv_iinc (v := (nI (0 + i2)) + 1) (lv' := [(6, .int ((nI (0 + i2)) + 1)), (0, .ref mo), (1, .int (nI wd)), (2, .int (by_z bm)), (3, .int (by_z bz)), (4, .int (nI (wd - P.length)))]) hx hb d_Mo_lay_143 hl (k := 5) rfl rfl (by decide) rfl (fun ls hl => ?_)
              refine lv_goto (tgt := 123) hx hb d_Mo_lay_146 (by decide) ?_
              rw [sg_s f_129 (hLa (0 + i2) f_129).1] at hP hD hR_32
              rw [nI_1, Nat.add_assoc] at hl
              exact ih_123 (i2 + 1, u_30) H locs ls ⟨hP.sub [1, 0, 2] rfl, hD.sub [1, 0, 2] (by decide) rfl, hS, lv_sub hl [1, 2, 3, 4, 5, 0] rfl, hR_32, f_129⟩ (by dsimp only; omega)
          · skip
            have f_87 : i < (wd - P.length) := Nat.lt_of_not_le (fun z => c_87 (nI_le (a := (wd - P.length)) z (by omega)))
            refine lv_aload_n hx hb d_Mo_lay_90 rfl (lv_at hl 0 rfl) ?_
            refine lv_iload_n hx hb d_Mo_lay_91 rfl (lv_at hl 3 rfl) ?_
            refine lv_if_eq (tgt := 100) hx hb d_Mo_lay_92 (by decide) (fun c9 => by first | exact absurd c9 (show ¬ by_z bz = 0 by rw [hz]; decide) | exact absurd (show ¬ by_z bz = 0 by rw [hz]; decide) c9) (fun _ => ?_)
            refine lv_bipush (v := 48) hx hb d_Mo_lay_95 (by decide) ?_
            refine lv_goto (tgt := 102) hx hb d_Mo_lay_97 (by decide) ?_
            have hPc := hP.sub (ws' := [(mo, .inr (8, [.int th, .int fd, .ref rt, .int mn, .ref rk, .ref rv, .ref rw, .ref ro, .int (nI (by_ap 4096 M (P.take 0 ++ List.replicate i (ly_y bz))).length), .ref rr, .int (nI P.length), .ref ra, .long pz, .int kc, .ref rc, .ref rl, .ref rb, .int la, .int ca])), (rr, .inl (cB, 4096, .inl g))]) [0, 2] rfl
            have hKc := hK.sub (tys' := [(cB, .byte)]) [0] rfl
            have hDc := hD.sub (ws' := [(mo, .inr (8, [.int th, .int fd, .ref rt, .int mn, .ref rk, .ref rv, .ref rw, .ref ro, .int (nI (by_ap 4096 M (P.take 0 ++ List.replicate i (ly_y bz))).length), .ref rr, .int (nI P.length), .ref ra, .long pz, .int kc, .ref rc, .ref rl, .ref rb, .int la, .int ca])), (rr, .inl (cB, 4096, .inl g))]) [0, 2] (by decide) rfl
            have hFc := va_free (wc := [(mo, .inr (8, [.int th, .int fd, .ref rt, .int mn, .ref rk, .ref rv, .ref rw, .ref ro, .int (nI (by_ap 4096 M (P.take 0 ++ List.replicate i (ly_y bz))).length), .ref rr, .int (nI P.length), .ref ra, .long pz, .int kc, .ref rc, .ref rl, .ref rb, .int la, .int ca])), (rr, .inl (cB, 4096, .inl g))]) hD hS hA [0, 2] rfl
            refine zz_callv (va_runV (As := [.int 48]) (rest := []) ⟨hx, hb, hml, hown, hg⟩ (c_Mo_give l dC dI mo rt rk rv rw ro rr ra rc rl rb th fd mn (nI (by_ap 4096 M (P.take 0 ++ List.replicate i (ly_y bz))).length) (nI P.length) pz kc la ca cB g (by_ap 4096 M (P.take 0 ++ List.replicate i (ly_y bz))) 48 hRi (by_ap_len _ _ _) H.size) (cwV 1 hg (gi_V kw_848 kw_850 sw_13 kw_9 kw_851) rfl rfl rfl (by decide +kernel) ⟨Nat.le_of_ble_eq_true rfl, Nat.le_of_ble_eq_true rfl⟩) (zz_preV hPc hKc hDc _ (q0 := 0) (ci := 8) rfl rfl) rfl rfl hl.1 rfl (lv_room (Nat.le_of_ble_eq_true rfl)) d_Mo_lay_102 ⟨Nat.le_of_ble_eq_true rfl, Nat.le_of_ble_eq_true rfl⟩) hS hFc (fun u H1 k9 p9 d9 => va_join (wr := [(ra, .inl (cB, 16400, .inl fa))]) hP hD [0, 2] [1] rfl rfl (by decide) (by decide) k9 hFc p9 d9) (fun u H locs hw hP hD hK1 hS => ?_)
            obtain ⟨u_33, rfl⟩ : ∃ z, z = u := ⟨_, rfl⟩
            try dsimp only at hw
            have hP : va_P (dC, dI) vwCl [(ra, .inl (cB, 16400, .inl fa)), (mo, .inr (8, [.int th, .int fd, .ref rt, .int mn, .ref rk, .ref rv, .ref rw, .ref ro, .int (nI (by_ap 4096 (by_ap 4096 M (P.take 0 ++ List.replicate i (ly_y bz))) [by_b 48]).length), .ref rr, .int (nI P.length), .ref ra, .long pz, .int kc, .ref rc, .ref rl, .ref rb, .int la, .int ca])), (rr, .inl (cB, 4096, .inl u_33))] H := hP
            have hD : va_D A [(ra, .inl (cB, 16400, .inl fa)), (mo, .inr (8, [.int th, .int fd, .ref rt, .int mn, .ref rk, .ref rv, .ref rw, .ref ro, .int (nI (by_ap 4096 (by_ap 4096 M (P.take 0 ++ List.replicate i (ly_y bz))) [by_b 48]).length), .ref rr, .int (nI P.length), .ref ra, .long pz, .int kc, .ref rc, .ref rl, .ref rb, .int la, .int ca])), (rr, .inl (cB, 4096, .inl u_33))] := hD
            have hR_35 := hw
            refine lv_iinc (v := (nI i) + 1) (lv' := [(6, .int ((nI i) + 1)), (0, .ref mo), (1, .int (nI wd)), (2, .int (by_z bm)), (3, .int (by_z bz)), (4, .int (nI (wd - P.length))), (5, .int 0)]) hx hb d_Mo_lay_105 hl (k := 6) rfl rfl (by decide) rfl (fun ls hl => ?_)
            refine lv_goto (tgt := 83) hx hb d_Mo_lay_108 (by decide) ?_
            rw [show ([by_b 48] : List Nat) = [ly_y bz] by rw [hz]; rfl, rp_s] at hP hD hR_35
            rw [nI_1] at hl
            exact ih_83 (i + 1, u_33) H locs ls ⟨hP.sub [1, 0, 2] rfl, hD.sub [1, 0, 2] (by decide) rfl, hS, lv_sub hl [1, 2, 3, 4, 5, 6, 0] rfl, hR_35, f_87⟩ (by dsimp only; omega)
        · skip
          have f_50 : P.getD 0 0 = 43 := sb_e1 (k := 43) hb0 (by decide) c_50
          have hs : ly_s P bz = 1 := if_pos ⟨hz, (Or.inr f_50)⟩
          refine lv_iconst (v := 1) hx hb d_Mo_lay_53 (by decide) ?_
          refine lv_goto (tgt := 58) hx hb d_Mo_lay_54 (by decide) ?_
          refine lv_istore (lv' := [(5, .int 1), (4, .int (nI (wd - P.length))), (0, .ref mo), (1, .int (nI wd)), (2, .int (by_z bm)), (3, .int (by_z bz))]) hx hb d_Mo_lay_58 hl (by decide) rfl (fun ls hl => ?_)
          refine lv_iload_n hx hb d_Mo_lay_60 rfl (lv_at hl 4 rfl) ?_
          refine lv_if_ne (tgt := 111) hx hb d_Mo_lay_61 (by decide) (fun c9 => by first | exact absurd c9 (show by_z bm = 0 by rw [hbf]; rfl) | exact absurd (show by_z bm = 0 by rw [hbf]; rfl) c9) (fun _ => ?_)
          refine lv_iload hx hb d_Mo_lay_64 (lv_at hl 0 rfl) ?_
          refine lv_iconst (v := 1) hx hb d_Mo_lay_66 (by decide) ?_
          refine lv_icmp_ne (tgt := 80) hx hb d_Mo_lay_67 (by decide) (fun c9 => by first | exact absurd c9 (by decide) | exact absurd (by decide) c9) (fun _ => ?_)
          refine lv_aload_n hx hb d_Mo_lay_70 rfl (lv_at hl 2 rfl) ?_
          refine lv_aload_n hx hb d_Mo_lay_71 rfl (lv_at hl 2 rfl) ?_
          refine va_get (D := (dC, dI)) (ci := 8) (v := .ref ra) (C := "TextForgeModel") (T := TX8) (N := 19) hx hb hg iwX8 hown hK hP 0 rfl rfl 11 (by decide) (hg _ kw_737) (fun _ h9 => h9) rfl d_Mo_lay_72 ?_
          refine lv_iconst (v := 0) hx hb d_Mo_lay_75 (by decide) ?_
          refine va_bald hx hb hK hP 1 0 rfl rfl (show vp_in (nI 0) 16400 from vp_in_nI (by decide) (by decide)) d_Mo_lay_76 ?_
          refine lv_topi (fun y_36 ey_36 => ?_)
          have ey_36 : y_36 = (sb_b (P.getD 0 0) : Int32) := ey_36.trans (show (fa (0 : Int32).toNatClampNeg) = sb_b (P.getD 0 0) from (hLa 0 hp0).2)
          subst ey_36
          have hPc := hP.sub (ws' := [(mo, .inr (8, [.int th, .int fd, .ref rt, .int mn, .ref rk, .ref rv, .ref rw, .ref ro, .int (nI M.length), .ref rr, .int (nI P.length), .ref ra, .long pz, .int kc, .ref rc, .ref rl, .ref rb, .int la, .int ca])), (rr, .inl (cB, 4096, .inl fr))]) [0, 2] rfl
          have hKc := hK.sub (tys' := [(cB, .byte)]) [0] rfl
          have hDc := hD.sub (ws' := [(mo, .inr (8, [.int th, .int fd, .ref rt, .int mn, .ref rk, .ref rv, .ref rw, .ref ro, .int (nI M.length), .ref rr, .int (nI P.length), .ref ra, .long pz, .int kc, .ref rc, .ref rl, .ref rb, .int la, .int ca])), (rr, .inl (cB, 4096, .inl fr))]) [0, 2] (by decide) rfl
          have hFc := va_free (wc := [(mo, .inr (8, [.int th, .int fd, .ref rt, .int mn, .ref rk, .ref rv, .ref rw, .ref ro, .int (nI M.length), .ref rr, .int (nI P.length), .ref ra, .long pz, .int kc, .ref rc, .ref rl, .ref rb, .int la, .int ca])), (rr, .inl (cB, 4096, .inl fr))]) hD hS hA [0, 2] rfl
          refine zz_callv (va_runV (As := [.int (sb_b (P.getD 0 0))]) (rest := []) ⟨hx, hb, hml, hown, hg⟩ (c_Mo_give l dC dI mo rt rk rv rw ro rr ra rc rl rb th fd mn (nI M.length) (nI P.length) pz kc la ca cB fr M (sb_b (P.getD 0 0)) hLr hcr s.heap.size) (cwV 1 hg (gi_V kw_848 kw_850 sw_13 kw_9 kw_851) rfl rfl rfl (by decide +kernel) ⟨Nat.le_of_ble_eq_true rfl, Nat.le_of_ble_eq_true rfl⟩) (zz_preV hPc hKc hDc _ (q0 := 0) (ci := 8) rfl rfl) rfl rfl hl.1 rfl (lv_room (Nat.le_of_ble_eq_true rfl)) d_Mo_lay_77 ⟨Nat.le_of_ble_eq_true rfl, Nat.le_of_ble_eq_true rfl⟩) hS hFc (fun u H1 k9 p9 d9 => va_join (wr := [(ra, .inl (cB, 16400, .inl fa))]) hP hD [0, 2] [1] rfl rfl (by decide) (by decide) k9 hFc p9 d9) (fun u H locs hw hP hD hK1 hS => ?_)
          obtain ⟨u_37, rfl⟩ : ∃ z, z = u := ⟨_, rfl⟩
          try dsimp only at hw
          have hP : va_P (dC, dI) vwCl [(ra, .inl (cB, 16400, .inl fa)), (mo, .inr (8, [.int th, .int fd, .ref rt, .int mn, .ref rk, .ref rv, .ref rw, .ref ro, .int (nI (by_ap 4096 M [by_b (sb_b (P.getD 0 0))]).length), .ref rr, .int (nI P.length), .ref ra, .long pz, .int kc, .ref rc, .ref rl, .ref rb, .int la, .int ca])), (rr, .inl (cB, 4096, .inl u_37))] H := hP
          have hD : va_D A [(ra, .inl (cB, 16400, .inl fa)), (mo, .inr (8, [.int th, .int fd, .ref rt, .int mn, .ref rk, .ref rv, .ref rw, .ref ro, .int (nI (by_ap 4096 M [by_b (sb_b (P.getD 0 0))]).length), .ref rr, .int (nI P.length), .ref ra, .long pz, .int kc, .ref rc, .ref rl, .ref rb, .int la, .int ca])), (rr, .inl (cB, 4096, .inl u_37))] := hD
          have hR_39 := hw
          refine lv_iconst (v := 0) hx hb d_Mo_lay_80 (by decide) ?_
          refine lv_istore (lv' := [(6, .int 0), (5, .int 1), (4, .int (nI (wd - P.length))), (0, .ref mo), (1, .int (nI wd)), (2, .int (by_z bm)), (3, .int (by_z bz))]) hx hb d_Mo_lay_81 hl (by decide) rfl (fun ls hl => ?_)
          rw [ly_1 (y := ly_y bz) hp0 hb0] at hP hD hR_39
          refine zz_loop (fun (x : Nat × (Nat → Int32)) H locs ls => match x with | (i, g) => va_P (dC, dI) vwCl [(mo, .inr (8, [.int th, .int fd, .ref rt, .int mn, .ref rk, .ref rv, .ref rw, .ref ro, .int (nI (by_ap 4096 M (P.take 1 ++ List.replicate i (ly_y bz))).length), .ref rr, .int (nI P.length), .ref ra, .long pz, .int kc, .ref rc, .ref rl, .ref rb, .int la, .int ca])), (ra, .inl (cB, 16400, .inl fa)), (rr, .inl (cB, 4096, .inl g))] H ∧ va_D A [(mo, .inr (8, [.int th, .int fd, .ref rt, .int mn, .ref rk, .ref rv, .ref rw, .ref ro, .int (nI (by_ap 4096 M (P.take 1 ++ List.replicate i (ly_y bz))).length), .ref rr, .int (nI P.length), .ref ra, .long pz, .int kc, .ref rc, .ref rl, .ref rb, .int la, .int ca])), (ra, .inl (cB, 16400, .inl fa)), (rr, .inl (cB, 4096, .inl g))] ∧ va_S A s.heap H locs ∧ lv_has ls 7 [(0, .ref mo), (1, .int (nI wd)), (2, .int (by_z bm)), (3, .int (by_z bz)), (4, .int (nI (wd - P.length))), (5, .int 1), (6, .int (nI i))] ∧ by_L (by_ap 4096 M (P.take 1 ++ List.replicate i (ly_y bz))) g ∧ i ≤ wd - P.length) (fun x => match x with | (i, g) => wd - P.length - i) ?_ (0, u_37) ⟨hP.sub [1, 0, 2] rfl, hD.sub [1, 0, 2] (by decide) rfl, hS, lv_sub hl [3, 4, 5, 6, 2, 1, 0] rfl, hR_39, (Nat.zero_le _)⟩
          intro x H locs ls hI ih_83
          obtain ⟨i, g⟩ := x
          try dsimp only at hI
          obtain ⟨hP, hD, hS, hl, hRi, hil⟩ := hI
          refine lv_iload hx hb d_Mo_lay_83 (lv_at hl 6 rfl) ?_
          refine lv_iload hx hb d_Mo_lay_85 (lv_at hl 4 rfl) ?_
          refine lv_icmp_ge (tgt := 111) hx hb d_Mo_lay_87 (by decide) (fun c_87 => ?_) (fun c_87 => ?_)
          · skip
            have f_87 : (wd - P.length) ≤ i := Nat.le_of_not_lt (fun z => nI_ge (b := (wd - P.length)) z (by omega) c_87)
            refine lv_iload_n hx hb d_Mo_lay_111 rfl (lv_at hl 2 rfl) ?_
            refine lv_if_eq (tgt := 119) hx hb d_Mo_lay_112 (by decide) (fun _ => ?_) (fun c9 => by first | exact absurd c9 (show by_z bm = 0 by rw [hbf]; rfl) | exact absurd (show by_z bm = 0 by rw [hbf]; rfl) c9)
            refine lv_iload hx hb d_Mo_lay_119 (lv_at hl 5 rfl) ?_
            refine lv_istore (lv' := [(6, .int 1), (0, .ref mo), (1, .int (nI wd)), (2, .int (by_z bm)), (3, .int (by_z bz)), (4, .int (nI (wd - P.length))), (5, .int 1)]) hx hb d_Mo_lay_121 hl (by decide) rfl (fun ls hl => ?_)
            have hie : i = wd - P.length := by omega
            rw [hie, ly_a (P := P) (a := 1)] at hP hD hRi
            refine zz_loop (fun (x : Nat × (Nat → Int32)) H locs ls => match x with | (i2, g2) => va_P (dC, dI) vwCl [(mo, .inr (8, [.int th, .int fd, .ref rt, .int mn, .ref rk, .ref rv, .ref rw, .ref ro, .int (nI (by_ap 4096 M ((P.take 1 ++ List.replicate (wd - P.length) (ly_y bz)) ++ by_sg P 1 i2)).length), .ref rr, .int (nI P.length), .ref ra, .long pz, .int kc, .ref rc, .ref rl, .ref rb, .int la, .int ca])), (ra, .inl (cB, 16400, .inl fa)), (rr, .inl (cB, 4096, .inl g2))] H ∧ va_D A [(mo, .inr (8, [.int th, .int fd, .ref rt, .int mn, .ref rk, .ref rv, .ref rw, .ref ro, .int (nI (by_ap 4096 M ((P.take 1 ++ List.replicate (wd - P.length) (ly_y bz)) ++ by_sg P 1 i2)).length), .ref rr, .int (nI P.length), .ref ra, .long pz, .int kc, .ref rc, .ref rl, .ref rb, .int la, .int ca])), (ra, .inl (cB, 16400, .inl fa)), (rr, .inl (cB, 4096, .inl g2))] ∧ va_S A s.heap H locs ∧ lv_has ls 7 [(0, .ref mo), (1, .int (nI wd)), (2, .int (by_z bm)), (3, .int (by_z bz)), (4, .int (nI (wd - P.length))), (6, .int (nI (1 + i2)))] ∧ by_L (by_ap 4096 M ((P.take 1 ++ List.replicate (wd - P.length) (ly_y bz)) ++ by_sg P 1 i2)) g2 ∧ 1 + i2 ≤ P.length) (fun x => match x with | (i2, g2) => P.length - i2) ?_ (0, g) ⟨hP.sub [0, 1, 2] rfl, hD.sub [0, 1, 2] (by decide) rfl, hS, lv_sub hl [1, 2, 3, 4, 5, 0] rfl, hRi, (by omega)⟩
            intro x H locs ls hI ih_123
            obtain ⟨i2, g2⟩ := x
            try dsimp only at hI
            obtain ⟨hP, hD, hS, hl, hRj, hjl⟩ := hI
            refine lv_iload hx hb d_Mo_lay_123 (lv_at hl 5 rfl) ?_
            refine lv_aload_n hx hb d_Mo_lay_125 rfl (lv_at hl 0 rfl) ?_
            refine va_get (D := (dC, dI)) (ci := 8) (v := .int (nI P.length)) (C := "TextForgeModel") (T := TX8) (N := 19) hx hb hg iwX8 hown hK hP 0 rfl rfl 10 (by decide) (hg _ kw_736) (fun _ h9 => h9) rfl d_Mo_lay_126 ?_
            refine lv_icmp_ge (tgt := 149) hx hb d_Mo_lay_129 (by decide) (fun c_129 => ?_) (fun c_129 => ?_)
            · skip
              have f_129 : P.length ≤ (1 + i2) := Nat.le_of_not_lt (fun z => nI_ge (b := P.length) z (by omega) c_129)
              have hje : 1 + i2 = P.length := by omega
              refine lv_iconst (v := 0) hx hb d_Mo_lay_149 (by decide) ?_
              refine lv_istore (lv' := [(6, .int 0), (0, .ref mo), (1, .int (nI wd)), (2, .int (by_z bm)), (3, .int (by_z bz)), (4, .int (nI (wd - P.length)))]) hx hb d_Mo_lay_150 hl (by decide) rfl (fun ls hl => ?_)
              refine lv_iload hx hb d_Mo_lay_152 (lv_at hl 0 rfl) ?_
              refine lv_iload hx hb d_Mo_lay_154 (lv_at hl 5 rfl) ?_
              refine lv_icmp_ge (tgt := 175) hx hb d_Mo_lay_156 (by decide) (fun c_156 => ?_) (fun c_156 => ?_)
              · skip
                have hP9 := hP.sub (ws' := [(mo, .inr (8, [.int th, .int fd, .ref rt, .int mn, .ref rk, .ref rv, .ref rw, .ref ro, .int (nI (by_ap 4096 M ((P.take 1 ++ List.replicate (wd - P.length) (ly_y bz)) ++ by_sg P 1 i2)).length), .ref rr, .int (nI P.length), .ref ra, .long pz, .int kc, .ref rc, .ref rl, .ref rb, .int la, .int ca])), (ra, .inl (cB, 16400, .inl fa)), (rr, .inl (cB, 4096, .inl g2))]) [0, 1, 2] rfl
                have hD9 := hD.sub (ws' := [(mo, .inr (8, [.int th, .int fd, .ref rt, .int mn, .ref rk, .ref rv, .ref rw, .ref ro, .int (nI (by_ap 4096 M ((P.take 1 ++ List.replicate (wd - P.length) (ly_y bz)) ++ by_sg P 1 i2)).length), .ref rr, .int (nI P.length), .ref ra, .long pz, .int kc, .ref rc, .ref rl, .ref rb, .int la, .int ca])), (ra, .inl (cB, 16400, .inl fa)), (rr, .inl (cB, 4096, .inl g2))]) [0, 1, 2] (by decide) rfl
                have hK9 := hK.sub (tys' := [(cB, .byte)]) [0] rfl
                rw [(show (by_ap 4096 M ((P.take 1 ++ List.replicate (wd - P.length) (ly_y bz)) ++ by_sg P 1 i2)) = by_ap 4096 M (ly_o P wd bm bz) by rw [hbf]; exact ly_ef hs hje)] at hP9 hD9
                exact zz_vret hx hb hr hlocks d_Mo_lay_175 hS (by first | exact Nat.le_refl _ | decide | omega | (dsimp only; omega)) (by first | exact Nat.le_refl _ | decide | omega | (dsimp only; omega)) g2 (by rw [← (show (by_ap 4096 M ((P.take 1 ++ List.replicate (wd - P.length) (ly_y bz)) ++ by_sg P 1 i2)) = by_ap 4096 M (ly_o P wd bm bz) by rw [hbf]; exact ly_ef hs hje)]; exact hRj) hP9 hK9 hD9
              · skip
                refine lv_iload_n hx hb d_Mo_lay_159 rfl (lv_at hl 3 rfl) ?_
                refine lv_if_eq (tgt := 175) hx hb d_Mo_lay_160 (by decide) (fun _ => ?_) (fun c9 => by first | exact absurd c9 (show by_z bm = 0 by rw [hbf]; rfl) | exact absurd (show by_z bm = 0 by rw [hbf]; rfl) c9)
                have hP9 := hP.sub (ws' := [(mo, .inr (8, [.int th, .int fd, .ref rt, .int mn, .ref rk, .ref rv, .ref rw, .ref ro, .int (nI (by_ap 4096 M ((P.take 1 ++ List.replicate (wd - P.length) (ly_y bz)) ++ by_sg P 1 i2)).length), .ref rr, .int (nI P.length), .ref ra, .long pz, .int kc, .ref rc, .ref rl, .ref rb, .int la, .int ca])), (ra, .inl (cB, 16400, .inl fa)), (rr, .inl (cB, 4096, .inl g2))]) [0, 1, 2] rfl
                have hD9 := hD.sub (ws' := [(mo, .inr (8, [.int th, .int fd, .ref rt, .int mn, .ref rk, .ref rv, .ref rw, .ref ro, .int (nI (by_ap 4096 M ((P.take 1 ++ List.replicate (wd - P.length) (ly_y bz)) ++ by_sg P 1 i2)).length), .ref rr, .int (nI P.length), .ref ra, .long pz, .int kc, .ref rc, .ref rl, .ref rb, .int la, .int ca])), (ra, .inl (cB, 16400, .inl fa)), (rr, .inl (cB, 4096, .inl g2))]) [0, 1, 2] (by decide) rfl
                have hK9 := hK.sub (tys' := [(cB, .byte)]) [0] rfl
                rw [(show (by_ap 4096 M ((P.take 1 ++ List.replicate (wd - P.length) (ly_y bz)) ++ by_sg P 1 i2)) = by_ap 4096 M (ly_o P wd bm bz) by rw [hbf]; exact ly_ef hs hje)] at hP9 hD9
                exact zz_vret hx hb hr hlocks d_Mo_lay_175 hS (by first | exact Nat.le_refl _ | decide | omega | (dsimp only; omega)) (by first | exact Nat.le_refl _ | decide | omega | (dsimp only; omega)) g2 (by rw [← (show (by_ap 4096 M ((P.take 1 ++ List.replicate (wd - P.length) (ly_y bz)) ++ by_sg P 1 i2)) = by_ap 4096 M (ly_o P wd bm bz) by rw [hbf]; exact ly_ef hs hje)]; exact hRj) hP9 hK9 hD9
            · skip
              have f_129 : (1 + i2) < P.length := Nat.lt_of_not_le (fun z => c_129 (nI_le (a := P.length) z (by omega)))
              refine lv_aload_n hx hb d_Mo_lay_132 rfl (lv_at hl 0 rfl) ?_
              refine lv_aload_n hx hb d_Mo_lay_133 rfl (lv_at hl 0 rfl) ?_
              refine va_get (D := (dC, dI)) (ci := 8) (v := .ref ra) (C := "TextForgeModel") (T := TX8) (N := 19) hx hb hg iwX8 hown hK hP 0 rfl rfl 11 (by decide) (hg _ kw_737) (fun _ h9 => h9) rfl d_Mo_lay_134 ?_
              refine lv_iload hx hb d_Mo_lay_137 (lv_at hl 5 rfl) ?_
              refine va_bald hx hb hK hP 1 0 rfl rfl (vp_in_nI (by omega) (by decide)) d_Mo_lay_139 ?_
              refine lv_topi (fun y_40 ey_40 => ?_)
              have ey_40 : y_40 = (sb_b (P.getD (1 + i2) 0) : Int32) := ey_40.trans (show (fa (nI (1 + i2)).toNatClampNeg) = sb_b (P.getD (1 + i2) 0) from (by rw [nI_clamp (show 1 + i2 < 2 ^ 31 by omega)]; exact (hLa _ f_129).2))
              subst ey_40
              have hPc := hP.sub (ws' := [(mo, .inr (8, [.int th, .int fd, .ref rt, .int mn, .ref rk, .ref rv, .ref rw, .ref ro, .int (nI (by_ap 4096 M ((P.take 1 ++ List.replicate (wd - P.length) (ly_y bz)) ++ by_sg P 1 i2)).length), .ref rr, .int (nI P.length), .ref ra, .long pz, .int kc, .ref rc, .ref rl, .ref rb, .int la, .int ca])), (rr, .inl (cB, 4096, .inl g2))]) [0, 2] rfl
              have hKc := hK.sub (tys' := [(cB, .byte)]) [0] rfl
              have hDc := hD.sub (ws' := [(mo, .inr (8, [.int th, .int fd, .ref rt, .int mn, .ref rk, .ref rv, .ref rw, .ref ro, .int (nI (by_ap 4096 M ((P.take 1 ++ List.replicate (wd - P.length) (ly_y bz)) ++ by_sg P 1 i2)).length), .ref rr, .int (nI P.length), .ref ra, .long pz, .int kc, .ref rc, .ref rl, .ref rb, .int la, .int ca])), (rr, .inl (cB, 4096, .inl g2))]) [0, 2] (by decide) rfl
              have hFc := va_free (wc := [(mo, .inr (8, [.int th, .int fd, .ref rt, .int mn, .ref rk, .ref rv, .ref rw, .ref ro, .int (nI (by_ap 4096 M ((P.take 1 ++ List.replicate (wd - P.length) (ly_y bz)) ++ by_sg P 1 i2)).length), .ref rr, .int (nI P.length), .ref ra, .long pz, .int kc, .ref rc, .ref rl, .ref rb, .int la, .int ca])), (rr, .inl (cB, 4096, .inl g2))]) hD hS hA [0, 2] rfl
              refine zz_callv (va_runV (As := [.int (sb_b (P.getD (1 + i2) 0))]) (rest := []) ⟨hx, hb, hml, hown, hg⟩ (c_Mo_give l dC dI mo rt rk rv rw ro rr ra rc rl rb th fd mn (nI (by_ap 4096 M ((P.take 1 ++ List.replicate (wd - P.length) (ly_y bz)) ++ by_sg P 1 i2)).length) (nI P.length) pz kc la ca cB g2 (by_ap 4096 M ((P.take 1 ++ List.replicate (wd - P.length) (ly_y bz)) ++ by_sg P 1 i2)) (sb_b (P.getD (1 + i2) 0)) hRj (by_ap_len _ _ _) H.size) (cwV 1 hg (gi_V kw_848 kw_850 sw_13 kw_9 kw_851) rfl rfl rfl (by decide +kernel) ⟨Nat.le_of_ble_eq_true rfl, Nat.le_of_ble_eq_true rfl⟩) (zz_preV hPc hKc hDc _ (q0 := 0) (ci := 8) rfl rfl) rfl rfl hl.1 rfl (lv_room (Nat.le_of_ble_eq_true rfl)) d_Mo_lay_140 ⟨Nat.le_of_ble_eq_true rfl, Nat.le_of_ble_eq_true rfl⟩) hS hFc (fun u H1 k9 p9 d9 => va_join (wr := [(ra, .inl (cB, 16400, .inl fa))]) hP hD [0, 2] [1] rfl rfl (by decide) (by decide) k9 hFc p9 d9) (fun u H locs hw hP hD hK1 hS => ?_)
              obtain ⟨u_41, rfl⟩ : ∃ z, z = u := ⟨_, rfl⟩
              try dsimp only at hw
              have hP : va_P (dC, dI) vwCl [(ra, .inl (cB, 16400, .inl fa)), (mo, .inr (8, [.int th, .int fd, .ref rt, .int mn, .ref rk, .ref rv, .ref rw, .ref ro, .int (nI (by_ap 4096 (by_ap 4096 M ((P.take 1 ++ List.replicate (wd - P.length) (ly_y bz)) ++ by_sg P 1 i2)) [by_b (sb_b (P.getD (1 + i2) 0))]).length), .ref rr, .int (nI P.length), .ref ra, .long pz, .int kc, .ref rc, .ref rl, .ref rb, .int la, .int ca])), (rr, .inl (cB, 4096, .inl u_41))] H := hP
              have hD : va_D A [(ra, .inl (cB, 16400, .inl fa)), (mo, .inr (8, [.int th, .int fd, .ref rt, .int mn, .ref rk, .ref rv, .ref rw, .ref ro, .int (nI (by_ap 4096 (by_ap 4096 M ((P.take 1 ++ List.replicate (wd - P.length) (ly_y bz)) ++ by_sg P 1 i2)) [by_b (sb_b (P.getD (1 + i2) 0))]).length), .ref rr, .int (nI P.length), .ref ra, .long pz, .int kc, .ref rc, .ref rl, .ref rb, .int la, .int ca])), (rr, .inl (cB, 4096, .inl u_41))] := hD
              have hR_43 := hw
              refine lv_iinc (v := (nI (1 + i2)) + 1) (lv' := [(6, .int ((nI (1 + i2)) + 1)), (0, .ref mo), (1, .int (nI wd)), (2, .int (by_z bm)), (3, .int (by_z bz)), (4, .int (nI (wd - P.length)))]) hx hb d_Mo_lay_143 hl (k := 5) rfl rfl (by decide) rfl (fun ls hl => ?_)
              refine lv_goto (tgt := 123) hx hb d_Mo_lay_146 (by decide) ?_
              rw [sg_s f_129 (hLa (1 + i2) f_129).1] at hP hD hR_43
              rw [nI_1, Nat.add_assoc] at hl
              exact ih_123 (i2 + 1, u_41) H locs ls ⟨hP.sub [1, 0, 2] rfl, hD.sub [1, 0, 2] (by decide) rfl, hS, lv_sub hl [1, 2, 3, 4, 5, 0] rfl, hR_43, f_129⟩ (by dsimp only; omega)
          · skip
            have f_87 : i < (wd - P.length) := Nat.lt_of_not_le (fun z => c_87 (nI_le (a := (wd - P.length)) z (by omega)))
            refine lv_aload_n hx hb d_Mo_lay_90 rfl (lv_at hl 0 rfl) ?_
            refine lv_iload_n hx hb d_Mo_lay_91 rfl (lv_at hl 3 rfl) ?_
            refine lv_if_eq (tgt := 100) hx hb d_Mo_lay_92 (by decide) (fun c9 => by first | exact absurd c9 (show ¬ by_z bz = 0 by rw [hz]; decide) | exact absurd (show ¬ by_z bz = 0 by rw [hz]; decide) c9) (fun _ => ?_)
            refine lv_bipush (v := 48) hx hb d_Mo_lay_95 (by decide) ?_
            refine lv_goto (tgt := 102) hx hb d_Mo_lay_97 (by decide) ?_
            have hPc := hP.sub (ws' := [(mo, .inr (8, [.int th, .int fd, .ref rt, .int mn, .ref rk, .ref rv, .ref rw, .ref ro, .int (nI (by_ap 4096 M (P.take 1 ++ List.replicate i (ly_y bz))).length), .ref rr, .int (nI P.length), .ref ra, .long pz, .int kc, .ref rc, .ref rl, .ref rb, .int la, .int ca])), (rr, .inl (cB, 4096, .inl g))]) [0, 2] rfl
            have hKc := hK.sub (tys' := [(cB, .byte)]) [0] rfl
            have hDc := hD.sub (ws' := [(mo, .inr (8, [.int th, .int fd, .ref rt, .int mn, .ref rk, .ref rv, .ref rw, .ref ro, .int (nI (by_ap 4096 M (P.take 1 ++ List.replicate i (ly_y bz))).length), .ref rr, .int (nI P.length), .ref ra, .long pz, .int kc, .ref rc, .ref rl, .ref rb, .int la, .int ca])), (rr, .inl (cB, 4096, .inl g))]) [0, 2] (by decide) rfl
            have hFc := va_free (wc := [(mo, .inr (8, [.int th, .int fd, .ref rt, .int mn, .ref rk, .ref rv, .ref rw, .ref ro, .int (nI (by_ap 4096 M (P.take 1 ++ List.replicate i (ly_y bz))).length), .ref rr, .int (nI P.length), .ref ra, .long pz, .int kc, .ref rc, .ref rl, .ref rb, .int la, .int ca])), (rr, .inl (cB, 4096, .inl g))]) hD hS hA [0, 2] rfl
            refine zz_callv (va_runV (As := [.int 48]) (rest := []) ⟨hx, hb, hml, hown, hg⟩ (c_Mo_give l dC dI mo rt rk rv rw ro rr ra rc rl rb th fd mn (nI (by_ap 4096 M (P.take 1 ++ List.replicate i (ly_y bz))).length) (nI P.length) pz kc la ca cB g (by_ap 4096 M (P.take 1 ++ List.replicate i (ly_y bz))) 48 hRi (by_ap_len _ _ _) H.size) (cwV 1 hg (gi_V kw_848 kw_850 sw_13 kw_9 kw_851) rfl rfl rfl (by decide +kernel) ⟨Nat.le_of_ble_eq_true rfl, Nat.le_of_ble_eq_true rfl⟩) (zz_preV hPc hKc hDc _ (q0 := 0) (ci := 8) rfl rfl) rfl rfl hl.1 rfl (lv_room (Nat.le_of_ble_eq_true rfl)) d_Mo_lay_102 ⟨Nat.le_of_ble_eq_true rfl, Nat.le_of_ble_eq_true rfl⟩) hS hFc (fun u H1 k9 p9 d9 => va_join (wr := [(ra, .inl (cB, 16400, .inl fa))]) hP hD [0, 2] [1] rfl rfl (by decide) (by decide) k9 hFc p9 d9) (fun u H locs hw hP hD hK1 hS => ?_)
            obtain ⟨u_44, rfl⟩ : ∃ z, z = u := ⟨_, rfl⟩
            try dsimp only at hw
            have hP : va_P (dC, dI) vwCl [(ra, .inl (cB, 16400, .inl fa)), (mo, .inr (8, [.int th, .int fd, .ref rt, .int mn, .ref rk, .ref rv, .ref rw, .ref ro, .int (nI (by_ap 4096 (by_ap 4096 M (P.take 1 ++ List.replicate i (ly_y bz))) [by_b 48]).length), .ref rr, .int (nI P.length), .ref ra, .long pz, .int kc, .ref rc, .ref rl, .ref rb, .int la, .int ca])), (rr, .inl (cB, 4096, .inl u_44))] H := hP
            have hD : va_D A [(ra, .inl (cB, 16400, .inl fa)), (mo, .inr (8, [.int th, .int fd, .ref rt, .int mn, .ref rk, .ref rv, .ref rw, .ref ro, .int (nI (by_ap 4096 (by_ap 4096 M (P.take 1 ++ List.replicate i (ly_y bz))) [by_b 48]).length), .ref rr, .int (nI P.length), .ref ra, .long pz, .int kc, .ref rc, .ref rl, .ref rb, .int la, .int ca])), (rr, .inl (cB, 4096, .inl u_44))] := hD
            have hR_46 := hw
            refine lv_iinc (v := (nI i) + 1) (lv' := [(6, .int ((nI i) + 1)), (0, .ref mo), (1, .int (nI wd)), (2, .int (by_z bm)), (3, .int (by_z bz)), (4, .int (nI (wd - P.length))), (5, .int 1)]) hx hb d_Mo_lay_105 hl (k := 6) rfl rfl (by decide) rfl (fun ls hl => ?_)
            refine lv_goto (tgt := 83) hx hb d_Mo_lay_108 (by decide) ?_
            rw [show ([by_b 48] : List Nat) = [ly_y bz] by rw [hz]; rfl, rp_s] at hP hD hR_46
            rw [nI_1] at hl
            exact ih_83 (i + 1, u_44) H locs ls ⟨hP.sub [1, 0, 2] rfl, hD.sub [1, 0, 2] (by decide) rfl, hS, lv_sub hl [1, 2, 3, 4, 5, 6, 0] rfl, hR_46, f_87⟩ (by dsimp only; omega)
  · skip
    have f_5 : P.length < wd := Nat.lt_of_not_le (fun z => c_5 (nI_le (b := P.length) z (by omega)))
    refine lv_iload_n hx hb d_Mo_lay_8 rfl (lv_at hl 1 rfl) ?_
    refine lv_aload_n hx hb d_Mo_lay_9 rfl (lv_at hl 0 rfl) ?_
    refine va_get (D := (dC, dI)) (ci := 8) (v := .int (nI P.length)) (C := "TextForgeModel") (T := TX8) (N := 19) hx hb hg iwX8 hown hK hP 0 rfl rfl 10 (by decide) (hg _ kw_736) (fun _ h9 => h9) rfl d_Mo_lay_10 ?_
    refine lv_isub hx hb d_Mo_lay_13 ?_
    refine lv_goto (tgt := 18) hx hb d_Mo_lay_14 (by decide) ?_
    refine lv_topi (fun y_47 ey_47 => ?_)
    have ey_47 : y_47 = (nI (wd - P.length) : Int32) := ey_47.trans (show ((nI wd) - (nI P.length)) = nI (wd - P.length) from (pk_sub (by omega)))
    subst ey_47
    refine lv_istore (lv' := [(4, .int (nI (wd - P.length))), (0, .ref mo), (1, .int (nI wd)), (2, .int (by_z bm)), (3, .int (by_z bz))]) hx hb d_Mo_lay_18 hl (by decide) rfl (fun ls hl => ?_)
    refine lv_iload_n hx hb d_Mo_lay_20 rfl (lv_at hl 4 rfl) ?_
    refine lv_if_eq (tgt := 57) hx hb d_Mo_lay_21 (by decide) (fun c_21 => ?_) (fun c_21 => ?_)
    · skip
      have hz : bz = false := by_z_f rfl c_21
      have hs : ly_s P bz = 0 := if_neg (fun z => by rw [hz] at z; exact absurd z.1 (by decide))
      refine lv_iconst (v := 0) hx hb d_Mo_lay_57 (by decide) ?_
      refine lv_istore (lv' := [(5, .int 0), (4, .int (nI (wd - P.length))), (0, .ref mo), (1, .int (nI wd)), (2, .int (by_z bm)), (3, .int (by_z bz))]) hx hb d_Mo_lay_58 hl (by decide) rfl (fun ls hl => ?_)
      refine lv_iload_n hx hb d_Mo_lay_60 rfl (lv_at hl 4 rfl) ?_
      refine lv_if_ne (tgt := 111) hx hb d_Mo_lay_61 (by decide) (fun c_61 => ?_) (fun c_61 => ?_)
      · skip
        have hbt : bm = true := by_z_t rfl c_61
        refine lv_iload_n hx hb d_Mo_lay_111 rfl (lv_at hl 4 rfl) ?_
        refine lv_if_eq (tgt := 119) hx hb d_Mo_lay_112 (by decide) (fun c9 => by first | exact absurd c9 (show ¬ by_z bm = 0 by rw [hbt]; decide) | exact absurd (show ¬ by_z bm = 0 by rw [hbt]; decide) c9) (fun _ => ?_)
        refine lv_iconst (v := 0) hx hb d_Mo_lay_115 (by decide) ?_
        refine lv_goto (tgt := 121) hx hb d_Mo_lay_116 (by decide) ?_
        refine lv_istore (lv' := [(6, .int 0), (5, .int 0), (4, .int (nI (wd - P.length))), (0, .ref mo), (1, .int (nI wd)), (2, .int (by_z bm)), (3, .int (by_z bz))]) hx hb d_Mo_lay_121 hl (by decide) rfl (fun ls hl => ?_)
        rw [show nI M.length = nI (by_ap 4096 M (([] : List Nat) ++ by_sg P 0 0)).length by rw [← ly_00 hcr]] at hP hD
        have hLr9 : by_L (by_ap 4096 M (([] : List Nat) ++ by_sg P 0 0)) fr := by rw [← ly_00 hcr]; exact hLr
        refine zz_loop (fun (x : Nat × (Nat → Int32)) H locs ls => match x with | (i2, g2) => va_P (dC, dI) vwCl [(mo, .inr (8, [.int th, .int fd, .ref rt, .int mn, .ref rk, .ref rv, .ref rw, .ref ro, .int (nI (by_ap 4096 M (([] : List Nat) ++ by_sg P 0 i2)).length), .ref rr, .int (nI P.length), .ref ra, .long pz, .int kc, .ref rc, .ref rl, .ref rb, .int la, .int ca])), (ra, .inl (cB, 16400, .inl fa)), (rr, .inl (cB, 4096, .inl g2))] H ∧ va_D A [(mo, .inr (8, [.int th, .int fd, .ref rt, .int mn, .ref rk, .ref rv, .ref rw, .ref ro, .int (nI (by_ap 4096 M (([] : List Nat) ++ by_sg P 0 i2)).length), .ref rr, .int (nI P.length), .ref ra, .long pz, .int kc, .ref rc, .ref rl, .ref rb, .int la, .int ca])), (ra, .inl (cB, 16400, .inl fa)), (rr, .inl (cB, 4096, .inl g2))] ∧ va_S A s.heap H locs ∧ lv_has ls 7 [(0, .ref mo), (1, .int (nI wd)), (2, .int (by_z bm)), (3, .int (by_z bz)), (4, .int (nI (wd - P.length))), (6, .int (nI (0 + i2)))] ∧ by_L (by_ap 4096 M (([] : List Nat) ++ by_sg P 0 i2)) g2 ∧ 0 + i2 ≤ P.length) (fun x => match x with | (i2, g2) => P.length - i2) ?_ (0, fr) ⟨hP.sub [0, 1, 2] rfl, hD.sub [0, 1, 2] (by decide) rfl, hS, lv_sub hl [3, 4, 5, 6, 2, 0] rfl, hLr9, (by omega)⟩
        intro x H locs ls hI ih_123
        obtain ⟨i2, g2⟩ := x
        try dsimp only at hI
        obtain ⟨hP, hD, hS, hl, hRj, hjl⟩ := hI
        refine lv_iload hx hb d_Mo_lay_123 (lv_at hl 5 rfl) ?_
        refine lv_aload_n hx hb d_Mo_lay_125 rfl (lv_at hl 0 rfl) ?_
        refine va_get (D := (dC, dI)) (ci := 8) (v := .int (nI P.length)) (C := "TextForgeModel") (T := TX8) (N := 19) hx hb hg iwX8 hown hK hP 0 rfl rfl 10 (by decide) (hg _ kw_736) (fun _ h9 => h9) rfl d_Mo_lay_126 ?_
        refine lv_icmp_ge (tgt := 149) hx hb d_Mo_lay_129 (by decide) (fun c_129 => ?_) (fun c_129 => ?_)
        · skip
          have f_129 : P.length ≤ (0 + i2) := Nat.le_of_not_lt (fun z => nI_ge (b := P.length) z (by omega) c_129)
          have hje : 0 + i2 = P.length := by omega
          refine lv_iconst (v := 0) hx hb d_Mo_lay_149 (by decide) ?_
          refine lv_istore (lv' := [(6, .int 0), (0, .ref mo), (1, .int (nI wd)), (2, .int (by_z bm)), (3, .int (by_z bz)), (4, .int (nI (wd - P.length)))]) hx hb d_Mo_lay_150 hl (by decide) rfl (fun ls hl => ?_)
          rw [ly_bt hje] at hP hD hRj
          refine zz_loop (fun (x : Nat × (Nat → Int32)) H locs ls => match x with | (i3, g3) => va_P (dC, dI) vwCl [(mo, .inr (8, [.int th, .int fd, .ref rt, .int mn, .ref rk, .ref rv, .ref rw, .ref ro, .int (nI (by_ap 4096 M (P ++ List.replicate i3 32)).length), .ref rr, .int (nI P.length), .ref ra, .long pz, .int kc, .ref rc, .ref rl, .ref rb, .int la, .int ca])), (ra, .inl (cB, 16400, .inl fa)), (rr, .inl (cB, 4096, .inl g3))] H ∧ va_D A [(mo, .inr (8, [.int th, .int fd, .ref rt, .int mn, .ref rk, .ref rv, .ref rw, .ref ro, .int (nI (by_ap 4096 M (P ++ List.replicate i3 32)).length), .ref rr, .int (nI P.length), .ref ra, .long pz, .int kc, .ref rc, .ref rl, .ref rb, .int la, .int ca])), (ra, .inl (cB, 16400, .inl fa)), (rr, .inl (cB, 4096, .inl g3))] ∧ va_S A s.heap H locs ∧ lv_has ls 7 [(0, .ref mo), (1, .int (nI wd)), (2, .int (by_z bm)), (3, .int (by_z bz)), (4, .int (nI (wd - P.length))), (6, .int (nI i3))] ∧ by_L (by_ap 4096 M (P ++ List.replicate i3 32)) g3 ∧ i3 ≤ wd - P.length) (fun x => match x with | (i3, g3) => wd - P.length - i3) ?_ (0, g2) ⟨hP.sub [0, 1, 2] rfl, hD.sub [0, 1, 2] (by decide) rfl, hS, lv_sub hl [1, 2, 3, 4, 5, 0] rfl, hRj, (Nat.zero_le _)⟩
          intro x H locs ls hI ih_152
          obtain ⟨i3, g3⟩ := x
          try dsimp only at hI
          obtain ⟨hP, hD, hS, hl, hRk, hkl⟩ := hI
          refine lv_iload hx hb d_Mo_lay_152 (lv_at hl 5 rfl) ?_
          refine lv_iload hx hb d_Mo_lay_154 (lv_at hl 4 rfl) ?_
          refine lv_icmp_ge (tgt := 175) hx hb d_Mo_lay_156 (by decide) (fun c_156 => ?_) (fun c_156 => ?_)
          · skip
            have f_156 : (wd - P.length) ≤ i3 := Nat.le_of_not_lt (fun z => nI_ge (b := (wd - P.length)) z (by omega) c_156)
            have hP9 := hP.sub (ws' := [(mo, .inr (8, [.int th, .int fd, .ref rt, .int mn, .ref rk, .ref rv, .ref rw, .ref ro, .int (nI (by_ap 4096 M (P ++ List.replicate i3 32)).length), .ref rr, .int (nI P.length), .ref ra, .long pz, .int kc, .ref rc, .ref rl, .ref rb, .int la, .int ca])), (ra, .inl (cB, 16400, .inl fa)), (rr, .inl (cB, 4096, .inl g3))]) [0, 1, 2] rfl
            have hD9 := hD.sub (ws' := [(mo, .inr (8, [.int th, .int fd, .ref rt, .int mn, .ref rk, .ref rv, .ref rw, .ref ro, .int (nI (by_ap 4096 M (P ++ List.replicate i3 32)).length), .ref rr, .int (nI P.length), .ref ra, .long pz, .int kc, .ref rc, .ref rl, .ref rb, .int la, .int ca])), (ra, .inl (cB, 16400, .inl fa)), (rr, .inl (cB, 4096, .inl g3))]) [0, 1, 2] (by decide) rfl
            have hK9 := hK.sub (tys' := [(cB, .byte)]) [0] rfl
            rw [(show (by_ap 4096 M (P ++ List.replicate i3 32)) = by_ap 4096 M (ly_o P wd bm bz) by rw [hbt]; exact ly_et (by omega))] at hP9 hD9
            exact zz_vret hx hb hr hlocks d_Mo_lay_175 hS (by first | exact Nat.le_refl _ | decide | omega | (dsimp only; omega)) (by first | exact Nat.le_refl _ | decide | omega | (dsimp only; omega)) g3 (by rw [← (show (by_ap 4096 M (P ++ List.replicate i3 32)) = by_ap 4096 M (ly_o P wd bm bz) by rw [hbt]; exact ly_et (by omega))]; exact hRk) hP9 hK9 hD9
          · skip
            have f_156 : i3 < (wd - P.length) := Nat.lt_of_not_le (fun z => c_156 (nI_le (a := (wd - P.length)) z (by omega)))
            refine lv_iload_n hx hb d_Mo_lay_159 rfl (lv_at hl 2 rfl) ?_
            refine lv_if_eq (tgt := 175) hx hb d_Mo_lay_160 (by decide) (fun c9 => by first | exact absurd c9 (show ¬ by_z bm = 0 by rw [hbt]; decide) | exact absurd (show ¬ by_z bm = 0 by rw [hbt]; decide) c9) (fun _ => ?_)
            refine lv_aload_n hx hb d_Mo_lay_163 rfl (lv_at hl 0 rfl) ?_
            refine lv_bipush (v := 32) hx hb d_Mo_lay_164 (by decide) ?_
            have hPc := hP.sub (ws' := [(mo, .inr (8, [.int th, .int fd, .ref rt, .int mn, .ref rk, .ref rv, .ref rw, .ref ro, .int (nI (by_ap 4096 M (P ++ List.replicate i3 32)).length), .ref rr, .int (nI P.length), .ref ra, .long pz, .int kc, .ref rc, .ref rl, .ref rb, .int la, .int ca])), (rr, .inl (cB, 4096, .inl g3))]) [0, 2] rfl
            have hKc := hK.sub (tys' := [(cB, .byte)]) [0] rfl
            have hDc := hD.sub (ws' := [(mo, .inr (8, [.int th, .int fd, .ref rt, .int mn, .ref rk, .ref rv, .ref rw, .ref ro, .int (nI (by_ap 4096 M (P ++ List.replicate i3 32)).length), .ref rr, .int (nI P.length), .ref ra, .long pz, .int kc, .ref rc, .ref rl, .ref rb, .int la, .int ca])), (rr, .inl (cB, 4096, .inl g3))]) [0, 2] (by decide) rfl
            have hFc := va_free (wc := [(mo, .inr (8, [.int th, .int fd, .ref rt, .int mn, .ref rk, .ref rv, .ref rw, .ref ro, .int (nI (by_ap 4096 M (P ++ List.replicate i3 32)).length), .ref rr, .int (nI P.length), .ref ra, .long pz, .int kc, .ref rc, .ref rl, .ref rb, .int la, .int ca])), (rr, .inl (cB, 4096, .inl g3))]) hD hS hA [0, 2] rfl
            refine zz_callv (va_runV (As := [.int 32]) (rest := []) ⟨hx, hb, hml, hown, hg⟩ (c_Mo_give l dC dI mo rt rk rv rw ro rr ra rc rl rb th fd mn (nI (by_ap 4096 M (P ++ List.replicate i3 32)).length) (nI P.length) pz kc la ca cB g3 (by_ap 4096 M (P ++ List.replicate i3 32)) 32 hRk (by_ap_len _ _ _) H.size) (cwV 1 hg (gi_V kw_848 kw_850 sw_13 kw_9 kw_851) rfl rfl rfl (by decide +kernel) ⟨Nat.le_of_ble_eq_true rfl, Nat.le_of_ble_eq_true rfl⟩) (zz_preV hPc hKc hDc _ (q0 := 0) (ci := 8) rfl rfl) rfl rfl hl.1 rfl (lv_room (Nat.le_of_ble_eq_true rfl)) d_Mo_lay_166 ⟨Nat.le_of_ble_eq_true rfl, Nat.le_of_ble_eq_true rfl⟩) hS hFc (fun u H1 k9 p9 d9 => va_join (wr := [(ra, .inl (cB, 16400, .inl fa))]) hP hD [0, 2] [1] rfl rfl (by decide) (by decide) k9 hFc p9 d9) (fun u H locs hw hP hD hK1 hS => ?_)
            obtain ⟨u_48, rfl⟩ : ∃ z, z = u := ⟨_, rfl⟩
            try dsimp only at hw
            have hP : va_P (dC, dI) vwCl [(ra, .inl (cB, 16400, .inl fa)), (mo, .inr (8, [.int th, .int fd, .ref rt, .int mn, .ref rk, .ref rv, .ref rw, .ref ro, .int (nI (by_ap 4096 (by_ap 4096 M (P ++ List.replicate i3 32)) [by_b 32]).length), .ref rr, .int (nI P.length), .ref ra, .long pz, .int kc, .ref rc, .ref rl, .ref rb, .int la, .int ca])), (rr, .inl (cB, 4096, .inl u_48))] H := hP
            have hD : va_D A [(ra, .inl (cB, 16400, .inl fa)), (mo, .inr (8, [.int th, .int fd, .ref rt, .int mn, .ref rk, .ref rv, .ref rw, .ref ro, .int (nI (by_ap 4096 (by_ap 4096 M (P ++ List.replicate i3 32)) [by_b 32]).length), .ref rr, .int (nI P.length), .ref ra, .long pz, .int kc, .ref rc, .ref rl, .ref rb, .int la, .int ca])), (rr, .inl (cB, 4096, .inl u_48))] := hD
            have hR_50 := hw
            refine lv_iinc (v := (nI i3) + 1) (lv' := [(6, .int ((nI i3) + 1)), (0, .ref mo), (1, .int (nI wd)), (2, .int (by_z bm)), (3, .int (by_z bz)), (4, .int (nI (wd - P.length)))]) hx hb d_Mo_lay_169 hl (k := 5) rfl rfl (by decide) rfl (fun ls hl => ?_)
            refine lv_goto (tgt := 152) hx hb d_Mo_lay_172 (by decide) ?_
            rw [show ([by_b 32] : List Nat) = [32] from rfl, rp_s] at hP hD hR_50
            rw [nI_1] at hl
            exact ih_152 (i3 + 1, u_48) H locs ls ⟨hP.sub [1, 0, 2] rfl, hD.sub [1, 0, 2] (by decide) rfl, hS, lv_sub hl [1, 2, 3, 4, 5, 0] rfl, hR_50, f_156⟩ (by dsimp only; omega)
        · skip
          have f_129 : (0 + i2) < P.length := Nat.lt_of_not_le (fun z => c_129 (nI_le (a := P.length) z (by omega)))
          refine lv_aload_n hx hb d_Mo_lay_132 rfl (lv_at hl 0 rfl) ?_
          refine lv_aload_n hx hb d_Mo_lay_133 rfl (lv_at hl 0 rfl) ?_
          refine va_get (D := (dC, dI)) (ci := 8) (v := .ref ra) (C := "TextForgeModel") (T := TX8) (N := 19) hx hb hg iwX8 hown hK hP 0 rfl rfl 11 (by decide) (hg _ kw_737) (fun _ h9 => h9) rfl d_Mo_lay_134 ?_
          refine lv_iload hx hb d_Mo_lay_137 (lv_at hl 5 rfl) ?_
          refine va_bald hx hb hK hP 1 0 rfl rfl (vp_in_nI (by omega) (by decide)) d_Mo_lay_139 ?_
          refine lv_topi (fun y_51 ey_51 => ?_)
          have ey_51 : y_51 = (sb_b (P.getD (0 + i2) 0) : Int32) := ey_51.trans (show (fa (nI (0 + i2)).toNatClampNeg) = sb_b (P.getD (0 + i2) 0) from (by rw [nI_clamp (show 0 + i2 < 2 ^ 31 by omega)]; exact (hLa _ f_129).2))
          subst ey_51
          have hPc := hP.sub (ws' := [(mo, .inr (8, [.int th, .int fd, .ref rt, .int mn, .ref rk, .ref rv, .ref rw, .ref ro, .int (nI (by_ap 4096 M (([] : List Nat) ++ by_sg P 0 i2)).length), .ref rr, .int (nI P.length), .ref ra, .long pz, .int kc, .ref rc, .ref rl, .ref rb, .int la, .int ca])), (rr, .inl (cB, 4096, .inl g2))]) [0, 2] rfl
          have hKc := hK.sub (tys' := [(cB, .byte)]) [0] rfl
          have hDc := hD.sub (ws' := [(mo, .inr (8, [.int th, .int fd, .ref rt, .int mn, .ref rk, .ref rv, .ref rw, .ref ro, .int (nI (by_ap 4096 M (([] : List Nat) ++ by_sg P 0 i2)).length), .ref rr, .int (nI P.length), .ref ra, .long pz, .int kc, .ref rc, .ref rl, .ref rb, .int la, .int ca])), (rr, .inl (cB, 4096, .inl g2))]) [0, 2] (by decide) rfl
          have hFc := va_free (wc := [(mo, .inr (8, [.int th, .int fd, .ref rt, .int mn, .ref rk, .ref rv, .ref rw, .ref ro, .int (nI (by_ap 4096 M (([] : List Nat) ++ by_sg P 0 i2)).length), .ref rr, .int (nI P.length), .ref ra, .long pz, .int kc, .ref rc, .ref rl, .ref rb, .int la, .int ca])), (rr, .inl (cB, 4096, .inl g2))]) hD hS hA [0, 2] rfl
          refine zz_callv (va_runV (As := [.int (sb_b (P.getD (0 + i2) 0))]) (rest := []) ⟨hx, hb, hml, hown, hg⟩ (c_Mo_give l dC dI mo rt rk rv rw ro rr ra rc rl rb th fd mn (nI (by_ap 4096 M (([] : List Nat) ++ by_sg P 0 i2)).length) (nI P.length) pz kc la ca cB g2 (by_ap 4096 M (([] : List Nat) ++ by_sg P 0 i2)) (sb_b (P.getD (0 + i2) 0)) hRj (by_ap_len _ _ _) H.size) (cwV 1 hg (gi_V kw_848 kw_850 sw_13 kw_9 kw_851) rfl rfl rfl (by decide +kernel) ⟨Nat.le_of_ble_eq_true rfl, Nat.le_of_ble_eq_true rfl⟩) (zz_preV hPc hKc hDc _ (q0 := 0) (ci := 8) rfl rfl) rfl rfl hl.1 rfl (lv_room (Nat.le_of_ble_eq_true rfl)) d_Mo_lay_140 ⟨Nat.le_of_ble_eq_true rfl, Nat.le_of_ble_eq_true rfl⟩) hS hFc (fun u H1 k9 p9 d9 => va_join (wr := [(ra, .inl (cB, 16400, .inl fa))]) hP hD [0, 2] [1] rfl rfl (by decide) (by decide) k9 hFc p9 d9) (fun u H locs hw hP hD hK1 hS => ?_)
          obtain ⟨u_52, rfl⟩ : ∃ z, z = u := ⟨_, rfl⟩
          try dsimp only at hw
          have hP : va_P (dC, dI) vwCl [(ra, .inl (cB, 16400, .inl fa)), (mo, .inr (8, [.int th, .int fd, .ref rt, .int mn, .ref rk, .ref rv, .ref rw, .ref ro, .int (nI (by_ap 4096 (by_ap 4096 M (([] : List Nat) ++ by_sg P 0 i2)) [by_b (sb_b (P.getD (0 + i2) 0))]).length), .ref rr, .int (nI P.length), .ref ra, .long pz, .int kc, .ref rc, .ref rl, .ref rb, .int la, .int ca])), (rr, .inl (cB, 4096, .inl u_52))] H := hP
          have hD : va_D A [(ra, .inl (cB, 16400, .inl fa)), (mo, .inr (8, [.int th, .int fd, .ref rt, .int mn, .ref rk, .ref rv, .ref rw, .ref ro, .int (nI (by_ap 4096 (by_ap 4096 M (([] : List Nat) ++ by_sg P 0 i2)) [by_b (sb_b (P.getD (0 + i2) 0))]).length), .ref rr, .int (nI P.length), .ref ra, .long pz, .int kc, .ref rc, .ref rl, .ref rb, .int la, .int ca])), (rr, .inl (cB, 4096, .inl u_52))] := hD
          have hR_54 := hw
          refine lv_iinc (v := (nI (0 + i2)) + 1) (lv' := [(6, .int ((nI (0 + i2)) + 1)), (0, .ref mo), (1, .int (nI wd)), (2, .int (by_z bm)), (3, .int (by_z bz)), (4, .int (nI (wd - P.length)))]) hx hb d_Mo_lay_143 hl (k := 5) rfl rfl (by decide) rfl (fun ls hl => ?_)
          refine lv_goto (tgt := 123) hx hb d_Mo_lay_146 (by decide) ?_
          rw [sg_s f_129 (hLa (0 + i2) f_129).1] at hP hD hR_54
          rw [nI_1, Nat.add_assoc] at hl
          exact ih_123 (i2 + 1, u_52) H locs ls ⟨hP.sub [1, 0, 2] rfl, hD.sub [1, 0, 2] (by decide) rfl, hS, lv_sub hl [1, 2, 3, 4, 5, 0] rfl, hR_54, f_129⟩ (by dsimp only; omega)
      · skip
        have hbf : bm = false := by_z_f rfl c_61
        refine lv_iload hx hb d_Mo_lay_64 (lv_at hl 0 rfl) ?_
        refine lv_iconst (v := 1) hx hb d_Mo_lay_66 (by decide) ?_
        refine lv_icmp_ne (tgt := 80) hx hb d_Mo_lay_67 (by decide) (fun _ => ?_) (fun c9 => by first | exact absurd c9 (by decide) | exact absurd (by decide) c9)
        refine lv_iconst (v := 0) hx hb d_Mo_lay_80 (by decide) ?_
        refine lv_istore (lv' := [(6, .int 0), (5, .int 0), (4, .int (nI (wd - P.length))), (0, .ref mo), (1, .int (nI wd)), (2, .int (by_z bm)), (3, .int (by_z bz))]) hx hb d_Mo_lay_81 hl (by decide) rfl (fun ls hl => ?_)
        rw [show nI M.length = nI (by_ap 4096 M (P.take 0 ++ List.replicate 0 (ly_y bz))).length by rw [← ly_0 hcr]] at hP hD
        have hLr9 : by_L (by_ap 4096 M (P.take 0 ++ List.replicate 0 (ly_y bz))) fr := by rw [← ly_0 hcr]; exact hLr
        refine zz_loop (fun (x : Nat × (Nat → Int32)) H locs ls => match x with | (i, g) => va_P (dC, dI) vwCl [(mo, .inr (8, [.int th, .int fd, .ref rt, .int mn, .ref rk, .ref rv, .ref rw, .ref ro, .int (nI (by_ap 4096 M (P.take 0 ++ List.replicate i (ly_y bz))).length), .ref rr, .int (nI P.length), .ref ra, .long pz, .int kc, .ref rc, .ref rl, .ref rb, .int la, .int ca])), (ra, .inl (cB, 16400, .inl fa)), (rr, .inl (cB, 4096, .inl g))] H ∧ va_D A [(mo, .inr (8, [.int th, .int fd, .ref rt, .int mn, .ref rk, .ref rv, .ref rw, .ref ro, .int (nI (by_ap 4096 M (P.take 0 ++ List.replicate i (ly_y bz))).length), .ref rr, .int (nI P.length), .ref ra, .long pz, .int kc, .ref rc, .ref rl, .ref rb, .int la, .int ca])), (ra, .inl (cB, 16400, .inl fa)), (rr, .inl (cB, 4096, .inl g))] ∧ va_S A s.heap H locs ∧ lv_has ls 7 [(0, .ref mo), (1, .int (nI wd)), (2, .int (by_z bm)), (3, .int (by_z bz)), (4, .int (nI (wd - P.length))), (5, .int 0), (6, .int (nI i))] ∧ by_L (by_ap 4096 M (P.take 0 ++ List.replicate i (ly_y bz))) g ∧ i ≤ wd - P.length) (fun x => match x with | (i, g) => wd - P.length - i) ?_ (0, fr) ⟨hP.sub [0, 1, 2] rfl, hD.sub [0, 1, 2] (by decide) rfl, hS, lv_sub hl [3, 4, 5, 6, 2, 1, 0] rfl, hLr9, (Nat.zero_le _)⟩
        intro x H locs ls hI ih_83
        obtain ⟨i, g⟩ := x
        try dsimp only at hI
        obtain ⟨hP, hD, hS, hl, hRi, hil⟩ := hI
        refine lv_iload hx hb d_Mo_lay_83 (lv_at hl 6 rfl) ?_
        refine lv_iload hx hb d_Mo_lay_85 (lv_at hl 4 rfl) ?_
        refine lv_icmp_ge (tgt := 111) hx hb d_Mo_lay_87 (by decide) (fun c_87 => ?_) (fun c_87 => ?_)
        · skip
          have f_87 : (wd - P.length) ≤ i := Nat.le_of_not_lt (fun z => nI_ge (b := (wd - P.length)) z (by omega) c_87)
          refine lv_iload_n hx hb d_Mo_lay_111 rfl (lv_at hl 2 rfl) ?_
          refine lv_if_eq (tgt := 119) hx hb d_Mo_lay_112 (by decide) (fun _ => ?_) (fun c9 => by first | exact absurd c9 (show by_z bm = 0 by rw [hbf]; rfl) | exact absurd (show by_z bm = 0 by rw [hbf]; rfl) c9)
          refine lv_iload hx hb d_Mo_lay_119 (lv_at hl 5 rfl) ?_
          refine lv_istore (lv' := [(6, .int 0), (0, .ref mo), (1, .int (nI wd)), (2, .int (by_z bm)), (3, .int (by_z bz)), (4, .int (nI (wd - P.length))), (5, .int 0)]) hx hb d_Mo_lay_121 hl (by decide) rfl (fun ls hl => ?_)
          have hie : i = wd - P.length := by omega
          rw [hie, ly_a (P := P) (a := 0)] at hP hD hRi
          refine zz_loop (fun (x : Nat × (Nat → Int32)) H locs ls => match x with | (i2, g2) => va_P (dC, dI) vwCl [(mo, .inr (8, [.int th, .int fd, .ref rt, .int mn, .ref rk, .ref rv, .ref rw, .ref ro, .int (nI (by_ap 4096 M ((P.take 0 ++ List.replicate (wd - P.length) (ly_y bz)) ++ by_sg P 0 i2)).length), .ref rr, .int (nI P.length), .ref ra, .long pz, .int kc, .ref rc, .ref rl, .ref rb, .int la, .int ca])), (ra, .inl (cB, 16400, .inl fa)), (rr, .inl (cB, 4096, .inl g2))] H ∧ va_D A [(mo, .inr (8, [.int th, .int fd, .ref rt, .int mn, .ref rk, .ref rv, .ref rw, .ref ro, .int (nI (by_ap 4096 M ((P.take 0 ++ List.replicate (wd - P.length) (ly_y bz)) ++ by_sg P 0 i2)).length), .ref rr, .int (nI P.length), .ref ra, .long pz, .int kc, .ref rc, .ref rl, .ref rb, .int la, .int ca])), (ra, .inl (cB, 16400, .inl fa)), (rr, .inl (cB, 4096, .inl g2))] ∧ va_S A s.heap H locs ∧ lv_has ls 7 [(0, .ref mo), (1, .int (nI wd)), (2, .int (by_z bm)), (3, .int (by_z bz)), (4, .int (nI (wd - P.length))), (6, .int (nI (0 + i2)))] ∧ by_L (by_ap 4096 M ((P.take 0 ++ List.replicate (wd - P.length) (ly_y bz)) ++ by_sg P 0 i2)) g2 ∧ 0 + i2 ≤ P.length) (fun x => match x with | (i2, g2) => P.length - i2) ?_ (0, g) ⟨hP.sub [0, 1, 2] rfl, hD.sub [0, 1, 2] (by decide) rfl, hS, lv_sub hl [1, 2, 3, 4, 5, 0] rfl, hRi, (by omega)⟩
          intro x H locs ls hI ih_123
          obtain ⟨i2, g2⟩ := x
          try dsimp only at hI
          obtain ⟨hP, hD, hS, hl, hRj, hjl⟩ := hI
          refine lv_iload hx hb d_Mo_lay_123 (lv_at hl 5 rfl) ?_
          refine lv_aload_n hx hb d_Mo_lay_125 rfl (lv_at hl 0 rfl) ?_
          refine va_get (D := (dC, dI)) (ci := 8) (v := .int (nI P.length)) (C := "TextForgeModel") (T := TX8) (N := 19) hx hb hg iwX8 hown hK hP 0 rfl rfl 10 (by decide) (hg _ kw_736) (fun _ h9 => h9) rfl d_Mo_lay_126 ?_
          refine lv_icmp_ge (tgt := 149) hx hb d_Mo_lay_129 (by decide) (fun c_129 => ?_) (fun c_129 => ?_)
          · skip
            have f_129 : P.length ≤ (0 + i2) := Nat.le_of_not_lt (fun z => nI_ge (b := P.length) z (by omega) c_129)
            have hje : 0 + i2 = P.length := by omega
            refine lv_iconst (v := 0) hx hb d_Mo_lay_149 (by decide) ?_
            refine lv_istore (lv' := [(6, .int 0), (0, .ref mo), (1, .int (nI wd)), (2, .int (by_z bm)), (3, .int (by_z bz)), (4, .int (nI (wd - P.length)))]) hx hb d_Mo_lay_150 hl (by decide) rfl (fun ls hl => ?_)
            refine lv_iload hx hb d_Mo_lay_152 (lv_at hl 0 rfl) ?_
            refine lv_iload hx hb d_Mo_lay_154 (lv_at hl 5 rfl) ?_
            refine lv_icmp_ge (tgt := 175) hx hb d_Mo_lay_156 (by decide) (fun c_156 => ?_) (fun c_156 => ?_)
            · skip
              have hP9 := hP.sub (ws' := [(mo, .inr (8, [.int th, .int fd, .ref rt, .int mn, .ref rk, .ref rv, .ref rw, .ref ro, .int (nI (by_ap 4096 M ((P.take 0 ++ List.replicate (wd - P.length) (ly_y bz)) ++ by_sg P 0 i2)).length), .ref rr, .int (nI P.length), .ref ra, .long pz, .int kc, .ref rc, .ref rl, .ref rb, .int la, .int ca])), (ra, .inl (cB, 16400, .inl fa)), (rr, .inl (cB, 4096, .inl g2))]) [0, 1, 2] rfl
              have hD9 := hD.sub (ws' := [(mo, .inr (8, [.int th, .int fd, .ref rt, .int mn, .ref rk, .ref rv, .ref rw, .ref ro, .int (nI (by_ap 4096 M ((P.take 0 ++ List.replicate (wd - P.length) (ly_y bz)) ++ by_sg P 0 i2)).length), .ref rr, .int (nI P.length), .ref ra, .long pz, .int kc, .ref rc, .ref rl, .ref rb, .int la, .int ca])), (ra, .inl (cB, 16400, .inl fa)), (rr, .inl (cB, 4096, .inl g2))]) [0, 1, 2] (by decide) rfl
              have hK9 := hK.sub (tys' := [(cB, .byte)]) [0] rfl
              rw [(show (by_ap 4096 M ((P.take 0 ++ List.replicate (wd - P.length) (ly_y bz)) ++ by_sg P 0 i2)) = by_ap 4096 M (ly_o P wd bm bz) by rw [hbf]; exact ly_ef hs hje)] at hP9 hD9
              exact zz_vret hx hb hr hlocks d_Mo_lay_175 hS (by first | exact Nat.le_refl _ | decide | omega | (dsimp only; omega)) (by first | exact Nat.le_refl _ | decide | omega | (dsimp only; omega)) g2 (by rw [← (show (by_ap 4096 M ((P.take 0 ++ List.replicate (wd - P.length) (ly_y bz)) ++ by_sg P 0 i2)) = by_ap 4096 M (ly_o P wd bm bz) by rw [hbf]; exact ly_ef hs hje)]; exact hRj) hP9 hK9 hD9
            · skip
              refine lv_iload_n hx hb d_Mo_lay_159 rfl (lv_at hl 3 rfl) ?_
              refine lv_if_eq (tgt := 175) hx hb d_Mo_lay_160 (by decide) (fun _ => ?_) (fun c9 => by first | exact absurd c9 (show by_z bm = 0 by rw [hbf]; rfl) | exact absurd (show by_z bm = 0 by rw [hbf]; rfl) c9)
              have hP9 := hP.sub (ws' := [(mo, .inr (8, [.int th, .int fd, .ref rt, .int mn, .ref rk, .ref rv, .ref rw, .ref ro, .int (nI (by_ap 4096 M ((P.take 0 ++ List.replicate (wd - P.length) (ly_y bz)) ++ by_sg P 0 i2)).length), .ref rr, .int (nI P.length), .ref ra, .long pz, .int kc, .ref rc, .ref rl, .ref rb, .int la, .int ca])), (ra, .inl (cB, 16400, .inl fa)), (rr, .inl (cB, 4096, .inl g2))]) [0, 1, 2] rfl
              have hD9 := hD.sub (ws' := [(mo, .inr (8, [.int th, .int fd, .ref rt, .int mn, .ref rk, .ref rv, .ref rw, .ref ro, .int (nI (by_ap 4096 M ((P.take 0 ++ List.replicate (wd - P.length) (ly_y bz)) ++ by_sg P 0 i2)).length), .ref rr, .int (nI P.length), .ref ra, .long pz, .int kc, .ref rc, .ref rl, .ref rb, .int la, .int ca])), (ra, .inl (cB, 16400, .inl fa)), (rr, .inl (cB, 4096, .inl g2))]) [0, 1, 2] (by decide) rfl
              have hK9 := hK.sub (tys' := [(cB, .byte)]) [0] rfl
              rw [(show (by_ap 4096 M ((P.take 0 ++ List.replicate (wd - P.length) (ly_y bz)) ++ by_sg P 0 i2)) = by_ap 4096 M (ly_o P wd bm bz) by rw [hbf]; exact ly_ef hs hje)] at hP9 hD9
              exact zz_vret hx hb hr hlocks d_Mo_lay_175 hS (by first | exact Nat.le_refl _ | decide | omega | (dsimp only; omega)) (by first | exact Nat.le_refl _ | decide | omega | (dsimp only; omega)) g2 (by rw [← (show (by_ap 4096 M ((P.take 0 ++ List.replicate (wd - P.length) (ly_y bz)) ++ by_sg P 0 i2)) = by_ap 4096 M (ly_o P wd bm bz) by rw [hbf]; exact ly_ef hs hje)]; exact hRj) hP9 hK9 hD9
          · skip
            have f_129 : (0 + i2) < P.length := Nat.lt_of_not_le (fun z => c_129 (nI_le (a := P.length) z (by omega)))
            refine lv_aload_n hx hb d_Mo_lay_132 rfl (lv_at hl 0 rfl) ?_
            refine lv_aload_n hx hb d_Mo_lay_133 rfl (lv_at hl 0 rfl) ?_
            refine va_get (D := (dC, dI)) (ci := 8) (v := .ref ra) (C := "TextForgeModel") (T := TX8) (N := 19) hx hb hg iwX8 hown hK hP 0 rfl rfl 11 (by decide) (hg _ kw_737) (fun _ h9 => h9) rfl d_Mo_lay_134 ?_
            refine lv_iload hx hb d_Mo_lay_137 (lv_at hl 5 rfl) ?_
            refine va_bald hx hb hK hP 1 0 rfl rfl (vp_in_nI (by omega) (by decide)) d_Mo_lay_139 ?_
            refine lv_topi (fun y_55 ey_55 => ?_)
            have ey_55 : y_55 = (sb_b (P.getD (0 + i2) 0) : Int32) := ey_55.trans (show (fa (nI (0 + i2)).toNatClampNeg) = sb_b (P.getD (0 + i2) 0) from (by rw [nI_clamp (show 0 + i2 < 2 ^ 31 by omega)]; exact (hLa _ f_129).2))
            subst ey_55
            have hPc := hP.sub (ws' := [(mo, .inr (8, [.int th, .int fd, .ref rt, .int mn, .ref rk, .ref rv, .ref rw, .ref ro, .int (nI (by_ap 4096 M ((P.take 0 ++ List.replicate (wd - P.length) (ly_y bz)) ++ by_sg P 0 i2)).length), .ref rr, .int (nI P.length), .ref ra, .long pz, .int kc, .ref rc, .ref rl, .ref rb, .int la, .int ca])), (rr, .inl (cB, 4096, .inl g2))]) [0, 2] rfl
            have hKc := hK.sub (tys' := [(cB, .byte)]) [0] rfl
            have hDc := hD.sub (ws' := [(mo, .inr (8, [.int th, .int fd, .ref rt, .int mn, .ref rk, .ref rv, .ref rw, .ref ro, .int (nI (by_ap 4096 M ((P.take 0 ++ List.replicate (wd - P.length) (ly_y bz)) ++ by_sg P 0 i2)).length), .ref rr, .int (nI P.length), .ref ra, .long pz, .int kc, .ref rc, .ref rl, .ref rb, .int la, .int ca])), (rr, .inl (cB, 4096, .inl g2))]) [0, 2] (by decide) rfl
            have hFc := va_free (wc := [(mo, .inr (8, [.int th, .int fd, .ref rt, .int mn, .ref rk, .ref rv, .ref rw, .ref ro, .int (nI (by_ap 4096 M ((P.take 0 ++ List.replicate (wd - P.length) (ly_y bz)) ++ by_sg P 0 i2)).length), .ref rr, .int (nI P.length), .ref ra, .long pz, .int kc, .ref rc, .ref rl, .ref rb, .int la, .int ca])), (rr, .inl (cB, 4096, .inl g2))]) hD hS hA [0, 2] rfl
            refine zz_callv (va_runV (As := [.int (sb_b (P.getD (0 + i2) 0))]) (rest := []) ⟨hx, hb, hml, hown, hg⟩ (c_Mo_give l dC dI mo rt rk rv rw ro rr ra rc rl rb th fd mn (nI (by_ap 4096 M ((P.take 0 ++ List.replicate (wd - P.length) (ly_y bz)) ++ by_sg P 0 i2)).length) (nI P.length) pz kc la ca cB g2 (by_ap 4096 M ((P.take 0 ++ List.replicate (wd - P.length) (ly_y bz)) ++ by_sg P 0 i2)) (sb_b (P.getD (0 + i2) 0)) hRj (by_ap_len _ _ _) H.size) (cwV 1 hg (gi_V kw_848 kw_850 sw_13 kw_9 kw_851) rfl rfl rfl (by decide +kernel) ⟨Nat.le_of_ble_eq_true rfl, Nat.le_of_ble_eq_true rfl⟩) (zz_preV hPc hKc hDc _ (q0 := 0) (ci := 8) rfl rfl) rfl rfl hl.1 rfl (lv_room (Nat.le_of_ble_eq_true rfl)) d_Mo_lay_140 ⟨Nat.le_of_ble_eq_true rfl, Nat.le_of_ble_eq_true rfl⟩) hS hFc (fun u H1 k9 p9 d9 => va_join (wr := [(ra, .inl (cB, 16400, .inl fa))]) hP hD [0, 2] [1] rfl rfl (by decide) (by decide) k9 hFc p9 d9) (fun u H locs hw hP hD hK1 hS => ?_)
            obtain ⟨u_56, rfl⟩ : ∃ z, z = u := ⟨_, rfl⟩
            try dsimp only at hw
            have hP : va_P (dC, dI) vwCl [(ra, .inl (cB, 16400, .inl fa)), (mo, .inr (8, [.int th, .int fd, .ref rt, .int mn, .ref rk, .ref rv, .ref rw, .ref ro, .int (nI (by_ap 4096 (by_ap 4096 M ((P.take 0 ++ List.replicate (wd - P.length) (ly_y bz)) ++ by_sg P 0 i2)) [by_b (sb_b (P.getD (0 + i2) 0))]).length), .ref rr, .int (nI P.length), .ref ra, .long pz, .int kc, .ref rc, .ref rl, .ref rb, .int la, .int ca])), (rr, .inl (cB, 4096, .inl u_56))] H := hP
            have hD : va_D A [(ra, .inl (cB, 16400, .inl fa)), (mo, .inr (8, [.int th, .int fd, .ref rt, .int mn, .ref rk, .ref rv, .ref rw, .ref ro, .int (nI (by_ap 4096 (by_ap 4096 M ((P.take 0 ++ List.replicate (wd - P.length) (ly_y bz)) ++ by_sg P 0 i2)) [by_b (sb_b (P.getD (0 + i2) 0))]).length), .ref rr, .int (nI P.length), .ref ra, .long pz, .int kc, .ref rc, .ref rl, .ref rb, .int la, .int ca])), (rr, .inl (cB, 4096, .inl u_56))] := hD
            have hR_58 := hw
            refine lv_iinc (v := (nI (0 + i2)) + 1) (lv' := [(6, .int ((nI (0 + i2)) + 1)), (0, .ref mo), (1, .int (nI wd)), (2, .int (by_z bm)), (3, .int (by_z bz)), (4, .int (nI (wd - P.length)))]) hx hb d_Mo_lay_143 hl (k := 5) rfl rfl (by decide) rfl (fun ls hl => ?_)
            refine lv_goto (tgt := 123) hx hb d_Mo_lay_146 (by decide) ?_
            rw [sg_s f_129 (hLa (0 + i2) f_129).1] at hP hD hR_58
            rw [nI_1, Nat.add_assoc] at hl
            exact ih_123 (i2 + 1, u_56) H locs ls ⟨hP.sub [1, 0, 2] rfl, hD.sub [1, 0, 2] (by decide) rfl, hS, lv_sub hl [1, 2, 3, 4, 5, 0] rfl, hR_58, f_129⟩ (by dsimp only; omega)
        · skip
          have f_87 : i < (wd - P.length) := Nat.lt_of_not_le (fun z => c_87 (nI_le (a := (wd - P.length)) z (by omega)))
          refine lv_aload_n hx hb d_Mo_lay_90 rfl (lv_at hl 0 rfl) ?_
          refine lv_iload_n hx hb d_Mo_lay_91 rfl (lv_at hl 3 rfl) ?_
          refine lv_if_eq (tgt := 100) hx hb d_Mo_lay_92 (by decide) (fun _ => ?_) (fun c9 => by first | exact absurd c9 (show by_z bz = 0 by rw [hz]; rfl) | exact absurd (show by_z bz = 0 by rw [hz]; rfl) c9)
          refine lv_bipush (v := 32) hx hb d_Mo_lay_100 (by decide) ?_
          have hPc := hP.sub (ws' := [(mo, .inr (8, [.int th, .int fd, .ref rt, .int mn, .ref rk, .ref rv, .ref rw, .ref ro, .int (nI (by_ap 4096 M (P.take 0 ++ List.replicate i (ly_y bz))).length), .ref rr, .int (nI P.length), .ref ra, .long pz, .int kc, .ref rc, .ref rl, .ref rb, .int la, .int ca])), (rr, .inl (cB, 4096, .inl g))]) [0, 2] rfl
          have hKc := hK.sub (tys' := [(cB, .byte)]) [0] rfl
          have hDc := hD.sub (ws' := [(mo, .inr (8, [.int th, .int fd, .ref rt, .int mn, .ref rk, .ref rv, .ref rw, .ref ro, .int (nI (by_ap 4096 M (P.take 0 ++ List.replicate i (ly_y bz))).length), .ref rr, .int (nI P.length), .ref ra, .long pz, .int kc, .ref rc, .ref rl, .ref rb, .int la, .int ca])), (rr, .inl (cB, 4096, .inl g))]) [0, 2] (by decide) rfl
          have hFc := va_free (wc := [(mo, .inr (8, [.int th, .int fd, .ref rt, .int mn, .ref rk, .ref rv, .ref rw, .ref ro, .int (nI (by_ap 4096 M (P.take 0 ++ List.replicate i (ly_y bz))).length), .ref rr, .int (nI P.length), .ref ra, .long pz, .int kc, .ref rc, .ref rl, .ref rb, .int la, .int ca])), (rr, .inl (cB, 4096, .inl g))]) hD hS hA [0, 2] rfl
          refine zz_callv (va_runV (As := [.int 32]) (rest := []) ⟨hx, hb, hml, hown, hg⟩ (c_Mo_give l dC dI mo rt rk rv rw ro rr ra rc rl rb th fd mn (nI (by_ap 4096 M (P.take 0 ++ List.replicate i (ly_y bz))).length) (nI P.length) pz kc la ca cB g (by_ap 4096 M (P.take 0 ++ List.replicate i (ly_y bz))) 32 hRi (by_ap_len _ _ _) H.size) (cwV 1 hg (gi_V kw_848 kw_850 sw_13 kw_9 kw_851) rfl rfl rfl (by decide +kernel) ⟨Nat.le_of_ble_eq_true rfl, Nat.le_of_ble_eq_true rfl⟩) (zz_preV hPc hKc hDc _ (q0 := 0) (ci := 8) rfl rfl) rfl rfl hl.1 rfl (lv_room (Nat.le_of_ble_eq_true rfl)) d_Mo_lay_102 ⟨Nat.le_of_ble_eq_true rfl, Nat.le_of_ble_eq_true rfl⟩) hS hFc (fun u H1 k9 p9 d9 => va_join (wr := [(ra, .inl (cB, 16400, .inl fa))]) hP hD [0, 2] [1] rfl rfl (by decide) (by decide) k9 hFc p9 d9) (fun u H locs hw hP hD hK1 hS => ?_)
          obtain ⟨u_59, rfl⟩ : ∃ z, z = u := ⟨_, rfl⟩
          try dsimp only at hw
          have hP : va_P (dC, dI) vwCl [(ra, .inl (cB, 16400, .inl fa)), (mo, .inr (8, [.int th, .int fd, .ref rt, .int mn, .ref rk, .ref rv, .ref rw, .ref ro, .int (nI (by_ap 4096 (by_ap 4096 M (P.take 0 ++ List.replicate i (ly_y bz))) [by_b 32]).length), .ref rr, .int (nI P.length), .ref ra, .long pz, .int kc, .ref rc, .ref rl, .ref rb, .int la, .int ca])), (rr, .inl (cB, 4096, .inl u_59))] H := hP
          have hD : va_D A [(ra, .inl (cB, 16400, .inl fa)), (mo, .inr (8, [.int th, .int fd, .ref rt, .int mn, .ref rk, .ref rv, .ref rw, .ref ro, .int (nI (by_ap 4096 (by_ap 4096 M (P.take 0 ++ List.replicate i (ly_y bz))) [by_b 32]).length), .ref rr, .int (nI P.length), .ref ra, .long pz, .int kc, .ref rc, .ref rl, .ref rb, .int la, .int ca])), (rr, .inl (cB, 4096, .inl u_59))] := hD
          have hR_61 := hw
          refine lv_iinc (v := (nI i) + 1) (lv' := [(6, .int ((nI i) + 1)), (0, .ref mo), (1, .int (nI wd)), (2, .int (by_z bm)), (3, .int (by_z bz)), (4, .int (nI (wd - P.length))), (5, .int 0)]) hx hb d_Mo_lay_105 hl (k := 6) rfl rfl (by decide) rfl (fun ls hl => ?_)
          refine lv_goto (tgt := 83) hx hb d_Mo_lay_108 (by decide) ?_
          rw [show ([by_b 32] : List Nat) = [ly_y bz] by rw [hz]; rfl, rp_s] at hP hD hR_61
          rw [nI_1] at hl
          exact ih_83 (i + 1, u_59) H locs ls ⟨hP.sub [1, 0, 2] rfl, hD.sub [1, 0, 2] (by decide) rfl, hS, lv_sub hl [1, 2, 3, 4, 5, 6, 0] rfl, hR_61, f_87⟩ (by dsimp only; omega)
    · skip
      have hz : bz = true := by_z_t rfl c_21
      have hp0 := hP0 hz
      have hbf : bm = false := hbz hz
      have hb0 := (hLa 0 hp0).1
      refine lv_aload_n hx hb d_Mo_lay_24 rfl (lv_at hl 1 rfl) ?_
      refine va_get (D := (dC, dI)) (ci := 8) (v := .int (nI P.length)) (C := "TextForgeModel") (T := TX8) (N := 19) hx hb hg iwX8 hown hK hP 0 rfl rfl 10 (by decide) (hg _ kw_736) (fun _ h9 => h9) rfl d_Mo_lay_25 ?_
      refine lv_if_le (tgt := 57) hx hb d_Mo_lay_28 (by decide) (fun c9 => by first | exact absurd c9 (fun z => absurd ((nI_leI (b := 0) (by omega) (by decide)).mp z) (by omega)) | exact absurd (fun z => absurd ((nI_leI (b := 0) (by omega) (by decide)).mp z) (by omega)) c9) (fun _ => ?_)
      refine lv_aload_n hx hb d_Mo_lay_31 rfl (lv_at hl 1 rfl) ?_
      refine va_get (D := (dC, dI)) (ci := 8) (v := .ref ra) (C := "TextForgeModel") (T := TX8) (N := 19) hx hb hg iwX8 hown hK hP 0 rfl rfl 11 (by decide) (hg _ kw_737) (fun _ h9 => h9) rfl d_Mo_lay_32 ?_
      refine lv_iconst (v := 0) hx hb d_Mo_lay_35 (by decide) ?_
      refine va_bald hx hb hK hP 1 0 rfl rfl (show vp_in (nI 0) 16400 from vp_in_nI (by decide) (by decide)) d_Mo_lay_36 ?_
      refine lv_topi (fun y_62 ey_62 => ?_)
      have ey_62 : y_62 = (sb_b (P.getD 0 0) : Int32) := ey_62.trans (show (fa (0 : Int32).toNatClampNeg) = sb_b (P.getD 0 0) from (hLa 0 hp0).2)
      subst ey_62
      refine lv_bipush (v := 45) hx hb d_Mo_lay_37 (by decide) ?_
      refine lv_icmp_eq (tgt := 53) hx hb d_Mo_lay_39 (by decide) (fun c_39 => ?_) (fun c_39 => ?_)
      · skip
        have f_39 : P.getD 0 0 = 45 := sb_e1 (k := 45) hb0 (by decide) c_39
        have hs : ly_s P bz = 1 := if_pos ⟨hz, (Or.inl f_39)⟩
        refine lv_iconst (v := 1) hx hb d_Mo_lay_53 (by decide) ?_
        refine lv_goto (tgt := 58) hx hb d_Mo_lay_54 (by decide) ?_
        refine lv_istore (lv' := [(5, .int 1), (4, .int (nI (wd - P.length))), (0, .ref mo), (1, .int (nI wd)), (2, .int (by_z bm)), (3, .int (by_z bz))]) hx hb d_Mo_lay_58 hl (by decide) rfl (fun ls hl => ?_)
        refine lv_iload_n hx hb d_Mo_lay_60 rfl (lv_at hl 4 rfl) ?_
        refine lv_if_ne (tgt := 111) hx hb d_Mo_lay_61 (by decide) (fun c9 => by first | exact absurd c9 (show by_z bm = 0 by rw [hbf]; rfl) | exact absurd (show by_z bm = 0 by rw [hbf]; rfl) c9) (fun _ => ?_)
        refine lv_iload hx hb d_Mo_lay_64 (lv_at hl 0 rfl) ?_
        refine lv_iconst (v := 1) hx hb d_Mo_lay_66 (by decide) ?_
        refine lv_icmp_ne (tgt := 80) hx hb d_Mo_lay_67 (by decide) (fun c9 => by first | exact absurd c9 (by decide) | exact absurd (by decide) c9) (fun _ => ?_)
        refine lv_aload_n hx hb d_Mo_lay_70 rfl (lv_at hl 2 rfl) ?_
        refine lv_aload_n hx hb d_Mo_lay_71 rfl (lv_at hl 2 rfl) ?_
        refine va_get (D := (dC, dI)) (ci := 8) (v := .ref ra) (C := "TextForgeModel") (T := TX8) (N := 19) hx hb hg iwX8 hown hK hP 0 rfl rfl 11 (by decide) (hg _ kw_737) (fun _ h9 => h9) rfl d_Mo_lay_72 ?_
        refine lv_iconst (v := 0) hx hb d_Mo_lay_75 (by decide) ?_
        refine va_bald hx hb hK hP 1 0 rfl rfl (show vp_in (nI 0) 16400 from vp_in_nI (by decide) (by decide)) d_Mo_lay_76 ?_
        refine lv_topi (fun y_63 ey_63 => ?_)
        have ey_63 : y_63 = (sb_b (P.getD 0 0) : Int32) := ey_63.trans (show (fa (0 : Int32).toNatClampNeg) = sb_b (P.getD 0 0) from (hLa 0 hp0).2)
        subst ey_63
        have hPc := hP.sub (ws' := [(mo, .inr (8, [.int th, .int fd, .ref rt, .int mn, .ref rk, .ref rv, .ref rw, .ref ro, .int (nI M.length), .ref rr, .int (nI P.length), .ref ra, .long pz, .int kc, .ref rc, .ref rl, .ref rb, .int la, .int ca])), (rr, .inl (cB, 4096, .inl fr))]) [0, 2] rfl
        have hKc := hK.sub (tys' := [(cB, .byte)]) [0] rfl
        have hDc := hD.sub (ws' := [(mo, .inr (8, [.int th, .int fd, .ref rt, .int mn, .ref rk, .ref rv, .ref rw, .ref ro, .int (nI M.length), .ref rr, .int (nI P.length), .ref ra, .long pz, .int kc, .ref rc, .ref rl, .ref rb, .int la, .int ca])), (rr, .inl (cB, 4096, .inl fr))]) [0, 2] (by decide) rfl
        have hFc := va_free (wc := [(mo, .inr (8, [.int th, .int fd, .ref rt, .int mn, .ref rk, .ref rv, .ref rw, .ref ro, .int (nI M.length), .ref rr, .int (nI P.length), .ref ra, .long pz, .int kc, .ref rc, .ref rl, .ref rb, .int la, .int ca])), (rr, .inl (cB, 4096, .inl fr))]) hD hS hA [0, 2] rfl
        refine zz_callv (va_runV (As := [.int (sb_b (P.getD 0 0))]) (rest := []) ⟨hx, hb, hml, hown, hg⟩ (c_Mo_give l dC dI mo rt rk rv rw ro rr ra rc rl rb th fd mn (nI M.length) (nI P.length) pz kc la ca cB fr M (sb_b (P.getD 0 0)) hLr hcr s.heap.size) (cwV 1 hg (gi_V kw_848 kw_850 sw_13 kw_9 kw_851) rfl rfl rfl (by decide +kernel) ⟨Nat.le_of_ble_eq_true rfl, Nat.le_of_ble_eq_true rfl⟩) (zz_preV hPc hKc hDc _ (q0 := 0) (ci := 8) rfl rfl) rfl rfl hl.1 rfl (lv_room (Nat.le_of_ble_eq_true rfl)) d_Mo_lay_77 ⟨Nat.le_of_ble_eq_true rfl, Nat.le_of_ble_eq_true rfl⟩) hS hFc (fun u H1 k9 p9 d9 => va_join (wr := [(ra, .inl (cB, 16400, .inl fa))]) hP hD [0, 2] [1] rfl rfl (by decide) (by decide) k9 hFc p9 d9) (fun u H locs hw hP hD hK1 hS => ?_)
        obtain ⟨u_64, rfl⟩ : ∃ z, z = u := ⟨_, rfl⟩
        try dsimp only at hw
        have hP : va_P (dC, dI) vwCl [(ra, .inl (cB, 16400, .inl fa)), (mo, .inr (8, [.int th, .int fd, .ref rt, .int mn, .ref rk, .ref rv, .ref rw, .ref ro, .int (nI (by_ap 4096 M [by_b (sb_b (P.getD 0 0))]).length), .ref rr, .int (nI P.length), .ref ra, .long pz, .int kc, .ref rc, .ref rl, .ref rb, .int la, .int ca])), (rr, .inl (cB, 4096, .inl u_64))] H := hP
        have hD : va_D A [(ra, .inl (cB, 16400, .inl fa)), (mo, .inr (8, [.int th, .int fd, .ref rt, .int mn, .ref rk, .ref rv, .ref rw, .ref ro, .int (nI (by_ap 4096 M [by_b (sb_b (P.getD 0 0))]).length), .ref rr, .int (nI P.length), .ref ra, .long pz, .int kc, .ref rc, .ref rl, .ref rb, .int la, .int ca])), (rr, .inl (cB, 4096, .inl u_64))] := hD
        have hR_66 := hw
        refine lv_iconst (v := 0) hx hb d_Mo_lay_80 (by decide) ?_
        refine lv_istore (lv' := [(6, .int 0), (5, .int 1), (4, .int (nI (wd - P.length))), (0, .ref mo), (1, .int (nI wd)), (2, .int (by_z bm)), (3, .int (by_z bz))]) hx hb d_Mo_lay_81 hl (by decide) rfl (fun ls hl => ?_)
        rw [ly_1 (y := ly_y bz) hp0 hb0] at hP hD hR_66
        refine zz_loop (fun (x : Nat × (Nat → Int32)) H locs ls => match x with | (i, g) => va_P (dC, dI) vwCl [(mo, .inr (8, [.int th, .int fd, .ref rt, .int mn, .ref rk, .ref rv, .ref rw, .ref ro, .int (nI (by_ap 4096 M (P.take 1 ++ List.replicate i (ly_y bz))).length), .ref rr, .int (nI P.length), .ref ra, .long pz, .int kc, .ref rc, .ref rl, .ref rb, .int la, .int ca])), (ra, .inl (cB, 16400, .inl fa)), (rr, .inl (cB, 4096, .inl g))] H ∧ va_D A [(mo, .inr (8, [.int th, .int fd, .ref rt, .int mn, .ref rk, .ref rv, .ref rw, .ref ro, .int (nI (by_ap 4096 M (P.take 1 ++ List.replicate i (ly_y bz))).length), .ref rr, .int (nI P.length), .ref ra, .long pz, .int kc, .ref rc, .ref rl, .ref rb, .int la, .int ca])), (ra, .inl (cB, 16400, .inl fa)), (rr, .inl (cB, 4096, .inl g))] ∧ va_S A s.heap H locs ∧ lv_has ls 7 [(0, .ref mo), (1, .int (nI wd)), (2, .int (by_z bm)), (3, .int (by_z bz)), (4, .int (nI (wd - P.length))), (5, .int 1), (6, .int (nI i))] ∧ by_L (by_ap 4096 M (P.take 1 ++ List.replicate i (ly_y bz))) g ∧ i ≤ wd - P.length) (fun x => match x with | (i, g) => wd - P.length - i) ?_ (0, u_64) ⟨hP.sub [1, 0, 2] rfl, hD.sub [1, 0, 2] (by decide) rfl, hS, lv_sub hl [3, 4, 5, 6, 2, 1, 0] rfl, hR_66, (Nat.zero_le _)⟩
        intro x H locs ls hI ih_83
        obtain ⟨i, g⟩ := x
        try dsimp only at hI
        obtain ⟨hP, hD, hS, hl, hRi, hil⟩ := hI
        refine lv_iload hx hb d_Mo_lay_83 (lv_at hl 6 rfl) ?_
        refine lv_iload hx hb d_Mo_lay_85 (lv_at hl 4 rfl) ?_
        refine lv_icmp_ge (tgt := 111) hx hb d_Mo_lay_87 (by decide) (fun c_87 => ?_) (fun c_87 => ?_)
        · skip
          have f_87 : (wd - P.length) ≤ i := Nat.le_of_not_lt (fun z => nI_ge (b := (wd - P.length)) z (by omega) c_87)
          refine lv_iload_n hx hb d_Mo_lay_111 rfl (lv_at hl 2 rfl) ?_
          refine lv_if_eq (tgt := 119) hx hb d_Mo_lay_112 (by decide) (fun _ => ?_) (fun c9 => by first | exact absurd c9 (show by_z bm = 0 by rw [hbf]; rfl) | exact absurd (show by_z bm = 0 by rw [hbf]; rfl) c9)
          refine lv_iload hx hb d_Mo_lay_119 (lv_at hl 5 rfl) ?_
          refine lv_istore (lv' := [(6, .int 1), (0, .ref mo), (1, .int (nI wd)), (2, .int (by_z bm)), (3, .int (by_z bz)), (4, .int (nI (wd - P.length))), (5, .int 1)]) hx hb d_Mo_lay_121 hl (by decide) rfl (fun ls hl => ?_)
          have hie : i = wd - P.length := by omega
          rw [hie, ly_a (P := P) (a := 1)] at hP hD hRi
          refine zz_loop (fun (x : Nat × (Nat → Int32)) H locs ls => match x with | (i2, g2) => va_P (dC, dI) vwCl [(mo, .inr (8, [.int th, .int fd, .ref rt, .int mn, .ref rk, .ref rv, .ref rw, .ref ro, .int (nI (by_ap 4096 M ((P.take 1 ++ List.replicate (wd - P.length) (ly_y bz)) ++ by_sg P 1 i2)).length), .ref rr, .int (nI P.length), .ref ra, .long pz, .int kc, .ref rc, .ref rl, .ref rb, .int la, .int ca])), (ra, .inl (cB, 16400, .inl fa)), (rr, .inl (cB, 4096, .inl g2))] H ∧ va_D A [(mo, .inr (8, [.int th, .int fd, .ref rt, .int mn, .ref rk, .ref rv, .ref rw, .ref ro, .int (nI (by_ap 4096 M ((P.take 1 ++ List.replicate (wd - P.length) (ly_y bz)) ++ by_sg P 1 i2)).length), .ref rr, .int (nI P.length), .ref ra, .long pz, .int kc, .ref rc, .ref rl, .ref rb, .int la, .int ca])), (ra, .inl (cB, 16400, .inl fa)), (rr, .inl (cB, 4096, .inl g2))] ∧ va_S A s.heap H locs ∧ lv_has ls 7 [(0, .ref mo), (1, .int (nI wd)), (2, .int (by_z bm)), (3, .int (by_z bz)), (4, .int (nI (wd - P.length))), (6, .int (nI (1 + i2)))] ∧ by_L (by_ap 4096 M ((P.take 1 ++ List.replicate (wd - P.length) (ly_y bz)) ++ by_sg P 1 i2)) g2 ∧ 1 + i2 ≤ P.length) (fun x => match x with | (i2, g2) => P.length - i2) ?_ (0, g) ⟨hP.sub [0, 1, 2] rfl, hD.sub [0, 1, 2] (by decide) rfl, hS, lv_sub hl [1, 2, 3, 4, 5, 0] rfl, hRi, (by omega)⟩
          intro x H locs ls hI ih_123
          obtain ⟨i2, g2⟩ := x
          try dsimp only at hI
          obtain ⟨hP, hD, hS, hl, hRj, hjl⟩ := hI
          refine lv_iload hx hb d_Mo_lay_123 (lv_at hl 5 rfl) ?_
          refine lv_aload_n hx hb d_Mo_lay_125 rfl (lv_at hl 0 rfl) ?_
          refine va_get (D := (dC, dI)) (ci := 8) (v := .int (nI P.length)) (C := "TextForgeModel") (T := TX8) (N := 19) hx hb hg iwX8 hown hK hP 0 rfl rfl 10 (by decide) (hg _ kw_736) (fun _ h9 => h9) rfl d_Mo_lay_126 ?_
          refine lv_icmp_ge (tgt := 149) hx hb d_Mo_lay_129 (by decide) (fun c_129 => ?_) (fun c_129 => ?_)
          · skip
            have f_129 : P.length ≤ (1 + i2) := Nat.le_of_not_lt (fun z => nI_ge (b := P.length) z (by omega) c_129)
            have hje : 1 + i2 = P.length := by omega
            refine lv_iconst (v := 0) hx hb d_Mo_lay_149 (by decide) ?_
            refine lv_istore (lv' := [(6, .int 0), (0, .ref mo), (1, .int (nI wd)), (2, .int (by_z bm)), (3, .int (by_z bz)), (4, .int (nI (wd - P.length)))]) hx hb d_Mo_lay_150 hl (by decide) rfl (fun ls hl => ?_)
            refine lv_iload hx hb d_Mo_lay_152 (lv_at hl 0 rfl) ?_
            refine lv_iload hx hb d_Mo_lay_154 (lv_at hl 5 rfl) ?_
            refine lv_icmp_ge (tgt := 175) hx hb d_Mo_lay_156 (by decide) (fun c_156 => ?_) (fun c_156 => ?_)
            · skip
              have hP9 := hP.sub (ws' := [(mo, .inr (8, [.int th, .int fd, .ref rt, .int mn, .ref rk, .ref rv, .ref rw, .ref ro, .int (nI (by_ap 4096 M ((P.take 1 ++ List.replicate (wd - P.length) (ly_y bz)) ++ by_sg P 1 i2)).length), .ref rr, .int (nI P.length), .ref ra, .long pz, .int kc, .ref rc, .ref rl, .ref rb, .int la, .int ca])), (ra, .inl (cB, 16400, .inl fa)), (rr, .inl (cB, 4096, .inl g2))]) [0, 1, 2] rfl
              have hD9 := hD.sub (ws' := [(mo, .inr (8, [.int th, .int fd, .ref rt, .int mn, .ref rk, .ref rv, .ref rw, .ref ro, .int (nI (by_ap 4096 M ((P.take 1 ++ List.replicate (wd - P.length) (ly_y bz)) ++ by_sg P 1 i2)).length), .ref rr, .int (nI P.length), .ref ra, .long pz, .int kc, .ref rc, .ref rl, .ref rb, .int la, .int ca])), (ra, .inl (cB, 16400, .inl fa)), (rr, .inl (cB, 4096, .inl g2))]) [0, 1, 2] (by decide) rfl
              have hK9 := hK.sub (tys' := [(cB, .byte)]) [0] rfl
              rw [(show (by_ap 4096 M ((P.take 1 ++ List.replicate (wd - P.length) (ly_y bz)) ++ by_sg P 1 i2)) = by_ap 4096 M (ly_o P wd bm bz) by rw [hbf]; exact ly_ef hs hje)] at hP9 hD9
              exact zz_vret hx hb hr hlocks d_Mo_lay_175 hS (by first | exact Nat.le_refl _ | decide | omega | (dsimp only; omega)) (by first | exact Nat.le_refl _ | decide | omega | (dsimp only; omega)) g2 (by rw [← (show (by_ap 4096 M ((P.take 1 ++ List.replicate (wd - P.length) (ly_y bz)) ++ by_sg P 1 i2)) = by_ap 4096 M (ly_o P wd bm bz) by rw [hbf]; exact ly_ef hs hje)]; exact hRj) hP9 hK9 hD9
            · skip
              refine lv_iload_n hx hb d_Mo_lay_159 rfl (lv_at hl 3 rfl) ?_
              refine lv_if_eq (tgt := 175) hx hb d_Mo_lay_160 (by decide) (fun _ => ?_) (fun c9 => by first | exact absurd c9 (show by_z bm = 0 by rw [hbf]; rfl) | exact absurd (show by_z bm = 0 by rw [hbf]; rfl) c9)
              have hP9 := hP.sub (ws' := [(mo, .inr (8, [.int th, .int fd, .ref rt, .int mn, .ref rk, .ref rv, .ref rw, .ref ro, .int (nI (by_ap 4096 M ((P.take 1 ++ List.replicate (wd - P.length) (ly_y bz)) ++ by_sg P 1 i2)).length), .ref rr, .int (nI P.length), .ref ra, .long pz, .int kc, .ref rc, .ref rl, .ref rb, .int la, .int ca])), (ra, .inl (cB, 16400, .inl fa)), (rr, .inl (cB, 4096, .inl g2))]) [0, 1, 2] rfl
              have hD9 := hD.sub (ws' := [(mo, .inr (8, [.int th, .int fd, .ref rt, .int mn, .ref rk, .ref rv, .ref rw, .ref ro, .int (nI (by_ap 4096 M ((P.take 1 ++ List.replicate (wd - P.length) (ly_y bz)) ++ by_sg P 1 i2)).length), .ref rr, .int (nI P.length), .ref ra, .long pz, .int kc, .ref rc, .ref rl, .ref rb, .int la, .int ca])), (ra, .inl (cB, 16400, .inl fa)), (rr, .inl (cB, 4096, .inl g2))]) [0, 1, 2] (by decide) rfl
              have hK9 := hK.sub (tys' := [(cB, .byte)]) [0] rfl
              rw [(show (by_ap 4096 M ((P.take 1 ++ List.replicate (wd - P.length) (ly_y bz)) ++ by_sg P 1 i2)) = by_ap 4096 M (ly_o P wd bm bz) by rw [hbf]; exact ly_ef hs hje)] at hP9 hD9
              exact zz_vret hx hb hr hlocks d_Mo_lay_175 hS (by first | exact Nat.le_refl _ | decide | omega | (dsimp only; omega)) (by first | exact Nat.le_refl _ | decide | omega | (dsimp only; omega)) g2 (by rw [← (show (by_ap 4096 M ((P.take 1 ++ List.replicate (wd - P.length) (ly_y bz)) ++ by_sg P 1 i2)) = by_ap 4096 M (ly_o P wd bm bz) by rw [hbf]; exact ly_ef hs hje)]; exact hRj) hP9 hK9 hD9
          · skip
            have f_129 : (1 + i2) < P.length := Nat.lt_of_not_le (fun z => c_129 (nI_le (a := P.length) z (by omega)))
            refine lv_aload_n hx hb d_Mo_lay_132 rfl (lv_at hl 0 rfl) ?_
            refine lv_aload_n hx hb d_Mo_lay_133 rfl (lv_at hl 0 rfl) ?_
            refine va_get (D := (dC, dI)) (ci := 8) (v := .ref ra) (C := "TextForgeModel") (T := TX8) (N := 19) hx hb hg iwX8 hown hK hP 0 rfl rfl 11 (by decide) (hg _ kw_737) (fun _ h9 => h9) rfl d_Mo_lay_134 ?_
            refine lv_iload hx hb d_Mo_lay_137 (lv_at hl 5 rfl) ?_
            refine va_bald hx hb hK hP 1 0 rfl rfl (vp_in_nI (by omega) (by decide)) d_Mo_lay_139 ?_
            refine lv_topi (fun y_67 ey_67 => ?_)
            have ey_67 : y_67 = (sb_b (P.getD (1 + i2) 0) : Int32) := ey_67.trans (show (fa (nI (1 + i2)).toNatClampNeg) = sb_b (P.getD (1 + i2) 0) from (by rw [nI_clamp (show 1 + i2 < 2 ^ 31 by omega)]; exact (hLa _ f_129).2))
            subst ey_67
            have hPc := hP.sub (ws' := [(mo, .inr (8, [.int th, .int fd, .ref rt, .int mn, .ref rk, .ref rv, .ref rw, .ref ro, .int (nI (by_ap 4096 M ((P.take 1 ++ List.replicate (wd - P.length) (ly_y bz)) ++ by_sg P 1 i2)).length), .ref rr, .int (nI P.length), .ref ra, .long pz, .int kc, .ref rc, .ref rl, .ref rb, .int la, .int ca])), (rr, .inl (cB, 4096, .inl g2))]) [0, 2] rfl
            have hKc := hK.sub (tys' := [(cB, .byte)]) [0] rfl
            have hDc := hD.sub (ws' := [(mo, .inr (8, [.int th, .int fd, .ref rt, .int mn, .ref rk, .ref rv, .ref rw, .ref ro, .int (nI (by_ap 4096 M ((P.take 1 ++ List.replicate (wd - P.length) (ly_y bz)) ++ by_sg P 1 i2)).length), .ref rr, .int (nI P.length), .ref ra, .long pz, .int kc, .ref rc, .ref rl, .ref rb, .int la, .int ca])), (rr, .inl (cB, 4096, .inl g2))]) [0, 2] (by decide) rfl
            have hFc := va_free (wc := [(mo, .inr (8, [.int th, .int fd, .ref rt, .int mn, .ref rk, .ref rv, .ref rw, .ref ro, .int (nI (by_ap 4096 M ((P.take 1 ++ List.replicate (wd - P.length) (ly_y bz)) ++ by_sg P 1 i2)).length), .ref rr, .int (nI P.length), .ref ra, .long pz, .int kc, .ref rc, .ref rl, .ref rb, .int la, .int ca])), (rr, .inl (cB, 4096, .inl g2))]) hD hS hA [0, 2] rfl
            refine zz_callv (va_runV (As := [.int (sb_b (P.getD (1 + i2) 0))]) (rest := []) ⟨hx, hb, hml, hown, hg⟩ (c_Mo_give l dC dI mo rt rk rv rw ro rr ra rc rl rb th fd mn (nI (by_ap 4096 M ((P.take 1 ++ List.replicate (wd - P.length) (ly_y bz)) ++ by_sg P 1 i2)).length) (nI P.length) pz kc la ca cB g2 (by_ap 4096 M ((P.take 1 ++ List.replicate (wd - P.length) (ly_y bz)) ++ by_sg P 1 i2)) (sb_b (P.getD (1 + i2) 0)) hRj (by_ap_len _ _ _) H.size) (cwV 1 hg (gi_V kw_848 kw_850 sw_13 kw_9 kw_851) rfl rfl rfl (by decide +kernel) ⟨Nat.le_of_ble_eq_true rfl, Nat.le_of_ble_eq_true rfl⟩) (zz_preV hPc hKc hDc _ (q0 := 0) (ci := 8) rfl rfl) rfl rfl hl.1 rfl (lv_room (Nat.le_of_ble_eq_true rfl)) d_Mo_lay_140 ⟨Nat.le_of_ble_eq_true rfl, Nat.le_of_ble_eq_true rfl⟩) hS hFc (fun u H1 k9 p9 d9 => va_join (wr := [(ra, .inl (cB, 16400, .inl fa))]) hP hD [0, 2] [1] rfl rfl (by decide) (by decide) k9 hFc p9 d9) (fun u H locs hw hP hD hK1 hS => ?_)
            obtain ⟨u_68, rfl⟩ : ∃ z, z = u := ⟨_, rfl⟩
            try dsimp only at hw
            have hP : va_P (dC, dI) vwCl [(ra, .inl (cB, 16400, .inl fa)), (mo, .inr (8, [.int th, .int fd, .ref rt, .int mn, .ref rk, .ref rv, .ref rw, .ref ro, .int (nI (by_ap 4096 (by_ap 4096 M ((P.take 1 ++ List.replicate (wd - P.length) (ly_y bz)) ++ by_sg P 1 i2)) [by_b (sb_b (P.getD (1 + i2) 0))]).length), .ref rr, .int (nI P.length), .ref ra, .long pz, .int kc, .ref rc, .ref rl, .ref rb, .int la, .int ca])), (rr, .inl (cB, 4096, .inl u_68))] H := hP
            have hD : va_D A [(ra, .inl (cB, 16400, .inl fa)), (mo, .inr (8, [.int th, .int fd, .ref rt, .int mn, .ref rk, .ref rv, .ref rw, .ref ro, .int (nI (by_ap 4096 (by_ap 4096 M ((P.take 1 ++ List.replicate (wd - P.length) (ly_y bz)) ++ by_sg P 1 i2)) [by_b (sb_b (P.getD (1 + i2) 0))]).length), .ref rr, .int (nI P.length), .ref ra, .long pz, .int kc, .ref rc, .ref rl, .ref rb, .int la, .int ca])), (rr, .inl (cB, 4096, .inl u_68))] := hD
            have hR_70 := hw
            refine lv_iinc (v := (nI (1 + i2)) + 1) (lv' := [(6, .int ((nI (1 + i2)) + 1)), (0, .ref mo), (1, .int (nI wd)), (2, .int (by_z bm)), (3, .int (by_z bz)), (4, .int (nI (wd - P.length)))]) hx hb d_Mo_lay_143 hl (k := 5) rfl rfl (by decide) rfl (fun ls hl => ?_)
            refine lv_goto (tgt := 123) hx hb d_Mo_lay_146 (by decide) ?_
            rw [sg_s f_129 (hLa (1 + i2) f_129).1] at hP hD hR_70
            rw [nI_1, Nat.add_assoc] at hl
            exact ih_123 (i2 + 1, u_68) H locs ls ⟨hP.sub [1, 0, 2] rfl, hD.sub [1, 0, 2] (by decide) rfl, hS, lv_sub hl [1, 2, 3, 4, 5, 0] rfl, hR_70, f_129⟩ (by dsimp only; omega)
        · skip
          have f_87 : i < (wd - P.length) := Nat.lt_of_not_le (fun z => c_87 (nI_le (a := (wd - P.length)) z (by omega)))
          refine lv_aload_n hx hb d_Mo_lay_90 rfl (lv_at hl 0 rfl) ?_
          refine lv_iload_n hx hb d_Mo_lay_91 rfl (lv_at hl 3 rfl) ?_
          refine lv_if_eq (tgt := 100) hx hb d_Mo_lay_92 (by decide) (fun c9 => by first | exact absurd c9 (show ¬ by_z bz = 0 by rw [hz]; decide) | exact absurd (show ¬ by_z bz = 0 by rw [hz]; decide) c9) (fun _ => ?_)
          refine lv_bipush (v := 48) hx hb d_Mo_lay_95 (by decide) ?_
          refine lv_goto (tgt := 102) hx hb d_Mo_lay_97 (by decide) ?_
          have hPc := hP.sub (ws' := [(mo, .inr (8, [.int th, .int fd, .ref rt, .int mn, .ref rk, .ref rv, .ref rw, .ref ro, .int (nI (by_ap 4096 M (P.take 1 ++ List.replicate i (ly_y bz))).length), .ref rr, .int (nI P.length), .ref ra, .long pz, .int kc, .ref rc, .ref rl, .ref rb, .int la, .int ca])), (rr, .inl (cB, 4096, .inl g))]) [0, 2] rfl
          have hKc := hK.sub (tys' := [(cB, .byte)]) [0] rfl
          have hDc := hD.sub (ws' := [(mo, .inr (8, [.int th, .int fd, .ref rt, .int mn, .ref rk, .ref rv, .ref rw, .ref ro, .int (nI (by_ap 4096 M (P.take 1 ++ List.replicate i (ly_y bz))).length), .ref rr, .int (nI P.length), .ref ra, .long pz, .int kc, .ref rc, .ref rl, .ref rb, .int la, .int ca])), (rr, .inl (cB, 4096, .inl g))]) [0, 2] (by decide) rfl
          have hFc := va_free (wc := [(mo, .inr (8, [.int th, .int fd, .ref rt, .int mn, .ref rk, .ref rv, .ref rw, .ref ro, .int (nI (by_ap 4096 M (P.take 1 ++ List.replicate i (ly_y bz))).length), .ref rr, .int (nI P.length), .ref ra, .long pz, .int kc, .ref rc, .ref rl, .ref rb, .int la, .int ca])), (rr, .inl (cB, 4096, .inl g))]) hD hS hA [0, 2] rfl
          refine zz_callv (va_runV (As := [.int 48]) (rest := []) ⟨hx, hb, hml, hown, hg⟩ (c_Mo_give l dC dI mo rt rk rv rw ro rr ra rc rl rb th fd mn (nI (by_ap 4096 M (P.take 1 ++ List.replicate i (ly_y bz))).length) (nI P.length) pz kc la ca cB g (by_ap 4096 M (P.take 1 ++ List.replicate i (ly_y bz))) 48 hRi (by_ap_len _ _ _) H.size) (cwV 1 hg (gi_V kw_848 kw_850 sw_13 kw_9 kw_851) rfl rfl rfl (by decide +kernel) ⟨Nat.le_of_ble_eq_true rfl, Nat.le_of_ble_eq_true rfl⟩) (zz_preV hPc hKc hDc _ (q0 := 0) (ci := 8) rfl rfl) rfl rfl hl.1 rfl (lv_room (Nat.le_of_ble_eq_true rfl)) d_Mo_lay_102 ⟨Nat.le_of_ble_eq_true rfl, Nat.le_of_ble_eq_true rfl⟩) hS hFc (fun u H1 k9 p9 d9 => va_join (wr := [(ra, .inl (cB, 16400, .inl fa))]) hP hD [0, 2] [1] rfl rfl (by decide) (by decide) k9 hFc p9 d9) (fun u H locs hw hP hD hK1 hS => ?_)
          obtain ⟨u_71, rfl⟩ : ∃ z, z = u := ⟨_, rfl⟩
          try dsimp only at hw
          have hP : va_P (dC, dI) vwCl [(ra, .inl (cB, 16400, .inl fa)), (mo, .inr (8, [.int th, .int fd, .ref rt, .int mn, .ref rk, .ref rv, .ref rw, .ref ro, .int (nI (by_ap 4096 (by_ap 4096 M (P.take 1 ++ List.replicate i (ly_y bz))) [by_b 48]).length), .ref rr, .int (nI P.length), .ref ra, .long pz, .int kc, .ref rc, .ref rl, .ref rb, .int la, .int ca])), (rr, .inl (cB, 4096, .inl u_71))] H := hP
          have hD : va_D A [(ra, .inl (cB, 16400, .inl fa)), (mo, .inr (8, [.int th, .int fd, .ref rt, .int mn, .ref rk, .ref rv, .ref rw, .ref ro, .int (nI (by_ap 4096 (by_ap 4096 M (P.take 1 ++ List.replicate i (ly_y bz))) [by_b 48]).length), .ref rr, .int (nI P.length), .ref ra, .long pz, .int kc, .ref rc, .ref rl, .ref rb, .int la, .int ca])), (rr, .inl (cB, 4096, .inl u_71))] := hD
          have hR_73 := hw
          refine lv_iinc (v := (nI i) + 1) (lv' := [(6, .int ((nI i) + 1)), (0, .ref mo), (1, .int (nI wd)), (2, .int (by_z bm)), (3, .int (by_z bz)), (4, .int (nI (wd - P.length))), (5, .int 1)]) hx hb d_Mo_lay_105 hl (k := 6) rfl rfl (by decide) rfl (fun ls hl => ?_)
          refine lv_goto (tgt := 83) hx hb d_Mo_lay_108 (by decide) ?_
          rw [show ([by_b 48] : List Nat) = [ly_y bz] by rw [hz]; rfl, rp_s] at hP hD hR_73
          rw [nI_1] at hl
          exact ih_83 (i + 1, u_71) H locs ls ⟨hP.sub [1, 0, 2] rfl, hD.sub [1, 0, 2] (by decide) rfl, hS, lv_sub hl [1, 2, 3, 4, 5, 6, 0] rfl, hR_73, f_87⟩ (by dsimp only; omega)
      · skip
        have f_39 : P.getD 0 0 ≠ 45 := sb_e2 (k := 45) hb0 (by decide) c_39
        refine lv_aload_n hx hb d_Mo_lay_42 rfl (lv_at hl 1 rfl) ?_
        refine va_get (D := (dC, dI)) (ci := 8) (v := .ref ra) (C := "TextForgeModel") (T := TX8) (N := 19) hx hb hg iwX8 hown hK hP 0 rfl rfl 11 (by decide) (hg _ kw_737) (fun _ h9 => h9) rfl d_Mo_lay_43 ?_
        refine lv_iconst (v := 0) hx hb d_Mo_lay_46 (by decide) ?_
        refine va_bald hx hb hK hP 1 0 rfl rfl (show vp_in (nI 0) 16400 from vp_in_nI (by decide) (by decide)) d_Mo_lay_47 ?_
        refine lv_topi (fun y_74 ey_74 => ?_)
        have ey_74 : y_74 = (sb_b (P.getD 0 0) : Int32) := ey_74.trans (show (fa (0 : Int32).toNatClampNeg) = sb_b (P.getD 0 0) from (hLa 0 hp0).2)
        subst ey_74
        refine lv_bipush (v := 43) hx hb d_Mo_lay_48 (by decide) ?_
        refine lv_icmp_ne (tgt := 57) hx hb d_Mo_lay_50 (by decide) (fun c_50 => ?_) (fun c_50 => ?_)
        · skip
          have f_50 : P.getD 0 0 ≠ 43 := sb_e2 (k := 43) hb0 (by decide) c_50
          have hs : ly_s P bz = 0 := if_neg (fun z => z.2.elim f_39 f_50)
          refine lv_iconst (v := 0) hx hb d_Mo_lay_57 (by decide) ?_
          refine lv_istore (lv' := [(5, .int 0), (4, .int (nI (wd - P.length))), (0, .ref mo), (1, .int (nI wd)), (2, .int (by_z bm)), (3, .int (by_z bz))]) hx hb d_Mo_lay_58 hl (by decide) rfl (fun ls hl => ?_)
          refine lv_iload_n hx hb d_Mo_lay_60 rfl (lv_at hl 4 rfl) ?_
          refine lv_if_ne (tgt := 111) hx hb d_Mo_lay_61 (by decide) (fun c9 => by first | exact absurd c9 (show by_z bm = 0 by rw [hbf]; rfl) | exact absurd (show by_z bm = 0 by rw [hbf]; rfl) c9) (fun _ => ?_)
          refine lv_iload hx hb d_Mo_lay_64 (lv_at hl 0 rfl) ?_
          refine lv_iconst (v := 1) hx hb d_Mo_lay_66 (by decide) ?_
          refine lv_icmp_ne (tgt := 80) hx hb d_Mo_lay_67 (by decide) (fun _ => ?_) (fun c9 => by first | exact absurd c9 (by decide) | exact absurd (by decide) c9)
          refine lv_iconst (v := 0) hx hb d_Mo_lay_80 (by decide) ?_
          refine lv_istore (lv' := [(6, .int 0), (5, .int 0), (4, .int (nI (wd - P.length))), (0, .ref mo), (1, .int (nI wd)), (2, .int (by_z bm)), (3, .int (by_z bz))]) hx hb d_Mo_lay_81 hl (by decide) rfl (fun ls hl => ?_)
          rw [show nI M.length = nI (by_ap 4096 M (P.take 0 ++ List.replicate 0 (ly_y bz))).length by rw [← ly_0 hcr]] at hP hD
          have hLr9 : by_L (by_ap 4096 M (P.take 0 ++ List.replicate 0 (ly_y bz))) fr := by rw [← ly_0 hcr]; exact hLr
          refine zz_loop (fun (x : Nat × (Nat → Int32)) H locs ls => match x with | (i, g) => va_P (dC, dI) vwCl [(mo, .inr (8, [.int th, .int fd, .ref rt, .int mn, .ref rk, .ref rv, .ref rw, .ref ro, .int (nI (by_ap 4096 M (P.take 0 ++ List.replicate i (ly_y bz))).length), .ref rr, .int (nI P.length), .ref ra, .long pz, .int kc, .ref rc, .ref rl, .ref rb, .int la, .int ca])), (ra, .inl (cB, 16400, .inl fa)), (rr, .inl (cB, 4096, .inl g))] H ∧ va_D A [(mo, .inr (8, [.int th, .int fd, .ref rt, .int mn, .ref rk, .ref rv, .ref rw, .ref ro, .int (nI (by_ap 4096 M (P.take 0 ++ List.replicate i (ly_y bz))).length), .ref rr, .int (nI P.length), .ref ra, .long pz, .int kc, .ref rc, .ref rl, .ref rb, .int la, .int ca])), (ra, .inl (cB, 16400, .inl fa)), (rr, .inl (cB, 4096, .inl g))] ∧ va_S A s.heap H locs ∧ lv_has ls 7 [(0, .ref mo), (1, .int (nI wd)), (2, .int (by_z bm)), (3, .int (by_z bz)), (4, .int (nI (wd - P.length))), (5, .int 0), (6, .int (nI i))] ∧ by_L (by_ap 4096 M (P.take 0 ++ List.replicate i (ly_y bz))) g ∧ i ≤ wd - P.length) (fun x => match x with | (i, g) => wd - P.length - i) ?_ (0, fr) ⟨hP.sub [0, 1, 2] rfl, hD.sub [0, 1, 2] (by decide) rfl, hS, lv_sub hl [3, 4, 5, 6, 2, 1, 0] rfl, hLr9, (Nat.zero_le _)⟩
          intro x H locs ls hI ih_83
          obtain ⟨i, g⟩ := x
          try dsimp only at hI
          obtain ⟨hP, hD, hS, hl, hRi, hil⟩ := hI
          refine lv_iload hx hb d_Mo_lay_83 (lv_at hl 6 rfl) ?_
          refine lv_iload hx hb d_Mo_lay_85 (lv_at hl 4 rfl) ?_
          refine lv_icmp_ge (tgt := 111) hx hb d_Mo_lay_87 (by decide) (fun c_87 => ?_) (fun c_87 => ?_)
          · skip
            have f_87 : (wd - P.length) ≤ i := Nat.le_of_not_lt (fun z => nI_ge (b := (wd - P.length)) z (by omega) c_87)
            refine lv_iload_n hx hb d_Mo_lay_111 rfl (lv_at hl 2 rfl) ?_
            refine lv_if_eq (tgt := 119) hx hb d_Mo_lay_112 (by decide) (fun _ => ?_) (fun c9 => by first | exact absurd c9 (show by_z bm = 0 by rw [hbf]; rfl) | exact absurd (show by_z bm = 0 by rw [hbf]; rfl) c9)
            refine lv_iload hx hb d_Mo_lay_119 (lv_at hl 5 rfl) ?_
            refine lv_istore (lv' := [(6, .int 0), (0, .ref mo), (1, .int (nI wd)), (2, .int (by_z bm)), (3, .int (by_z bz)), (4, .int (nI (wd - P.length))), (5, .int 0)]) hx hb d_Mo_lay_121 hl (by decide) rfl (fun ls hl => ?_)
            have hie : i = wd - P.length := by omega
            rw [hie, ly_a (P := P) (a := 0)] at hP hD hRi
            refine zz_loop (fun (x : Nat × (Nat → Int32)) H locs ls => match x with | (i2, g2) => va_P (dC, dI) vwCl [(mo, .inr (8, [.int th, .int fd, .ref rt, .int mn, .ref rk, .ref rv, .ref rw, .ref ro, .int (nI (by_ap 4096 M ((P.take 0 ++ List.replicate (wd - P.length) (ly_y bz)) ++ by_sg P 0 i2)).length), .ref rr, .int (nI P.length), .ref ra, .long pz, .int kc, .ref rc, .ref rl, .ref rb, .int la, .int ca])), (ra, .inl (cB, 16400, .inl fa)), (rr, .inl (cB, 4096, .inl g2))] H ∧ va_D A [(mo, .inr (8, [.int th, .int fd, .ref rt, .int mn, .ref rk, .ref rv, .ref rw, .ref ro, .int (nI (by_ap 4096 M ((P.take 0 ++ List.replicate (wd - P.length) (ly_y bz)) ++ by_sg P 0 i2)).length), .ref rr, .int (nI P.length), .ref ra, .long pz, .int kc, .ref rc, .ref rl, .ref rb, .int la, .int ca])), (ra, .inl (cB, 16400, .inl fa)), (rr, .inl (cB, 4096, .inl g2))] ∧ va_S A s.heap H locs ∧ lv_has ls 7 [(0, .ref mo), (1, .int (nI wd)), (2, .int (by_z bm)), (3, .int (by_z bz)), (4, .int (nI (wd - P.length))), (6, .int (nI (0 + i2)))] ∧ by_L (by_ap 4096 M ((P.take 0 ++ List.replicate (wd - P.length) (ly_y bz)) ++ by_sg P 0 i2)) g2 ∧ 0 + i2 ≤ P.length) (fun x => match x with | (i2, g2) => P.length - i2) ?_ (0, g) ⟨hP.sub [0, 1, 2] rfl, hD.sub [0, 1, 2] (by decide) rfl, hS, lv_sub hl [1, 2, 3, 4, 5, 0] rfl, hRi, (by omega)⟩
            intro x H locs ls hI ih_123
            obtain ⟨i2, g2⟩ := x
            try dsimp only at hI
            obtain ⟨hP, hD, hS, hl, hRj, hjl⟩ := hI
            refine lv_iload hx hb d_Mo_lay_123 (lv_at hl 5 rfl) ?_
            refine lv_aload_n hx hb d_Mo_lay_125 rfl (lv_at hl 0 rfl) ?_
            refine va_get (D := (dC, dI)) (ci := 8) (v := .int (nI P.length)) (C := "TextForgeModel") (T := TX8) (N := 19) hx hb hg iwX8 hown hK hP 0 rfl rfl 10 (by decide) (hg _ kw_736) (fun _ h9 => h9) rfl d_Mo_lay_126 ?_
            refine lv_icmp_ge (tgt := 149) hx hb d_Mo_lay_129 (by decide) (fun c_129 => ?_) (fun c_129 => ?_)
            · skip
              have f_129 : P.length ≤ (0 + i2) := Nat.le_of_not_lt (fun z => nI_ge (b := P.length) z (by omega) c_129)
              have hje : 0 + i2 = P.length := by omega
              refine lv_iconst (v := 0) hx hb d_Mo_lay_149 (by decide) ?_
              refine lv_istore (lv' := [(6, .int 0), (0, .ref mo), (1, .int (nI wd)), (2, .int (by_z bm)), (3, .int (by_z bz)), (4, .int (nI (wd - P.length)))]) hx hb d_Mo_lay_150 hl (by decide) rfl (fun ls hl => ?_)
              refine lv_iload hx hb d_Mo_lay_152 (lv_at hl 0 rfl) ?_
              refine lv_iload hx hb d_Mo_lay_154 (lv_at hl 5 rfl) ?_
              refine lv_icmp_ge (tgt := 175) hx hb d_Mo_lay_156 (by decide) (fun c_156 => ?_) (fun c_156 => ?_)
              · skip
                have hP9 := hP.sub (ws' := [(mo, .inr (8, [.int th, .int fd, .ref rt, .int mn, .ref rk, .ref rv, .ref rw, .ref ro, .int (nI (by_ap 4096 M ((P.take 0 ++ List.replicate (wd - P.length) (ly_y bz)) ++ by_sg P 0 i2)).length), .ref rr, .int (nI P.length), .ref ra, .long pz, .int kc, .ref rc, .ref rl, .ref rb, .int la, .int ca])), (ra, .inl (cB, 16400, .inl fa)), (rr, .inl (cB, 4096, .inl g2))]) [0, 1, 2] rfl
                have hD9 := hD.sub (ws' := [(mo, .inr (8, [.int th, .int fd, .ref rt, .int mn, .ref rk, .ref rv, .ref rw, .ref ro, .int (nI (by_ap 4096 M ((P.take 0 ++ List.replicate (wd - P.length) (ly_y bz)) ++ by_sg P 0 i2)).length), .ref rr, .int (nI P.length), .ref ra, .long pz, .int kc, .ref rc, .ref rl, .ref rb, .int la, .int ca])), (ra, .inl (cB, 16400, .inl fa)), (rr, .inl (cB, 4096, .inl g2))]) [0, 1, 2] (by decide) rfl
                have hK9 := hK.sub (tys' := [(cB, .byte)]) [0] rfl
                rw [(show (by_ap 4096 M ((P.take 0 ++ List.replicate (wd - P.length) (ly_y bz)) ++ by_sg P 0 i2)) = by_ap 4096 M (ly_o P wd bm bz) by rw [hbf]; exact ly_ef hs hje)] at hP9 hD9
                exact zz_vret hx hb hr hlocks d_Mo_lay_175 hS (by first | exact Nat.le_refl _ | decide | omega | (dsimp only; omega)) (by first | exact Nat.le_refl _ | decide | omega | (dsimp only; omega)) g2 (by rw [← (show (by_ap 4096 M ((P.take 0 ++ List.replicate (wd - P.length) (ly_y bz)) ++ by_sg P 0 i2)) = by_ap 4096 M (ly_o P wd bm bz) by rw [hbf]; exact ly_ef hs hje)]; exact hRj) hP9 hK9 hD9
              · skip
                refine lv_iload_n hx hb d_Mo_lay_159 rfl (lv_at hl 3 rfl) ?_
                refine lv_if_eq (tgt := 175) hx hb d_Mo_lay_160 (by decide) (fun _ => ?_) (fun c9 => by first | exact absurd c9 (show by_z bm = 0 by rw [hbf]; rfl) | exact absurd (show by_z bm = 0 by rw [hbf]; rfl) c9)
                have hP9 := hP.sub (ws' := [(mo, .inr (8, [.int th, .int fd, .ref rt, .int mn, .ref rk, .ref rv, .ref rw, .ref ro, .int (nI (by_ap 4096 M ((P.take 0 ++ List.replicate (wd - P.length) (ly_y bz)) ++ by_sg P 0 i2)).length), .ref rr, .int (nI P.length), .ref ra, .long pz, .int kc, .ref rc, .ref rl, .ref rb, .int la, .int ca])), (ra, .inl (cB, 16400, .inl fa)), (rr, .inl (cB, 4096, .inl g2))]) [0, 1, 2] rfl
                have hD9 := hD.sub (ws' := [(mo, .inr (8, [.int th, .int fd, .ref rt, .int mn, .ref rk, .ref rv, .ref rw, .ref ro, .int (nI (by_ap 4096 M ((P.take 0 ++ List.replicate (wd - P.length) (ly_y bz)) ++ by_sg P 0 i2)).length), .ref rr, .int (nI P.length), .ref ra, .long pz, .int kc, .ref rc, .ref rl, .ref rb, .int la, .int ca])), (ra, .inl (cB, 16400, .inl fa)), (rr, .inl (cB, 4096, .inl g2))]) [0, 1, 2] (by decide) rfl
                have hK9 := hK.sub (tys' := [(cB, .byte)]) [0] rfl
                rw [(show (by_ap 4096 M ((P.take 0 ++ List.replicate (wd - P.length) (ly_y bz)) ++ by_sg P 0 i2)) = by_ap 4096 M (ly_o P wd bm bz) by rw [hbf]; exact ly_ef hs hje)] at hP9 hD9
                exact zz_vret hx hb hr hlocks d_Mo_lay_175 hS (by first | exact Nat.le_refl _ | decide | omega | (dsimp only; omega)) (by first | exact Nat.le_refl _ | decide | omega | (dsimp only; omega)) g2 (by rw [← (show (by_ap 4096 M ((P.take 0 ++ List.replicate (wd - P.length) (ly_y bz)) ++ by_sg P 0 i2)) = by_ap 4096 M (ly_o P wd bm bz) by rw [hbf]; exact ly_ef hs hje)]; exact hRj) hP9 hK9 hD9
            · skip
              have f_129 : (0 + i2) < P.length := Nat.lt_of_not_le (fun z => c_129 (nI_le (a := P.length) z (by omega)))
              refine lv_aload_n hx hb d_Mo_lay_132 rfl (lv_at hl 0 rfl) ?_
              refine lv_aload_n hx hb d_Mo_lay_133 rfl (lv_at hl 0 rfl) ?_
              refine va_get (D := (dC, dI)) (ci := 8) (v := .ref ra) (C := "TextForgeModel") (T := TX8) (N := 19) hx hb hg iwX8 hown hK hP 0 rfl rfl 11 (by decide) (hg _ kw_737) (fun _ h9 => h9) rfl d_Mo_lay_134 ?_
              refine lv_iload hx hb d_Mo_lay_137 (lv_at hl 5 rfl) ?_
              refine va_bald hx hb hK hP 1 0 rfl rfl (vp_in_nI (by omega) (by decide)) d_Mo_lay_139 ?_
              refine lv_topi (fun y_75 ey_75 => ?_)
              have ey_75 : y_75 = (sb_b (P.getD (0 + i2) 0) : Int32) := ey_75.trans (show (fa (nI (0 + i2)).toNatClampNeg) = sb_b (P.getD (0 + i2) 0) from (by rw [nI_clamp (show 0 + i2 < 2 ^ 31 by omega)]; exact (hLa _ f_129).2))
              subst ey_75
              have hPc := hP.sub (ws' := [(mo, .inr (8, [.int th, .int fd, .ref rt, .int mn, .ref rk, .ref rv, .ref rw, .ref ro, .int (nI (by_ap 4096 M ((P.take 0 ++ List.replicate (wd - P.length) (ly_y bz)) ++ by_sg P 0 i2)).length), .ref rr, .int (nI P.length), .ref ra, .long pz, .int kc, .ref rc, .ref rl, .ref rb, .int la, .int ca])), (rr, .inl (cB, 4096, .inl g2))]) [0, 2] rfl
              have hKc := hK.sub (tys' := [(cB, .byte)]) [0] rfl
              have hDc := hD.sub (ws' := [(mo, .inr (8, [.int th, .int fd, .ref rt, .int mn, .ref rk, .ref rv, .ref rw, .ref ro, .int (nI (by_ap 4096 M ((P.take 0 ++ List.replicate (wd - P.length) (ly_y bz)) ++ by_sg P 0 i2)).length), .ref rr, .int (nI P.length), .ref ra, .long pz, .int kc, .ref rc, .ref rl, .ref rb, .int la, .int ca])), (rr, .inl (cB, 4096, .inl g2))]) [0, 2] (by decide) rfl
              have hFc := va_free (wc := [(mo, .inr (8, [.int th, .int fd, .ref rt, .int mn, .ref rk, .ref rv, .ref rw, .ref ro, .int (nI (by_ap 4096 M ((P.take 0 ++ List.replicate (wd - P.length) (ly_y bz)) ++ by_sg P 0 i2)).length), .ref rr, .int (nI P.length), .ref ra, .long pz, .int kc, .ref rc, .ref rl, .ref rb, .int la, .int ca])), (rr, .inl (cB, 4096, .inl g2))]) hD hS hA [0, 2] rfl
              refine zz_callv (va_runV (As := [.int (sb_b (P.getD (0 + i2) 0))]) (rest := []) ⟨hx, hb, hml, hown, hg⟩ (c_Mo_give l dC dI mo rt rk rv rw ro rr ra rc rl rb th fd mn (nI (by_ap 4096 M ((P.take 0 ++ List.replicate (wd - P.length) (ly_y bz)) ++ by_sg P 0 i2)).length) (nI P.length) pz kc la ca cB g2 (by_ap 4096 M ((P.take 0 ++ List.replicate (wd - P.length) (ly_y bz)) ++ by_sg P 0 i2)) (sb_b (P.getD (0 + i2) 0)) hRj (by_ap_len _ _ _) H.size) (cwV 1 hg (gi_V kw_848 kw_850 sw_13 kw_9 kw_851) rfl rfl rfl (by decide +kernel) ⟨Nat.le_of_ble_eq_true rfl, Nat.le_of_ble_eq_true rfl⟩) (zz_preV hPc hKc hDc _ (q0 := 0) (ci := 8) rfl rfl) rfl rfl hl.1 rfl (lv_room (Nat.le_of_ble_eq_true rfl)) d_Mo_lay_140 ⟨Nat.le_of_ble_eq_true rfl, Nat.le_of_ble_eq_true rfl⟩) hS hFc (fun u H1 k9 p9 d9 => va_join (wr := [(ra, .inl (cB, 16400, .inl fa))]) hP hD [0, 2] [1] rfl rfl (by decide) (by decide) k9 hFc p9 d9) (fun u H locs hw hP hD hK1 hS => ?_)
              obtain ⟨u_76, rfl⟩ : ∃ z, z = u := ⟨_, rfl⟩
              try dsimp only at hw
              have hP : va_P (dC, dI) vwCl [(ra, .inl (cB, 16400, .inl fa)), (mo, .inr (8, [.int th, .int fd, .ref rt, .int mn, .ref rk, .ref rv, .ref rw, .ref ro, .int (nI (by_ap 4096 (by_ap 4096 M ((P.take 0 ++ List.replicate (wd - P.length) (ly_y bz)) ++ by_sg P 0 i2)) [by_b (sb_b (P.getD (0 + i2) 0))]).length), .ref rr, .int (nI P.length), .ref ra, .long pz, .int kc, .ref rc, .ref rl, .ref rb, .int la, .int ca])), (rr, .inl (cB, 4096, .inl u_76))] H := hP
              have hD : va_D A [(ra, .inl (cB, 16400, .inl fa)), (mo, .inr (8, [.int th, .int fd, .ref rt, .int mn, .ref rk, .ref rv, .ref rw, .ref ro, .int (nI (by_ap 4096 (by_ap 4096 M ((P.take 0 ++ List.replicate (wd - P.length) (ly_y bz)) ++ by_sg P 0 i2)) [by_b (sb_b (P.getD (0 + i2) 0))]).length), .ref rr, .int (nI P.length), .ref ra, .long pz, .int kc, .ref rc, .ref rl, .ref rb, .int la, .int ca])), (rr, .inl (cB, 4096, .inl u_76))] := hD
              have hR_78 := hw
              refine lv_iinc (v := (nI (0 + i2)) + 1) (lv' := [(6, .int ((nI (0 + i2)) + 1)), (0, .ref mo), (1, .int (nI wd)), (2, .int (by_z bm)), (3, .int (by_z bz)), (4, .int (nI (wd - P.length)))]) hx hb d_Mo_lay_143 hl (k := 5) rfl rfl (by decide) rfl (fun ls hl => ?_)
              refine lv_goto (tgt := 123) hx hb d_Mo_lay_146 (by decide) ?_
              rw [sg_s f_129 (hLa (0 + i2) f_129).1] at hP hD hR_78
              rw [nI_1, Nat.add_assoc] at hl
              exact ih_123 (i2 + 1, u_76) H locs ls ⟨hP.sub [1, 0, 2] rfl, hD.sub [1, 0, 2] (by decide) rfl, hS, lv_sub hl [1, 2, 3, 4, 5, 0] rfl, hR_78, f_129⟩ (by dsimp only; omega)
          · skip
            have f_87 : i < (wd - P.length) := Nat.lt_of_not_le (fun z => c_87 (nI_le (a := (wd - P.length)) z (by omega)))
            refine lv_aload_n hx hb d_Mo_lay_90 rfl (lv_at hl 0 rfl) ?_
            refine lv_iload_n hx hb d_Mo_lay_91 rfl (lv_at hl 3 rfl) ?_
            refine lv_if_eq (tgt := 100) hx hb d_Mo_lay_92 (by decide) (fun c9 => by first | exact absurd c9 (show ¬ by_z bz = 0 by rw [hz]; decide) | exact absurd (show ¬ by_z bz = 0 by rw [hz]; decide) c9) (fun _ => ?_)
            refine lv_bipush (v := 48) hx hb d_Mo_lay_95 (by decide) ?_
            refine lv_goto (tgt := 102) hx hb d_Mo_lay_97 (by decide) ?_
            have hPc := hP.sub (ws' := [(mo, .inr (8, [.int th, .int fd, .ref rt, .int mn, .ref rk, .ref rv, .ref rw, .ref ro, .int (nI (by_ap 4096 M (P.take 0 ++ List.replicate i (ly_y bz))).length), .ref rr, .int (nI P.length), .ref ra, .long pz, .int kc, .ref rc, .ref rl, .ref rb, .int la, .int ca])), (rr, .inl (cB, 4096, .inl g))]) [0, 2] rfl
            have hKc := hK.sub (tys' := [(cB, .byte)]) [0] rfl
            have hDc := hD.sub (ws' := [(mo, .inr (8, [.int th, .int fd, .ref rt, .int mn, .ref rk, .ref rv, .ref rw, .ref ro, .int (nI (by_ap 4096 M (P.take 0 ++ List.replicate i (ly_y bz))).length), .ref rr, .int (nI P.length), .ref ra, .long pz, .int kc, .ref rc, .ref rl, .ref rb, .int la, .int ca])), (rr, .inl (cB, 4096, .inl g))]) [0, 2] (by decide) rfl
            have hFc := va_free (wc := [(mo, .inr (8, [.int th, .int fd, .ref rt, .int mn, .ref rk, .ref rv, .ref rw, .ref ro, .int (nI (by_ap 4096 M (P.take 0 ++ List.replicate i (ly_y bz))).length), .ref rr, .int (nI P.length), .ref ra, .long pz, .int kc, .ref rc, .ref rl, .ref rb, .int la, .int ca])), (rr, .inl (cB, 4096, .inl g))]) hD hS hA [0, 2] rfl
            refine zz_callv (va_runV (As := [.int 48]) (rest := []) ⟨hx, hb, hml, hown, hg⟩ (c_Mo_give l dC dI mo rt rk rv rw ro rr ra rc rl rb th fd mn (nI (by_ap 4096 M (P.take 0 ++ List.replicate i (ly_y bz))).length) (nI P.length) pz kc la ca cB g (by_ap 4096 M (P.take 0 ++ List.replicate i (ly_y bz))) 48 hRi (by_ap_len _ _ _) H.size) (cwV 1 hg (gi_V kw_848 kw_850 sw_13 kw_9 kw_851) rfl rfl rfl (by decide +kernel) ⟨Nat.le_of_ble_eq_true rfl, Nat.le_of_ble_eq_true rfl⟩) (zz_preV hPc hKc hDc _ (q0 := 0) (ci := 8) rfl rfl) rfl rfl hl.1 rfl (lv_room (Nat.le_of_ble_eq_true rfl)) d_Mo_lay_102 ⟨Nat.le_of_ble_eq_true rfl, Nat.le_of_ble_eq_true rfl⟩) hS hFc (fun u H1 k9 p9 d9 => va_join (wr := [(ra, .inl (cB, 16400, .inl fa))]) hP hD [0, 2] [1] rfl rfl (by decide) (by decide) k9 hFc p9 d9) (fun u H locs hw hP hD hK1 hS => ?_)
            obtain ⟨u_79, rfl⟩ : ∃ z, z = u := ⟨_, rfl⟩
            try dsimp only at hw
            have hP : va_P (dC, dI) vwCl [(ra, .inl (cB, 16400, .inl fa)), (mo, .inr (8, [.int th, .int fd, .ref rt, .int mn, .ref rk, .ref rv, .ref rw, .ref ro, .int (nI (by_ap 4096 (by_ap 4096 M (P.take 0 ++ List.replicate i (ly_y bz))) [by_b 48]).length), .ref rr, .int (nI P.length), .ref ra, .long pz, .int kc, .ref rc, .ref rl, .ref rb, .int la, .int ca])), (rr, .inl (cB, 4096, .inl u_79))] H := hP
            have hD : va_D A [(ra, .inl (cB, 16400, .inl fa)), (mo, .inr (8, [.int th, .int fd, .ref rt, .int mn, .ref rk, .ref rv, .ref rw, .ref ro, .int (nI (by_ap 4096 (by_ap 4096 M (P.take 0 ++ List.replicate i (ly_y bz))) [by_b 48]).length), .ref rr, .int (nI P.length), .ref ra, .long pz, .int kc, .ref rc, .ref rl, .ref rb, .int la, .int ca])), (rr, .inl (cB, 4096, .inl u_79))] := hD
            have hR_81 := hw
            refine lv_iinc (v := (nI i) + 1) (lv' := [(6, .int ((nI i) + 1)), (0, .ref mo), (1, .int (nI wd)), (2, .int (by_z bm)), (3, .int (by_z bz)), (4, .int (nI (wd - P.length))), (5, .int 0)]) hx hb d_Mo_lay_105 hl (k := 6) rfl rfl (by decide) rfl (fun ls hl => ?_)
            refine lv_goto (tgt := 83) hx hb d_Mo_lay_108 (by decide) ?_
            rw [show ([by_b 48] : List Nat) = [ly_y bz] by rw [hz]; rfl, rp_s] at hP hD hR_81
            rw [nI_1] at hl
            exact ih_83 (i + 1, u_79) H locs ls ⟨hP.sub [1, 0, 2] rfl, hD.sub [1, 0, 2] (by decide) rfl, hS, lv_sub hl [1, 2, 3, 4, 5, 6, 0] rfl, hR_81, f_87⟩ (by dsimp only; omega)
        · skip
          have f_50 : P.getD 0 0 = 43 := sb_e1 (k := 43) hb0 (by decide) c_50
          have hs : ly_s P bz = 1 := if_pos ⟨hz, (Or.inr f_50)⟩
          refine lv_iconst (v := 1) hx hb d_Mo_lay_53 (by decide) ?_
          refine lv_goto (tgt := 58) hx hb d_Mo_lay_54 (by decide) ?_
          refine lv_istore (lv' := [(5, .int 1), (4, .int (nI (wd - P.length))), (0, .ref mo), (1, .int (nI wd)), (2, .int (by_z bm)), (3, .int (by_z bz))]) hx hb d_Mo_lay_58 hl (by decide) rfl (fun ls hl => ?_)
          refine lv_iload_n hx hb d_Mo_lay_60 rfl (lv_at hl 4 rfl) ?_
          refine lv_if_ne (tgt := 111) hx hb d_Mo_lay_61 (by decide) (fun c9 => by first | exact absurd c9 (show by_z bm = 0 by rw [hbf]; rfl) | exact absurd (show by_z bm = 0 by rw [hbf]; rfl) c9) (fun _ => ?_)
          refine lv_iload hx hb d_Mo_lay_64 (lv_at hl 0 rfl) ?_
          refine lv_iconst (v := 1) hx hb d_Mo_lay_66 (by decide) ?_
          refine lv_icmp_ne (tgt := 80) hx hb d_Mo_lay_67 (by decide) (fun c9 => by first | exact absurd c9 (by decide) | exact absurd (by decide) c9) (fun _ => ?_)
          refine lv_aload_n hx hb d_Mo_lay_70 rfl (lv_at hl 2 rfl) ?_
          refine lv_aload_n hx hb d_Mo_lay_71 rfl (lv_at hl 2 rfl) ?_
          refine va_get (D := (dC, dI)) (ci := 8) (v := .ref ra) (C := "TextForgeModel") (T := TX8) (N := 19) hx hb hg iwX8 hown hK hP 0 rfl rfl 11 (by decide) (hg _ kw_737) (fun _ h9 => h9) rfl d_Mo_lay_72 ?_
          refine lv_iconst (v := 0) hx hb d_Mo_lay_75 (by decide) ?_
          refine va_bald hx hb hK hP 1 0 rfl rfl (show vp_in (nI 0) 16400 from vp_in_nI (by decide) (by decide)) d_Mo_lay_76 ?_
          refine lv_topi (fun y_82 ey_82 => ?_)
          have ey_82 : y_82 = (sb_b (P.getD 0 0) : Int32) := ey_82.trans (show (fa (0 : Int32).toNatClampNeg) = sb_b (P.getD 0 0) from (hLa 0 hp0).2)
          subst ey_82
          have hPc := hP.sub (ws' := [(mo, .inr (8, [.int th, .int fd, .ref rt, .int mn, .ref rk, .ref rv, .ref rw, .ref ro, .int (nI M.length), .ref rr, .int (nI P.length), .ref ra, .long pz, .int kc, .ref rc, .ref rl, .ref rb, .int la, .int ca])), (rr, .inl (cB, 4096, .inl fr))]) [0, 2] rfl
          have hKc := hK.sub (tys' := [(cB, .byte)]) [0] rfl
          have hDc := hD.sub (ws' := [(mo, .inr (8, [.int th, .int fd, .ref rt, .int mn, .ref rk, .ref rv, .ref rw, .ref ro, .int (nI M.length), .ref rr, .int (nI P.length), .ref ra, .long pz, .int kc, .ref rc, .ref rl, .ref rb, .int la, .int ca])), (rr, .inl (cB, 4096, .inl fr))]) [0, 2] (by decide) rfl
          have hFc := va_free (wc := [(mo, .inr (8, [.int th, .int fd, .ref rt, .int mn, .ref rk, .ref rv, .ref rw, .ref ro, .int (nI M.length), .ref rr, .int (nI P.length), .ref ra, .long pz, .int kc, .ref rc, .ref rl, .ref rb, .int la, .int ca])), (rr, .inl (cB, 4096, .inl fr))]) hD hS hA [0, 2] rfl
          refine zz_callv (va_runV (As := [.int (sb_b (P.getD 0 0))]) (rest := []) ⟨hx, hb, hml, hown, hg⟩ (c_Mo_give l dC dI mo rt rk rv rw ro rr ra rc rl rb th fd mn (nI M.length) (nI P.length) pz kc la ca cB fr M (sb_b (P.getD 0 0)) hLr hcr s.heap.size) (cwV 1 hg (gi_V kw_848 kw_850 sw_13 kw_9 kw_851) rfl rfl rfl (by decide +kernel) ⟨Nat.le_of_ble_eq_true rfl, Nat.le_of_ble_eq_true rfl⟩) (zz_preV hPc hKc hDc _ (q0 := 0) (ci := 8) rfl rfl) rfl rfl hl.1 rfl (lv_room (Nat.le_of_ble_eq_true rfl)) d_Mo_lay_77 ⟨Nat.le_of_ble_eq_true rfl, Nat.le_of_ble_eq_true rfl⟩) hS hFc (fun u H1 k9 p9 d9 => va_join (wr := [(ra, .inl (cB, 16400, .inl fa))]) hP hD [0, 2] [1] rfl rfl (by decide) (by decide) k9 hFc p9 d9) (fun u H locs hw hP hD hK1 hS => ?_)
          obtain ⟨u_83, rfl⟩ : ∃ z, z = u := ⟨_, rfl⟩
          try dsimp only at hw
          have hP : va_P (dC, dI) vwCl [(ra, .inl (cB, 16400, .inl fa)), (mo, .inr (8, [.int th, .int fd, .ref rt, .int mn, .ref rk, .ref rv, .ref rw, .ref ro, .int (nI (by_ap 4096 M [by_b (sb_b (P.getD 0 0))]).length), .ref rr, .int (nI P.length), .ref ra, .long pz, .int kc, .ref rc, .ref rl, .ref rb, .int la, .int ca])), (rr, .inl (cB, 4096, .inl u_83))] H := hP
          have hD : va_D A [(ra, .inl (cB, 16400, .inl fa)), (mo, .inr (8, [.int th, .int fd, .ref rt, .int mn, .ref rk, .ref rv, .ref rw, .ref ro, .int (nI (by_ap 4096 M [by_b (sb_b (P.getD 0 0))]).length), .ref rr, .int (nI P.length), .ref ra, .long pz, .int kc, .ref rc, .ref rl, .ref rb, .int la, .int ca])), (rr, .inl (cB, 4096, .inl u_83))] := hD
          have hR_85 := hw
          refine lv_iconst (v := 0) hx hb d_Mo_lay_80 (by decide) ?_
          refine lv_istore (lv' := [(6, .int 0), (5, .int 1), (4, .int (nI (wd - P.length))), (0, .ref mo), (1, .int (nI wd)), (2, .int (by_z bm)), (3, .int (by_z bz))]) hx hb d_Mo_lay_81 hl (by decide) rfl (fun ls hl => ?_)
          rw [ly_1 (y := ly_y bz) hp0 hb0] at hP hD hR_85
          refine zz_loop (fun (x : Nat × (Nat → Int32)) H locs ls => match x with | (i, g) => va_P (dC, dI) vwCl [(mo, .inr (8, [.int th, .int fd, .ref rt, .int mn, .ref rk, .ref rv, .ref rw, .ref ro, .int (nI (by_ap 4096 M (P.take 1 ++ List.replicate i (ly_y bz))).length), .ref rr, .int (nI P.length), .ref ra, .long pz, .int kc, .ref rc, .ref rl, .ref rb, .int la, .int ca])), (ra, .inl (cB, 16400, .inl fa)), (rr, .inl (cB, 4096, .inl g))] H ∧ va_D A [(mo, .inr (8, [.int th, .int fd, .ref rt, .int mn, .ref rk, .ref rv, .ref rw, .ref ro, .int (nI (by_ap 4096 M (P.take 1 ++ List.replicate i (ly_y bz))).length), .ref rr, .int (nI P.length), .ref ra, .long pz, .int kc, .ref rc, .ref rl, .ref rb, .int la, .int ca])), (ra, .inl (cB, 16400, .inl fa)), (rr, .inl (cB, 4096, .inl g))] ∧ va_S A s.heap H locs ∧ lv_has ls 7 [(0, .ref mo), (1, .int (nI wd)), (2, .int (by_z bm)), (3, .int (by_z bz)), (4, .int (nI (wd - P.length))), (5, .int 1), (6, .int (nI i))] ∧ by_L (by_ap 4096 M (P.take 1 ++ List.replicate i (ly_y bz))) g ∧ i ≤ wd - P.length) (fun x => match x with | (i, g) => wd - P.length - i) ?_ (0, u_83) ⟨hP.sub [1, 0, 2] rfl, hD.sub [1, 0, 2] (by decide) rfl, hS, lv_sub hl [3, 4, 5, 6, 2, 1, 0] rfl, hR_85, (Nat.zero_le _)⟩
          intro x H locs ls hI ih_83
          obtain ⟨i, g⟩ := x
          try dsimp only at hI
          obtain ⟨hP, hD, hS, hl, hRi, hil⟩ := hI
          refine lv_iload hx hb d_Mo_lay_83 (lv_at hl 6 rfl) ?_
          refine lv_iload hx hb d_Mo_lay_85 (lv_at hl 4 rfl) ?_
          refine lv_icmp_ge (tgt := 111) hx hb d_Mo_lay_87 (by decide) (fun c_87 => ?_) (fun c_87 => ?_)
          · skip
            have f_87 : (wd - P.length) ≤ i := Nat.le_of_not_lt (fun z => nI_ge (b := (wd - P.length)) z (by omega) c_87)
            refine lv_iload_n hx hb d_Mo_lay_111 rfl (lv_at hl 2 rfl) ?_
            refine lv_if_eq (tgt := 119) hx hb d_Mo_lay_112 (by decide) (fun _ => ?_) (fun c9 => by first | exact absurd c9 (show by_z bm = 0 by rw [hbf]; rfl) | exact absurd (show by_z bm = 0 by rw [hbf]; rfl) c9)
            refine lv_iload hx hb d_Mo_lay_119 (lv_at hl 5 rfl) ?_
            refine lv_istore (lv' := [(6, .int 1), (0, .ref mo), (1, .int (nI wd)), (2, .int (by_z bm)), (3, .int (by_z bz)), (4, .int (nI (wd - P.length))), (5, .int 1)]) hx hb d_Mo_lay_121 hl (by decide) rfl (fun ls hl => ?_)
            have hie : i = wd - P.length := by omega
            rw [hie, ly_a (P := P) (a := 1)] at hP hD hRi
            refine zz_loop (fun (x : Nat × (Nat → Int32)) H locs ls => match x with | (i2, g2) => va_P (dC, dI) vwCl [(mo, .inr (8, [.int th, .int fd, .ref rt, .int mn, .ref rk, .ref rv, .ref rw, .ref ro, .int (nI (by_ap 4096 M ((P.take 1 ++ List.replicate (wd - P.length) (ly_y bz)) ++ by_sg P 1 i2)).length), .ref rr, .int (nI P.length), .ref ra, .long pz, .int kc, .ref rc, .ref rl, .ref rb, .int la, .int ca])), (ra, .inl (cB, 16400, .inl fa)), (rr, .inl (cB, 4096, .inl g2))] H ∧ va_D A [(mo, .inr (8, [.int th, .int fd, .ref rt, .int mn, .ref rk, .ref rv, .ref rw, .ref ro, .int (nI (by_ap 4096 M ((P.take 1 ++ List.replicate (wd - P.length) (ly_y bz)) ++ by_sg P 1 i2)).length), .ref rr, .int (nI P.length), .ref ra, .long pz, .int kc, .ref rc, .ref rl, .ref rb, .int la, .int ca])), (ra, .inl (cB, 16400, .inl fa)), (rr, .inl (cB, 4096, .inl g2))] ∧ va_S A s.heap H locs ∧ lv_has ls 7 [(0, .ref mo), (1, .int (nI wd)), (2, .int (by_z bm)), (3, .int (by_z bz)), (4, .int (nI (wd - P.length))), (6, .int (nI (1 + i2)))] ∧ by_L (by_ap 4096 M ((P.take 1 ++ List.replicate (wd - P.length) (ly_y bz)) ++ by_sg P 1 i2)) g2 ∧ 1 + i2 ≤ P.length) (fun x => match x with | (i2, g2) => P.length - i2) ?_ (0, g) ⟨hP.sub [0, 1, 2] rfl, hD.sub [0, 1, 2] (by decide) rfl, hS, lv_sub hl [1, 2, 3, 4, 5, 0] rfl, hRi, (by omega)⟩
            intro x H locs ls hI ih_123
            obtain ⟨i2, g2⟩ := x
            try dsimp only at hI
            obtain ⟨hP, hD, hS, hl, hRj, hjl⟩ := hI
            refine lv_iload hx hb d_Mo_lay_123 (lv_at hl 5 rfl) ?_
            refine lv_aload_n hx hb d_Mo_lay_125 rfl (lv_at hl 0 rfl) ?_
            refine va_get (D := (dC, dI)) (ci := 8) (v := .int (nI P.length)) (C := "TextForgeModel") (T := TX8) (N := 19) hx hb hg iwX8 hown hK hP 0 rfl rfl 10 (by decide) (hg _ kw_736) (fun _ h9 => h9) rfl d_Mo_lay_126 ?_
            refine lv_icmp_ge (tgt := 149) hx hb d_Mo_lay_129 (by decide) (fun c_129 => ?_) (fun c_129 => ?_)
            · skip
              have f_129 : P.length ≤ (1 + i2) := Nat.le_of_not_lt (fun z => nI_ge (b := P.length) z (by omega) c_129)
              have hje : 1 + i2 = P.length := by omega
              refine lv_iconst (v := 0) hx hb d_Mo_lay_149 (by decide) ?_
              refine lv_istore (lv' := [(6, .int 0), (0, .ref mo), (1, .int (nI wd)), (2, .int (by_z bm)), (3, .int (by_z bz)), (4, .int (nI (wd - P.length)))]) hx hb d_Mo_lay_150 hl (by decide) rfl (fun ls hl => ?_)
              refine lv_iload hx hb d_Mo_lay_152 (lv_at hl 0 rfl) ?_
              refine lv_iload hx hb d_Mo_lay_154 (lv_at hl 5 rfl) ?_
              refine lv_icmp_ge (tgt := 175) hx hb d_Mo_lay_156 (by decide) (fun c_156 => ?_) (fun c_156 => ?_)
              · skip
                have hP9 := hP.sub (ws' := [(mo, .inr (8, [.int th, .int fd, .ref rt, .int mn, .ref rk, .ref rv, .ref rw, .ref ro, .int (nI (by_ap 4096 M ((P.take 1 ++ List.replicate (wd - P.length) (ly_y bz)) ++ by_sg P 1 i2)).length), .ref rr, .int (nI P.length), .ref ra, .long pz, .int kc, .ref rc, .ref rl, .ref rb, .int la, .int ca])), (ra, .inl (cB, 16400, .inl fa)), (rr, .inl (cB, 4096, .inl g2))]) [0, 1, 2] rfl
                have hD9 := hD.sub (ws' := [(mo, .inr (8, [.int th, .int fd, .ref rt, .int mn, .ref rk, .ref rv, .ref rw, .ref ro, .int (nI (by_ap 4096 M ((P.take 1 ++ List.replicate (wd - P.length) (ly_y bz)) ++ by_sg P 1 i2)).length), .ref rr, .int (nI P.length), .ref ra, .long pz, .int kc, .ref rc, .ref rl, .ref rb, .int la, .int ca])), (ra, .inl (cB, 16400, .inl fa)), (rr, .inl (cB, 4096, .inl g2))]) [0, 1, 2] (by decide) rfl
                have hK9 := hK.sub (tys' := [(cB, .byte)]) [0] rfl
                rw [(show (by_ap 4096 M ((P.take 1 ++ List.replicate (wd - P.length) (ly_y bz)) ++ by_sg P 1 i2)) = by_ap 4096 M (ly_o P wd bm bz) by rw [hbf]; exact ly_ef hs hje)] at hP9 hD9
                exact zz_vret hx hb hr hlocks d_Mo_lay_175 hS (by first | exact Nat.le_refl _ | decide | omega | (dsimp only; omega)) (by first | exact Nat.le_refl _ | decide | omega | (dsimp only; omega)) g2 (by rw [← (show (by_ap 4096 M ((P.take 1 ++ List.replicate (wd - P.length) (ly_y bz)) ++ by_sg P 1 i2)) = by_ap 4096 M (ly_o P wd bm bz) by rw [hbf]; exact ly_ef hs hje)]; exact hRj) hP9 hK9 hD9
              · skip
                refine lv_iload_n hx hb d_Mo_lay_159 rfl (lv_at hl 3 rfl) ?_
                refine lv_if_eq (tgt := 175) hx hb d_Mo_lay_160 (by decide) (fun _ => ?_) (fun c9 => by first | exact absurd c9 (show by_z bm = 0 by rw [hbf]; rfl) | exact absurd (show by_z bm = 0 by rw [hbf]; rfl) c9)
                have hP9 := hP.sub (ws' := [(mo, .inr (8, [.int th, .int fd, .ref rt, .int mn, .ref rk, .ref rv, .ref rw, .ref ro, .int (nI (by_ap 4096 M ((P.take 1 ++ List.replicate (wd - P.length) (ly_y bz)) ++ by_sg P 1 i2)).length), .ref rr, .int (nI P.length), .ref ra, .long pz, .int kc, .ref rc, .ref rl, .ref rb, .int la, .int ca])), (ra, .inl (cB, 16400, .inl fa)), (rr, .inl (cB, 4096, .inl g2))]) [0, 1, 2] rfl
                have hD9 := hD.sub (ws' := [(mo, .inr (8, [.int th, .int fd, .ref rt, .int mn, .ref rk, .ref rv, .ref rw, .ref ro, .int (nI (by_ap 4096 M ((P.take 1 ++ List.replicate (wd - P.length) (ly_y bz)) ++ by_sg P 1 i2)).length), .ref rr, .int (nI P.length), .ref ra, .long pz, .int kc, .ref rc, .ref rl, .ref rb, .int la, .int ca])), (ra, .inl (cB, 16400, .inl fa)), (rr, .inl (cB, 4096, .inl g2))]) [0, 1, 2] (by decide) rfl
                have hK9 := hK.sub (tys' := [(cB, .byte)]) [0] rfl
                rw [(show (by_ap 4096 M ((P.take 1 ++ List.replicate (wd - P.length) (ly_y bz)) ++ by_sg P 1 i2)) = by_ap 4096 M (ly_o P wd bm bz) by rw [hbf]; exact ly_ef hs hje)] at hP9 hD9
                exact zz_vret hx hb hr hlocks d_Mo_lay_175 hS (by first | exact Nat.le_refl _ | decide | omega | (dsimp only; omega)) (by first | exact Nat.le_refl _ | decide | omega | (dsimp only; omega)) g2 (by rw [← (show (by_ap 4096 M ((P.take 1 ++ List.replicate (wd - P.length) (ly_y bz)) ++ by_sg P 1 i2)) = by_ap 4096 M (ly_o P wd bm bz) by rw [hbf]; exact ly_ef hs hje)]; exact hRj) hP9 hK9 hD9
            · skip
              have f_129 : (1 + i2) < P.length := Nat.lt_of_not_le (fun z => c_129 (nI_le (a := P.length) z (by omega)))
              refine lv_aload_n hx hb d_Mo_lay_132 rfl (lv_at hl 0 rfl) ?_
              refine lv_aload_n hx hb d_Mo_lay_133 rfl (lv_at hl 0 rfl) ?_
              refine va_get (D := (dC, dI)) (ci := 8) (v := .ref ra) (C := "TextForgeModel") (T := TX8) (N := 19) hx hb hg iwX8 hown hK hP 0 rfl rfl 11 (by decide) (hg _ kw_737) (fun _ h9 => h9) rfl d_Mo_lay_134 ?_
              refine lv_iload hx hb d_Mo_lay_137 (lv_at hl 5 rfl) ?_
              refine va_bald hx hb hK hP 1 0 rfl rfl (vp_in_nI (by omega) (by decide)) d_Mo_lay_139 ?_
              refine lv_topi (fun y_86 ey_86 => ?_)
              have ey_86 : y_86 = (sb_b (P.getD (1 + i2) 0) : Int32) := ey_86.trans (show (fa (nI (1 + i2)).toNatClampNeg) = sb_b (P.getD (1 + i2) 0) from (by rw [nI_clamp (show 1 + i2 < 2 ^ 31 by omega)]; exact (hLa _ f_129).2))
              subst ey_86
              have hPc := hP.sub (ws' := [(mo, .inr (8, [.int th, .int fd, .ref rt, .int mn, .ref rk, .ref rv, .ref rw, .ref ro, .int (nI (by_ap 4096 M ((P.take 1 ++ List.replicate (wd - P.length) (ly_y bz)) ++ by_sg P 1 i2)).length), .ref rr, .int (nI P.length), .ref ra, .long pz, .int kc, .ref rc, .ref rl, .ref rb, .int la, .int ca])), (rr, .inl (cB, 4096, .inl g2))]) [0, 2] rfl
              have hKc := hK.sub (tys' := [(cB, .byte)]) [0] rfl
              have hDc := hD.sub (ws' := [(mo, .inr (8, [.int th, .int fd, .ref rt, .int mn, .ref rk, .ref rv, .ref rw, .ref ro, .int (nI (by_ap 4096 M ((P.take 1 ++ List.replicate (wd - P.length) (ly_y bz)) ++ by_sg P 1 i2)).length), .ref rr, .int (nI P.length), .ref ra, .long pz, .int kc, .ref rc, .ref rl, .ref rb, .int la, .int ca])), (rr, .inl (cB, 4096, .inl g2))]) [0, 2] (by decide) rfl
              have hFc := va_free (wc := [(mo, .inr (8, [.int th, .int fd, .ref rt, .int mn, .ref rk, .ref rv, .ref rw, .ref ro, .int (nI (by_ap 4096 M ((P.take 1 ++ List.replicate (wd - P.length) (ly_y bz)) ++ by_sg P 1 i2)).length), .ref rr, .int (nI P.length), .ref ra, .long pz, .int kc, .ref rc, .ref rl, .ref rb, .int la, .int ca])), (rr, .inl (cB, 4096, .inl g2))]) hD hS hA [0, 2] rfl
              refine zz_callv (va_runV (As := [.int (sb_b (P.getD (1 + i2) 0))]) (rest := []) ⟨hx, hb, hml, hown, hg⟩ (c_Mo_give l dC dI mo rt rk rv rw ro rr ra rc rl rb th fd mn (nI (by_ap 4096 M ((P.take 1 ++ List.replicate (wd - P.length) (ly_y bz)) ++ by_sg P 1 i2)).length) (nI P.length) pz kc la ca cB g2 (by_ap 4096 M ((P.take 1 ++ List.replicate (wd - P.length) (ly_y bz)) ++ by_sg P 1 i2)) (sb_b (P.getD (1 + i2) 0)) hRj (by_ap_len _ _ _) H.size) (cwV 1 hg (gi_V kw_848 kw_850 sw_13 kw_9 kw_851) rfl rfl rfl (by decide +kernel) ⟨Nat.le_of_ble_eq_true rfl, Nat.le_of_ble_eq_true rfl⟩) (zz_preV hPc hKc hDc _ (q0 := 0) (ci := 8) rfl rfl) rfl rfl hl.1 rfl (lv_room (Nat.le_of_ble_eq_true rfl)) d_Mo_lay_140 ⟨Nat.le_of_ble_eq_true rfl, Nat.le_of_ble_eq_true rfl⟩) hS hFc (fun u H1 k9 p9 d9 => va_join (wr := [(ra, .inl (cB, 16400, .inl fa))]) hP hD [0, 2] [1] rfl rfl (by decide) (by decide) k9 hFc p9 d9) (fun u H locs hw hP hD hK1 hS => ?_)
              obtain ⟨u_87, rfl⟩ : ∃ z, z = u := ⟨_, rfl⟩
              try dsimp only at hw
              have hP : va_P (dC, dI) vwCl [(ra, .inl (cB, 16400, .inl fa)), (mo, .inr (8, [.int th, .int fd, .ref rt, .int mn, .ref rk, .ref rv, .ref rw, .ref ro, .int (nI (by_ap 4096 (by_ap 4096 M ((P.take 1 ++ List.replicate (wd - P.length) (ly_y bz)) ++ by_sg P 1 i2)) [by_b (sb_b (P.getD (1 + i2) 0))]).length), .ref rr, .int (nI P.length), .ref ra, .long pz, .int kc, .ref rc, .ref rl, .ref rb, .int la, .int ca])), (rr, .inl (cB, 4096, .inl u_87))] H := hP
              have hD : va_D A [(ra, .inl (cB, 16400, .inl fa)), (mo, .inr (8, [.int th, .int fd, .ref rt, .int mn, .ref rk, .ref rv, .ref rw, .ref ro, .int (nI (by_ap 4096 (by_ap 4096 M ((P.take 1 ++ List.replicate (wd - P.length) (ly_y bz)) ++ by_sg P 1 i2)) [by_b (sb_b (P.getD (1 + i2) 0))]).length), .ref rr, .int (nI P.length), .ref ra, .long pz, .int kc, .ref rc, .ref rl, .ref rb, .int la, .int ca])), (rr, .inl (cB, 4096, .inl u_87))] := hD
              have hR_89 := hw
              refine lv_iinc (v := (nI (1 + i2)) + 1) (lv' := [(6, .int ((nI (1 + i2)) + 1)), (0, .ref mo), (1, .int (nI wd)), (2, .int (by_z bm)), (3, .int (by_z bz)), (4, .int (nI (wd - P.length)))]) hx hb d_Mo_lay_143 hl (k := 5) rfl rfl (by decide) rfl (fun ls hl => ?_)
              refine lv_goto (tgt := 123) hx hb d_Mo_lay_146 (by decide) ?_
              rw [sg_s f_129 (hLa (1 + i2) f_129).1] at hP hD hR_89
              rw [nI_1, Nat.add_assoc] at hl
              exact ih_123 (i2 + 1, u_87) H locs ls ⟨hP.sub [1, 0, 2] rfl, hD.sub [1, 0, 2] (by decide) rfl, hS, lv_sub hl [1, 2, 3, 4, 5, 0] rfl, hR_89, f_129⟩ (by dsimp only; omega)
          · skip
            have f_87 : i < (wd - P.length) := Nat.lt_of_not_le (fun z => c_87 (nI_le (a := (wd - P.length)) z (by omega)))
            refine lv_aload_n hx hb d_Mo_lay_90 rfl (lv_at hl 0 rfl) ?_
            refine lv_iload_n hx hb d_Mo_lay_91 rfl (lv_at hl 3 rfl) ?_
            refine lv_if_eq (tgt := 100) hx hb d_Mo_lay_92 (by decide) (fun c9 => by first | exact absurd c9 (show ¬ by_z bz = 0 by rw [hz]; decide) | exact absurd (show ¬ by_z bz = 0 by rw [hz]; decide) c9) (fun _ => ?_)
            refine lv_bipush (v := 48) hx hb d_Mo_lay_95 (by decide) ?_
            refine lv_goto (tgt := 102) hx hb d_Mo_lay_97 (by decide) ?_
            have hPc := hP.sub (ws' := [(mo, .inr (8, [.int th, .int fd, .ref rt, .int mn, .ref rk, .ref rv, .ref rw, .ref ro, .int (nI (by_ap 4096 M (P.take 1 ++ List.replicate i (ly_y bz))).length), .ref rr, .int (nI P.length), .ref ra, .long pz, .int kc, .ref rc, .ref rl, .ref rb, .int la, .int ca])), (rr, .inl (cB, 4096, .inl g))]) [0, 2] rfl
            have hKc := hK.sub (tys' := [(cB, .byte)]) [0] rfl
            have hDc := hD.sub (ws' := [(mo, .inr (8, [.int th, .int fd, .ref rt, .int mn, .ref rk, .ref rv, .ref rw, .ref ro, .int (nI (by_ap 4096 M (P.take 1 ++ List.replicate i (ly_y bz))).length), .ref rr, .int (nI P.length), .ref ra, .long pz, .int kc, .ref rc, .ref rl, .ref rb, .int la, .int ca])), (rr, .inl (cB, 4096, .inl g))]) [0, 2] (by decide) rfl
            have hFc := va_free (wc := [(mo, .inr (8, [.int th, .int fd, .ref rt, .int mn, .ref rk, .ref rv, .ref rw, .ref ro, .int (nI (by_ap 4096 M (P.take 1 ++ List.replicate i (ly_y bz))).length), .ref rr, .int (nI P.length), .ref ra, .long pz, .int kc, .ref rc, .ref rl, .ref rb, .int la, .int ca])), (rr, .inl (cB, 4096, .inl g))]) hD hS hA [0, 2] rfl
            refine zz_callv (va_runV (As := [.int 48]) (rest := []) ⟨hx, hb, hml, hown, hg⟩ (c_Mo_give l dC dI mo rt rk rv rw ro rr ra rc rl rb th fd mn (nI (by_ap 4096 M (P.take 1 ++ List.replicate i (ly_y bz))).length) (nI P.length) pz kc la ca cB g (by_ap 4096 M (P.take 1 ++ List.replicate i (ly_y bz))) 48 hRi (by_ap_len _ _ _) H.size) (cwV 1 hg (gi_V kw_848 kw_850 sw_13 kw_9 kw_851) rfl rfl rfl (by decide +kernel) ⟨Nat.le_of_ble_eq_true rfl, Nat.le_of_ble_eq_true rfl⟩) (zz_preV hPc hKc hDc _ (q0 := 0) (ci := 8) rfl rfl) rfl rfl hl.1 rfl (lv_room (Nat.le_of_ble_eq_true rfl)) d_Mo_lay_102 ⟨Nat.le_of_ble_eq_true rfl, Nat.le_of_ble_eq_true rfl⟩) hS hFc (fun u H1 k9 p9 d9 => va_join (wr := [(ra, .inl (cB, 16400, .inl fa))]) hP hD [0, 2] [1] rfl rfl (by decide) (by decide) k9 hFc p9 d9) (fun u H locs hw hP hD hK1 hS => ?_)
            obtain ⟨u_90, rfl⟩ : ∃ z, z = u := ⟨_, rfl⟩
            try dsimp only at hw
            have hP : va_P (dC, dI) vwCl [(ra, .inl (cB, 16400, .inl fa)), (mo, .inr (8, [.int th, .int fd, .ref rt, .int mn, .ref rk, .ref rv, .ref rw, .ref ro, .int (nI (by_ap 4096 (by_ap 4096 M (P.take 1 ++ List.replicate i (ly_y bz))) [by_b 48]).length), .ref rr, .int (nI P.length), .ref ra, .long pz, .int kc, .ref rc, .ref rl, .ref rb, .int la, .int ca])), (rr, .inl (cB, 4096, .inl u_90))] H := hP
            have hD : va_D A [(ra, .inl (cB, 16400, .inl fa)), (mo, .inr (8, [.int th, .int fd, .ref rt, .int mn, .ref rk, .ref rv, .ref rw, .ref ro, .int (nI (by_ap 4096 (by_ap 4096 M (P.take 1 ++ List.replicate i (ly_y bz))) [by_b 48]).length), .ref rr, .int (nI P.length), .ref ra, .long pz, .int kc, .ref rc, .ref rl, .ref rb, .int la, .int ca])), (rr, .inl (cB, 4096, .inl u_90))] := hD
            have hR_92 := hw
            refine lv_iinc (v := (nI i) + 1) (lv' := [(6, .int ((nI i) + 1)), (0, .ref mo), (1, .int (nI wd)), (2, .int (by_z bm)), (3, .int (by_z bz)), (4, .int (nI (wd - P.length))), (5, .int 1)]) hx hb d_Mo_lay_105 hl (k := 6) rfl rfl (by decide) rfl (fun ls hl => ?_)
            refine lv_goto (tgt := 83) hx hb d_Mo_lay_108 (by decide) ?_
            rw [show ([by_b 48] : List Nat) = [ly_y bz] by rw [hz]; rfl, rp_s] at hP hD hR_92
            rw [nI_1] at hl
            exact ih_83 (i + 1, u_90) H locs ls ⟨hP.sub [1, 0, 2] rfl, hD.sub [1, 0, 2] (by decide) rfl, hS, lv_sub hl [1, 2, 3, 4, 5, 6, 0] rfl, hR_92, f_87⟩ (by dsimp only; omega)
abbrev y_Mo_join : MethodName := ⟨"TextForgeModel", "join", "(Z)I"⟩
abbrev w_Mo_join : List Cond := Cond.code y_Mo_join prog_12_method_37_code 3 (some .int) :: gw
theorem d_Mo_join_0 : decode prog_12_method_37_code 0 = .ok (.aload_n 0, 1) := by decide +kernel
theorem d_Mo_join_1 : decode prog_12_method_37_code 1 = .ok (.iconst 0, 1) := by decide +kernel
theorem d_Mo_join_2 : decode prog_12_method_37_code 2 = .ok (.putfield 43, 3) := by decide +kernel
theorem d_Mo_join_5 : decode prog_12_method_37_code 5 = .ok (.aload_n 0, 1) := by decide +kernel
theorem d_Mo_join_6 : decode prog_12_method_37_code 6 = .ok (.iconst 0, 1) := by decide +kernel
theorem d_Mo_join_7 : decode prog_12_method_37_code 7 = .ok (.putfield 78, 3) := by decide +kernel
theorem d_Mo_join_10 : decode prog_12_method_37_code 10 = .ok (.iconst 0, 1) := by decide +kernel
theorem d_Mo_join_11 : decode prog_12_method_37_code 11 = .ok (.istore_n 2, 1) := by decide +kernel
theorem d_Mo_join_12 : decode prog_12_method_37_code 12 = .ok (.iload_n 2, 1) := by decide +kernel
theorem d_Mo_join_13 : decode prog_12_method_37_code 13 = .ok (.aload_n 0, 1) := by decide +kernel
theorem d_Mo_join_14 : decode prog_12_method_37_code 14 = .ok (.getfield 50, 3) := by decide +kernel
theorem d_Mo_join_17 : decode prog_12_method_37_code 17 = .ok (.if_icmp .ge 37, 3) := by decide +kernel
theorem d_Mo_join_20 : decode prog_12_method_37_code 20 = .ok (.iload_n 2, 1) := by decide +kernel
theorem d_Mo_join_21 : decode prog_12_method_37_code 21 = .ok (.ifCond .le 13, 3) := by decide +kernel
theorem d_Mo_join_24 : decode prog_12_method_37_code 24 = .ok (.iload_n 1, 1) := by decide +kernel
theorem d_Mo_join_25 : decode prog_12_method_37_code 25 = .ok (.ifCond .eq 9, 3) := by decide +kernel
theorem d_Mo_join_28 : decode prog_12_method_37_code 28 = .ok (.aload_n 0, 1) := by decide +kernel
theorem d_Mo_join_29 : decode prog_12_method_37_code 29 = .ok (.bipush 32, 2) := by decide +kernel
theorem d_Mo_join_31 : decode prog_12_method_37_code 31 = .ok (.invokevirtual 188, 3) := by decide +kernel
theorem d_Mo_join_34 : decode prog_12_method_37_code 34 = .ok (.aload_n 0, 1) := by decide +kernel
theorem d_Mo_join_35 : decode prog_12_method_37_code 35 = .ok (.iconst 0, 1) := by decide +kernel
theorem d_Mo_join_36 : decode prog_12_method_37_code 36 = .ok (.putfield 61, 3) := by decide +kernel
theorem d_Mo_join_39 : decode prog_12_method_37_code 39 = .ok (.aload_n 0, 1) := by decide +kernel
theorem d_Mo_join_40 : decode prog_12_method_37_code 40 = .ok (.iload_n 2, 1) := by decide +kernel
theorem d_Mo_join_41 : decode prog_12_method_37_code 41 = .ok (.invokevirtual 185, 3) := by decide +kernel
theorem d_Mo_join_44 : decode prog_12_method_37_code 44 = .ok (.aload_n 0, 1) := by decide +kernel
theorem d_Mo_join_45 : decode prog_12_method_37_code 45 = .ok (.invokevirtual 199, 3) := by decide +kernel
theorem d_Mo_join_48 : decode prog_12_method_37_code 48 = .ok (.iinc 2 1, 3) := by decide +kernel
theorem d_Mo_join_51 : decode prog_12_method_37_code 51 = .ok (.goto (-39), 3) := by decide +kernel
theorem d_Mo_join_54 : decode prog_12_method_37_code 54 = .ok (.aload_n 0, 1) := by decide +kernel
theorem d_Mo_join_55 : decode prog_12_method_37_code 55 = .ok (.iconst 0, 1) := by decide +kernel
theorem d_Mo_join_56 : decode prog_12_method_37_code 56 = .ok (.putfield 50, 3) := by decide +kernel
theorem d_Mo_join_59 : decode prog_12_method_37_code 59 = .ok (.aload_n 0, 1) := by decide +kernel
theorem d_Mo_join_60 : decode prog_12_method_37_code 60 = .ok (.getfield 78, 3) := by decide +kernel
theorem d_Mo_join_63 : decode prog_12_method_37_code 63 = .ok (.ireturn, 1) := by decide +kernel
set_option maxHeartbeats 4000000 in
set_option maxRecDepth 100000 in
theorem c_Mo_join (l : Launch) (dC : Nat → ClassId) (dI : Nat → Nat → Nat) (ad : Nat → Nat) (mo rt rk rv rw ro rr ra rc rl rb : Nat) (th fd mn md pt : Int32) (pz : Int64) (kc la ca : Int32) (cB cI cL : ClassId) (fk : Nat → Int32) (fv : Nat → Int64) (fw fo fa fr : Nat → Int32) (AL : List Ag) (bl : Bool) (hnn : AL.length ≤ 16) (hmA : mo_A AL fk fv fw fo) : yM_i (S := (Nat → Int32) × (Nat → Int32) × Int32) ad l y_Mo_join w_Mo_join { frames := 6, cells := 0, slots := 0, locals := 128 } (dC, dI) vwCl [.ref mo, .int (by_z bl)] [(mo, .inr (8, [.int th, .int fd, .ref rt, .int (nI AL.length), .ref rk, .ref rv, .ref rw, .ref ro, .int md, .ref rr, .int pt, .ref ra, .long pz, .int kc, .ref rc, .ref rl, .ref rb, .int la, .int ca])), (ra, .inl (cB, 16400, .inl fa)), (rk, .inl (cI, 16, .inl fk)), (rv, .inl (cL, 16, .inr (.inl fv))), (rw, .inl (cI, 16, .inl fw)), (ro, .inl (cB, 65536, .inl fo)), (rr, .inl (cB, 4096, .inl fr))] [(cB, .byte), (cI, .int), (cL, .long)] (fun (r : Int32) (u : (Nat → Int32) × (Nat → Int32) × Int32) => match u with | (g1, g2, pt1) => r = nI (List.take 4096 (jn bl AL AL.length)).length ∧ by_L (List.take 4096 (jn bl AL AL.length)) g2) (fun u => match u with | (g1, g2, pt1) => [(mo, .inr (8, [.int 0, .int fd, .ref rt, .int 0, .ref rk, .ref rv, .ref rw, .ref ro, .int (nI (List.take 4096 (jn bl AL AL.length)).length), .ref rr, .int pt1, .ref ra, .long pz, .int kc, .ref rc, .ref rl, .ref rb, .int la, .int ca])), (ra, .inl (cB, 16400, .inl g1)), (rk, .inl (cI, 16, .inl fk)), (rv, .inl (cL, 16, .inr (.inl fv))), (rw, .inl (cI, 16, .inl fw)), (ro, .inl (cB, 65536, .inl fo)), (rr, .inl (cB, 4096, .inl g2))]) (fun u => match u with | (g1, g2, pt1) => [(cB, .byte), (cI, .int), (cL, .long)]) 0 0 := by
  refine zy_enteri (cc := prog_12_method_37_code) (nL := 3) (ret := (some .int)) (by decide) rfl (Nat.le_of_ble_eq_true rfl) ?_
  intro p e s m below meth c A ls C0 hA hS hP hK hD hl hX
  obtain ⟨hx, hb, hml, hown, hg, hr, hlocks, hin⟩ := C0
  have hown : s.vm.findClass "TextForgeModel" = some m.cls := hown
  have hP : va_P (dC, dI) vwCl [(mo, .inr (8, [.int th, .int fd, .ref rt, .int (nI AL.length), .ref rk, .ref rv, .ref rw, .ref ro, .int md, .ref rr, .int pt, .ref ra, .long pz, .int kc, .ref rc, .ref rl, .ref rb, .int la, .int ca])), (ra, .inl (cB, 16400, .inl fa)), (rk, .inl (cI, 16, .inl fk)), (rv, .inl (cL, 16, .inr (.inl fv))), (rw, .inl (cI, 16, .inl fw)), (ro, .inl (cB, 65536, .inl fo)), (rr, .inl (cB, 4096, .inl fr))] s.heap := hP
  have hK : va_K (dC, dI) vwCl [(cB, .byte), (cI, .int), (cL, .long)] s := hK
  have hD : va_D A [(mo, .inr (8, [.int th, .int fd, .ref rt, .int (nI AL.length), .ref rk, .ref rv, .ref rw, .ref ro, .int md, .ref rr, .int pt, .ref ra, .long pz, .int kc, .ref rc, .ref rl, .ref rb, .int la, .int ca])), (ra, .inl (cB, 16400, .inl fa)), (rk, .inl (cI, 16, .inl fk)), (rv, .inl (cL, 16, .inr (.inl fv))), (rw, .inl (cI, 16, .inl fw)), (ro, .inl (cB, 65536, .inl fo)), (rr, .inl (cB, 4096, .inl fr))] := hD
  have hl : lv_has ls 3 [(0, .ref mo), (1, .int (by_z bl))] := hl
  refine lv_aload_n hx hb d_Mo_join_0 rfl (lv_at hl 0 rfl) ?_
  refine lv_iconst (v := 0) hx hb d_Mo_join_1 (by decide) ?_
  refine va_put (D := (dC, dI)) (ci := 8) (v := .int 0) (ty := .int) (C := "TextForgeModel") (T := TX8) (N := 19) hx hb hg iwX8 tyX8 tyX8_ok nmX8 hown hK hP hD hS 0 rfl rfl 0 (by decide) (hg _ kw_726) (fun _ h9 => h9) rfl (by decide +kernel) rfl rfl (Nat.le_of_ble_eq_true rfl) d_Mo_join_2 (fun H locs hP hD hS => ?_)
  have hP : va_P (dC, dI) vwCl [(mo, .inr (8, [.int 0, .int fd, .ref rt, .int (nI AL.length), .ref rk, .ref rv, .ref rw, .ref ro, .int md, .ref rr, .int pt, .ref ra, .long pz, .int kc, .ref rc, .ref rl, .ref rb, .int la, .int ca])), (ra, .inl (cB, 16400, .inl fa)), (rk, .inl (cI, 16, .inl fk)), (rv, .inl (cL, 16, .inr (.inl fv))), (rw, .inl (cI, 16, .inl fw)), (ro, .inl (cB, 65536, .inl fo)), (rr, .inl (cB, 4096, .inl fr))] H := hP
  have hD : va_D A [(mo, .inr (8, [.int 0, .int fd, .ref rt, .int (nI AL.length), .ref rk, .ref rv, .ref rw, .ref ro, .int md, .ref rr, .int pt, .ref ra, .long pz, .int kc, .ref rc, .ref rl, .ref rb, .int la, .int ca])), (ra, .inl (cB, 16400, .inl fa)), (rk, .inl (cI, 16, .inl fk)), (rv, .inl (cL, 16, .inr (.inl fv))), (rw, .inl (cI, 16, .inl fw)), (ro, .inl (cB, 65536, .inl fo)), (rr, .inl (cB, 4096, .inl fr))] := hD
  refine lv_aload_n hx hb d_Mo_join_5 rfl (lv_at hl 0 rfl) ?_
  refine lv_iconst (v := 0) hx hb d_Mo_join_6 (by decide) ?_
  refine va_put (D := (dC, dI)) (ci := 8) (v := .int 0) (ty := .int) (C := "TextForgeModel") (T := TX8) (N := 19) hx hb hg iwX8 tyX8 tyX8_ok nmX8 hown hK hP hD hS 0 rfl rfl 8 (by decide) (hg _ kw_734) (fun _ h9 => h9) rfl (by decide +kernel) rfl rfl (Nat.le_of_ble_eq_true rfl) d_Mo_join_7 (fun H locs hP hD hS => ?_)
  have hP : va_P (dC, dI) vwCl [(mo, .inr (8, [.int 0, .int fd, .ref rt, .int (nI AL.length), .ref rk, .ref rv, .ref rw, .ref ro, .int 0, .ref rr, .int pt, .ref ra, .long pz, .int kc, .ref rc, .ref rl, .ref rb, .int la, .int ca])), (ra, .inl (cB, 16400, .inl fa)), (rk, .inl (cI, 16, .inl fk)), (rv, .inl (cL, 16, .inr (.inl fv))), (rw, .inl (cI, 16, .inl fw)), (ro, .inl (cB, 65536, .inl fo)), (rr, .inl (cB, 4096, .inl fr))] H := hP
  have hD : va_D A [(mo, .inr (8, [.int 0, .int fd, .ref rt, .int (nI AL.length), .ref rk, .ref rv, .ref rw, .ref ro, .int 0, .ref rr, .int pt, .ref ra, .long pz, .int kc, .ref rc, .ref rl, .ref rb, .int la, .int ca])), (ra, .inl (cB, 16400, .inl fa)), (rk, .inl (cI, 16, .inl fk)), (rv, .inl (cL, 16, .inr (.inl fv))), (rw, .inl (cI, 16, .inl fw)), (ro, .inl (cB, 65536, .inl fo)), (rr, .inl (cB, 4096, .inl fr))] := hD
  refine lv_iconst (v := 0) hx hb d_Mo_join_10 (by decide) ?_
  refine lv_istore_n (lv' := [(2, .int 0), (0, .ref mo), (1, .int (by_z bl))]) hx hb d_Mo_join_11 rfl hl (by decide) rfl (fun ls hl => ?_)
  refine zz_loop (fun (x : Nat × (Nat → Int32) × (Nat → Int32) × Int32) H locs ls => match x with | (i, g, g2, pt2) => va_P (dC, dI) vwCl [(mo, .inr (8, [.int 0, .int fd, .ref rt, .int (nI AL.length), .ref rk, .ref rv, .ref rw, .ref ro, .int (nI (List.take 4096 (jn bl AL i)).length), .ref rr, .int pt2, .ref ra, .long pz, .int kc, .ref rc, .ref rl, .ref rb, .int la, .int ca])), (ra, .inl (cB, 16400, .inl g)), (rk, .inl (cI, 16, .inl fk)), (rv, .inl (cL, 16, .inr (.inl fv))), (rw, .inl (cI, 16, .inl fw)), (ro, .inl (cB, 65536, .inl fo)), (rr, .inl (cB, 4096, .inl g2))] H ∧ va_D A [(mo, .inr (8, [.int 0, .int fd, .ref rt, .int (nI AL.length), .ref rk, .ref rv, .ref rw, .ref ro, .int (nI (List.take 4096 (jn bl AL i)).length), .ref rr, .int pt2, .ref ra, .long pz, .int kc, .ref rc, .ref rl, .ref rb, .int la, .int ca])), (ra, .inl (cB, 16400, .inl g)), (rk, .inl (cI, 16, .inl fk)), (rv, .inl (cL, 16, .inr (.inl fv))), (rw, .inl (cI, 16, .inl fw)), (ro, .inl (cB, 65536, .inl fo)), (rr, .inl (cB, 4096, .inl g2))] ∧ va_S A s.heap H locs ∧ lv_has ls 3 [(0, .ref mo), (1, .int (by_z bl)), (2, .int (nI i))] ∧ by_L (List.take 4096 (jn bl AL i)) g2 ∧ i ≤ AL.length) (fun x => match x with | (i, g, g2, pt2) => AL.length - i) ?_ (0, fa, fr, pt) ⟨hP.sub [0, 1, 2, 3, 4, 5, 6] rfl, hD.sub [0, 1, 2, 3, 4, 5, 6] (by decide) rfl, hS, lv_sub hl [1, 2, 0] rfl, (by_nil _), (Nat.zero_le _)⟩
  intro x H locs ls hI ih_12
  obtain ⟨i, g, g2, pt2⟩ := x
  try dsimp only at hI
  obtain ⟨hP, hD, hS, hl, hRi, hil⟩ := hI
  refine lv_iload_n hx hb d_Mo_join_12 rfl (lv_at hl 2 rfl) ?_
  refine lv_aload_n hx hb d_Mo_join_13 rfl (lv_at hl 0 rfl) ?_
  refine va_get (D := (dC, dI)) (ci := 8) (v := .int (nI AL.length)) (C := "TextForgeModel") (T := TX8) (N := 19) hx hb hg iwX8 hown hK hP 0 rfl rfl 3 (by decide) (hg _ kw_729) (fun _ h9 => h9) rfl d_Mo_join_14 ?_
  refine lv_icmp_ge (tgt := 54) hx hb d_Mo_join_17 (by decide) (fun c_17 => ?_) (fun c_17 => ?_)
  · skip
    have f_17 : AL.length ≤ i := Nat.le_of_not_lt (fun z => nI_ge (b := AL.length) z (by omega) c_17)
    have hie : i = AL.length := by omega
    refine lv_aload_n hx hb d_Mo_join_54 rfl (lv_at hl 0 rfl) ?_
    refine lv_iconst (v := 0) hx hb d_Mo_join_55 (by decide) ?_
    refine va_put (D := (dC, dI)) (ci := 8) (v := .int 0) (ty := .int) (C := "TextForgeModel") (T := TX8) (N := 19) hx hb hg iwX8 tyX8 tyX8_ok nmX8 hown hK hP hD hS 0 rfl rfl 3 (by decide) (hg _ kw_729) (fun _ h9 => h9) rfl (by decide +kernel) rfl rfl (Nat.le_of_ble_eq_true rfl) d_Mo_join_56 (fun H locs hP hD hS => ?_)
    have hP : va_P (dC, dI) vwCl [(mo, .inr (8, [.int 0, .int fd, .ref rt, .int 0, .ref rk, .ref rv, .ref rw, .ref ro, .int (nI (List.take 4096 (jn bl AL i)).length), .ref rr, .int pt2, .ref ra, .long pz, .int kc, .ref rc, .ref rl, .ref rb, .int la, .int ca])), (ra, .inl (cB, 16400, .inl g)), (rk, .inl (cI, 16, .inl fk)), (rv, .inl (cL, 16, .inr (.inl fv))), (rw, .inl (cI, 16, .inl fw)), (ro, .inl (cB, 65536, .inl fo)), (rr, .inl (cB, 4096, .inl g2))] H := hP
    have hD : va_D A [(mo, .inr (8, [.int 0, .int fd, .ref rt, .int 0, .ref rk, .ref rv, .ref rw, .ref ro, .int (nI (List.take 4096 (jn bl AL i)).length), .ref rr, .int pt2, .ref ra, .long pz, .int kc, .ref rc, .ref rl, .ref rb, .int la, .int ca])), (ra, .inl (cB, 16400, .inl g)), (rk, .inl (cI, 16, .inl fk)), (rv, .inl (cL, 16, .inr (.inl fv))), (rw, .inl (cI, 16, .inl fw)), (ro, .inl (cB, 65536, .inl fo)), (rr, .inl (cB, 4096, .inl g2))] := hD
    refine lv_aload_n hx hb d_Mo_join_59 rfl (lv_at hl 0 rfl) ?_
    refine va_get (D := (dC, dI)) (ci := 8) (v := .int (nI (List.take 4096 (jn bl AL i)).length)) (C := "TextForgeModel") (T := TX8) (N := 19) hx hb hg iwX8 hown hK hP 0 rfl rfl 8 (by decide) (hg _ kw_734) (fun _ h9 => h9) rfl d_Mo_join_60 ?_
    have hP9 := hP.sub (ws' := [(mo, .inr (8, [.int 0, .int fd, .ref rt, .int 0, .ref rk, .ref rv, .ref rw, .ref ro, .int (nI (List.take 4096 (jn bl AL i)).length), .ref rr, .int pt2, .ref ra, .long pz, .int kc, .ref rc, .ref rl, .ref rb, .int la, .int ca])), (ra, .inl (cB, 16400, .inl g)), (rk, .inl (cI, 16, .inl fk)), (rv, .inl (cL, 16, .inr (.inl fv))), (rw, .inl (cI, 16, .inl fw)), (ro, .inl (cB, 65536, .inl fo)), (rr, .inl (cB, 4096, .inl g2))]) [0, 1, 2, 3, 4, 5, 6] rfl
    have hD9 := hD.sub (ws' := [(mo, .inr (8, [.int 0, .int fd, .ref rt, .int 0, .ref rk, .ref rv, .ref rw, .ref ro, .int (nI (List.take 4096 (jn bl AL i)).length), .ref rr, .int pt2, .ref ra, .long pz, .int kc, .ref rc, .ref rl, .ref rb, .int la, .int ca])), (ra, .inl (cB, 16400, .inl g)), (rk, .inl (cI, 16, .inl fk)), (rv, .inl (cL, 16, .inr (.inl fv))), (rw, .inl (cI, 16, .inl fw)), (ro, .inl (cB, 65536, .inl fo)), (rr, .inl (cB, 4096, .inl g2))]) [0, 1, 2, 3, 4, 5, 6] (by decide) rfl
    have hK9 := hK.sub (tys' := [(cB, .byte), (cI, .int), (cL, .long)]) [0, 1, 2] rfl
    rw [hie] at hP9 hD9
    exact zz_iret hx hb hr hlocks d_Mo_join_63 hS (by first | exact Nat.le_refl _ | decide | omega | (dsimp only; omega)) (by first | exact Nat.le_refl _ | decide | omega | (dsimp only; omega)) (g, g2, pt2) ⟨by rw [hie], by rw [← hie]; exact hRi⟩ hP9 hK9 hD9
  · skip
    have f_17 : i < AL.length := Nat.lt_of_not_le (fun z => c_17 (nI_le (a := AL.length) z (by omega)))
    obtain ⟨⟨ga, gk, gx, gh, gr, gf, gB⟩, hga⟩ : ∃ g0, AL[i]? = some g0 := ⟨_, List.getElem?_eq_getElem f_17⟩
    have hm9 : mo_h gk gx gB i fk fv fw fo ∧ mo_o gk gx := hmA i _ hga
    refine lv_iload_n hx hb d_Mo_join_20 rfl (lv_at hl 2 rfl) ?_
    refine lv_if_le (tgt := 34) hx hb d_Mo_join_21 (by decide) (fun c_21 => ?_) (fun c_21 => ?_)
    · skip
      have f_21 : i ≤ 0 := (nI_leI (b := 0) (by omega) (by omega)).mp c_21
      have hj1 : jn_1 bl i = [] := jn_a (fun z => by have := z.2; omega)
      refine lv_aload_n hx hb d_Mo_join_34 rfl (lv_at hl 0 rfl) ?_
      refine lv_iconst (v := 0) hx hb d_Mo_join_35 (by decide) ?_
      refine va_put (D := (dC, dI)) (ci := 8) (v := .int 0) (ty := .int) (C := "TextForgeModel") (T := TX8) (N := 19) hx hb hg iwX8 tyX8 tyX8_ok nmX8 hown hK hP hD hS 0 rfl rfl 10 (by decide) (hg _ kw_736) (fun _ h9 => h9) rfl (by decide +kernel) rfl rfl (Nat.le_of_ble_eq_true rfl) d_Mo_join_36 (fun H locs hP hD hS => ?_)
      have hP : va_P (dC, dI) vwCl [(mo, .inr (8, [.int 0, .int fd, .ref rt, .int (nI AL.length), .ref rk, .ref rv, .ref rw, .ref ro, .int (nI (List.take 4096 (jn bl AL i)).length), .ref rr, .int 0, .ref ra, .long pz, .int kc, .ref rc, .ref rl, .ref rb, .int la, .int ca])), (ra, .inl (cB, 16400, .inl g)), (rk, .inl (cI, 16, .inl fk)), (rv, .inl (cL, 16, .inr (.inl fv))), (rw, .inl (cI, 16, .inl fw)), (ro, .inl (cB, 65536, .inl fo)), (rr, .inl (cB, 4096, .inl g2))] H := hP
      have hD : va_D A [(mo, .inr (8, [.int 0, .int fd, .ref rt, .int (nI AL.length), .ref rk, .ref rv, .ref rw, .ref ro, .int (nI (List.take 4096 (jn bl AL i)).length), .ref rr, .int 0, .ref ra, .long pz, .int kc, .ref rc, .ref rl, .ref rb, .int la, .int ca])), (ra, .inl (cB, 16400, .inl g)), (rk, .inl (cI, 16, .inl fk)), (rv, .inl (cL, 16, .inr (.inl fv))), (rw, .inl (cI, 16, .inl fw)), (ro, .inl (cB, 65536, .inl fo)), (rr, .inl (cB, 4096, .inl g2))] := hD
      have hP : va_P (dC, dI) vwCl [(mo, .inr (8, [.int 0, .int fd, .ref rt, .int (nI AL.length), .ref rk, .ref rv, .ref rw, .ref ro, .int (nI (List.take 4096 (jn bl AL i)).length), .ref rr, .int (nI ([] : List Nat).length), .ref ra, .long pz, .int kc, .ref rc, .ref rl, .ref rb, .int la, .int ca])), (ra, .inl (cB, 16400, .inl g)), (rk, .inl (cI, 16, .inl fk)), (rv, .inl (cL, 16, .inr (.inl fv))), (rw, .inl (cI, 16, .inl fw)), (ro, .inl (cB, 65536, .inl fo)), (rr, .inl (cB, 4096, .inl g2))] H := hP
      have hD : va_D A [(mo, .inr (8, [.int 0, .int fd, .ref rt, .int (nI AL.length), .ref rk, .ref rv, .ref rw, .ref ro, .int (nI (List.take 4096 (jn bl AL i)).length), .ref rr, .int (nI ([] : List Nat).length), .ref ra, .long pz, .int kc, .ref rc, .ref rl, .ref rb, .int la, .int ca])), (ra, .inl (cB, 16400, .inl g)), (rk, .inl (cI, 16, .inl fk)), (rv, .inl (cL, 16, .inr (.inl fv))), (rw, .inl (cI, 16, .inl fw)), (ro, .inl (cB, 65536, .inl fo)), (rr, .inl (cB, 4096, .inl g2))] := hD
      refine lv_aload_n hx hb d_Mo_join_39 rfl (lv_at hl 0 rfl) ?_
      refine lv_iload_n hx hb d_Mo_join_40 rfl (lv_at hl 2 rfl) ?_
      have hPc := hP.sub (ws' := [(mo, .inr (8, [.int 0, .int fd, .ref rt, .int (nI AL.length), .ref rk, .ref rv, .ref rw, .ref ro, .int (nI (List.take 4096 (jn bl AL i)).length), .ref rr, .int (nI ([] : List Nat).length), .ref ra, .long pz, .int kc, .ref rc, .ref rl, .ref rb, .int la, .int ca])), (ra, .inl (cB, 16400, .inl g)), (rk, .inl (cI, 16, .inl fk)), (rv, .inl (cL, 16, .inr (.inl fv))), (rw, .inl (cI, 16, .inl fw)), (ro, .inl (cB, 65536, .inl fo))]) [0, 1, 2, 3, 4, 5] rfl
      have hKc := hK.sub (tys' := [(cB, .byte), (cI, .int), (cL, .long)]) [0, 1, 2] rfl
      have hDc := hD.sub (ws' := [(mo, .inr (8, [.int 0, .int fd, .ref rt, .int (nI AL.length), .ref rk, .ref rv, .ref rw, .ref ro, .int (nI (List.take 4096 (jn bl AL i)).length), .ref rr, .int (nI ([] : List Nat).length), .ref ra, .long pz, .int kc, .ref rc, .ref rl, .ref rb, .int la, .int ca])), (ra, .inl (cB, 16400, .inl g)), (rk, .inl (cI, 16, .inl fk)), (rv, .inl (cL, 16, .inr (.inl fv))), (rw, .inl (cI, 16, .inl fw)), (ro, .inl (cB, 65536, .inl fo))]) [0, 1, 2, 3, 4, 5] (by decide) rfl
      have hFc := va_free (wc := [(mo, .inr (8, [.int 0, .int fd, .ref rt, .int (nI AL.length), .ref rk, .ref rv, .ref rw, .ref ro, .int (nI (List.take 4096 (jn bl AL i)).length), .ref rr, .int (nI ([] : List Nat).length), .ref ra, .long pz, .int kc, .ref rc, .ref rl, .ref rb, .int la, .int ca])), (ra, .inl (cB, 16400, .inl g)), (rk, .inl (cI, 16, .inl fk)), (rv, .inl (cL, 16, .inr (.inl fv))), (rw, .inl (cI, 16, .inl fw)), (ro, .inl (cB, 65536, .inl fo))]) hD hS hA [0, 1, 2, 3, 4, 5] rfl
      refine zz_callv (va_runV (As := [.int (nI i)]) (rest := []) ⟨hx, hb, hml, hown, hg⟩ (c_Mo_plain l dC dI ad mo rt rk rv rw ro rr ra rc rl rb 0 fd (nI AL.length) (nI (List.take 4096 (jn bl AL i)).length) (nI ([] : List Nat).length) pz kc la ca cB g ([] : List Nat) cI cL fk fv fw fo i gk gx gB (by_nil _) (by (try simp only [List.length_append, List.length_cons, List.length_nil]); omega) (by omega) hm9.2 hm9.1 H.size) (cwV 1 hg (gi_V kw_908 kw_910 sw_25 kw_9 kw_911) rfl rfl rfl (by decide +kernel) ⟨Nat.le_of_ble_eq_true rfl, Nat.le_of_ble_eq_true rfl⟩) (zy_preV hX hS hFc hPc hKc hDc _ (q0 := 0) (ci := 8) rfl rfl) rfl rfl hl.1 rfl (lv_room (Nat.le_of_ble_eq_true rfl)) d_Mo_join_41 ⟨Nat.le_of_ble_eq_true rfl, Nat.le_of_ble_eq_true rfl⟩) hS hFc (fun u H1 k9 p9 d9 => va_join (wr := [(rr, .inl (cB, 4096, .inl g2))]) hP hD [0, 1, 2, 3, 4, 5] [6] rfl rfl (by decide) (by decide) k9 hFc p9 d9) (fun u H locs hw hP hD hK1 hS => ?_)
      obtain ⟨u_1, rfl⟩ : ∃ z, z = u := ⟨_, rfl⟩
      try dsimp only at hw
      have hP : va_P (dC, dI) vwCl [(rr, .inl (cB, 4096, .inl g2)), (mo, .inr (8, [.int 0, .int fd, .ref rt, .int (nI AL.length), .ref rk, .ref rv, .ref rw, .ref ro, .int (nI (List.take 4096 (jn bl AL i)).length), .ref rr, .int (nI (([] : List Nat) ++ (mo_p gk gx gB)).length), .ref ra, .long pz, .int kc, .ref rc, .ref rl, .ref rb, .int la, .int ca])), (ra, .inl (cB, 16400, .inl u_1)), (rk, .inl (cI, 16, .inl fk)), (rv, .inl (cL, 16, .inr (.inl fv))), (rw, .inl (cI, 16, .inl fw)), (ro, .inl (cB, 65536, .inl fo))] H := hP
      have hD : va_D A [(rr, .inl (cB, 4096, .inl g2)), (mo, .inr (8, [.int 0, .int fd, .ref rt, .int (nI AL.length), .ref rk, .ref rv, .ref rw, .ref ro, .int (nI (List.take 4096 (jn bl AL i)).length), .ref rr, .int (nI (([] : List Nat) ++ (mo_p gk gx gB)).length), .ref ra, .long pz, .int kc, .ref rc, .ref rl, .ref rb, .int la, .int ca])), (ra, .inl (cB, 16400, .inl u_1)), (rk, .inl (cI, 16, .inl fk)), (rv, .inl (cL, 16, .inr (.inl fv))), (rw, .inl (cI, 16, .inl fw)), (ro, .inl (cB, 65536, .inl fo))] := hD
      have hL_3 := hw
      refine lv_aload_n hx hb d_Mo_join_44 rfl (lv_at hl 0 rfl) ?_
      have hPc := hP.sub (ws' := [(mo, .inr (8, [.int 0, .int fd, .ref rt, .int (nI AL.length), .ref rk, .ref rv, .ref rw, .ref ro, .int (nI (List.take 4096 (jn bl AL i)).length), .ref rr, .int (nI (([] : List Nat) ++ (mo_p gk gx gB)).length), .ref ra, .long pz, .int kc, .ref rc, .ref rl, .ref rb, .int la, .int ca])), (ra, .inl (cB, 16400, .inl u_1)), (rr, .inl (cB, 4096, .inl g2))]) [1, 2, 0] rfl
      have hKc := hK.sub (tys' := [(cB, .byte)]) [0] rfl
      have hDc := hD.sub (ws' := [(mo, .inr (8, [.int 0, .int fd, .ref rt, .int (nI AL.length), .ref rk, .ref rv, .ref rw, .ref ro, .int (nI (List.take 4096 (jn bl AL i)).length), .ref rr, .int (nI (([] : List Nat) ++ (mo_p gk gx gB)).length), .ref ra, .long pz, .int kc, .ref rc, .ref rl, .ref rb, .int la, .int ca])), (ra, .inl (cB, 16400, .inl u_1)), (rr, .inl (cB, 4096, .inl g2))]) [1, 2, 0] (by decide) rfl
      have hFc := va_free (wc := [(mo, .inr (8, [.int 0, .int fd, .ref rt, .int (nI AL.length), .ref rk, .ref rv, .ref rw, .ref ro, .int (nI (List.take 4096 (jn bl AL i)).length), .ref rr, .int (nI (([] : List Nat) ++ (mo_p gk gx gB)).length), .ref ra, .long pz, .int kc, .ref rc, .ref rl, .ref rb, .int la, .int ca])), (ra, .inl (cB, 16400, .inl u_1)), (rr, .inl (cB, 4096, .inl g2))]) hD hS hA [1, 2, 0] rfl
      refine zz_callv (va_runV (As := []) (rest := []) ⟨hx, hb, hml, hown, hg⟩ (c_Mo_giveParts l dC dI mo rt rk rv rw ro rr ra rc rl rb 0 fd (nI AL.length) (nI (List.take 4096 (jn bl AL i)).length) (nI (([] : List Nat) ++ (mo_p gk gx gB)).length) pz kc la ca cB u_1 (([] : List Nat) ++ (mo_p gk gx gB)) g2 (List.take 4096 (jn bl AL i)) hL_3 (by have := mo_pl hm9.2 hm9.1; rw [List.nil_append]; omega) hRi (List.length_take_le _ _) H.size) (cwV 0 hg (gi_V kw_940 kw_942 sw_28 kw_9 kw_943) rfl rfl rfl (by decide +kernel) ⟨Nat.le_of_ble_eq_true rfl, Nat.le_of_ble_eq_true rfl⟩) (zz_preV hPc hKc hDc _ (q0 := 0) (ci := 8) rfl rfl) rfl rfl hl.1 rfl (lv_room (Nat.le_of_ble_eq_true rfl)) d_Mo_join_45 ⟨Nat.le_of_ble_eq_true rfl, Nat.le_of_ble_eq_true rfl⟩) hS hFc (fun u H1 k9 p9 d9 => va_join (wr := [(rk, .inl (cI, 16, .inl fk)), (rv, .inl (cL, 16, .inr (.inl fv))), (rw, .inl (cI, 16, .inl fw)), (ro, .inl (cB, 65536, .inl fo))]) hP hD [1, 2, 0] [3, 4, 5, 6] rfl rfl (by decide) (by decide) k9 hFc p9 d9) (fun u H locs hw hP hD hK1 hS => ?_)
      obtain ⟨u_4, rfl⟩ : ∃ z, z = u := ⟨_, rfl⟩
      try dsimp only at hw
      have hP : va_P (dC, dI) vwCl [(rk, .inl (cI, 16, .inl fk)), (rv, .inl (cL, 16, .inr (.inl fv))), (rw, .inl (cI, 16, .inl fw)), (ro, .inl (cB, 65536, .inl fo)), (mo, .inr (8, [.int 0, .int fd, .ref rt, .int (nI AL.length), .ref rk, .ref rv, .ref rw, .ref ro, .int (nI (by_ap 4096 (List.take 4096 (jn bl AL i)) (([] : List Nat) ++ (mo_p gk gx gB))).length), .ref rr, .int (nI (([] : List Nat) ++ (mo_p gk gx gB)).length), .ref ra, .long pz, .int kc, .ref rc, .ref rl, .ref rb, .int la, .int ca])), (ra, .inl (cB, 16400, .inl u_1)), (rr, .inl (cB, 4096, .inl u_4))] H := hP
      have hD : va_D A [(rk, .inl (cI, 16, .inl fk)), (rv, .inl (cL, 16, .inr (.inl fv))), (rw, .inl (cI, 16, .inl fw)), (ro, .inl (cB, 65536, .inl fo)), (mo, .inr (8, [.int 0, .int fd, .ref rt, .int (nI AL.length), .ref rk, .ref rv, .ref rw, .ref ro, .int (nI (by_ap 4096 (List.take 4096 (jn bl AL i)) (([] : List Nat) ++ (mo_p gk gx gB))).length), .ref rr, .int (nI (([] : List Nat) ++ (mo_p gk gx gB)).length), .ref ra, .long pz, .int kc, .ref rc, .ref rl, .ref rb, .int la, .int ca])), (ra, .inl (cB, 16400, .inl u_1)), (rr, .inl (cB, 4096, .inl u_4))] := hD
      have hLg := hw
      refine lv_iinc (v := (nI i) + 1) (lv' := [(2, .int ((nI i) + 1)), (0, .ref mo), (1, .int (by_z bl))]) hx hb d_Mo_join_48 hl (k := 2) rfl rfl (by decide) rfl (fun ls hl => ?_)
      refine lv_goto (tgt := 12) hx hb d_Mo_join_51 (by decide) ?_
      rw [show (by_ap 4096 (List.take 4096 (jn bl AL i)) (([] : List Nat) ++ (mo_p gk gx gB))) = (List.take 4096 (jn bl AL (i + 1))) from (by rw [jn_s hga, hj1, tk_ap])] at hP hD hLg
      rw [nI_1] at hl
      exact ih_12 (i + 1, u_1, u_4, (nI (([] : List Nat) ++ (mo_p gk gx gB)).length)) H locs ls ⟨hP.sub [4, 5, 0, 1, 2, 3, 6] rfl, hD.sub [4, 5, 0, 1, 2, 3, 6] (by decide) rfl, hS, lv_sub hl [1, 2, 0] rfl, hLg, f_17⟩ (by dsimp only; omega)
    · skip
      have f_21 : 0 < i := Nat.lt_of_not_le (fun z => c_21 (nI_le (b := 0) z (by omega)))
      refine lv_iload_n hx hb d_Mo_join_24 rfl (lv_at hl 1 rfl) ?_
      refine lv_if_eq (tgt := 34) hx hb d_Mo_join_25 (by decide) (fun c_25 => ?_) (fun c_25 => ?_)
      · skip
        have hj1 : jn_1 bl i = [] := jn_a (fun z => absurd (by_z_f rfl c_25) (by rw [z.1]; decide))
        refine lv_aload_n hx hb d_Mo_join_34 rfl (lv_at hl 0 rfl) ?_
        refine lv_iconst (v := 0) hx hb d_Mo_join_35 (by decide) ?_
        refine va_put (D := (dC, dI)) (ci := 8) (v := .int 0) (ty := .int) (C := "TextForgeModel") (T := TX8) (N := 19) hx hb hg iwX8 tyX8 tyX8_ok nmX8 hown hK hP hD hS 0 rfl rfl 10 (by decide) (hg _ kw_736) (fun _ h9 => h9) rfl (by decide +kernel) rfl rfl (Nat.le_of_ble_eq_true rfl) d_Mo_join_36 (fun H locs hP hD hS => ?_)
        have hP : va_P (dC, dI) vwCl [(mo, .inr (8, [.int 0, .int fd, .ref rt, .int (nI AL.length), .ref rk, .ref rv, .ref rw, .ref ro, .int (nI (List.take 4096 (jn bl AL i)).length), .ref rr, .int 0, .ref ra, .long pz, .int kc, .ref rc, .ref rl, .ref rb, .int la, .int ca])), (ra, .inl (cB, 16400, .inl g)), (rk, .inl (cI, 16, .inl fk)), (rv, .inl (cL, 16, .inr (.inl fv))), (rw, .inl (cI, 16, .inl fw)), (ro, .inl (cB, 65536, .inl fo)), (rr, .inl (cB, 4096, .inl g2))] H := hP
        have hD : va_D A [(mo, .inr (8, [.int 0, .int fd, .ref rt, .int (nI AL.length), .ref rk, .ref rv, .ref rw, .ref ro, .int (nI (List.take 4096 (jn bl AL i)).length), .ref rr, .int 0, .ref ra, .long pz, .int kc, .ref rc, .ref rl, .ref rb, .int la, .int ca])), (ra, .inl (cB, 16400, .inl g)), (rk, .inl (cI, 16, .inl fk)), (rv, .inl (cL, 16, .inr (.inl fv))), (rw, .inl (cI, 16, .inl fw)), (ro, .inl (cB, 65536, .inl fo)), (rr, .inl (cB, 4096, .inl g2))] := hD
        have hP : va_P (dC, dI) vwCl [(mo, .inr (8, [.int 0, .int fd, .ref rt, .int (nI AL.length), .ref rk, .ref rv, .ref rw, .ref ro, .int (nI (List.take 4096 (jn bl AL i)).length), .ref rr, .int (nI ([] : List Nat).length), .ref ra, .long pz, .int kc, .ref rc, .ref rl, .ref rb, .int la, .int ca])), (ra, .inl (cB, 16400, .inl g)), (rk, .inl (cI, 16, .inl fk)), (rv, .inl (cL, 16, .inr (.inl fv))), (rw, .inl (cI, 16, .inl fw)), (ro, .inl (cB, 65536, .inl fo)), (rr, .inl (cB, 4096, .inl g2))] H := hP
        have hD : va_D A [(mo, .inr (8, [.int 0, .int fd, .ref rt, .int (nI AL.length), .ref rk, .ref rv, .ref rw, .ref ro, .int (nI (List.take 4096 (jn bl AL i)).length), .ref rr, .int (nI ([] : List Nat).length), .ref ra, .long pz, .int kc, .ref rc, .ref rl, .ref rb, .int la, .int ca])), (ra, .inl (cB, 16400, .inl g)), (rk, .inl (cI, 16, .inl fk)), (rv, .inl (cL, 16, .inr (.inl fv))), (rw, .inl (cI, 16, .inl fw)), (ro, .inl (cB, 65536, .inl fo)), (rr, .inl (cB, 4096, .inl g2))] := hD
        refine lv_aload_n hx hb d_Mo_join_39 rfl (lv_at hl 0 rfl) ?_
        refine lv_iload_n hx hb d_Mo_join_40 rfl (lv_at hl 2 rfl) ?_
        have hPc := hP.sub (ws' := [(mo, .inr (8, [.int 0, .int fd, .ref rt, .int (nI AL.length), .ref rk, .ref rv, .ref rw, .ref ro, .int (nI (List.take 4096 (jn bl AL i)).length), .ref rr, .int (nI ([] : List Nat).length), .ref ra, .long pz, .int kc, .ref rc, .ref rl, .ref rb, .int la, .int ca])), (ra, .inl (cB, 16400, .inl g)), (rk, .inl (cI, 16, .inl fk)), (rv, .inl (cL, 16, .inr (.inl fv))), (rw, .inl (cI, 16, .inl fw)), (ro, .inl (cB, 65536, .inl fo))]) [0, 1, 2, 3, 4, 5] rfl
        have hKc := hK.sub (tys' := [(cB, .byte), (cI, .int), (cL, .long)]) [0, 1, 2] rfl
        have hDc := hD.sub (ws' := [(mo, .inr (8, [.int 0, .int fd, .ref rt, .int (nI AL.length), .ref rk, .ref rv, .ref rw, .ref ro, .int (nI (List.take 4096 (jn bl AL i)).length), .ref rr, .int (nI ([] : List Nat).length), .ref ra, .long pz, .int kc, .ref rc, .ref rl, .ref rb, .int la, .int ca])), (ra, .inl (cB, 16400, .inl g)), (rk, .inl (cI, 16, .inl fk)), (rv, .inl (cL, 16, .inr (.inl fv))), (rw, .inl (cI, 16, .inl fw)), (ro, .inl (cB, 65536, .inl fo))]) [0, 1, 2, 3, 4, 5] (by decide) rfl
        have hFc := va_free (wc := [(mo, .inr (8, [.int 0, .int fd, .ref rt, .int (nI AL.length), .ref rk, .ref rv, .ref rw, .ref ro, .int (nI (List.take 4096 (jn bl AL i)).length), .ref rr, .int (nI ([] : List Nat).length), .ref ra, .long pz, .int kc, .ref rc, .ref rl, .ref rb, .int la, .int ca])), (ra, .inl (cB, 16400, .inl g)), (rk, .inl (cI, 16, .inl fk)), (rv, .inl (cL, 16, .inr (.inl fv))), (rw, .inl (cI, 16, .inl fw)), (ro, .inl (cB, 65536, .inl fo))]) hD hS hA [0, 1, 2, 3, 4, 5] rfl
        refine zz_callv (va_runV (As := [.int (nI i)]) (rest := []) ⟨hx, hb, hml, hown, hg⟩ (c_Mo_plain l dC dI ad mo rt rk rv rw ro rr ra rc rl rb 0 fd (nI AL.length) (nI (List.take 4096 (jn bl AL i)).length) (nI ([] : List Nat).length) pz kc la ca cB g ([] : List Nat) cI cL fk fv fw fo i gk gx gB (by_nil _) (by (try simp only [List.length_append, List.length_cons, List.length_nil]); omega) (by omega) hm9.2 hm9.1 H.size) (cwV 1 hg (gi_V kw_908 kw_910 sw_25 kw_9 kw_911) rfl rfl rfl (by decide +kernel) ⟨Nat.le_of_ble_eq_true rfl, Nat.le_of_ble_eq_true rfl⟩) (zy_preV hX hS hFc hPc hKc hDc _ (q0 := 0) (ci := 8) rfl rfl) rfl rfl hl.1 rfl (lv_room (Nat.le_of_ble_eq_true rfl)) d_Mo_join_41 ⟨Nat.le_of_ble_eq_true rfl, Nat.le_of_ble_eq_true rfl⟩) hS hFc (fun u H1 k9 p9 d9 => va_join (wr := [(rr, .inl (cB, 4096, .inl g2))]) hP hD [0, 1, 2, 3, 4, 5] [6] rfl rfl (by decide) (by decide) k9 hFc p9 d9) (fun u H locs hw hP hD hK1 hS => ?_)
        obtain ⟨u_6, rfl⟩ : ∃ z, z = u := ⟨_, rfl⟩
        try dsimp only at hw
        have hP : va_P (dC, dI) vwCl [(rr, .inl (cB, 4096, .inl g2)), (mo, .inr (8, [.int 0, .int fd, .ref rt, .int (nI AL.length), .ref rk, .ref rv, .ref rw, .ref ro, .int (nI (List.take 4096 (jn bl AL i)).length), .ref rr, .int (nI (([] : List Nat) ++ (mo_p gk gx gB)).length), .ref ra, .long pz, .int kc, .ref rc, .ref rl, .ref rb, .int la, .int ca])), (ra, .inl (cB, 16400, .inl u_6)), (rk, .inl (cI, 16, .inl fk)), (rv, .inl (cL, 16, .inr (.inl fv))), (rw, .inl (cI, 16, .inl fw)), (ro, .inl (cB, 65536, .inl fo))] H := hP
        have hD : va_D A [(rr, .inl (cB, 4096, .inl g2)), (mo, .inr (8, [.int 0, .int fd, .ref rt, .int (nI AL.length), .ref rk, .ref rv, .ref rw, .ref ro, .int (nI (List.take 4096 (jn bl AL i)).length), .ref rr, .int (nI (([] : List Nat) ++ (mo_p gk gx gB)).length), .ref ra, .long pz, .int kc, .ref rc, .ref rl, .ref rb, .int la, .int ca])), (ra, .inl (cB, 16400, .inl u_6)), (rk, .inl (cI, 16, .inl fk)), (rv, .inl (cL, 16, .inr (.inl fv))), (rw, .inl (cI, 16, .inl fw)), (ro, .inl (cB, 65536, .inl fo))] := hD
        have hL_8 := hw
        refine lv_aload_n hx hb d_Mo_join_44 rfl (lv_at hl 0 rfl) ?_
        have hPc := hP.sub (ws' := [(mo, .inr (8, [.int 0, .int fd, .ref rt, .int (nI AL.length), .ref rk, .ref rv, .ref rw, .ref ro, .int (nI (List.take 4096 (jn bl AL i)).length), .ref rr, .int (nI (([] : List Nat) ++ (mo_p gk gx gB)).length), .ref ra, .long pz, .int kc, .ref rc, .ref rl, .ref rb, .int la, .int ca])), (ra, .inl (cB, 16400, .inl u_6)), (rr, .inl (cB, 4096, .inl g2))]) [1, 2, 0] rfl
        have hKc := hK.sub (tys' := [(cB, .byte)]) [0] rfl
        have hDc := hD.sub (ws' := [(mo, .inr (8, [.int 0, .int fd, .ref rt, .int (nI AL.length), .ref rk, .ref rv, .ref rw, .ref ro, .int (nI (List.take 4096 (jn bl AL i)).length), .ref rr, .int (nI (([] : List Nat) ++ (mo_p gk gx gB)).length), .ref ra, .long pz, .int kc, .ref rc, .ref rl, .ref rb, .int la, .int ca])), (ra, .inl (cB, 16400, .inl u_6)), (rr, .inl (cB, 4096, .inl g2))]) [1, 2, 0] (by decide) rfl
        have hFc := va_free (wc := [(mo, .inr (8, [.int 0, .int fd, .ref rt, .int (nI AL.length), .ref rk, .ref rv, .ref rw, .ref ro, .int (nI (List.take 4096 (jn bl AL i)).length), .ref rr, .int (nI (([] : List Nat) ++ (mo_p gk gx gB)).length), .ref ra, .long pz, .int kc, .ref rc, .ref rl, .ref rb, .int la, .int ca])), (ra, .inl (cB, 16400, .inl u_6)), (rr, .inl (cB, 4096, .inl g2))]) hD hS hA [1, 2, 0] rfl
        refine zz_callv (va_runV (As := []) (rest := []) ⟨hx, hb, hml, hown, hg⟩ (c_Mo_giveParts l dC dI mo rt rk rv rw ro rr ra rc rl rb 0 fd (nI AL.length) (nI (List.take 4096 (jn bl AL i)).length) (nI (([] : List Nat) ++ (mo_p gk gx gB)).length) pz kc la ca cB u_6 (([] : List Nat) ++ (mo_p gk gx gB)) g2 (List.take 4096 (jn bl AL i)) hL_8 (by have := mo_pl hm9.2 hm9.1; rw [List.nil_append]; omega) hRi (List.length_take_le _ _) H.size) (cwV 0 hg (gi_V kw_940 kw_942 sw_28 kw_9 kw_943) rfl rfl rfl (by decide +kernel) ⟨Nat.le_of_ble_eq_true rfl, Nat.le_of_ble_eq_true rfl⟩) (zz_preV hPc hKc hDc _ (q0 := 0) (ci := 8) rfl rfl) rfl rfl hl.1 rfl (lv_room (Nat.le_of_ble_eq_true rfl)) d_Mo_join_45 ⟨Nat.le_of_ble_eq_true rfl, Nat.le_of_ble_eq_true rfl⟩) hS hFc (fun u H1 k9 p9 d9 => va_join (wr := [(rk, .inl (cI, 16, .inl fk)), (rv, .inl (cL, 16, .inr (.inl fv))), (rw, .inl (cI, 16, .inl fw)), (ro, .inl (cB, 65536, .inl fo))]) hP hD [1, 2, 0] [3, 4, 5, 6] rfl rfl (by decide) (by decide) k9 hFc p9 d9) (fun u H locs hw hP hD hK1 hS => ?_)
        obtain ⟨u_9, rfl⟩ : ∃ z, z = u := ⟨_, rfl⟩
        try dsimp only at hw
        have hP : va_P (dC, dI) vwCl [(rk, .inl (cI, 16, .inl fk)), (rv, .inl (cL, 16, .inr (.inl fv))), (rw, .inl (cI, 16, .inl fw)), (ro, .inl (cB, 65536, .inl fo)), (mo, .inr (8, [.int 0, .int fd, .ref rt, .int (nI AL.length), .ref rk, .ref rv, .ref rw, .ref ro, .int (nI (by_ap 4096 (List.take 4096 (jn bl AL i)) (([] : List Nat) ++ (mo_p gk gx gB))).length), .ref rr, .int (nI (([] : List Nat) ++ (mo_p gk gx gB)).length), .ref ra, .long pz, .int kc, .ref rc, .ref rl, .ref rb, .int la, .int ca])), (ra, .inl (cB, 16400, .inl u_6)), (rr, .inl (cB, 4096, .inl u_9))] H := hP
        have hD : va_D A [(rk, .inl (cI, 16, .inl fk)), (rv, .inl (cL, 16, .inr (.inl fv))), (rw, .inl (cI, 16, .inl fw)), (ro, .inl (cB, 65536, .inl fo)), (mo, .inr (8, [.int 0, .int fd, .ref rt, .int (nI AL.length), .ref rk, .ref rv, .ref rw, .ref ro, .int (nI (by_ap 4096 (List.take 4096 (jn bl AL i)) (([] : List Nat) ++ (mo_p gk gx gB))).length), .ref rr, .int (nI (([] : List Nat) ++ (mo_p gk gx gB)).length), .ref ra, .long pz, .int kc, .ref rc, .ref rl, .ref rb, .int la, .int ca])), (ra, .inl (cB, 16400, .inl u_6)), (rr, .inl (cB, 4096, .inl u_9))] := hD
        have hLg := hw
        refine lv_iinc (v := (nI i) + 1) (lv' := [(2, .int ((nI i) + 1)), (0, .ref mo), (1, .int (by_z bl))]) hx hb d_Mo_join_48 hl (k := 2) rfl rfl (by decide) rfl (fun ls hl => ?_)
        refine lv_goto (tgt := 12) hx hb d_Mo_join_51 (by decide) ?_
        rw [show (by_ap 4096 (List.take 4096 (jn bl AL i)) (([] : List Nat) ++ (mo_p gk gx gB))) = (List.take 4096 (jn bl AL (i + 1))) from (by rw [jn_s hga, hj1, tk_ap])] at hP hD hLg
        rw [nI_1] at hl
        exact ih_12 (i + 1, u_6, u_9, (nI (([] : List Nat) ++ (mo_p gk gx gB)).length)) H locs ls ⟨hP.sub [4, 5, 0, 1, 2, 3, 6] rfl, hD.sub [4, 5, 0, 1, 2, 3, 6] (by decide) rfl, hS, lv_sub hl [1, 2, 0] rfl, hLg, f_17⟩ (by dsimp only; omega)
      · skip
        have hj1 : jn_1 bl i = [32] := jn_b ⟨by_z_t rfl c_25, f_21⟩
        refine lv_aload_n hx hb d_Mo_join_28 rfl (lv_at hl 0 rfl) ?_
        refine lv_bipush (v := 32) hx hb d_Mo_join_29 (by decide) ?_
        have hPc := hP.sub (ws' := [(mo, .inr (8, [.int 0, .int fd, .ref rt, .int (nI AL.length), .ref rk, .ref rv, .ref rw, .ref ro, .int (nI (List.take 4096 (jn bl AL i)).length), .ref rr, .int pt2, .ref ra, .long pz, .int kc, .ref rc, .ref rl, .ref rb, .int la, .int ca])), (rr, .inl (cB, 4096, .inl g2))]) [0, 6] rfl
        have hKc := hK.sub (tys' := [(cB, .byte)]) [0] rfl
        have hDc := hD.sub (ws' := [(mo, .inr (8, [.int 0, .int fd, .ref rt, .int (nI AL.length), .ref rk, .ref rv, .ref rw, .ref ro, .int (nI (List.take 4096 (jn bl AL i)).length), .ref rr, .int pt2, .ref ra, .long pz, .int kc, .ref rc, .ref rl, .ref rb, .int la, .int ca])), (rr, .inl (cB, 4096, .inl g2))]) [0, 6] (by decide) rfl
        have hFc := va_free (wc := [(mo, .inr (8, [.int 0, .int fd, .ref rt, .int (nI AL.length), .ref rk, .ref rv, .ref rw, .ref ro, .int (nI (List.take 4096 (jn bl AL i)).length), .ref rr, .int pt2, .ref ra, .long pz, .int kc, .ref rc, .ref rl, .ref rb, .int la, .int ca])), (rr, .inl (cB, 4096, .inl g2))]) hD hS hA [0, 6] rfl
        refine zz_callv (va_runV (As := [.int 32]) (rest := []) ⟨hx, hb, hml, hown, hg⟩ (c_Mo_give l dC dI mo rt rk rv rw ro rr ra rc rl rb 0 fd (nI AL.length) (nI (List.take 4096 (jn bl AL i)).length) pt2 pz kc la ca cB g2 (List.take 4096 (jn bl AL i)) 32 hRi (List.length_take_le _ _) H.size) (cwV 1 hg (gi_V kw_848 kw_850 sw_13 kw_9 kw_851) rfl rfl rfl (by decide +kernel) ⟨Nat.le_of_ble_eq_true rfl, Nat.le_of_ble_eq_true rfl⟩) (zz_preV hPc hKc hDc _ (q0 := 0) (ci := 8) rfl rfl) rfl rfl hl.1 rfl (lv_room (Nat.le_of_ble_eq_true rfl)) d_Mo_join_31 ⟨Nat.le_of_ble_eq_true rfl, Nat.le_of_ble_eq_true rfl⟩) hS hFc (fun u H1 k9 p9 d9 => va_join (wr := [(ra, .inl (cB, 16400, .inl g)), (rk, .inl (cI, 16, .inl fk)), (rv, .inl (cL, 16, .inr (.inl fv))), (rw, .inl (cI, 16, .inl fw)), (ro, .inl (cB, 65536, .inl fo))]) hP hD [0, 6] [1, 2, 3, 4, 5] rfl rfl (by decide) (by decide) k9 hFc p9 d9) (fun u H locs hw hP hD hK1 hS => ?_)
        obtain ⟨u_11, rfl⟩ : ∃ z, z = u := ⟨_, rfl⟩
        try dsimp only at hw
        have hP : va_P (dC, dI) vwCl [(ra, .inl (cB, 16400, .inl g)), (rk, .inl (cI, 16, .inl fk)), (rv, .inl (cL, 16, .inr (.inl fv))), (rw, .inl (cI, 16, .inl fw)), (ro, .inl (cB, 65536, .inl fo)), (mo, .inr (8, [.int 0, .int fd, .ref rt, .int (nI AL.length), .ref rk, .ref rv, .ref rw, .ref ro, .int (nI (by_ap 4096 (List.take 4096 (jn bl AL i)) [by_b 32]).length), .ref rr, .int pt2, .ref ra, .long pz, .int kc, .ref rc, .ref rl, .ref rb, .int la, .int ca])), (rr, .inl (cB, 4096, .inl u_11))] H := hP
        have hD : va_D A [(ra, .inl (cB, 16400, .inl g)), (rk, .inl (cI, 16, .inl fk)), (rv, .inl (cL, 16, .inr (.inl fv))), (rw, .inl (cI, 16, .inl fw)), (ro, .inl (cB, 65536, .inl fo)), (mo, .inr (8, [.int 0, .int fd, .ref rt, .int (nI AL.length), .ref rk, .ref rv, .ref rw, .ref ro, .int (nI (by_ap 4096 (List.take 4096 (jn bl AL i)) [by_b 32]).length), .ref rr, .int pt2, .ref ra, .long pz, .int kc, .ref rc, .ref rl, .ref rb, .int la, .int ca])), (rr, .inl (cB, 4096, .inl u_11))] := hD
        have hR_13 := hw
        refine lv_aload_n hx hb d_Mo_join_34 rfl (lv_at hl 0 rfl) ?_
        refine lv_iconst (v := 0) hx hb d_Mo_join_35 (by decide) ?_
        refine va_put (D := (dC, dI)) (ci := 8) (v := .int 0) (ty := .int) (C := "TextForgeModel") (T := TX8) (N := 19) hx hb hg iwX8 tyX8 tyX8_ok nmX8 hown hK hP hD hS 5 rfl rfl 10 (by decide) (hg _ kw_736) (fun _ h9 => h9) rfl (by decide +kernel) rfl rfl (Nat.le_of_ble_eq_true rfl) d_Mo_join_36 (fun H locs hP hD hS => ?_)
        have hP : va_P (dC, dI) vwCl [(ra, .inl (cB, 16400, .inl g)), (rk, .inl (cI, 16, .inl fk)), (rv, .inl (cL, 16, .inr (.inl fv))), (rw, .inl (cI, 16, .inl fw)), (ro, .inl (cB, 65536, .inl fo)), (mo, .inr (8, [.int 0, .int fd, .ref rt, .int (nI AL.length), .ref rk, .ref rv, .ref rw, .ref ro, .int (nI (by_ap 4096 (List.take 4096 (jn bl AL i)) [by_b 32]).length), .ref rr, .int 0, .ref ra, .long pz, .int kc, .ref rc, .ref rl, .ref rb, .int la, .int ca])), (rr, .inl (cB, 4096, .inl u_11))] H := hP
        have hD : va_D A [(ra, .inl (cB, 16400, .inl g)), (rk, .inl (cI, 16, .inl fk)), (rv, .inl (cL, 16, .inr (.inl fv))), (rw, .inl (cI, 16, .inl fw)), (ro, .inl (cB, 65536, .inl fo)), (mo, .inr (8, [.int 0, .int fd, .ref rt, .int (nI AL.length), .ref rk, .ref rv, .ref rw, .ref ro, .int (nI (by_ap 4096 (List.take 4096 (jn bl AL i)) [by_b 32]).length), .ref rr, .int 0, .ref ra, .long pz, .int kc, .ref rc, .ref rl, .ref rb, .int la, .int ca])), (rr, .inl (cB, 4096, .inl u_11))] := hD
        have hP : va_P (dC, dI) vwCl [(ra, .inl (cB, 16400, .inl g)), (rk, .inl (cI, 16, .inl fk)), (rv, .inl (cL, 16, .inr (.inl fv))), (rw, .inl (cI, 16, .inl fw)), (ro, .inl (cB, 65536, .inl fo)), (mo, .inr (8, [.int 0, .int fd, .ref rt, .int (nI AL.length), .ref rk, .ref rv, .ref rw, .ref ro, .int (nI (by_ap 4096 (List.take 4096 (jn bl AL i)) [by_b 32]).length), .ref rr, .int (nI ([] : List Nat).length), .ref ra, .long pz, .int kc, .ref rc, .ref rl, .ref rb, .int la, .int ca])), (rr, .inl (cB, 4096, .inl u_11))] H := hP
        have hD : va_D A [(ra, .inl (cB, 16400, .inl g)), (rk, .inl (cI, 16, .inl fk)), (rv, .inl (cL, 16, .inr (.inl fv))), (rw, .inl (cI, 16, .inl fw)), (ro, .inl (cB, 65536, .inl fo)), (mo, .inr (8, [.int 0, .int fd, .ref rt, .int (nI AL.length), .ref rk, .ref rv, .ref rw, .ref ro, .int (nI (by_ap 4096 (List.take 4096 (jn bl AL i)) [by_b 32]).length), .ref rr, .int (nI ([] : List Nat).length), .ref ra, .long pz, .int kc, .ref rc, .ref rl, .ref rb, .int la, .int ca])), (rr, .inl (cB, 4096, .inl u_11))] := hD
        refine lv_aload_n hx hb d_Mo_join_39 rfl (lv_at hl 0 rfl) ?_
        refine lv_iload_n hx hb d_Mo_join_40 rfl (lv_at hl 2 rfl) ?_
        have hPc := hP.sub (ws' := [(mo, .inr (8, [.int 0, .int fd, .ref rt, .int (nI AL.length), .ref rk, .ref rv, .ref rw, .ref ro, .int (nI (by_ap 4096 (List.take 4096 (jn bl AL i)) [by_b 32]).length), .ref rr, .int (nI ([] : List Nat).length), .ref ra, .long pz, .int kc, .ref rc, .ref rl, .ref rb, .int la, .int ca])), (ra, .inl (cB, 16400, .inl g)), (rk, .inl (cI, 16, .inl fk)), (rv, .inl (cL, 16, .inr (.inl fv))), (rw, .inl (cI, 16, .inl fw)), (ro, .inl (cB, 65536, .inl fo))]) [5, 0, 1, 2, 3, 4] rfl
        have hKc := hK.sub (tys' := [(cB, .byte), (cI, .int), (cL, .long)]) [0, 1, 2] rfl
        have hDc := hD.sub (ws' := [(mo, .inr (8, [.int 0, .int fd, .ref rt, .int (nI AL.length), .ref rk, .ref rv, .ref rw, .ref ro, .int (nI (by_ap 4096 (List.take 4096 (jn bl AL i)) [by_b 32]).length), .ref rr, .int (nI ([] : List Nat).length), .ref ra, .long pz, .int kc, .ref rc, .ref rl, .ref rb, .int la, .int ca])), (ra, .inl (cB, 16400, .inl g)), (rk, .inl (cI, 16, .inl fk)), (rv, .inl (cL, 16, .inr (.inl fv))), (rw, .inl (cI, 16, .inl fw)), (ro, .inl (cB, 65536, .inl fo))]) [5, 0, 1, 2, 3, 4] (by decide) rfl
        have hFc := va_free (wc := [(mo, .inr (8, [.int 0, .int fd, .ref rt, .int (nI AL.length), .ref rk, .ref rv, .ref rw, .ref ro, .int (nI (by_ap 4096 (List.take 4096 (jn bl AL i)) [by_b 32]).length), .ref rr, .int (nI ([] : List Nat).length), .ref ra, .long pz, .int kc, .ref rc, .ref rl, .ref rb, .int la, .int ca])), (ra, .inl (cB, 16400, .inl g)), (rk, .inl (cI, 16, .inl fk)), (rv, .inl (cL, 16, .inr (.inl fv))), (rw, .inl (cI, 16, .inl fw)), (ro, .inl (cB, 65536, .inl fo))]) hD hS hA [5, 0, 1, 2, 3, 4] rfl
        refine zz_callv (va_runV (As := [.int (nI i)]) (rest := []) ⟨hx, hb, hml, hown, hg⟩ (c_Mo_plain l dC dI ad mo rt rk rv rw ro rr ra rc rl rb 0 fd (nI AL.length) (nI (by_ap 4096 (List.take 4096 (jn bl AL i)) [by_b 32]).length) (nI ([] : List Nat).length) pz kc la ca cB g ([] : List Nat) cI cL fk fv fw fo i gk gx gB (by_nil _) (by (try simp only [List.length_append, List.length_cons, List.length_nil]); omega) (by omega) hm9.2 hm9.1 H.size) (cwV 1 hg (gi_V kw_908 kw_910 sw_25 kw_9 kw_911) rfl rfl rfl (by decide +kernel) ⟨Nat.le_of_ble_eq_true rfl, Nat.le_of_ble_eq_true rfl⟩) (zy_preV hX hS hFc hPc hKc hDc _ (q0 := 0) (ci := 8) rfl rfl) rfl rfl hl.1 rfl (lv_room (Nat.le_of_ble_eq_true rfl)) d_Mo_join_41 ⟨Nat.le_of_ble_eq_true rfl, Nat.le_of_ble_eq_true rfl⟩) hS hFc (fun u H1 k9 p9 d9 => va_join (wr := [(rr, .inl (cB, 4096, .inl u_11))]) hP hD [5, 0, 1, 2, 3, 4] [6] rfl rfl (by decide) (by decide) k9 hFc p9 d9) (fun u H locs hw hP hD hK1 hS => ?_)
        obtain ⟨u_14, rfl⟩ : ∃ z, z = u := ⟨_, rfl⟩
        try dsimp only at hw
        have hP : va_P (dC, dI) vwCl [(rr, .inl (cB, 4096, .inl u_11)), (mo, .inr (8, [.int 0, .int fd, .ref rt, .int (nI AL.length), .ref rk, .ref rv, .ref rw, .ref ro, .int (nI (by_ap 4096 (List.take 4096 (jn bl AL i)) [by_b 32]).length), .ref rr, .int (nI (([] : List Nat) ++ (mo_p gk gx gB)).length), .ref ra, .long pz, .int kc, .ref rc, .ref rl, .ref rb, .int la, .int ca])), (ra, .inl (cB, 16400, .inl u_14)), (rk, .inl (cI, 16, .inl fk)), (rv, .inl (cL, 16, .inr (.inl fv))), (rw, .inl (cI, 16, .inl fw)), (ro, .inl (cB, 65536, .inl fo))] H := hP
        have hD : va_D A [(rr, .inl (cB, 4096, .inl u_11)), (mo, .inr (8, [.int 0, .int fd, .ref rt, .int (nI AL.length), .ref rk, .ref rv, .ref rw, .ref ro, .int (nI (by_ap 4096 (List.take 4096 (jn bl AL i)) [by_b 32]).length), .ref rr, .int (nI (([] : List Nat) ++ (mo_p gk gx gB)).length), .ref ra, .long pz, .int kc, .ref rc, .ref rl, .ref rb, .int la, .int ca])), (ra, .inl (cB, 16400, .inl u_14)), (rk, .inl (cI, 16, .inl fk)), (rv, .inl (cL, 16, .inr (.inl fv))), (rw, .inl (cI, 16, .inl fw)), (ro, .inl (cB, 65536, .inl fo))] := hD
        have hL_16 := hw
        refine lv_aload_n hx hb d_Mo_join_44 rfl (lv_at hl 0 rfl) ?_
        have hPc := hP.sub (ws' := [(mo, .inr (8, [.int 0, .int fd, .ref rt, .int (nI AL.length), .ref rk, .ref rv, .ref rw, .ref ro, .int (nI (by_ap 4096 (List.take 4096 (jn bl AL i)) [by_b 32]).length), .ref rr, .int (nI (([] : List Nat) ++ (mo_p gk gx gB)).length), .ref ra, .long pz, .int kc, .ref rc, .ref rl, .ref rb, .int la, .int ca])), (ra, .inl (cB, 16400, .inl u_14)), (rr, .inl (cB, 4096, .inl u_11))]) [1, 2, 0] rfl
        have hKc := hK.sub (tys' := [(cB, .byte)]) [0] rfl
        have hDc := hD.sub (ws' := [(mo, .inr (8, [.int 0, .int fd, .ref rt, .int (nI AL.length), .ref rk, .ref rv, .ref rw, .ref ro, .int (nI (by_ap 4096 (List.take 4096 (jn bl AL i)) [by_b 32]).length), .ref rr, .int (nI (([] : List Nat) ++ (mo_p gk gx gB)).length), .ref ra, .long pz, .int kc, .ref rc, .ref rl, .ref rb, .int la, .int ca])), (ra, .inl (cB, 16400, .inl u_14)), (rr, .inl (cB, 4096, .inl u_11))]) [1, 2, 0] (by decide) rfl
        have hFc := va_free (wc := [(mo, .inr (8, [.int 0, .int fd, .ref rt, .int (nI AL.length), .ref rk, .ref rv, .ref rw, .ref ro, .int (nI (by_ap 4096 (List.take 4096 (jn bl AL i)) [by_b 32]).length), .ref rr, .int (nI (([] : List Nat) ++ (mo_p gk gx gB)).length), .ref ra, .long pz, .int kc, .ref rc, .ref rl, .ref rb, .int la, .int ca])), (ra, .inl (cB, 16400, .inl u_14)), (rr, .inl (cB, 4096, .inl u_11))]) hD hS hA [1, 2, 0] rfl
        refine zz_callv (va_runV (As := []) (rest := []) ⟨hx, hb, hml, hown, hg⟩ (c_Mo_giveParts l dC dI mo rt rk rv rw ro rr ra rc rl rb 0 fd (nI AL.length) (nI (by_ap 4096 (List.take 4096 (jn bl AL i)) [by_b 32]).length) (nI (([] : List Nat) ++ (mo_p gk gx gB)).length) pz kc la ca cB u_14 (([] : List Nat) ++ (mo_p gk gx gB)) u_11 (by_ap 4096 (List.take 4096 (jn bl AL i)) [by_b 32]) hL_16 (by have := mo_pl hm9.2 hm9.1; rw [List.nil_append]; omega) hR_13 (by_ap_len _ _ _) H.size) (cwV 0 hg (gi_V kw_940 kw_942 sw_28 kw_9 kw_943) rfl rfl rfl (by decide +kernel) ⟨Nat.le_of_ble_eq_true rfl, Nat.le_of_ble_eq_true rfl⟩) (zz_preV hPc hKc hDc _ (q0 := 0) (ci := 8) rfl rfl) rfl rfl hl.1 rfl (lv_room (Nat.le_of_ble_eq_true rfl)) d_Mo_join_45 ⟨Nat.le_of_ble_eq_true rfl, Nat.le_of_ble_eq_true rfl⟩) hS hFc (fun u H1 k9 p9 d9 => va_join (wr := [(rk, .inl (cI, 16, .inl fk)), (rv, .inl (cL, 16, .inr (.inl fv))), (rw, .inl (cI, 16, .inl fw)), (ro, .inl (cB, 65536, .inl fo))]) hP hD [1, 2, 0] [3, 4, 5, 6] rfl rfl (by decide) (by decide) k9 hFc p9 d9) (fun u H locs hw hP hD hK1 hS => ?_)
        obtain ⟨u_17, rfl⟩ : ∃ z, z = u := ⟨_, rfl⟩
        try dsimp only at hw
        have hP : va_P (dC, dI) vwCl [(rk, .inl (cI, 16, .inl fk)), (rv, .inl (cL, 16, .inr (.inl fv))), (rw, .inl (cI, 16, .inl fw)), (ro, .inl (cB, 65536, .inl fo)), (mo, .inr (8, [.int 0, .int fd, .ref rt, .int (nI AL.length), .ref rk, .ref rv, .ref rw, .ref ro, .int (nI (by_ap 4096 (by_ap 4096 (List.take 4096 (jn bl AL i)) [by_b 32]) (([] : List Nat) ++ (mo_p gk gx gB))).length), .ref rr, .int (nI (([] : List Nat) ++ (mo_p gk gx gB)).length), .ref ra, .long pz, .int kc, .ref rc, .ref rl, .ref rb, .int la, .int ca])), (ra, .inl (cB, 16400, .inl u_14)), (rr, .inl (cB, 4096, .inl u_17))] H := hP
        have hD : va_D A [(rk, .inl (cI, 16, .inl fk)), (rv, .inl (cL, 16, .inr (.inl fv))), (rw, .inl (cI, 16, .inl fw)), (ro, .inl (cB, 65536, .inl fo)), (mo, .inr (8, [.int 0, .int fd, .ref rt, .int (nI AL.length), .ref rk, .ref rv, .ref rw, .ref ro, .int (nI (by_ap 4096 (by_ap 4096 (List.take 4096 (jn bl AL i)) [by_b 32]) (([] : List Nat) ++ (mo_p gk gx gB))).length), .ref rr, .int (nI (([] : List Nat) ++ (mo_p gk gx gB)).length), .ref ra, .long pz, .int kc, .ref rc, .ref rl, .ref rb, .int la, .int ca])), (ra, .inl (cB, 16400, .inl u_14)), (rr, .inl (cB, 4096, .inl u_17))] := hD
        have hLg := hw
        refine lv_iinc (v := (nI i) + 1) (lv' := [(2, .int ((nI i) + 1)), (0, .ref mo), (1, .int (by_z bl))]) hx hb d_Mo_join_48 hl (k := 2) rfl rfl (by decide) rfl (fun ls hl => ?_)
        refine lv_goto (tgt := 12) hx hb d_Mo_join_51 (by decide) ?_
        rw [show (by_ap 4096 (by_ap 4096 (List.take 4096 (jn bl AL i)) [by_b 32]) (([] : List Nat) ++ (mo_p gk gx gB))) = (List.take 4096 (jn bl AL (i + 1))) from (by rw [jn_s hga, hj1, tk_ap, tk_ap, List.append_assoc]; rfl)] at hP hD hLg
        rw [nI_1] at hl
        exact ih_12 (i + 1, u_14, u_17, (nI (([] : List Nat) ++ (mo_p gk gx gB)).length)) H locs ls ⟨hP.sub [4, 5, 0, 1, 2, 3, 6] rfl, hD.sub [4, 5, 0, 1, 2, 3, 6] (by decide) rfl, hS, lv_sub hl [1, 2, 0] rfl, hLg, f_17⟩ (by dsimp only; omega)
